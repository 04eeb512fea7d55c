/-! CONTRACTS of methods (printed by wip/gen/emit.py). -/
/- MixStageModel.tellBlock ()V -/
noncomputable def s_225 : vM := ([(3, 12, 285, 0)], (9, 0, 0, 0), 1, 0, [(12, 11), (12, 13), (12, 14), (12, 15), (12, 16), (12, 33), (180, 0), (189, 0), (196, 0), (204, 0), (212, 0), (220, 0), (228, 0), (236, 0), (244, 0), (252, 0), (260, 0), (268, 0)])
def preb_225 (a0 : Int) (h : gH) : Prop := PA h ∧ PQ h ∧ hV h 285 32 = hV h 285 18 ∧ hV h 285 18 ≤ 7 ∧ (hV h 285 13 = 0 → hV h 285 15 = 0 → PB h)
def pre_225 : List Int → gH → Prop := fun xs h => match xs with
  | [a0] => preb_225 a0 h
  | _ => False
def postb_225 (a0 : Int) (h0 h : gH) : Prop := PA h ∧ PQ h ∧ (hV h 285 13 = 0 → hV h 285 15 = 0 → PB h) ∧ hV h0 285 11 ≤ hV h 285 11 ∧ hV h0 285 11 + 1 ≤ hV h 285 11 + hV h 285 13 ∧ hV h0 285 13 ≤ hV h 285 13 ∧ hV h0 285 15 ≤ 6 * hV h 285 15 ∧ hV h0 285 15 ≤ 6
def post_225 : List Int → gH → gH → Prop := fun xs h0 h => match xs with
  | [a0] => postb_225 a0 h0 h
  | _ => True
noncomputable def e_225 : vE := (225, s_225, pre_225, post_225)
noncomputable def L_225 : List vE := [e_217, e_218, e_219, e_220, e_226]
def cs_225 : List vC := [(43, [(0, (3, 12, 285, 0)), (1, (0, 0, 500, 0)), (2, (0, 0, 6, 0))])]
def Ab_225_43 (a0 x0 x1 x2 : Int) (h0 h : gH) : Prop := PA h ∧ PQ h ∧ (hV h 285 13 = 0 → hV h 285 15 = 0 → PB h) ∧ hV h0 285 11 ≤ hV h 285 11 ∧ hV h0 285 11 + 1 ≤ hV h 285 11 + hV h 285 13 ∧ hV h0 285 13 ≤ hV h 285 13 ∧ hV h0 285 15 ≤ 6 * hV h 285 15 ∧ hV h0 285 15 ≤ 6 ∧ hV h 285 13 = 0 ∧ hV h 294 ((hV h 285 32).toNat) ≤ 5
def mub_225_43 (a0 x0 x1 x2 : Int) (h0 h : gH) : Nat := (2147483648 - x2).toNat
def A_225 : Int → List Int → gH → gH → Prop := fun c xs h0 h => match c.toNat with
  | 43 => PA h ∧ PQ h ∧ (hV h 285 13 = 0 → hV h 285 15 = 0 → PB h) ∧ hV h0 285 11 ≤ hV h 285 11 ∧ hV h0 285 11 + 1 ≤ hV h 285 11 + hV h 285 13 ∧ hV h0 285 13 ≤ hV h 285 13 ∧ hV h0 285 15 ≤ 6 * hV h 285 15 ∧ hV h0 285 15 ≤ 6 ∧ hV h 285 13 = 0 ∧ hV h 294 ((hV h 285 32).toNat) ≤ 5
  | _ => True
def mu_225 : Int → List Int → gH → gH → Nat := fun c xs h0 h => match c.toNat with
  | 43 => (match xs with
    | [a0, x0, x1, x2] => mub_225_43 a0 x0 x1 x2 h0 h
    | _ => 0)
  | _ => 0
set_option maxHeartbeats 20000000 in
theorem q_225_0 {n0 n1 n2 n3 n4 n5 n6 n7 n8 : Int} {H0 H1 H2 : gH} (f0 : n0 = 285) (f1 : hWt T0 H0 ∧ preb_225 n0 H0) (f2 : n1 = 294) (f3 : n1 = hV H0 (n0).toNat 20) (f4 : n2 ≤ 7) (f5 : 0 ≤ n2) (f6 : n2 = hV H0 (n0).toNat 32) (f7 : n3 ≤ 6) (f8 : 0 ≤ n3) (f9 : n3 = hV H0 (n1).toNat (n2).toNat) (f10 : n4 = 6) (f11 : n3 ≠ n4) (f12 : (hLe T0 H0 H1 ∧ hFr s_219.2.2.2.2 H0 H1 ∧ ((0 : Int) = 0 → H1.length = H0.length) ∧ hWt T0 H1) ∧ postb_219 n0 H0 H1) (f13 : n5 ≤ 500) (f14 : 0 ≤ n5) (f15 : n5 = hV H1 (n0).toNat 11) (f16 : n6 = 1) (f17 : (hLe T0 H1 H2 ∧ hFr s_220.2.2.2.2 H1 H2 ∧ ((0 : Int) = 0 → H2.length = H1.length) ∧ hWt T0 H2) ∧ postb_220 n0 n6 H1 H2) (f18 : n7 ≤ 2) (f19 : 0 ≤ n7) (f20 : n7 = hV H2 (n0).toNat 13) (f21 : n7 ≤ 0) (f22 : n8 = 0) : Ab_225_43 n0 n0 n5 n8 H0 H2 ∧ ∀ q, none = some q → mub_225_43 n0 n0 n5 n8 H0 H2 < q := by
  unfold preb_225 at f1
  unfold postb_219 at f12
  unfold postb_220 at f17
  unfold Ab_225_43
  have e0 : n2 = hV H0 285 32 := (by rw [f0] at f6; exact f6 : n2 = hV H0 285 32)
  have e1 : n3 = hV H0 294 (n2).toNat := (by rw [f2] at f9; exact f9 : n3 = hV H0 294 (n2).toNat)
  have e2 : n5 = hV H1 285 11 := (by rw [f0] at f15; exact f15 : n5 = hV H1 285 11)
  have e3 : n7 = hV H2 285 13 := (by rw [f0] at f20; exact f20 : n7 = hV H2 285 13)
  have e6 : hV H2 285 15 = hV H0 285 15 := ((f17.1.2.1.1 285 15 kF_220_285_15)).trans (f12.1.2.1.1 285 15 kF_219_285_15)
  have e9 : hV H2 285 32 = hV H0 285 32 := ((f17.1.2.1.1 285 32 kF_220_285_32)).trans (f12.1.2.1.1 285 32 kF_219_285_32)
  have e15 : hV H2 294 = hV H0 294 := (fRow f17.1.2.1 294 kR_220_294).trans (fRow f12.1.2.1 294 kR_219_294)
  have e16 : PA H1 = PA H0 := PA_fr f12.1.2.1 (by decide +kernel)
  have e17 : PA H2 = PA H1 := PA_fr f17.1.2.1 (by decide +kernel)
  have e18 : PA H2 = PA H0 := e17.trans e16
  have e19 : PB H1 = PB H0 := PB_fr f12.1.2.1 (by decide +kernel)
  have e20 : PB H2 = PB H1 := PB_fr f17.1.2.1 (by decide +kernel)
  have e21 : PB H2 = PB H0 := e20.trans e19
  have e22 : PQ H1 = PQ H0 := PQ_fr f12.1.2.1 (by decide +kernel)
  have e23 : PQ H2 = PQ H1 := PQ_fr f17.1.2.1 (by decide +kernel)
  have e24 : PQ H2 = PQ H0 := e23.trans e22
  have e25 : (0 : Int) ≤ hV H0 285 11 ∧ hV H0 285 11 ≤ 500 := f1.1 285 11 _ _ kW_285_11
  have e26 : (0 : Int) ≤ hV H0 285 13 ∧ hV H0 285 13 ≤ 2 := f1.1 285 13 _ _ kW_285_13
  have e27 : (0 : Int) ≤ hV H0 285 15 ∧ hV H0 285 15 ≤ 6 := f1.1 285 15 _ _ kW_285_15
  have e28 : (0 : Int) ≤ hV H0 285 18 ∧ hV H0 285 18 ≤ 8 := f1.1 285 18 _ _ kW_285_18
  have e29 : (0 : Int) ≤ hV H0 285 32 ∧ hV H0 285 32 ≤ 7 := f1.1 285 32 _ _ kW_285_32
  have e30 : (0 : Int) ≤ hV H1 285 11 ∧ hV H1 285 11 ≤ 500 := f12.1.2.2.2 285 11 _ _ kW_285_11
  have e31 : (0 : Int) ≤ hV H1 285 13 ∧ hV H1 285 13 ≤ 2 := f12.1.2.2.2 285 13 _ _ kW_285_13
  have e32 : (0 : Int) ≤ hV H2 285 11 ∧ hV H2 285 11 ≤ 500 := f17.1.2.2.2 285 11 _ _ kW_285_11
  have e33 : (0 : Int) ≤ hV H2 285 13 ∧ hV H2 285 13 ≤ 2 := f17.1.2.2.2 285 13 _ _ kW_285_13
  try simp only [e6, e9, e15, e18, e21, e24]
  have p0 := f1.2.1
  have p1 := f1.2.2.1
  have p2 := f1.2.2.2.1
  have p3 := f1.2.2.2.2.1
  have p4 := f1.2.2.2.2.2
  have r0_0 := f12.2.1
  have r0_1 := f12.2.2.1
  have r0_2 := f12.2.2.2.1
  have r0_3 := f12.2.2.2.2
  have r1_0 := f17.2.1
  have r1_1 := f17.2.2.1
  have r1_2 := f17.2.2.2.1
  have r1_3 := f17.2.2.2.2.1
  have wb0 := (p1 (hV H0 285 32).toNat).1
  have wp0 := (p1 (hV H0 285 33).toNat).2
  clear f3 f6 f9 f15 f20 e6 e9 e15 e16 e17 e18 e19 e20 e21 e22 e23 e24
  clear f1 f12 f17
  subst e0
  subst e1
  subst e2
  subst e3

  refine ⟨⟨?_, ?_, ?_, ?_⟩, fun q hq => ?_⟩
  · exact p0
  · exact p1
  · intro z1 z2
    exact p4 (by omega) (by omega)
  · (try clear p0 p1 p4)
    first
    | omega
    | (refine ⟨?_, ?_, ?_, ?_, ?_, ?_, ?_⟩ <;> first | exact True.intro | omega)
  · exact nomatch hq
def g_225_s_0 : vG := ([(0, [8], [], 0), (35, [7], [], 0), (20, [7, 0], [2], 13), (90, [7], [], 0), (91, [7], [], 2), (1220, [0, 6], [1, 2], 0), (0, [6], [], 1), (20, [5, 0], [1], 11), (90, [5], [], 0), (91, [5], [], 500), (1219, [0], [0, 1], 0), (41, [3, 4], [], 0), (0, [4], [], 6), (22, [3, 1, 2], [0], 0), (90, [3], [], 0), (91, [3], [], 6), (20, [2, 0], [0], 32), (90, [2], [], 0), (91, [2], [], 7), (20, [1, 0], [0], 20), (0, [1], [], 294), (6000, [0], [0], 0), (0, [0], [], 285)], (4000, [0, 5, 8], [2], 43))
theorem c_225_s_0 : vOkm T0 (eP e_225 L_225 A_225 mu_225 none) 1 g_225_s_0 := vOk_inI fun ρ η f0 f1 f2 f3 f4 f5 f6 f7 f8 f9 f10 f11 f12 f13 f14 f15 f16 f17 f18 f19 f20 f21 f22 => q_225_0 (n0 := ρ 0) (n1 := ρ 1) (n2 := ρ 2) (n3 := ρ 3) (n4 := ρ 4) (n5 := ρ 5) (n6 := ρ 6) (n7 := ρ 7) (n8 := ρ 8) (H0 := η 0) (H1 := η 1) (H2 := η 2) f22 f21 f20 f19 f18 f17 f16 f15 f14 f13 f12 f11 f10 f9 f8 f7 f6 f5 f4 f3 f2 f1 f0
set_option maxHeartbeats 20000000 in
theorem q_225_1 {n0 n1 n2 n3 n4 n5 n6 n7 : Int} {H0 H1 H2 : gH} (f0 : n0 = 285) (f1 : hWt T0 H0 ∧ preb_225 n0 H0) (f2 : n1 = 294) (f3 : n1 = hV H0 (n0).toNat 20) (f4 : n2 ≤ 7) (f5 : 0 ≤ n2) (f6 : n2 = hV H0 (n0).toNat 32) (f7 : n3 ≤ 6) (f8 : 0 ≤ n3) (f9 : n3 = hV H0 (n1).toNat (n2).toNat) (f10 : n4 = 6) (f11 : n3 ≠ n4) (f12 : (hLe T0 H0 H1 ∧ hFr s_219.2.2.2.2 H0 H1 ∧ ((0 : Int) = 0 → H1.length = H0.length) ∧ hWt T0 H1) ∧ postb_219 n0 H0 H1) (f13 : n5 ≤ 500) (f14 : 0 ≤ n5) (f15 : n5 = hV H1 (n0).toNat 11) (f16 : n6 = 1) (f17 : (hLe T0 H1 H2 ∧ hFr s_220.2.2.2.2 H1 H2 ∧ ((0 : Int) = 0 → H2.length = H1.length) ∧ hWt T0 H2) ∧ postb_220 n0 n6 H1 H2) (f18 : n7 ≤ 2) (f19 : 0 ≤ n7) (f20 : n7 = hV H2 (n0).toNat 13) (f21 : 0 < n7) : postb_225 n0 H0 H2 := by
  unfold preb_225 at f1
  unfold postb_219 at f12
  unfold postb_220 at f17
  unfold postb_225
  have e0 : n2 = hV H0 285 32 := (by rw [f0] at f6; exact f6 : n2 = hV H0 285 32)
  have e1 : n3 = hV H0 294 (n2).toNat := (by rw [f2] at f9; exact f9 : n3 = hV H0 294 (n2).toNat)
  have e2 : n5 = hV H1 285 11 := (by rw [f0] at f15; exact f15 : n5 = hV H1 285 11)
  have e3 : n7 = hV H2 285 13 := (by rw [f0] at f20; exact f20 : n7 = hV H2 285 13)
  have e6 : hV H2 285 15 = hV H0 285 15 := ((f17.1.2.1.1 285 15 kF_220_285_15)).trans (f12.1.2.1.1 285 15 kF_219_285_15)
  have e10 : PA H1 = PA H0 := PA_fr f12.1.2.1 (by decide +kernel)
  have e11 : PA H2 = PA H1 := PA_fr f17.1.2.1 (by decide +kernel)
  have e12 : PA H2 = PA H0 := e11.trans e10
  have e13 : PB H1 = PB H0 := PB_fr f12.1.2.1 (by decide +kernel)
  have e14 : PB H2 = PB H1 := PB_fr f17.1.2.1 (by decide +kernel)
  have e15 : PB H2 = PB H0 := e14.trans e13
  have e16 : PQ H1 = PQ H0 := PQ_fr f12.1.2.1 (by decide +kernel)
  have e17 : PQ H2 = PQ H1 := PQ_fr f17.1.2.1 (by decide +kernel)
  have e18 : PQ H2 = PQ H0 := e17.trans e16
  have e19 : (0 : Int) ≤ hV H0 285 11 ∧ hV H0 285 11 ≤ 500 := f1.1 285 11 _ _ kW_285_11
  have e20 : (0 : Int) ≤ hV H0 285 13 ∧ hV H0 285 13 ≤ 2 := f1.1 285 13 _ _ kW_285_13
  have e21 : (0 : Int) ≤ hV H0 285 15 ∧ hV H0 285 15 ≤ 6 := f1.1 285 15 _ _ kW_285_15
  have e22 : (0 : Int) ≤ hV H0 285 18 ∧ hV H0 285 18 ≤ 8 := f1.1 285 18 _ _ kW_285_18
  have e23 : (0 : Int) ≤ hV H0 285 32 ∧ hV H0 285 32 ≤ 7 := f1.1 285 32 _ _ kW_285_32
  have e24 : (0 : Int) ≤ hV H1 285 11 ∧ hV H1 285 11 ≤ 500 := f12.1.2.2.2 285 11 _ _ kW_285_11
  have e25 : (0 : Int) ≤ hV H1 285 13 ∧ hV H1 285 13 ≤ 2 := f12.1.2.2.2 285 13 _ _ kW_285_13
  have e26 : (0 : Int) ≤ hV H2 285 11 ∧ hV H2 285 11 ≤ 500 := f17.1.2.2.2 285 11 _ _ kW_285_11
  have e27 : (0 : Int) ≤ hV H2 285 13 ∧ hV H2 285 13 ≤ 2 := f17.1.2.2.2 285 13 _ _ kW_285_13
  try simp only [e6, e12, e15, e18]
  have p0 := f1.2.1
  have p1 := f1.2.2.1
  have p2 := f1.2.2.2.1
  have p3 := f1.2.2.2.2.1
  have p4 := f1.2.2.2.2.2
  have r0_0 := f12.2.1
  have r0_1 := f12.2.2.1
  have r0_2 := f12.2.2.2.1
  have r0_3 := f12.2.2.2.2
  have r1_0 := f17.2.1
  have r1_1 := f17.2.2.1
  have r1_2 := f17.2.2.2.1
  have r1_3 := f17.2.2.2.2.1
  have wb0 := (p1 (hV H0 285 32).toNat).1
  have wp0 := (p1 (hV H0 285 33).toNat).2
  clear f3 f6 f9 f15 f20 e6 e10 e11 e12 e13 e14 e15 e16 e17 e18
  clear f1 f12 f17
  subst e0
  subst e1
  subst e2
  subst e3

  refine ⟨?_, ?_, ?_, ?_⟩
  · exact p0
  · exact p1
  · intro z1 z2
    exact p4 (by omega) (by omega)
  · (try clear p0 p1 p4)
    first
    | omega
    | (refine ⟨?_, ?_, ?_, ?_, ?_⟩ <;> first | exact True.intro | omega)
def g_225_s_1 : vG := ([(34, [7], [], 0), (20, [7, 0], [2], 13), (90, [7], [], 0), (91, [7], [], 2), (1220, [0, 6], [1, 2], 0), (0, [6], [], 1), (20, [5, 0], [1], 11), (90, [5], [], 0), (91, [5], [], 500), (1219, [0], [0, 1], 0), (41, [3, 4], [], 0), (0, [4], [], 6), (22, [3, 1, 2], [0], 0), (90, [3], [], 0), (91, [3], [], 6), (20, [2, 0], [0], 32), (90, [2], [], 0), (91, [2], [], 7), (20, [1, 0], [0], 20), (0, [1], [], 294), (6000, [0], [0], 0), (0, [0], [], 285)], (3000, [], [2], 40))
theorem c_225_s_1 : vOkm T0 (eP e_225 L_225 A_225 mu_225 none) 1 g_225_s_1 := vOk_inI fun ρ η f0 f1 f2 f3 f4 f5 f6 f7 f8 f9 f10 f11 f12 f13 f14 f15 f16 f17 f18 f19 f20 f21 => q_225_1 (n0 := ρ 0) (n1 := ρ 1) (n2 := ρ 2) (n3 := ρ 3) (n4 := ρ 4) (n5 := ρ 5) (n6 := ρ 6) (n7 := ρ 7) (H0 := η 0) (H1 := η 1) (H2 := η 2) f21 f20 f19 f18 f17 f16 f15 f14 f13 f12 f11 f10 f9 f8 f7 f6 f5 f4 f3 f2 f1 f0
set_option maxHeartbeats 20000000 in
theorem q_225_2 {n0 n1 n2 n3 n4 n5 n6 n7 n8 n9 : Int} {H0 H1 H2 H3 : gH} (f0 : n0 = 285) (f1 : hWt T0 H0 ∧ preb_225 n0 H0) (f2 : n1 = 294) (f3 : n1 = hV H0 (n0).toNat 20) (f4 : n2 ≤ 7) (f5 : 0 ≤ n2) (f6 : n2 = hV H0 (n0).toNat 32) (f7 : n3 ≤ 6) (f8 : 0 ≤ n3) (f9 : n3 = hV H0 (n1).toNat (n2).toNat) (f10 : n4 = 6) (f11 : n3 = n4) (f12 : n5 = 2) (f13 : (hLe T0 H0 H1 ∧ hFr s_217.2.2.2.2 H0 H1 ∧ ((0 : Int) = 0 → H1.length = H0.length) ∧ hWt T0 H1) ∧ postb_217 n0 n5 H0 H1) (f14 : (hLe T0 H1 H2 ∧ hFr s_219.2.2.2.2 H1 H2 ∧ ((0 : Int) = 0 → H2.length = H1.length) ∧ hWt T0 H2) ∧ postb_219 n0 H1 H2) (f15 : n6 ≤ 500) (f16 : 0 ≤ n6) (f17 : n6 = hV H2 (n0).toNat 11) (f18 : n7 = 1) (f19 : (hLe T0 H2 H3 ∧ hFr s_220.2.2.2.2 H2 H3 ∧ ((0 : Int) = 0 → H3.length = H2.length) ∧ hWt T0 H3) ∧ postb_220 n0 n7 H2 H3) (f20 : n8 ≤ 2) (f21 : 0 ≤ n8) (f22 : n8 = hV H3 (n0).toNat 13) (f23 : n8 ≤ 0) (f24 : n9 = 0) : Ab_225_43 n0 n0 n6 n9 H0 H3 ∧ ∀ q, none = some q → mub_225_43 n0 n0 n6 n9 H0 H3 < q := by
  unfold preb_225 at f1
  unfold postb_217 at f13
  unfold postb_219 at f14
  unfold postb_220 at f19
  unfold Ab_225_43
  have e0 : n2 = hV H0 285 32 := (by rw [f0] at f6; exact f6 : n2 = hV H0 285 32)
  have e1 : n3 = hV H0 294 (n2).toNat := (by rw [f2] at f9; exact f9 : n3 = hV H0 294 (n2).toNat)
  have e2 : n6 = hV H2 285 11 := (by rw [f0] at f17; exact f17 : n6 = hV H2 285 11)
  have e3 : n8 = hV H3 285 13 := (by rw [f0] at f22; exact f22 : n8 = hV H3 285 13)
  have e5 : hV H1 285 11 = hV H0 285 11 := (f13.1.2.1.1 285 11 kF_217_285_11)
  have e9 : hV H3 285 15 = hV H0 285 15 := ((f19.1.2.1.1 285 15 kF_220_285_15)).trans (((f14.1.2.1.1 285 15 kF_219_285_15)).trans (f13.1.2.1.1 285 15 kF_217_285_15))
  have e13 : hV H3 285 32 = hV H0 285 32 := ((f19.1.2.1.1 285 32 kF_220_285_32)).trans (((f14.1.2.1.1 285 32 kF_219_285_32)).trans (f13.1.2.1.1 285 32 kF_217_285_32))
  have e23 : hV H3 294 = hV H0 294 := (fRow f19.1.2.1 294 kR_220_294).trans ((fRow f14.1.2.1 294 kR_219_294).trans (fRow f13.1.2.1 294 kR_217_294))
  have e24 : PA H1 = PA H0 := PA_fr f13.1.2.1 (by decide +kernel)
  have e25 : PA H2 = PA H1 := PA_fr f14.1.2.1 (by decide +kernel)
  have e26 : PA H2 = PA H0 := e25.trans e24
  have e27 : PA H3 = PA H2 := PA_fr f19.1.2.1 (by decide +kernel)
  have e28 : PA H3 = PA H0 := e27.trans e26
  have e29 : PB H1 = PB H0 := PB_fr f13.1.2.1 (by decide +kernel)
  have e30 : PB H2 = PB H1 := PB_fr f14.1.2.1 (by decide +kernel)
  have e31 : PB H2 = PB H0 := e30.trans e29
  have e32 : PB H3 = PB H2 := PB_fr f19.1.2.1 (by decide +kernel)
  have e33 : PB H3 = PB H0 := e32.trans e31
  have e34 : PQ H1 = PQ H0 := PQ_fr f13.1.2.1 (by decide +kernel)
  have e35 : PQ H2 = PQ H1 := PQ_fr f14.1.2.1 (by decide +kernel)
  have e36 : PQ H2 = PQ H0 := e35.trans e34
  have e37 : PQ H3 = PQ H2 := PQ_fr f19.1.2.1 (by decide +kernel)
  have e38 : PQ H3 = PQ H0 := e37.trans e36
  have e39 : (0 : Int) ≤ hV H0 285 11 ∧ hV H0 285 11 ≤ 500 := f1.1 285 11 _ _ kW_285_11
  have e40 : (0 : Int) ≤ hV H0 285 13 ∧ hV H0 285 13 ≤ 2 := f1.1 285 13 _ _ kW_285_13
  have e41 : (0 : Int) ≤ hV H0 285 15 ∧ hV H0 285 15 ≤ 6 := f1.1 285 15 _ _ kW_285_15
  have e42 : (0 : Int) ≤ hV H0 285 18 ∧ hV H0 285 18 ≤ 8 := f1.1 285 18 _ _ kW_285_18
  have e43 : (0 : Int) ≤ hV H0 285 32 ∧ hV H0 285 32 ≤ 7 := f1.1 285 32 _ _ kW_285_32
  have e45 : (0 : Int) ≤ hV H1 285 13 ∧ hV H1 285 13 ≤ 2 := f13.1.2.2.2 285 13 _ _ kW_285_13
  have e46 : (0 : Int) ≤ hV H2 285 11 ∧ hV H2 285 11 ≤ 500 := f14.1.2.2.2 285 11 _ _ kW_285_11
  have e47 : (0 : Int) ≤ hV H2 285 13 ∧ hV H2 285 13 ≤ 2 := f14.1.2.2.2 285 13 _ _ kW_285_13
  have e48 : (0 : Int) ≤ hV H3 285 11 ∧ hV H3 285 11 ≤ 500 := f19.1.2.2.2 285 11 _ _ kW_285_11
  have e49 : (0 : Int) ≤ hV H3 285 13 ∧ hV H3 285 13 ≤ 2 := f19.1.2.2.2 285 13 _ _ kW_285_13
  try simp only [e9, e13, e23, e28, e33, e38]
  have p0 := f1.2.1
  have p1 := f1.2.2.1
  have p2 := f1.2.2.2.1
  have p3 := f1.2.2.2.2.1
  have p4 := f1.2.2.2.2.2
  have r0_0 := f13.2.1
  have r0_1 := f13.2.2
  have r1_0 := f14.2.1
  have r1_1 := f14.2.2.1
  have r1_2 := f14.2.2.2.1
  have r1_3 := f14.2.2.2.2
  have r2_0 := f19.2.1
  have r2_1 := f19.2.2.1
  have r2_2 := f19.2.2.2.1
  have r2_3 := f19.2.2.2.2.1
  try simp only [e5] at r1_0
  try simp only [e5] at r1_1
  try simp only [e5] at r1_3
  have wb0 := (p1 (hV H0 285 32).toNat).1
  have wp0 := (p1 (hV H0 285 33).toNat).2
  clear f3 f6 f9 f17 f22 e5 e9 e13 e23 e24 e25 e26 e27 e28 e29 e30 e31 e32 e33 e34 e35 e36 e37 e38
  clear f1 f13 f14 f19
  subst e0
  subst e1
  subst e2
  subst e3

  refine ⟨⟨?_, ?_, ?_, ?_⟩, fun q hq => ?_⟩
  · exact p0
  · exact p1
  · intro z1 z2
    exact p4 (by omega) (by omega)
  · (try clear p0 p1 p4)
    first
    | omega
    | (refine ⟨?_, ?_, ?_, ?_, ?_, ?_, ?_⟩ <;> first | exact True.intro | omega)
  · exact nomatch hq
def g_225_s_2 : vG := ([(0, [9], [], 0), (35, [8], [], 0), (20, [8, 0], [3], 13), (90, [8], [], 0), (91, [8], [], 2), (1220, [0, 7], [2, 3], 0), (0, [7], [], 1), (20, [6, 0], [2], 11), (90, [6], [], 0), (91, [6], [], 500), (1219, [0], [1, 2], 0), (1217, [0, 5], [0, 1], 0), (0, [5], [], 2), (40, [3, 4], [], 0), (0, [4], [], 6), (22, [3, 1, 2], [0], 0), (90, [3], [], 0), (91, [3], [], 6), (20, [2, 0], [0], 32), (90, [2], [], 0), (91, [2], [], 7), (20, [1, 0], [0], 20), (0, [1], [], 294), (6000, [0], [0], 0), (0, [0], [], 285)], (4000, [0, 6, 9], [3], 43))
theorem c_225_s_2 : vOkm T0 (eP e_225 L_225 A_225 mu_225 none) 1 g_225_s_2 := vOk_inI fun ρ η f0 f1 f2 f3 f4 f5 f6 f7 f8 f9 f10 f11 f12 f13 f14 f15 f16 f17 f18 f19 f20 f21 f22 f23 f24 => q_225_2 (n0 := ρ 0) (n1 := ρ 1) (n2 := ρ 2) (n3 := ρ 3) (n4 := ρ 4) (n5 := ρ 5) (n6 := ρ 6) (n7 := ρ 7) (n8 := ρ 8) (n9 := ρ 9) (H0 := η 0) (H1 := η 1) (H2 := η 2) (H3 := η 3) f24 f23 f22 f21 f20 f19 f18 f17 f16 f15 f14 f13 f12 f11 f10 f9 f8 f7 f6 f5 f4 f3 f2 f1 f0
set_option maxHeartbeats 20000000 in
theorem q_225_3 {n0 n1 n2 n3 n4 n5 n6 n7 n8 : Int} {H0 H1 H2 H3 : gH} (f0 : n0 = 285) (f1 : hWt T0 H0 ∧ preb_225 n0 H0) (f2 : n1 = 294) (f3 : n1 = hV H0 (n0).toNat 20) (f4 : n2 ≤ 7) (f5 : 0 ≤ n2) (f6 : n2 = hV H0 (n0).toNat 32) (f7 : n3 ≤ 6) (f8 : 0 ≤ n3) (f9 : n3 = hV H0 (n1).toNat (n2).toNat) (f10 : n4 = 6) (f11 : n3 = n4) (f12 : n5 = 2) (f13 : (hLe T0 H0 H1 ∧ hFr s_217.2.2.2.2 H0 H1 ∧ ((0 : Int) = 0 → H1.length = H0.length) ∧ hWt T0 H1) ∧ postb_217 n0 n5 H0 H1) (f14 : (hLe T0 H1 H2 ∧ hFr s_219.2.2.2.2 H1 H2 ∧ ((0 : Int) = 0 → H2.length = H1.length) ∧ hWt T0 H2) ∧ postb_219 n0 H1 H2) (f15 : n6 ≤ 500) (f16 : 0 ≤ n6) (f17 : n6 = hV H2 (n0).toNat 11) (f18 : n7 = 1) (f19 : (hLe T0 H2 H3 ∧ hFr s_220.2.2.2.2 H2 H3 ∧ ((0 : Int) = 0 → H3.length = H2.length) ∧ hWt T0 H3) ∧ postb_220 n0 n7 H2 H3) (f20 : n8 ≤ 2) (f21 : 0 ≤ n8) (f22 : n8 = hV H3 (n0).toNat 13) (f23 : 0 < n8) : postb_225 n0 H0 H3 := by
  unfold preb_225 at f1
  unfold postb_217 at f13
  unfold postb_219 at f14
  unfold postb_220 at f19
  unfold postb_225
  have e0 : n2 = hV H0 285 32 := (by rw [f0] at f6; exact f6 : n2 = hV H0 285 32)
  have e1 : n3 = hV H0 294 (n2).toNat := (by rw [f2] at f9; exact f9 : n3 = hV H0 294 (n2).toNat)
  have e2 : n6 = hV H2 285 11 := (by rw [f0] at f17; exact f17 : n6 = hV H2 285 11)
  have e3 : n8 = hV H3 285 13 := (by rw [f0] at f22; exact f22 : n8 = hV H3 285 13)
  have e5 : hV H1 285 11 = hV H0 285 11 := (f13.1.2.1.1 285 11 kF_217_285_11)
  have e9 : hV H3 285 15 = hV H0 285 15 := ((f19.1.2.1.1 285 15 kF_220_285_15)).trans (((f14.1.2.1.1 285 15 kF_219_285_15)).trans (f13.1.2.1.1 285 15 kF_217_285_15))
  have e15 : PA H1 = PA H0 := PA_fr f13.1.2.1 (by decide +kernel)
  have e16 : PA H2 = PA H1 := PA_fr f14.1.2.1 (by decide +kernel)
  have e17 : PA H2 = PA H0 := e16.trans e15
  have e18 : PA H3 = PA H2 := PA_fr f19.1.2.1 (by decide +kernel)
  have e19 : PA H3 = PA H0 := e18.trans e17
  have e20 : PB H1 = PB H0 := PB_fr f13.1.2.1 (by decide +kernel)
  have e21 : PB H2 = PB H1 := PB_fr f14.1.2.1 (by decide +kernel)
  have e22 : PB H2 = PB H0 := e21.trans e20
  have e23 : PB H3 = PB H2 := PB_fr f19.1.2.1 (by decide +kernel)
  have e24 : PB H3 = PB H0 := e23.trans e22
  have e25 : PQ H1 = PQ H0 := PQ_fr f13.1.2.1 (by decide +kernel)
  have e26 : PQ H2 = PQ H1 := PQ_fr f14.1.2.1 (by decide +kernel)
  have e27 : PQ H2 = PQ H0 := e26.trans e25
  have e28 : PQ H3 = PQ H2 := PQ_fr f19.1.2.1 (by decide +kernel)
  have e29 : PQ H3 = PQ H0 := e28.trans e27
  have e30 : (0 : Int) ≤ hV H0 285 11 ∧ hV H0 285 11 ≤ 500 := f1.1 285 11 _ _ kW_285_11
  have e31 : (0 : Int) ≤ hV H0 285 13 ∧ hV H0 285 13 ≤ 2 := f1.1 285 13 _ _ kW_285_13
  have e32 : (0 : Int) ≤ hV H0 285 15 ∧ hV H0 285 15 ≤ 6 := f1.1 285 15 _ _ kW_285_15
  have e33 : (0 : Int) ≤ hV H0 285 18 ∧ hV H0 285 18 ≤ 8 := f1.1 285 18 _ _ kW_285_18
  have e34 : (0 : Int) ≤ hV H0 285 32 ∧ hV H0 285 32 ≤ 7 := f1.1 285 32 _ _ kW_285_32
  have e36 : (0 : Int) ≤ hV H1 285 13 ∧ hV H1 285 13 ≤ 2 := f13.1.2.2.2 285 13 _ _ kW_285_13
  have e37 : (0 : Int) ≤ hV H2 285 11 ∧ hV H2 285 11 ≤ 500 := f14.1.2.2.2 285 11 _ _ kW_285_11
  have e38 : (0 : Int) ≤ hV H2 285 13 ∧ hV H2 285 13 ≤ 2 := f14.1.2.2.2 285 13 _ _ kW_285_13
  have e39 : (0 : Int) ≤ hV H3 285 11 ∧ hV H3 285 11 ≤ 500 := f19.1.2.2.2 285 11 _ _ kW_285_11
  have e40 : (0 : Int) ≤ hV H3 285 13 ∧ hV H3 285 13 ≤ 2 := f19.1.2.2.2 285 13 _ _ kW_285_13
  try simp only [e9, e19, e24, e29]
  have p0 := f1.2.1
  have p1 := f1.2.2.1
  have p2 := f1.2.2.2.1
  have p3 := f1.2.2.2.2.1
  have p4 := f1.2.2.2.2.2
  have r0_0 := f13.2.1
  have r0_1 := f13.2.2
  have r1_0 := f14.2.1
  have r1_1 := f14.2.2.1
  have r1_2 := f14.2.2.2.1
  have r1_3 := f14.2.2.2.2
  have r2_0 := f19.2.1
  have r2_1 := f19.2.2.1
  have r2_2 := f19.2.2.2.1
  have r2_3 := f19.2.2.2.2.1
  try simp only [e5] at r1_0
  try simp only [e5] at r1_1
  try simp only [e5] at r1_3
  have wb0 := (p1 (hV H0 285 32).toNat).1
  have wp0 := (p1 (hV H0 285 33).toNat).2
  clear f3 f6 f9 f17 f22 e5 e9 e15 e16 e17 e18 e19 e20 e21 e22 e23 e24 e25 e26 e27 e28 e29
  clear f1 f13 f14 f19
  subst e0
  subst e1
  subst e2
  subst e3

  refine ⟨?_, ?_, ?_, ?_⟩
  · exact p0
  · exact p1
  · intro z1 z2
    exact p4 (by omega) (by omega)
  · (try clear p0 p1 p4)
    first
    | omega
    | (refine ⟨?_, ?_, ?_, ?_, ?_⟩ <;> first | exact True.intro | omega)
def g_225_s_3 : vG := ([(34, [8], [], 0), (20, [8, 0], [3], 13), (90, [8], [], 0), (91, [8], [], 2), (1220, [0, 7], [2, 3], 0), (0, [7], [], 1), (20, [6, 0], [2], 11), (90, [6], [], 0), (91, [6], [], 500), (1219, [0], [1, 2], 0), (1217, [0, 5], [0, 1], 0), (0, [5], [], 2), (40, [3, 4], [], 0), (0, [4], [], 6), (22, [3, 1, 2], [0], 0), (90, [3], [], 0), (91, [3], [], 6), (20, [2, 0], [0], 32), (90, [2], [], 0), (91, [2], [], 7), (20, [1, 0], [0], 20), (0, [1], [], 294), (6000, [0], [0], 0), (0, [0], [], 285)], (3000, [], [3], 40))
theorem c_225_s_3 : vOkm T0 (eP e_225 L_225 A_225 mu_225 none) 1 g_225_s_3 := vOk_inI fun ρ η f0 f1 f2 f3 f4 f5 f6 f7 f8 f9 f10 f11 f12 f13 f14 f15 f16 f17 f18 f19 f20 f21 f22 f23 => q_225_3 (n0 := ρ 0) (n1 := ρ 1) (n2 := ρ 2) (n3 := ρ 3) (n4 := ρ 4) (n5 := ρ 5) (n6 := ρ 6) (n7 := ρ 7) (n8 := ρ 8) (H0 := η 0) (H1 := η 1) (H2 := η 2) (H3 := η 3) f23 f22 f21 f20 f19 f18 f17 f16 f15 f14 f13 f12 f11 f10 f9 f8 f7 f6 f5 f4 f3 f2 f1 f0
def p_225_s : List vG := [g_225_s_0,
  g_225_s_1,
  g_225_s_2,
  g_225_s_3]
theorem r_225_s : vCovO false (eR0 e_225 L_225 cs_225 2000) p_225_s = true := by decide +kernel
set_option maxHeartbeats 20000000 in
theorem kF_225_285_32 : vFree s_225.2.2.2.2 285 32 = true := by decide +kernel
theorem kF_225_285_18 : vFree s_225.2.2.2.2 285 18 = true := by decide +kernel
theorem q_225_4 {q0 : Nat} {n0 n1 n2 n3 n4 n5 n6 n7 n8 n9 n10 n11 n12 n13 : Int} {H0 H1 : gH} (f0 : n0 ≤ 6) (f1 : 0 ≤ n0) (f2 : n1 ≤ 500) (f3 : 0 ≤ n1) (f4 : n2 = 285) (f5 : n3 = 285) (f6 : (hLe T0 H0 H1 ∧ hFr s_225.2.2.2.2 H0 H1 ∧ hWt T0 H1) ∧ (Ab_225_43 n3 n2 n1 n0 H0 H1 ∧ preb_225 n3 H0) ∧ some q0 = some (mub_225_43 n3 n2 n1 n0 H0 H1)) (f7 : n4 = 294) (f8 : n4 = hV H1 (n2).toNat 20) (f9 : n5 ≤ 7) (f10 : 0 ≤ n5) (f11 : n5 = hV H1 (n2).toNat 32) (f12 : n6 ≤ 6) (f13 : 0 ≤ n6) (f14 : n6 = hV H1 (n4).toNat (n5).toNat) (f15 : n6 ≤ n0) (f16 : n7 = 6) (f17 : n8 ≤ 7) (f18 : 0 ≤ n8) (f19 : n8 = hV H1 (n2).toNat 32) (f20 : n9 = w32 (n7 * n8)) (f21 : n10 = 294) (f22 : n10 = hV H1 (n2).toNat 20) (f23 : n11 ≤ 7) (f24 : 0 ≤ n11) (f25 : n11 = hV H1 (n2).toNat 32) (f26 : n12 ≤ 6) (f27 : 0 ≤ n12) (f28 : n12 = hV H1 (n10).toNat (n11).toNat) (f29 : n13 = w32 (n9 + n12)) : 0 ≤ n13 ∧ n13 < 54 := by
  have g4 := f6.2.1.1
  unfold Ab_225_43 at g4
  have g3 := f6.2.1.2
  unfold preb_225 at g3
  have e1 : n5 = hV H0 285 32 := (by rw [f4] at f11; exact f11 : n5 = hV H1 285 32).trans ((f6.1.2.1.1 285 32 kF_225_285_32))
  have e2 : n6 = hV H1 294 (n5).toNat := (by rw [f7] at f14; exact f14 : n6 = hV H1 294 (n5).toNat)
  have e3 : n8 = hV H0 285 32 := (by rw [f4] at f19; exact f19 : n8 = hV H1 285 32).trans ((f6.1.2.1.1 285 32 kF_225_285_32))
  have e4 : n11 = hV H0 285 32 := (by rw [f4] at f25; exact f25 : n11 = hV H1 285 32).trans ((f6.1.2.1.1 285 32 kF_225_285_32))
  have e5 : n12 = hV H1 294 (n11).toNat := (by rw [f21] at f28; exact f28 : n12 = hV H1 294 (n11).toNat)
  have e7 : hV H1 285 18 = hV H0 285 18 := (f6.1.2.1.1 285 18 kF_225_285_18)
  have e8 : hV H1 285 32 = hV H0 285 32 := (f6.1.2.1.1 285 32 kF_225_285_32)
  have e9 : (0 : Int) ≤ hV H1 285 11 ∧ hV H1 285 11 ≤ 500 := f6.1.2.2 285 11 _ _ kW_285_11
  have e10 : (0 : Int) ≤ hV H1 285 13 ∧ hV H1 285 13 ≤ 2 := f6.1.2.2 285 13 _ _ kW_285_13
  have e11 : (0 : Int) ≤ hV H1 285 15 ∧ hV H1 285 15 ≤ 6 := f6.1.2.2 285 15 _ _ kW_285_15
  have e12 : (0 : Int) ≤ hV H0 285 18 ∧ hV H0 285 18 ≤ 8 := bTo e7 (f6.1.2.2 285 18 _ _ kW_285_18)
  have e13 : (0 : Int) ≤ hV H0 285 32 ∧ hV H0 285 32 ≤ 7 := bTo e8 (f6.1.2.2 285 32 _ _ kW_285_32)
  have y0 := g4.1
  have y1 := g4.2.1
  have y2 := g4.2.2.1
  have y3 := g4.2.2.2.1
  have y4 := g4.2.2.2.2.1
  have y5 := g4.2.2.2.2.2.1
  have y6 := g4.2.2.2.2.2.2.1
  have y7 := g4.2.2.2.2.2.2.2.1
  have y8 := g4.2.2.2.2.2.2.2.2.1
  have y9 := g4.2.2.2.2.2.2.2.2.2
  have p0 := g3.1
  have p1 := g3.2.1
  have p2 := g3.2.2.1
  have p3 := g3.2.2.2.1
  have p4 := g3.2.2.2.2
  try simp only [e8] at y9
  clear g3
  clear g4
  have wb0 := (y1 (hV H0 285 32).toNat).1
  have wp0 := (y1 (hV H0 285 33).toNat).2
  try simp only [e7, e8] at wb0
  try simp only [e7, e8] at wp0
  clear f8 f11 f14 f19 f22 f25 f28 e7 e8
  clear f6
  subst e1
  subst e2
  subst e3
  subst e4
  subst e5
  rw [f16] at f20
  first
  | (have ix0 : n9 = 6 * (hV H0 285 32) := Eq.trans f20 (w32_iv (Iml 6 rfl (Iat f10 f9)) (by decide)); subst ix0; clear f20)
  | (have ix0 : n9 = 6 * (hV H0 285 32) := Eq.trans f20 (w32_id (by omega) (by omega)); subst ix0; clear f20)
  | (unfold w32 at f20; have ix0 : n9 = 6 * (hV H0 285 32) := (by omega); subst ix0)
  | skip
  first
  | (have ix1 : n13 = (6 * (hV H0 285 32)) + hV H1 294 (hV H0 285 32).toNat := Eq.trans f29 (w32_iv (Iad (Iml 6 rfl (Iat f10 f9)) (Iat f13 f12)) (by decide)); subst ix1; clear f29)
  | (have ix1 : n13 = (6 * (hV H0 285 32)) + hV H1 294 (hV H0 285 32).toNat := Eq.trans f29 (w32_id (by omega) (by omega)); subst ix1; clear f29)
  | (unfold w32 at f29; have ix1 : n13 = (6 * (hV H0 285 32)) + hV H1 294 (hV H0 285 32).toNat := (by omega); subst ix1)
  | skip
  try unfold w32 at f20
  try unfold w32 at f29

  (try clear y0 y1 y2 p0 p1 p4)
  omega
def g_225_43_0 : vG := ([(1, [14, 10, 13], [], 0), (22, [13, 11, 12], [1], 0), (90, [13], [], 0), (91, [13], [], 6), (20, [12, 1], [1], 32), (90, [12], [], 0), (91, [12], [], 7), (20, [11, 1], [1], 20), (0, [11], [], 294), (3, [10, 8, 9], [], 0), (20, [9, 1], [1], 32), (90, [9], [], 0), (91, [9], [], 7), (0, [8], [], 6), (43, [3, 6], [], 0), (22, [6, 4, 5], [1], 0), (90, [6], [], 0), (91, [6], [], 6), (20, [5, 1], [1], 32), (90, [5], [], 0), (91, [5], [], 7), (20, [4, 1], [1], 20), (0, [4], [], 294), (5000, [0, 1, 2, 3], [0, 1], 43), (0, [0], [], 285), (0, [1], [], 285), (90, [2], [], 0), (91, [2], [], 500), (90, [3], [], 0), (91, [3], [], 6)], (70, [14], [], 54))
theorem c_225_43_0 {q0 : Nat} : vOkm T0 (eP e_225 L_225 A_225 mu_225 (some q0)) 1 g_225_43_0 := vOk_inI fun ρ η f0 f1 f2 f3 f4 f5 f6 f7 f8 f9 f10 f11 f12 f13 f14 f15 f16 f17 f18 f19 f20 f21 f22 f23 f24 f25 f26 f27 f28 f29 => q_225_4 (q0 := q0) (n0 := ρ 3) (n1 := ρ 2) (n2 := ρ 1) (n3 := ρ 0) (n4 := ρ 4) (n5 := ρ 5) (n6 := ρ 6) (n7 := ρ 8) (n8 := ρ 9) (n9 := ρ 10) (n10 := ρ 11) (n11 := ρ 12) (n12 := ρ 13) (n13 := ρ 14) (H0 := η 0) (H1 := η 1) f29 f28 f27 f26 f25 f24 f23 f22 f21 f20 f19 f18 f17 f16 f15 f14 f13 f12 f11 f10 f9 f8 f7 f6 f5 f4 f3 f2 f1 f0
set_option maxHeartbeats 20000000 in
theorem kR_225_291 : vFreeR s_225.2.2.2.2 291 = true := by decide +kernel
theorem q_225_5 {q0 : Nat} {n0 n1 n2 n3 n4 n5 n6 n7 n8 n9 n10 n11 n12 n13 n14 n15 n16 n17 n18 n19 n20 n21 n22 n23 : Int} {H0 H1 H2 : gH} (f0 : n0 ≤ 6) (f1 : 0 ≤ n0) (f2 : n1 ≤ 500) (f3 : 0 ≤ n1) (f4 : n2 = 285) (f5 : n3 = 285) (f6 : (hLe T0 H0 H1 ∧ hFr s_225.2.2.2.2 H0 H1 ∧ hWt T0 H1) ∧ (Ab_225_43 n3 n2 n1 n0 H0 H1 ∧ preb_225 n3 H0) ∧ some q0 = some (mub_225_43 n3 n2 n1 n0 H0 H1)) (f7 : n4 = 294) (f8 : n4 = hV H1 (n2).toNat 20) (f9 : n5 ≤ 7) (f10 : 0 ≤ n5) (f11 : n5 = hV H1 (n2).toNat 32) (f12 : n6 ≤ 6) (f13 : 0 ≤ n6) (f14 : n6 = hV H1 (n4).toNat (n5).toNat) (f15 : n6 ≤ n0) (f16 : n7 = 295) (f17 : n7 = hV H1 (n2).toNat 21) (f18 : n8 = 6) (f19 : n9 ≤ 7) (f20 : 0 ≤ n9) (f21 : n9 = hV H1 (n2).toNat 32) (f22 : n10 = w32 (n8 * n9)) (f23 : n11 = 294) (f24 : n11 = hV H1 (n2).toNat 20) (f25 : n12 ≤ 7) (f26 : 0 ≤ n12) (f27 : n12 = hV H1 (n2).toNat 32) (f28 : n13 ≤ 6) (f29 : 0 ≤ n13) (f30 : n13 = hV H1 (n11).toNat (n12).toNat) (f31 : n14 = w32 (n10 + n13)) (f32 : n15 = 291) (f33 : n15 = hV H1 (n2).toNat 8) (f34 : n16 = hV H1 (n15).toNat (n1).toNat) (f35 : hUpd H2 H1 n7 n14 n16) (f36 : n17 = 7) (f37 : n18 ≤ 7) (f38 : 0 ≤ n18) (f39 : n18 = hV H2 (n2).toNat 32) (f40 : n19 = w32 (n17 * n18)) (f41 : n20 = 294) (f42 : n20 = hV H2 (n2).toNat 20) (f43 : n21 ≤ 7) (f44 : 0 ≤ n21) (f45 : n21 = hV H2 (n2).toNat 32) (f46 : n22 ≤ 6) (f47 : 0 ≤ n22) (f48 : n22 = hV H2 (n20).toNat (n21).toNat) (f49 : n23 = w32 (n19 + n22)) : 0 ≤ n23 := by
  have g4 := f6.2.1.1
  unfold Ab_225_43 at g4
  have g3 := f6.2.1.2
  unfold preb_225 at g3
  have e1 : n5 = hV H0 285 32 := (by rw [f4] at f11; exact f11 : n5 = hV H1 285 32).trans ((f6.1.2.1.1 285 32 kF_225_285_32))
  have e2 : n6 = hV H1 294 (n5).toNat := (by rw [f7] at f14; exact f14 : n6 = hV H1 294 (n5).toNat)
  have e3 : n9 = hV H0 285 32 := (by rw [f4] at f21; exact f21 : n9 = hV H1 285 32).trans ((f6.1.2.1.1 285 32 kF_225_285_32))
  have e4 : n12 = hV H0 285 32 := (by rw [f4] at f27; exact f27 : n12 = hV H1 285 32).trans ((f6.1.2.1.1 285 32 kF_225_285_32))
  have e5 : n13 = hV H1 294 (n12).toNat := (by rw [f23] at f30; exact f30 : n13 = hV H1 294 (n12).toNat)
  have e7 : n16 = hV H0 291 (n1).toNat := (by rw [f32] at f34; exact f34 : n16 = hV H1 291 (n1).toNat).trans ((congrFun (fRow f6.1.2.1 291 kR_225_291) _))
  have e9 : n18 = hV H0 285 32 := (by rw [f4] at f39; exact f39 : n18 = hV H2 285 32).trans (((uPlace f35 285 32 (iS (show n7 = ((295 : Nat) : Int) from f16) rfl))).trans (f6.1.2.1.1 285 32 kF_225_285_32))
  have e10 : n21 = hV H0 285 32 := (by rw [f4] at f45; exact f45 : n21 = hV H2 285 32).trans (((uPlace f35 285 32 (iS (show n7 = ((295 : Nat) : Int) from f16) rfl))).trans (f6.1.2.1.1 285 32 kF_225_285_32))
  have e12 : n22 = hV H1 294 (n21).toNat := (by rw [f41] at f48; exact f48 : n22 = hV H2 294 (n21).toNat).trans ((congrFun (uRowNe f35 294 (iS (show n7 = ((295 : Nat) : Int) from f16) rfl)) _))
  have e14 : hV H1 285 18 = hV H0 285 18 := (f6.1.2.1.1 285 18 kF_225_285_18)
  have e15 : hV H1 285 32 = hV H0 285 32 := (f6.1.2.1.1 285 32 kF_225_285_32)
  have e16 : (0 : Int) ≤ hV H1 285 11 ∧ hV H1 285 11 ≤ 500 := f6.1.2.2 285 11 _ _ kW_285_11
  have e17 : (0 : Int) ≤ hV H1 285 13 ∧ hV H1 285 13 ≤ 2 := f6.1.2.2 285 13 _ _ kW_285_13
  have e18 : (0 : Int) ≤ hV H1 285 15 ∧ hV H1 285 15 ≤ 6 := f6.1.2.2 285 15 _ _ kW_285_15
  have e19 : (0 : Int) ≤ hV H0 285 18 ∧ hV H0 285 18 ≤ 8 := bTo e14 (f6.1.2.2 285 18 _ _ kW_285_18)
  have e20 : (0 : Int) ≤ hV H0 285 32 ∧ hV H0 285 32 ≤ 7 := bTo e15 (f6.1.2.2 285 32 _ _ kW_285_32)
  have y0 := g4.1
  have y1 := g4.2.1
  have y2 := g4.2.2.1
  have y3 := g4.2.2.2.1
  have y4 := g4.2.2.2.2.1
  have y5 := g4.2.2.2.2.2.1
  have y6 := g4.2.2.2.2.2.2.1
  have y7 := g4.2.2.2.2.2.2.2.1
  have y8 := g4.2.2.2.2.2.2.2.2.1
  have y9 := g4.2.2.2.2.2.2.2.2.2
  have p0 := g3.1
  have p1 := g3.2.1
  have p2 := g3.2.2.1
  have p3 := g3.2.2.2.1
  have p4 := g3.2.2.2.2
  try simp only [e15] at y9
  clear g3
  clear g4
  have wb0 := (y1 (hV H0 285 32).toNat).1
  have wp0 := (y1 (hV H0 285 33).toNat).2
  try simp only [e14, e15] at wb0
  try simp only [e14, e15] at wp0
  clear f8 f11 f14 f17 f21 f24 f27 f30 f33 f34 f39 f42 f45 f48 e14 e15
  clear f6
  subst e1
  subst e2
  subst e3
  subst e4
  subst e5
  subst e7
  subst e9
  subst e10
  subst e12
  rw [f18] at f22
  rw [f36] at f40
  first
  | (have ix0 : n10 = 6 * (hV H0 285 32) := Eq.trans f22 (w32_iv (Iml 6 rfl (Iat f10 f9)) (by decide)); subst ix0; clear f22)
  | (have ix0 : n10 = 6 * (hV H0 285 32) := Eq.trans f22 (w32_id (by omega) (by omega)); subst ix0; clear f22)
  | (unfold w32 at f22; have ix0 : n10 = 6 * (hV H0 285 32) := (by omega); subst ix0)
  | skip
  first
  | (have ix1 : n14 = (6 * (hV H0 285 32)) + hV H1 294 (hV H0 285 32).toNat := Eq.trans f31 (w32_iv (Iad (Iml 6 rfl (Iat f10 f9)) (Iat f13 f12)) (by decide)); subst ix1; clear f31)
  | (have ix1 : n14 = (6 * (hV H0 285 32)) + hV H1 294 (hV H0 285 32).toNat := Eq.trans f31 (w32_id (by omega) (by omega)); subst ix1; clear f31)
  | (unfold w32 at f31; have ix1 : n14 = (6 * (hV H0 285 32)) + hV H1 294 (hV H0 285 32).toNat := (by omega); subst ix1)
  | skip
  first
  | (have ix2 : n19 = 7 * (hV H0 285 32) := Eq.trans f40 (w32_iv (Iml 7 rfl (Iat f10 f9)) (by decide)); subst ix2; clear f40)
  | (have ix2 : n19 = 7 * (hV H0 285 32) := Eq.trans f40 (w32_id (by omega) (by omega)); subst ix2; clear f40)
  | (unfold w32 at f40; have ix2 : n19 = 7 * (hV H0 285 32) := (by omega); subst ix2)
  | skip
  first
  | (have ix3 : n23 = (7 * (hV H0 285 32)) + hV H1 294 (hV H0 285 32).toNat := Eq.trans f49 (w32_iv (Iad (Iml 7 rfl (Iat f10 f9)) (Iat f13 f12)) (by decide)); subst ix3; clear f49)
  | (have ix3 : n23 = (7 * (hV H0 285 32)) + hV H1 294 (hV H0 285 32).toNat := Eq.trans f49 (w32_id (by omega) (by omega)); subst ix3; clear f49)
  | (unfold w32 at f49; have ix3 : n23 = (7 * (hV H0 285 32)) + hV H1 294 (hV H0 285 32).toNat := (by omega); subst ix3)
  | skip
  try unfold w32 at f22
  try unfold w32 at f31
  try unfold w32 at f40
  try unfold w32 at f49

  (try clear y0 y1 y2 p0 p1 p4)
  omega
def g_225_43_1 : vG := ([(1, [23, 19, 22], [], 0), (22, [22, 20, 21], [2], 0), (90, [22], [], 0), (91, [22], [], 6), (20, [21, 1], [2], 32), (90, [21], [], 0), (91, [21], [], 7), (20, [20, 1], [2], 20), (0, [20], [], 294), (3, [19, 17, 18], [], 0), (20, [18, 1], [2], 32), (90, [18], [], 0), (91, [18], [], 7), (0, [17], [], 7), (80, [7, 14, 16], [2, 1], 1), (22, [16, 15, 2], [1], 0), (20, [15, 1], [1], 8), (0, [15], [], 291), (1, [14, 10, 13], [], 0), (22, [13, 11, 12], [1], 0), (90, [13], [], 0), (91, [13], [], 6), (20, [12, 1], [1], 32), (90, [12], [], 0), (91, [12], [], 7), (20, [11, 1], [1], 20), (0, [11], [], 294), (3, [10, 8, 9], [], 0), (20, [9, 1], [1], 32), (90, [9], [], 0), (91, [9], [], 7), (0, [8], [], 6), (20, [7, 1], [1], 21), (0, [7], [], 295), (43, [3, 6], [], 0), (22, [6, 4, 5], [1], 0), (90, [6], [], 0), (91, [6], [], 6), (20, [5, 1], [1], 32), (90, [5], [], 0), (91, [5], [], 7), (20, [4, 1], [1], 20), (0, [4], [], 294), (5000, [0, 1, 2, 3], [0, 1], 43), (0, [0], [], 285), (0, [1], [], 285), (90, [2], [], 0), (91, [2], [], 500), (90, [3], [], 0), (91, [3], [], 6)], (90, [23], [], 0))
theorem c_225_43_1 {q0 : Nat} : vOkm T0 (eP e_225 L_225 A_225 mu_225 (some q0)) 1 g_225_43_1 := vOk_inI fun ρ η f0 f1 f2 f3 f4 f5 f6 f7 f8 f9 f10 f11 f12 f13 f14 f15 f16 f17 f18 f19 f20 f21 f22 f23 f24 f25 f26 f27 f28 f29 f30 f31 f32 f33 f34 f35 f36 f37 f38 f39 f40 f41 f42 f43 f44 f45 f46 f47 f48 f49 => q_225_5 (q0 := q0) (n0 := ρ 3) (n1 := ρ 2) (n2 := ρ 1) (n3 := ρ 0) (n4 := ρ 4) (n5 := ρ 5) (n6 := ρ 6) (n7 := ρ 7) (n8 := ρ 8) (n9 := ρ 9) (n10 := ρ 10) (n11 := ρ 11) (n12 := ρ 12) (n13 := ρ 13) (n14 := ρ 14) (n15 := ρ 15) (n16 := ρ 16) (n17 := ρ 17) (n18 := ρ 18) (n19 := ρ 19) (n20 := ρ 20) (n21 := ρ 21) (n22 := ρ 22) (n23 := ρ 23) (H0 := η 0) (H1 := η 1) (H2 := η 2) f49 f48 f47 f46 f45 f44 f43 f42 f41 f40 f39 f38 f37 f36 f35 f34 f33 f32 f31 f30 f29 f28 f27 f26 f25 f24 f23 f22 f21 f20 f19 f18 f17 f16 f15 f14 f13 f12 f11 f10 f9 f8 f7 f6 f5 f4 f3 f2 f1 f0
set_option maxHeartbeats 20000000 in
theorem q_225_6 {q0 : Nat} {n0 n1 n2 n3 n4 n5 n6 n7 n8 n9 n10 n11 n12 n13 n14 n15 n16 n17 n18 n19 n20 n21 n22 n23 : Int} {H0 H1 H2 : gH} (f0 : n0 ≤ 6) (f1 : 0 ≤ n0) (f2 : n1 ≤ 500) (f3 : 0 ≤ n1) (f4 : n2 = 285) (f5 : n3 = 285) (f6 : (hLe T0 H0 H1 ∧ hFr s_225.2.2.2.2 H0 H1 ∧ hWt T0 H1) ∧ (Ab_225_43 n3 n2 n1 n0 H0 H1 ∧ preb_225 n3 H0) ∧ some q0 = some (mub_225_43 n3 n2 n1 n0 H0 H1)) (f7 : n4 = 294) (f8 : n4 = hV H1 (n2).toNat 20) (f9 : n5 ≤ 7) (f10 : 0 ≤ n5) (f11 : n5 = hV H1 (n2).toNat 32) (f12 : n6 ≤ 6) (f13 : 0 ≤ n6) (f14 : n6 = hV H1 (n4).toNat (n5).toNat) (f15 : n6 ≤ n0) (f16 : n7 = 295) (f17 : n7 = hV H1 (n2).toNat 21) (f18 : n8 = 6) (f19 : n9 ≤ 7) (f20 : 0 ≤ n9) (f21 : n9 = hV H1 (n2).toNat 32) (f22 : n10 = w32 (n8 * n9)) (f23 : n11 = 294) (f24 : n11 = hV H1 (n2).toNat 20) (f25 : n12 ≤ 7) (f26 : 0 ≤ n12) (f27 : n12 = hV H1 (n2).toNat 32) (f28 : n13 ≤ 6) (f29 : 0 ≤ n13) (f30 : n13 = hV H1 (n11).toNat (n12).toNat) (f31 : n14 = w32 (n10 + n13)) (f32 : n15 = 291) (f33 : n15 = hV H1 (n2).toNat 8) (f34 : n16 = hV H1 (n15).toNat (n1).toNat) (f35 : hUpd H2 H1 n7 n14 n16) (f36 : n17 = 7) (f37 : n18 ≤ 7) (f38 : 0 ≤ n18) (f39 : n18 = hV H2 (n2).toNat 32) (f40 : n19 = w32 (n17 * n18)) (f41 : n20 = 294) (f42 : n20 = hV H2 (n2).toNat 20) (f43 : n21 ≤ 7) (f44 : 0 ≤ n21) (f45 : n21 = hV H2 (n2).toNat 32) (f46 : n22 ≤ 6) (f47 : 0 ≤ n22) (f48 : n22 = hV H2 (n20).toNat (n21).toNat) (f49 : n23 = w32 (n19 + n22)) : n23 ≤ 62 := by
  have g4 := f6.2.1.1
  unfold Ab_225_43 at g4
  have g3 := f6.2.1.2
  unfold preb_225 at g3
  have e1 : n5 = hV H0 285 32 := (by rw [f4] at f11; exact f11 : n5 = hV H1 285 32).trans ((f6.1.2.1.1 285 32 kF_225_285_32))
  have e2 : n6 = hV H1 294 (n5).toNat := (by rw [f7] at f14; exact f14 : n6 = hV H1 294 (n5).toNat)
  have e3 : n9 = hV H0 285 32 := (by rw [f4] at f21; exact f21 : n9 = hV H1 285 32).trans ((f6.1.2.1.1 285 32 kF_225_285_32))
  have e4 : n12 = hV H0 285 32 := (by rw [f4] at f27; exact f27 : n12 = hV H1 285 32).trans ((f6.1.2.1.1 285 32 kF_225_285_32))
  have e5 : n13 = hV H1 294 (n12).toNat := (by rw [f23] at f30; exact f30 : n13 = hV H1 294 (n12).toNat)
  have e7 : n16 = hV H0 291 (n1).toNat := (by rw [f32] at f34; exact f34 : n16 = hV H1 291 (n1).toNat).trans ((congrFun (fRow f6.1.2.1 291 kR_225_291) _))
  have e9 : n18 = hV H0 285 32 := (by rw [f4] at f39; exact f39 : n18 = hV H2 285 32).trans (((uPlace f35 285 32 (iS (show n7 = ((295 : Nat) : Int) from f16) rfl))).trans (f6.1.2.1.1 285 32 kF_225_285_32))
  have e10 : n21 = hV H0 285 32 := (by rw [f4] at f45; exact f45 : n21 = hV H2 285 32).trans (((uPlace f35 285 32 (iS (show n7 = ((295 : Nat) : Int) from f16) rfl))).trans (f6.1.2.1.1 285 32 kF_225_285_32))
  have e12 : n22 = hV H1 294 (n21).toNat := (by rw [f41] at f48; exact f48 : n22 = hV H2 294 (n21).toNat).trans ((congrFun (uRowNe f35 294 (iS (show n7 = ((295 : Nat) : Int) from f16) rfl)) _))
  have e14 : hV H1 285 18 = hV H0 285 18 := (f6.1.2.1.1 285 18 kF_225_285_18)
  have e15 : hV H1 285 32 = hV H0 285 32 := (f6.1.2.1.1 285 32 kF_225_285_32)
  have e16 : (0 : Int) ≤ hV H1 285 11 ∧ hV H1 285 11 ≤ 500 := f6.1.2.2 285 11 _ _ kW_285_11
  have e17 : (0 : Int) ≤ hV H1 285 13 ∧ hV H1 285 13 ≤ 2 := f6.1.2.2 285 13 _ _ kW_285_13
  have e18 : (0 : Int) ≤ hV H1 285 15 ∧ hV H1 285 15 ≤ 6 := f6.1.2.2 285 15 _ _ kW_285_15
  have e19 : (0 : Int) ≤ hV H0 285 18 ∧ hV H0 285 18 ≤ 8 := bTo e14 (f6.1.2.2 285 18 _ _ kW_285_18)
  have e20 : (0 : Int) ≤ hV H0 285 32 ∧ hV H0 285 32 ≤ 7 := bTo e15 (f6.1.2.2 285 32 _ _ kW_285_32)
  have y0 := g4.1
  have y1 := g4.2.1
  have y2 := g4.2.2.1
  have y3 := g4.2.2.2.1
  have y4 := g4.2.2.2.2.1
  have y5 := g4.2.2.2.2.2.1
  have y6 := g4.2.2.2.2.2.2.1
  have y7 := g4.2.2.2.2.2.2.2.1
  have y8 := g4.2.2.2.2.2.2.2.2.1
  have y9 := g4.2.2.2.2.2.2.2.2.2
  have p0 := g3.1
  have p1 := g3.2.1
  have p2 := g3.2.2.1
  have p3 := g3.2.2.2.1
  have p4 := g3.2.2.2.2
  try simp only [e15] at y9
  clear g3
  clear g4
  have wb0 := (y1 (hV H0 285 32).toNat).1
  have wp0 := (y1 (hV H0 285 33).toNat).2
  try simp only [e14, e15] at wb0
  try simp only [e14, e15] at wp0
  clear f8 f11 f14 f17 f21 f24 f27 f30 f33 f34 f39 f42 f45 f48 e14 e15
  clear f6
  subst e1
  subst e2
  subst e3
  subst e4
  subst e5
  subst e7
  subst e9
  subst e10
  subst e12
  rw [f18] at f22
  rw [f36] at f40
  first
  | (have ix0 : n10 = 6 * (hV H0 285 32) := Eq.trans f22 (w32_iv (Iml 6 rfl (Iat f10 f9)) (by decide)); subst ix0; clear f22)
  | (have ix0 : n10 = 6 * (hV H0 285 32) := Eq.trans f22 (w32_id (by omega) (by omega)); subst ix0; clear f22)
  | (unfold w32 at f22; have ix0 : n10 = 6 * (hV H0 285 32) := (by omega); subst ix0)
  | skip
  first
  | (have ix1 : n14 = (6 * (hV H0 285 32)) + hV H1 294 (hV H0 285 32).toNat := Eq.trans f31 (w32_iv (Iad (Iml 6 rfl (Iat f10 f9)) (Iat f13 f12)) (by decide)); subst ix1; clear f31)
  | (have ix1 : n14 = (6 * (hV H0 285 32)) + hV H1 294 (hV H0 285 32).toNat := Eq.trans f31 (w32_id (by omega) (by omega)); subst ix1; clear f31)
  | (unfold w32 at f31; have ix1 : n14 = (6 * (hV H0 285 32)) + hV H1 294 (hV H0 285 32).toNat := (by omega); subst ix1)
  | skip
  first
  | (have ix2 : n19 = 7 * (hV H0 285 32) := Eq.trans f40 (w32_iv (Iml 7 rfl (Iat f10 f9)) (by decide)); subst ix2; clear f40)
  | (have ix2 : n19 = 7 * (hV H0 285 32) := Eq.trans f40 (w32_id (by omega) (by omega)); subst ix2; clear f40)
  | (unfold w32 at f40; have ix2 : n19 = 7 * (hV H0 285 32) := (by omega); subst ix2)
  | skip
  first
  | (have ix3 : n23 = (7 * (hV H0 285 32)) + hV H1 294 (hV H0 285 32).toNat := Eq.trans f49 (w32_iv (Iad (Iml 7 rfl (Iat f10 f9)) (Iat f13 f12)) (by decide)); subst ix3; clear f49)
  | (have ix3 : n23 = (7 * (hV H0 285 32)) + hV H1 294 (hV H0 285 32).toNat := Eq.trans f49 (w32_id (by omega) (by omega)); subst ix3; clear f49)
  | (unfold w32 at f49; have ix3 : n23 = (7 * (hV H0 285 32)) + hV H1 294 (hV H0 285 32).toNat := (by omega); subst ix3)
  | skip
  try unfold w32 at f22
  try unfold w32 at f31
  try unfold w32 at f40
  try unfold w32 at f49

  (try clear y0 y1 y2 p0 p1 p4)
  omega
def g_225_43_2 : vG := ([(1, [23, 19, 22], [], 0), (22, [22, 20, 21], [2], 0), (90, [22], [], 0), (91, [22], [], 6), (20, [21, 1], [2], 32), (90, [21], [], 0), (91, [21], [], 7), (20, [20, 1], [2], 20), (0, [20], [], 294), (3, [19, 17, 18], [], 0), (20, [18, 1], [2], 32), (90, [18], [], 0), (91, [18], [], 7), (0, [17], [], 7), (80, [7, 14, 16], [2, 1], 1), (22, [16, 15, 2], [1], 0), (20, [15, 1], [1], 8), (0, [15], [], 291), (1, [14, 10, 13], [], 0), (22, [13, 11, 12], [1], 0), (90, [13], [], 0), (91, [13], [], 6), (20, [12, 1], [1], 32), (90, [12], [], 0), (91, [12], [], 7), (20, [11, 1], [1], 20), (0, [11], [], 294), (3, [10, 8, 9], [], 0), (20, [9, 1], [1], 32), (90, [9], [], 0), (91, [9], [], 7), (0, [8], [], 6), (20, [7, 1], [1], 21), (0, [7], [], 295), (43, [3, 6], [], 0), (22, [6, 4, 5], [1], 0), (90, [6], [], 0), (91, [6], [], 6), (20, [5, 1], [1], 32), (90, [5], [], 0), (91, [5], [], 7), (20, [4, 1], [1], 20), (0, [4], [], 294), (5000, [0, 1, 2, 3], [0, 1], 43), (0, [0], [], 285), (0, [1], [], 285), (90, [2], [], 0), (91, [2], [], 500), (90, [3], [], 0), (91, [3], [], 6)], (91, [23], [], 62))
theorem c_225_43_2 {q0 : Nat} : vOkm T0 (eP e_225 L_225 A_225 mu_225 (some q0)) 1 g_225_43_2 := vOk_inI fun ρ η f0 f1 f2 f3 f4 f5 f6 f7 f8 f9 f10 f11 f12 f13 f14 f15 f16 f17 f18 f19 f20 f21 f22 f23 f24 f25 f26 f27 f28 f29 f30 f31 f32 f33 f34 f35 f36 f37 f38 f39 f40 f41 f42 f43 f44 f45 f46 f47 f48 f49 => q_225_6 (q0 := q0) (n0 := ρ 3) (n1 := ρ 2) (n2 := ρ 1) (n3 := ρ 0) (n4 := ρ 4) (n5 := ρ 5) (n6 := ρ 6) (n7 := ρ 7) (n8 := ρ 8) (n9 := ρ 9) (n10 := ρ 10) (n11 := ρ 11) (n12 := ρ 12) (n13 := ρ 13) (n14 := ρ 14) (n15 := ρ 15) (n16 := ρ 16) (n17 := ρ 17) (n18 := ρ 18) (n19 := ρ 19) (n20 := ρ 20) (n21 := ρ 21) (n22 := ρ 22) (n23 := ρ 23) (H0 := η 0) (H1 := η 1) (H2 := η 2) f49 f48 f47 f46 f45 f44 f43 f42 f41 f40 f39 f38 f37 f36 f35 f34 f33 f32 f31 f30 f29 f28 f27 f26 f25 f24 f23 f22 f21 f20 f19 f18 f17 f16 f15 f14 f13 f12 f11 f10 f9 f8 f7 f6 f5 f4 f3 f2 f1 f0
set_option maxHeartbeats 20000000 in
theorem q_225_7 {q0 : Nat} {n0 n1 n2 n3 n4 n5 n6 n7 n8 n9 n10 n11 n12 n13 n14 n15 n16 n17 n18 n19 n20 n21 n22 n23 n24 : Int} {H0 H1 H2 H3 : gH} (f0 : n0 ≤ 6) (f1 : 0 ≤ n0) (f2 : n1 ≤ 500) (f3 : 0 ≤ n1) (f4 : n2 = 285) (f5 : n3 = 285) (f6 : (hLe T0 H0 H1 ∧ hFr s_225.2.2.2.2 H0 H1 ∧ hWt T0 H1) ∧ (Ab_225_43 n3 n2 n1 n0 H0 H1 ∧ preb_225 n3 H0) ∧ some q0 = some (mub_225_43 n3 n2 n1 n0 H0 H1)) (f7 : n4 = 294) (f8 : n4 = hV H1 (n2).toNat 20) (f9 : n5 ≤ 7) (f10 : 0 ≤ n5) (f11 : n5 = hV H1 (n2).toNat 32) (f12 : n6 ≤ 6) (f13 : 0 ≤ n6) (f14 : n6 = hV H1 (n4).toNat (n5).toNat) (f15 : n6 ≤ n0) (f16 : n7 = 295) (f17 : n7 = hV H1 (n2).toNat 21) (f18 : n8 = 6) (f19 : n9 ≤ 7) (f20 : 0 ≤ n9) (f21 : n9 = hV H1 (n2).toNat 32) (f22 : n10 = w32 (n8 * n9)) (f23 : n11 = 294) (f24 : n11 = hV H1 (n2).toNat 20) (f25 : n12 ≤ 7) (f26 : 0 ≤ n12) (f27 : n12 = hV H1 (n2).toNat 32) (f28 : n13 ≤ 6) (f29 : 0 ≤ n13) (f30 : n13 = hV H1 (n11).toNat (n12).toNat) (f31 : n14 = w32 (n10 + n13)) (f32 : n15 = 291) (f33 : n15 = hV H1 (n2).toNat 8) (f34 : n16 = hV H1 (n15).toNat (n1).toNat) (f35 : hUpd H2 H1 n7 n14 n16) (f36 : n17 = 7) (f37 : n18 ≤ 7) (f38 : 0 ≤ n18) (f39 : n18 = hV H2 (n2).toNat 32) (f40 : n19 = w32 (n17 * n18)) (f41 : n20 = 294) (f42 : n20 = hV H2 (n2).toNat 20) (f43 : n21 ≤ 7) (f44 : 0 ≤ n21) (f45 : n21 = hV H2 (n2).toNat 32) (f46 : n22 ≤ 6) (f47 : 0 ≤ n22) (f48 : n22 = hV H2 (n20).toNat (n21).toNat) (f49 : n23 = w32 (n19 + n22)) (f50 : n24 = 33) (f51 : hUpd H3 H2 n2 n24 n23) : preb_226 n2 H3 := by
  have g4 := f6.2.1.1
  unfold Ab_225_43 at g4
  have g3 := f6.2.1.2
  unfold preb_225 at g3
  unfold preb_226
  have e1 : n5 = hV H0 285 32 := (by rw [f4] at f11; exact f11 : n5 = hV H1 285 32).trans ((f6.1.2.1.1 285 32 kF_225_285_32))
  have e2 : n6 = hV H1 294 (n5).toNat := (by rw [f7] at f14; exact f14 : n6 = hV H1 294 (n5).toNat)
  have e3 : n9 = hV H0 285 32 := (by rw [f4] at f21; exact f21 : n9 = hV H1 285 32).trans ((f6.1.2.1.1 285 32 kF_225_285_32))
  have e4 : n12 = hV H0 285 32 := (by rw [f4] at f27; exact f27 : n12 = hV H1 285 32).trans ((f6.1.2.1.1 285 32 kF_225_285_32))
  have e5 : n13 = hV H1 294 (n12).toNat := (by rw [f23] at f30; exact f30 : n13 = hV H1 294 (n12).toNat)
  have e7 : n16 = hV H0 291 (n1).toNat := (by rw [f32] at f34; exact f34 : n16 = hV H1 291 (n1).toNat).trans ((congrFun (fRow f6.1.2.1 291 kR_225_291) _))
  have e9 : n18 = hV H0 285 32 := (by rw [f4] at f39; exact f39 : n18 = hV H2 285 32).trans (((uPlace f35 285 32 (iS (show n7 = ((295 : Nat) : Int) from f16) rfl))).trans (f6.1.2.1.1 285 32 kF_225_285_32))
  have e10 : n21 = hV H0 285 32 := (by rw [f4] at f45; exact f45 : n21 = hV H2 285 32).trans (((uPlace f35 285 32 (iS (show n7 = ((295 : Nat) : Int) from f16) rfl))).trans (f6.1.2.1.1 285 32 kF_225_285_32))
  have e12 : n22 = hV H1 294 (n21).toNat := (by rw [f41] at f48; exact f48 : n22 = hV H2 294 (n21).toNat).trans ((congrFun (uRowNe f35 294 (iS (show n7 = ((295 : Nat) : Int) from f16) rfl)) _))
  have e14 : hV H1 285 18 = hV H0 285 18 := (f6.1.2.1.1 285 18 kF_225_285_18)
  have e15 : hV H1 285 32 = hV H0 285 32 := (f6.1.2.1.1 285 32 kF_225_285_32)
  have e18 : hV H3 285 13 = hV H1 285 13 := ((uSlot f51 285 13 (iS (show n24 = ((33 : Nat) : Int) from f50) rfl))).trans (uPlace f35 285 13 (iS (show n7 = ((295 : Nat) : Int) from f16) rfl))
  have e21 : hV H3 285 15 = hV H1 285 15 := ((uSlot f51 285 15 (iS (show n24 = ((33 : Nat) : Int) from f50) rfl))).trans (uPlace f35 285 15 (iS (show n7 = ((295 : Nat) : Int) from f16) rfl))
  have e24 : hV H3 285 18 = hV H0 285 18 := ((uSlot f51 285 18 (iS (show n24 = ((33 : Nat) : Int) from f50) rfl))).trans (((uPlace f35 285 18 (iS (show n7 = ((295 : Nat) : Int) from f16) rfl))).trans (f6.1.2.1.1 285 18 kF_225_285_18))
  have e26 : hV H3 285 32 = hV H0 285 32 := ((uSlot f51 285 32 (iS (show n24 = ((33 : Nat) : Int) from f50) rfl))).trans (((uPlace f35 285 32 (iS (show n7 = ((295 : Nat) : Int) from f16) rfl))).trans (f6.1.2.1.1 285 32 kF_225_285_32))
  have e28 : hV H3 285 33 = n23 := (uSame f51 285 33 f4.symm f50.symm)
  have e30 : hV H3 294 = hV H1 294 := (uRowNe f51 294 (iS (show n2 = ((285 : Nat) : Int) from f4) rfl)).trans (uRowNe f35 294 (iS (show n7 = ((295 : Nat) : Int) from f16) rfl))
  have e31 : PA H2 = PA H1 := PA_upR f35 (show n7 = ((295 : Nat) : Int) from f16) (by decide)
  have e32 : PA H3 = PA H2 := PA_upF f51 f4 (show n24 = ((33 : Nat) : Int) from f50) (by decide)
  have e33 : PA H3 = PA H1 := e32.trans e31
  have e34 : PB H2 = PB H1 := PB_upR f35 (show n7 = ((295 : Nat) : Int) from f16) (by decide)
  have e35 : PB H3 = PB H2 := PB_upF f51 f4 (show n24 = ((33 : Nat) : Int) from f50) (by decide)
  have e36 : PB H3 = PB H1 := e35.trans e34
  have e37 : PQ H2 = PQ H1 := PQ_upR f35 (show n7 = ((295 : Nat) : Int) from f16) (by decide)
  have e38 : PQ H3 = PQ H2 := PQ_upF f51 f4 (show n24 = ((33 : Nat) : Int) from f50) (by decide)
  have e39 : PQ H3 = PQ H1 := e38.trans e37
  have e40 : (0 : Int) ≤ hV H1 285 11 ∧ hV H1 285 11 ≤ 500 := f6.1.2.2 285 11 _ _ kW_285_11
  have e41 : (0 : Int) ≤ hV H1 285 13 ∧ hV H1 285 13 ≤ 2 := f6.1.2.2 285 13 _ _ kW_285_13
  have e42 : (0 : Int) ≤ hV H1 285 15 ∧ hV H1 285 15 ≤ 6 := f6.1.2.2 285 15 _ _ kW_285_15
  have e43 : (0 : Int) ≤ hV H0 285 18 ∧ hV H0 285 18 ≤ 8 := bTo e14 (f6.1.2.2 285 18 _ _ kW_285_18)
  have e44 : (0 : Int) ≤ hV H0 285 32 ∧ hV H0 285 32 ≤ 7 := bTo e15 (f6.1.2.2 285 32 _ _ kW_285_32)
  have e45 : (0 : Int) ≤ hV H1 285 33 ∧ hV H1 285 33 ≤ 62 := f6.1.2.2 285 33 _ _ kW_285_33
  try simp only [PW]
  try simp only [e18, e21, e24, e26, e28, e30, e33, e36, e39]
  have y0 := g4.1
  have y1 := g4.2.1
  have y2 := g4.2.2.1
  have y3 := g4.2.2.2.1
  have y4 := g4.2.2.2.2.1
  have y5 := g4.2.2.2.2.2.1
  have y6 := g4.2.2.2.2.2.2.1
  have y7 := g4.2.2.2.2.2.2.2.1
  have y8 := g4.2.2.2.2.2.2.2.2.1
  have y9 := g4.2.2.2.2.2.2.2.2.2
  have p0 := g3.1
  have p1 := g3.2.1
  have p2 := g3.2.2.1
  have p3 := g3.2.2.2.1
  have p4 := g3.2.2.2.2
  try simp only [e15] at y9
  clear g3
  clear g4
  have wb0 := (y1 (hV H0 285 32).toNat).1
  have wp0 := (y1 (hV H0 285 33).toNat).2
  try simp only [e14, e15] at wb0
  try simp only [e14, e15] at wp0
  clear f8 f11 f14 f17 f21 f24 f27 f30 f33 f34 f39 f42 f45 f48 e14 e15 e18 e21 e24 e26 e30 e31 e32 e33 e34 e35 e36 e37 e38 e39
  clear f6
  subst e1
  subst e2
  subst e3
  subst e4
  subst e5
  subst e7
  subst e9
  subst e10
  subst e12
  rw [f18] at f22
  rw [f36] at f40
  first
  | (have ix0 : n10 = 6 * (hV H0 285 32) := Eq.trans f22 (w32_iv (Iml 6 rfl (Iat f10 f9)) (by decide)); subst ix0; clear f22)
  | (have ix0 : n10 = 6 * (hV H0 285 32) := Eq.trans f22 (w32_id (by omega) (by omega)); subst ix0; clear f22)
  | (unfold w32 at f22; have ix0 : n10 = 6 * (hV H0 285 32) := (by omega); subst ix0)
  | skip
  first
  | (have ix1 : n14 = (6 * (hV H0 285 32)) + hV H1 294 (hV H0 285 32).toNat := Eq.trans f31 (w32_iv (Iad (Iml 6 rfl (Iat f10 f9)) (Iat f13 f12)) (by decide)); subst ix1; clear f31)
  | (have ix1 : n14 = (6 * (hV H0 285 32)) + hV H1 294 (hV H0 285 32).toNat := Eq.trans f31 (w32_id (by omega) (by omega)); subst ix1; clear f31)
  | (unfold w32 at f31; have ix1 : n14 = (6 * (hV H0 285 32)) + hV H1 294 (hV H0 285 32).toNat := (by omega); subst ix1)
  | skip
  first
  | (have ix2 : n19 = 7 * (hV H0 285 32) := Eq.trans f40 (w32_iv (Iml 7 rfl (Iat f10 f9)) (by decide)); subst ix2; clear f40)
  | (have ix2 : n19 = 7 * (hV H0 285 32) := Eq.trans f40 (w32_id (by omega) (by omega)); subst ix2; clear f40)
  | (unfold w32 at f40; have ix2 : n19 = 7 * (hV H0 285 32) := (by omega); subst ix2)
  | skip
  first
  | (have ix3 : n23 = (7 * (hV H0 285 32)) + hV H1 294 (hV H0 285 32).toNat := Eq.trans f49 (w32_iv (Iad (Iml 7 rfl (Iat f10 f9)) (Iat f13 f12)) (by decide)); subst ix3; clear f49)
  | (have ix3 : n23 = (7 * (hV H0 285 32)) + hV H1 294 (hV H0 285 32).toNat := Eq.trans f49 (w32_id (by omega) (by omega)); subst ix3; clear f49)
  | (unfold w32 at f49; have ix3 : n23 = (7 * (hV H0 285 32)) + hV H1 294 (hV H0 285 32).toNat := (by omega); subst ix3)
  | skip
  try unfold w32 at f22
  try unfold w32 at f31
  try unfold w32 at f40
  try unfold w32 at f49

  refine ⟨?_, ?_, ?_, ?_, ?_, ?_⟩
  · exact y0
  · exact y1
  · (try clear y0 y1 y2 p0 p1 p4)
    first | exact True.intro | omega
  · (try clear y0 y1 y2 p0 p1 p4)
    first | exact True.intro | omega
  · intro z1 z2
    exact y2 (by omega) (by omega)
  · (try clear y0 y1 y2 p0 p1 p4)
    first
    | omega
    | (refine ⟨?_, ?_⟩ <;> first | exact True.intro | omega)
def g_225_43_3 : vG := ([(80, [1, 24, 23], [3, 2], 0), (0, [24], [], 33), (1, [23, 19, 22], [], 0), (22, [22, 20, 21], [2], 0), (90, [22], [], 0), (91, [22], [], 6), (20, [21, 1], [2], 32), (90, [21], [], 0), (91, [21], [], 7), (20, [20, 1], [2], 20), (0, [20], [], 294), (3, [19, 17, 18], [], 0), (20, [18, 1], [2], 32), (90, [18], [], 0), (91, [18], [], 7), (0, [17], [], 7), (80, [7, 14, 16], [2, 1], 1), (22, [16, 15, 2], [1], 0), (20, [15, 1], [1], 8), (0, [15], [], 291), (1, [14, 10, 13], [], 0), (22, [13, 11, 12], [1], 0), (90, [13], [], 0), (91, [13], [], 6), (20, [12, 1], [1], 32), (90, [12], [], 0), (91, [12], [], 7), (20, [11, 1], [1], 20), (0, [11], [], 294), (3, [10, 8, 9], [], 0), (20, [9, 1], [1], 32), (90, [9], [], 0), (91, [9], [], 7), (0, [8], [], 6), (20, [7, 1], [1], 21), (0, [7], [], 295), (43, [3, 6], [], 0), (22, [6, 4, 5], [1], 0), (90, [6], [], 0), (91, [6], [], 6), (20, [5, 1], [1], 32), (90, [5], [], 0), (91, [5], [], 7), (20, [4, 1], [1], 20), (0, [4], [], 294), (5000, [0, 1, 2, 3], [0, 1], 43), (0, [0], [], 285), (0, [1], [], 285), (90, [2], [], 0), (91, [2], [], 500), (90, [3], [], 0), (91, [3], [], 6)], (2226, [1], [3], 0))
theorem c_225_43_3 {q0 : Nat} : vOkm T0 (eP e_225 L_225 A_225 mu_225 (some q0)) 1 g_225_43_3 := vOk_inI fun ρ η f0 f1 f2 f3 f4 f5 f6 f7 f8 f9 f10 f11 f12 f13 f14 f15 f16 f17 f18 f19 f20 f21 f22 f23 f24 f25 f26 f27 f28 f29 f30 f31 f32 f33 f34 f35 f36 f37 f38 f39 f40 f41 f42 f43 f44 f45 f46 f47 f48 f49 f50 f51 => q_225_7 (q0 := q0) (n0 := ρ 3) (n1 := ρ 2) (n2 := ρ 1) (n3 := ρ 0) (n4 := ρ 4) (n5 := ρ 5) (n6 := ρ 6) (n7 := ρ 7) (n8 := ρ 8) (n9 := ρ 9) (n10 := ρ 10) (n11 := ρ 11) (n12 := ρ 12) (n13 := ρ 13) (n14 := ρ 14) (n15 := ρ 15) (n16 := ρ 16) (n17 := ρ 17) (n18 := ρ 18) (n19 := ρ 19) (n20 := ρ 20) (n21 := ρ 21) (n22 := ρ 22) (n23 := ρ 23) (n24 := ρ 24) (H0 := η 0) (H1 := η 1) (H2 := η 2) (H3 := η 3) f51 f50 f49 f48 f47 f46 f45 f44 f43 f42 f41 f40 f39 f38 f37 f36 f35 f34 f33 f32 f31 f30 f29 f28 f27 f26 f25 f24 f23 f22 f21 f20 f19 f18 f17 f16 f15 f14 f13 f12 f11 f10 f9 f8 f7 f6 f5 f4 f3 f2 f1 f0
set_option maxHeartbeats 20000000 in
theorem q_225_8 {q0 : Nat} {n0 n1 n2 n3 n4 n5 n6 n7 n8 n9 n10 n11 n12 n13 n14 n15 n16 n17 n18 n19 n20 n21 n22 n23 n24 n25 n26 n27 n28 n29 : Int} {H0 H1 H2 H3 H4 : gH} (f0 : n0 ≤ 6) (f1 : 0 ≤ n0) (f2 : n1 ≤ 500) (f3 : 0 ≤ n1) (f4 : n2 = 285) (f5 : n3 = 285) (f6 : (hLe T0 H0 H1 ∧ hFr s_225.2.2.2.2 H0 H1 ∧ hWt T0 H1) ∧ (Ab_225_43 n3 n2 n1 n0 H0 H1 ∧ preb_225 n3 H0) ∧ some q0 = some (mub_225_43 n3 n2 n1 n0 H0 H1)) (f7 : n4 = 294) (f8 : n4 = hV H1 (n2).toNat 20) (f9 : n5 ≤ 7) (f10 : 0 ≤ n5) (f11 : n5 = hV H1 (n2).toNat 32) (f12 : n6 ≤ 6) (f13 : 0 ≤ n6) (f14 : n6 = hV H1 (n4).toNat (n5).toNat) (f15 : n6 ≤ n0) (f16 : n7 = 295) (f17 : n7 = hV H1 (n2).toNat 21) (f18 : n8 = 6) (f19 : n9 ≤ 7) (f20 : 0 ≤ n9) (f21 : n9 = hV H1 (n2).toNat 32) (f22 : n10 = w32 (n8 * n9)) (f23 : n11 = 294) (f24 : n11 = hV H1 (n2).toNat 20) (f25 : n12 ≤ 7) (f26 : 0 ≤ n12) (f27 : n12 = hV H1 (n2).toNat 32) (f28 : n13 ≤ 6) (f29 : 0 ≤ n13) (f30 : n13 = hV H1 (n11).toNat (n12).toNat) (f31 : n14 = w32 (n10 + n13)) (f32 : n15 = 291) (f33 : n15 = hV H1 (n2).toNat 8) (f34 : n16 = hV H1 (n15).toNat (n1).toNat) (f35 : hUpd H2 H1 n7 n14 n16) (f36 : n17 = 7) (f37 : n18 ≤ 7) (f38 : 0 ≤ n18) (f39 : n18 = hV H2 (n2).toNat 32) (f40 : n19 = w32 (n17 * n18)) (f41 : n20 = 294) (f42 : n20 = hV H2 (n2).toNat 20) (f43 : n21 ≤ 7) (f44 : 0 ≤ n21) (f45 : n21 = hV H2 (n2).toNat 32) (f46 : n22 ≤ 6) (f47 : 0 ≤ n22) (f48 : n22 = hV H2 (n20).toNat (n21).toNat) (f49 : n23 = w32 (n19 + n22)) (f50 : n24 = 33) (f51 : hUpd H3 H2 n2 n24 n23) (f52 : (hLe T0 H3 H4 ∧ hFr s_226.2.2.2.2 H3 H4 ∧ ((0 : Int) = 0 → H4.length = H3.length) ∧ hWt T0 H4) ∧ postb_226 n2 H3 H4) (f53 : n25 = 294) (f54 : n25 = hV H4 (n2).toNat 20) (f55 : n26 ≤ 7) (f56 : 0 ≤ n26) (f57 : n26 = hV H4 (n2).toNat 32) (f58 : n27 ≤ 6) (f59 : 0 ≤ n27) (f60 : n27 = hV H4 (n25).toNat (n26).toNat) (f61 : n28 = 1) (f62 : n29 = w32 (n27 + n28)) : 0 ≤ n29 := by
  have g4 := f6.2.1.1
  unfold Ab_225_43 at g4
  have g3 := f6.2.1.2
  unfold preb_225 at g3
  unfold postb_226 at f52
  have e1 : n5 = hV H0 285 32 := (by rw [f4] at f11; exact f11 : n5 = hV H1 285 32).trans ((f6.1.2.1.1 285 32 kF_225_285_32))
  have e2 : n6 = hV H1 294 (n5).toNat := (by rw [f7] at f14; exact f14 : n6 = hV H1 294 (n5).toNat)
  have e3 : n9 = hV H0 285 32 := (by rw [f4] at f21; exact f21 : n9 = hV H1 285 32).trans ((f6.1.2.1.1 285 32 kF_225_285_32))
  have e4 : n12 = hV H0 285 32 := (by rw [f4] at f27; exact f27 : n12 = hV H1 285 32).trans ((f6.1.2.1.1 285 32 kF_225_285_32))
  have e5 : n13 = hV H1 294 (n12).toNat := (by rw [f23] at f30; exact f30 : n13 = hV H1 294 (n12).toNat)
  have e7 : n16 = hV H0 291 (n1).toNat := (by rw [f32] at f34; exact f34 : n16 = hV H1 291 (n1).toNat).trans ((congrFun (fRow f6.1.2.1 291 kR_225_291) _))
  have e9 : n18 = hV H0 285 32 := (by rw [f4] at f39; exact f39 : n18 = hV H2 285 32).trans (((uPlace f35 285 32 (iS (show n7 = ((295 : Nat) : Int) from f16) rfl))).trans (f6.1.2.1.1 285 32 kF_225_285_32))
  have e10 : n21 = hV H0 285 32 := (by rw [f4] at f45; exact f45 : n21 = hV H2 285 32).trans (((uPlace f35 285 32 (iS (show n7 = ((295 : Nat) : Int) from f16) rfl))).trans (f6.1.2.1.1 285 32 kF_225_285_32))
  have e12 : n22 = hV H1 294 (n21).toNat := (by rw [f41] at f48; exact f48 : n22 = hV H2 294 (n21).toNat).trans ((congrFun (uRowNe f35 294 (iS (show n7 = ((295 : Nat) : Int) from f16) rfl)) _))
  have e15 : n26 = hV H0 285 32 := (by rw [f4] at f57; exact f57 : n26 = hV H4 285 32).trans (((f52.1.2.1.1 285 32 kF_226_285_32)).trans (((uSlot f51 285 32 (iS (show n24 = ((33 : Nat) : Int) from f50) rfl))).trans (((uPlace f35 285 32 (iS (show n7 = ((295 : Nat) : Int) from f16) rfl))).trans (f6.1.2.1.1 285 32 kF_225_285_32))))
  have e18 : n27 = hV H1 294 (n26).toNat := (by rw [f53] at f60; exact f60 : n27 = hV H4 294 (n26).toNat).trans (((congrFun (fRow f52.1.2.1 294 kR_226_294) _)).trans (((congrFun (uRowNe f51 294 (iS (show n2 = ((285 : Nat) : Int) from f4) rfl)) _)).trans ((congrFun (uRowNe f35 294 (iS (show n7 = ((295 : Nat) : Int) from f16) rfl)) _))))
  have e20 : hV H1 285 18 = hV H0 285 18 := (f6.1.2.1.1 285 18 kF_225_285_18)
  have e21 : hV H1 285 32 = hV H0 285 32 := (f6.1.2.1.1 285 32 kF_225_285_32)
  have e24 : hV H3 285 11 = hV H1 285 11 := ((uSlot f51 285 11 (iS (show n24 = ((33 : Nat) : Int) from f50) rfl))).trans (uPlace f35 285 11 (iS (show n7 = ((295 : Nat) : Int) from f16) rfl))
  have e27 : hV H3 285 13 = hV H1 285 13 := ((uSlot f51 285 13 (iS (show n24 = ((33 : Nat) : Int) from f50) rfl))).trans (uPlace f35 285 13 (iS (show n7 = ((295 : Nat) : Int) from f16) rfl))
  have e30 : hV H3 285 15 = hV H1 285 15 := ((uSlot f51 285 15 (iS (show n24 = ((33 : Nat) : Int) from f50) rfl))).trans (uPlace f35 285 15 (iS (show n7 = ((295 : Nat) : Int) from f16) rfl))
  have e31 : hV H4 285 32 = hV H0 285 32 := ((f52.1.2.1.1 285 32 kF_226_285_32)).trans (((uSlot f51 285 32 (iS (show n24 = ((33 : Nat) : Int) from f50) rfl))).trans (((uPlace f35 285 32 (iS (show n7 = ((295 : Nat) : Int) from f16) rfl))).trans (f6.1.2.1.1 285 32 kF_225_285_32)))
  have e34 : hV H4 285 33 = n23 := ((f52.1.2.1.1 285 33 kF_226_285_33)).trans (uSame f51 285 33 f4.symm f50.symm)
  have e36 : hV H4 294 = hV H1 294 := (fRow f52.1.2.1 294 kR_226_294).trans ((uRowNe f51 294 (iS (show n2 = ((285 : Nat) : Int) from f4) rfl)).trans (uRowNe f35 294 (iS (show n7 = ((295 : Nat) : Int) from f16) rfl)))
  have e37 : (0 : Int) ≤ hV H1 285 11 ∧ hV H1 285 11 ≤ 500 := f6.1.2.2 285 11 _ _ kW_285_11
  have e38 : (0 : Int) ≤ hV H1 285 13 ∧ hV H1 285 13 ≤ 2 := f6.1.2.2 285 13 _ _ kW_285_13
  have e39 : (0 : Int) ≤ hV H1 285 15 ∧ hV H1 285 15 ≤ 6 := f6.1.2.2 285 15 _ _ kW_285_15
  have e40 : (0 : Int) ≤ hV H0 285 18 ∧ hV H0 285 18 ≤ 8 := bTo e20 (f6.1.2.2 285 18 _ _ kW_285_18)
  have e41 : (0 : Int) ≤ hV H0 285 32 ∧ hV H0 285 32 ≤ 7 := bTo e21 (f6.1.2.2 285 32 _ _ kW_285_32)
  have e42 : (0 : Int) ≤ hV H1 285 33 ∧ hV H1 285 33 ≤ 62 := f6.1.2.2 285 33 _ _ kW_285_33
  have e43 : (0 : Int) ≤ hV H4 285 11 ∧ hV H4 285 11 ≤ 500 := f52.1.2.2.2 285 11 _ _ kW_285_11
  have e44 : (0 : Int) ≤ hV H4 285 13 ∧ hV H4 285 13 ≤ 2 := f52.1.2.2.2 285 13 _ _ kW_285_13
  have e45 : (0 : Int) ≤ hV H4 285 15 ∧ hV H4 285 15 ≤ 6 := f52.1.2.2.2 285 15 _ _ kW_285_15
  have e47 : (0 : Int) ≤ hV H4 285 33 ∧ hV H4 285 33 ≤ 62 := f52.1.2.2.2 285 33 _ _ kW_285_33
  try simp only [PB, PW]
  try simp only [e34] at e47
  have y0 := g4.1
  have y1 := g4.2.1
  have y2 := g4.2.2.1
  have y3 := g4.2.2.2.1
  have y4 := g4.2.2.2.2.1
  have y5 := g4.2.2.2.2.2.1
  have y6 := g4.2.2.2.2.2.2.1
  have y7 := g4.2.2.2.2.2.2.2.1
  have y8 := g4.2.2.2.2.2.2.2.2.1
  have y9 := g4.2.2.2.2.2.2.2.2.2
  have p0 := g3.1
  have p1 := g3.2.1
  have p2 := g3.2.2.1
  have p3 := g3.2.2.2.1
  have p4 := g3.2.2.2.2
  have r0_0 := f52.2.1
  have r0_1 := f52.2.2.1
  have r0_2 := f52.2.2.2.1
  have r0_3 := f52.2.2.2.2.1
  have r0_4 := f52.2.2.2.2.2.1
  have r0_5 := f52.2.2.2.2.2.2.1
  have r0_6 := f52.2.2.2.2.2.2.2.1
  have r0_7 := f52.2.2.2.2.2.2.2.2
  try simp only [PB] at y2
  try simp only [PB] at p4
  try simp only [PW] at r0_1
  try simp only [e21] at y2
  try simp only [e21] at y9
  try simp only [e31, e34, e36] at r0_1
  try simp only [e24] at r0_3
  try simp only [e24] at r0_4
  try simp only [e27] at r0_5
  try simp only [e30] at r0_6
  try simp only [e30] at r0_7
  clear g3
  clear g4
  have wb0 := (y1 (hV H0 285 32).toNat).1
  have wp0 := (y1 (hV H0 285 33).toNat).2
  try simp only [e20, e21] at wb0
  try simp only [e20, e21] at wp0
  clear f8 f11 f14 f17 f21 f24 f27 f30 f33 f34 f39 f42 f45 f48 f54 f57 f60 e20 e21 e24 e27 e30 e31 e36
  clear f6 f52
  subst e1
  subst e2
  subst e3
  subst e4
  subst e5
  subst e7
  subst e9
  subst e10
  subst e12
  subst e15
  subst e18
  rw [f18] at f22
  rw [f36] at f40
  first
  | (have ix0 : n10 = 6 * (hV H0 285 32) := Eq.trans f22 (w32_iv (Iml 6 rfl (Iat f10 f9)) (by decide)); subst ix0; clear f22)
  | (have ix0 : n10 = 6 * (hV H0 285 32) := Eq.trans f22 (w32_id (by omega) (by omega)); subst ix0; clear f22)
  | (unfold w32 at f22; have ix0 : n10 = 6 * (hV H0 285 32) := (by omega); subst ix0)
  | skip
  first
  | (have ix1 : n14 = (6 * (hV H0 285 32)) + hV H1 294 (hV H0 285 32).toNat := Eq.trans f31 (w32_iv (Iad (Iml 6 rfl (Iat f10 f9)) (Iat f13 f12)) (by decide)); subst ix1; clear f31)
  | (have ix1 : n14 = (6 * (hV H0 285 32)) + hV H1 294 (hV H0 285 32).toNat := Eq.trans f31 (w32_id (by omega) (by omega)); subst ix1; clear f31)
  | (unfold w32 at f31; have ix1 : n14 = (6 * (hV H0 285 32)) + hV H1 294 (hV H0 285 32).toNat := (by omega); subst ix1)
  | skip
  first
  | (have ix2 : n19 = 7 * (hV H0 285 32) := Eq.trans f40 (w32_iv (Iml 7 rfl (Iat f10 f9)) (by decide)); subst ix2; clear f40)
  | (have ix2 : n19 = 7 * (hV H0 285 32) := Eq.trans f40 (w32_id (by omega) (by omega)); subst ix2; clear f40)
  | (unfold w32 at f40; have ix2 : n19 = 7 * (hV H0 285 32) := (by omega); subst ix2)
  | skip
  first
  | (have ix3 : n23 = (7 * (hV H0 285 32)) + hV H1 294 (hV H0 285 32).toNat := Eq.trans f49 (w32_iv (Iad (Iml 7 rfl (Iat f10 f9)) (Iat f13 f12)) (by decide)); subst ix3; clear f49)
  | (have ix3 : n23 = (7 * (hV H0 285 32)) + hV H1 294 (hV H0 285 32).toNat := Eq.trans f49 (w32_id (by omega) (by omega)); subst ix3; clear f49)
  | (unfold w32 at f49; have ix3 : n23 = (7 * (hV H0 285 32)) + hV H1 294 (hV H0 285 32).toNat := (by omega); subst ix3)
  | skip
  first
  | (have ix4 : n29 = hV H1 294 (hV H0 285 32).toNat + 1 := Eq.trans f62 (w32_iv (Iad (Iat f13 f12) (IC 1)) (by decide)); subst ix4; clear f62)
  | (have ix4 : n29 = hV H1 294 (hV H0 285 32).toNat + 1 := Eq.trans f62 (w32_id (by omega) (by omega)); subst ix4; clear f62)
  | (unfold w32 at f62; have ix4 : n29 = hV H1 294 (hV H0 285 32).toNat + 1 := (by omega); subst ix4)
  | skip
  try unfold w32 at f22
  try unfold w32 at f31
  try unfold w32 at f40
  try unfold w32 at f49
  try unfold w32 at f62

  (try clear y0 y1 y2 p0 p1 p4 r0_0 r0_1 r0_2)
  omega
def g_225_43_4 : vG := ([(1, [29, 27, 28], [], 0), (0, [28], [], 1), (22, [27, 25, 26], [4], 0), (90, [27], [], 0), (91, [27], [], 6), (20, [26, 1], [4], 32), (90, [26], [], 0), (91, [26], [], 7), (20, [25, 1], [4], 20), (0, [25], [], 294), (1226, [1], [3, 4], 0), (80, [1, 24, 23], [3, 2], 0), (0, [24], [], 33), (1, [23, 19, 22], [], 0), (22, [22, 20, 21], [2], 0), (90, [22], [], 0), (91, [22], [], 6), (20, [21, 1], [2], 32), (90, [21], [], 0), (91, [21], [], 7), (20, [20, 1], [2], 20), (0, [20], [], 294), (3, [19, 17, 18], [], 0), (20, [18, 1], [2], 32), (90, [18], [], 0), (91, [18], [], 7), (0, [17], [], 7), (80, [7, 14, 16], [2, 1], 1), (22, [16, 15, 2], [1], 0), (20, [15, 1], [1], 8), (0, [15], [], 291), (1, [14, 10, 13], [], 0), (22, [13, 11, 12], [1], 0), (90, [13], [], 0), (91, [13], [], 6), (20, [12, 1], [1], 32), (90, [12], [], 0), (91, [12], [], 7), (20, [11, 1], [1], 20), (0, [11], [], 294), (3, [10, 8, 9], [], 0), (20, [9, 1], [1], 32), (90, [9], [], 0), (91, [9], [], 7), (0, [8], [], 6), (20, [7, 1], [1], 21), (0, [7], [], 295), (43, [3, 6], [], 0), (22, [6, 4, 5], [1], 0), (90, [6], [], 0), (91, [6], [], 6), (20, [5, 1], [1], 32), (90, [5], [], 0), (91, [5], [], 7), (20, [4, 1], [1], 20), (0, [4], [], 294), (5000, [0, 1, 2, 3], [0, 1], 43), (0, [0], [], 285), (0, [1], [], 285), (90, [2], [], 0), (91, [2], [], 500), (90, [3], [], 0), (91, [3], [], 6)], (90, [29], [], 0))
theorem c_225_43_4 {q0 : Nat} : vOkm T0 (eP e_225 L_225 A_225 mu_225 (some q0)) 1 g_225_43_4 := vOk_inI fun ρ η f0 f1 f2 f3 f4 f5 f6 f7 f8 f9 f10 f11 f12 f13 f14 f15 f16 f17 f18 f19 f20 f21 f22 f23 f24 f25 f26 f27 f28 f29 f30 f31 f32 f33 f34 f35 f36 f37 f38 f39 f40 f41 f42 f43 f44 f45 f46 f47 f48 f49 f50 f51 f52 f53 f54 f55 f56 f57 f58 f59 f60 f61 f62 => q_225_8 (q0 := q0) (n0 := ρ 3) (n1 := ρ 2) (n2 := ρ 1) (n3 := ρ 0) (n4 := ρ 4) (n5 := ρ 5) (n6 := ρ 6) (n7 := ρ 7) (n8 := ρ 8) (n9 := ρ 9) (n10 := ρ 10) (n11 := ρ 11) (n12 := ρ 12) (n13 := ρ 13) (n14 := ρ 14) (n15 := ρ 15) (n16 := ρ 16) (n17 := ρ 17) (n18 := ρ 18) (n19 := ρ 19) (n20 := ρ 20) (n21 := ρ 21) (n22 := ρ 22) (n23 := ρ 23) (n24 := ρ 24) (n25 := ρ 25) (n26 := ρ 26) (n27 := ρ 27) (n28 := ρ 28) (n29 := ρ 29) (H0 := η 0) (H1 := η 1) (H2 := η 2) (H3 := η 3) (H4 := η 4) f62 f61 f60 f59 f58 f57 f56 f55 f54 f53 f52 f51 f50 f49 f48 f47 f46 f45 f44 f43 f42 f41 f40 f39 f38 f37 f36 f35 f34 f33 f32 f31 f30 f29 f28 f27 f26 f25 f24 f23 f22 f21 f20 f19 f18 f17 f16 f15 f14 f13 f12 f11 f10 f9 f8 f7 f6 f5 f4 f3 f2 f1 f0
set_option maxHeartbeats 20000000 in
theorem q_225_9 {q0 : Nat} {n0 n1 n2 n3 n4 n5 n6 n7 n8 n9 n10 n11 n12 n13 n14 n15 n16 n17 n18 n19 n20 n21 n22 n23 n24 n25 n26 n27 n28 n29 : Int} {H0 H1 H2 H3 H4 : gH} (f0 : n0 ≤ 6) (f1 : 0 ≤ n0) (f2 : n1 ≤ 500) (f3 : 0 ≤ n1) (f4 : n2 = 285) (f5 : n3 = 285) (f6 : (hLe T0 H0 H1 ∧ hFr s_225.2.2.2.2 H0 H1 ∧ hWt T0 H1) ∧ (Ab_225_43 n3 n2 n1 n0 H0 H1 ∧ preb_225 n3 H0) ∧ some q0 = some (mub_225_43 n3 n2 n1 n0 H0 H1)) (f7 : n4 = 294) (f8 : n4 = hV H1 (n2).toNat 20) (f9 : n5 ≤ 7) (f10 : 0 ≤ n5) (f11 : n5 = hV H1 (n2).toNat 32) (f12 : n6 ≤ 6) (f13 : 0 ≤ n6) (f14 : n6 = hV H1 (n4).toNat (n5).toNat) (f15 : n6 ≤ n0) (f16 : n7 = 295) (f17 : n7 = hV H1 (n2).toNat 21) (f18 : n8 = 6) (f19 : n9 ≤ 7) (f20 : 0 ≤ n9) (f21 : n9 = hV H1 (n2).toNat 32) (f22 : n10 = w32 (n8 * n9)) (f23 : n11 = 294) (f24 : n11 = hV H1 (n2).toNat 20) (f25 : n12 ≤ 7) (f26 : 0 ≤ n12) (f27 : n12 = hV H1 (n2).toNat 32) (f28 : n13 ≤ 6) (f29 : 0 ≤ n13) (f30 : n13 = hV H1 (n11).toNat (n12).toNat) (f31 : n14 = w32 (n10 + n13)) (f32 : n15 = 291) (f33 : n15 = hV H1 (n2).toNat 8) (f34 : n16 = hV H1 (n15).toNat (n1).toNat) (f35 : hUpd H2 H1 n7 n14 n16) (f36 : n17 = 7) (f37 : n18 ≤ 7) (f38 : 0 ≤ n18) (f39 : n18 = hV H2 (n2).toNat 32) (f40 : n19 = w32 (n17 * n18)) (f41 : n20 = 294) (f42 : n20 = hV H2 (n2).toNat 20) (f43 : n21 ≤ 7) (f44 : 0 ≤ n21) (f45 : n21 = hV H2 (n2).toNat 32) (f46 : n22 ≤ 6) (f47 : 0 ≤ n22) (f48 : n22 = hV H2 (n20).toNat (n21).toNat) (f49 : n23 = w32 (n19 + n22)) (f50 : n24 = 33) (f51 : hUpd H3 H2 n2 n24 n23) (f52 : (hLe T0 H3 H4 ∧ hFr s_226.2.2.2.2 H3 H4 ∧ ((0 : Int) = 0 → H4.length = H3.length) ∧ hWt T0 H4) ∧ postb_226 n2 H3 H4) (f53 : n25 = 294) (f54 : n25 = hV H4 (n2).toNat 20) (f55 : n26 ≤ 7) (f56 : 0 ≤ n26) (f57 : n26 = hV H4 (n2).toNat 32) (f58 : n27 ≤ 6) (f59 : 0 ≤ n27) (f60 : n27 = hV H4 (n25).toNat (n26).toNat) (f61 : n28 = 1) (f62 : n29 = w32 (n27 + n28)) : n29 ≤ 6 := by
  have g4 := f6.2.1.1
  unfold Ab_225_43 at g4
  have g3 := f6.2.1.2
  unfold preb_225 at g3
  unfold postb_226 at f52
  have e1 : n5 = hV H0 285 32 := (by rw [f4] at f11; exact f11 : n5 = hV H1 285 32).trans ((f6.1.2.1.1 285 32 kF_225_285_32))
  have e2 : n6 = hV H1 294 (n5).toNat := (by rw [f7] at f14; exact f14 : n6 = hV H1 294 (n5).toNat)
  have e3 : n9 = hV H0 285 32 := (by rw [f4] at f21; exact f21 : n9 = hV H1 285 32).trans ((f6.1.2.1.1 285 32 kF_225_285_32))
  have e4 : n12 = hV H0 285 32 := (by rw [f4] at f27; exact f27 : n12 = hV H1 285 32).trans ((f6.1.2.1.1 285 32 kF_225_285_32))
  have e5 : n13 = hV H1 294 (n12).toNat := (by rw [f23] at f30; exact f30 : n13 = hV H1 294 (n12).toNat)
  have e7 : n16 = hV H0 291 (n1).toNat := (by rw [f32] at f34; exact f34 : n16 = hV H1 291 (n1).toNat).trans ((congrFun (fRow f6.1.2.1 291 kR_225_291) _))
  have e9 : n18 = hV H0 285 32 := (by rw [f4] at f39; exact f39 : n18 = hV H2 285 32).trans (((uPlace f35 285 32 (iS (show n7 = ((295 : Nat) : Int) from f16) rfl))).trans (f6.1.2.1.1 285 32 kF_225_285_32))
  have e10 : n21 = hV H0 285 32 := (by rw [f4] at f45; exact f45 : n21 = hV H2 285 32).trans (((uPlace f35 285 32 (iS (show n7 = ((295 : Nat) : Int) from f16) rfl))).trans (f6.1.2.1.1 285 32 kF_225_285_32))
  have e12 : n22 = hV H1 294 (n21).toNat := (by rw [f41] at f48; exact f48 : n22 = hV H2 294 (n21).toNat).trans ((congrFun (uRowNe f35 294 (iS (show n7 = ((295 : Nat) : Int) from f16) rfl)) _))
  have e15 : n26 = hV H0 285 32 := (by rw [f4] at f57; exact f57 : n26 = hV H4 285 32).trans (((f52.1.2.1.1 285 32 kF_226_285_32)).trans (((uSlot f51 285 32 (iS (show n24 = ((33 : Nat) : Int) from f50) rfl))).trans (((uPlace f35 285 32 (iS (show n7 = ((295 : Nat) : Int) from f16) rfl))).trans (f6.1.2.1.1 285 32 kF_225_285_32))))
  have e18 : n27 = hV H1 294 (n26).toNat := (by rw [f53] at f60; exact f60 : n27 = hV H4 294 (n26).toNat).trans (((congrFun (fRow f52.1.2.1 294 kR_226_294) _)).trans (((congrFun (uRowNe f51 294 (iS (show n2 = ((285 : Nat) : Int) from f4) rfl)) _)).trans ((congrFun (uRowNe f35 294 (iS (show n7 = ((295 : Nat) : Int) from f16) rfl)) _))))
  have e20 : hV H1 285 18 = hV H0 285 18 := (f6.1.2.1.1 285 18 kF_225_285_18)
  have e21 : hV H1 285 32 = hV H0 285 32 := (f6.1.2.1.1 285 32 kF_225_285_32)
  have e24 : hV H3 285 11 = hV H1 285 11 := ((uSlot f51 285 11 (iS (show n24 = ((33 : Nat) : Int) from f50) rfl))).trans (uPlace f35 285 11 (iS (show n7 = ((295 : Nat) : Int) from f16) rfl))
  have e27 : hV H3 285 13 = hV H1 285 13 := ((uSlot f51 285 13 (iS (show n24 = ((33 : Nat) : Int) from f50) rfl))).trans (uPlace f35 285 13 (iS (show n7 = ((295 : Nat) : Int) from f16) rfl))
  have e30 : hV H3 285 15 = hV H1 285 15 := ((uSlot f51 285 15 (iS (show n24 = ((33 : Nat) : Int) from f50) rfl))).trans (uPlace f35 285 15 (iS (show n7 = ((295 : Nat) : Int) from f16) rfl))
  have e31 : hV H4 285 32 = hV H0 285 32 := ((f52.1.2.1.1 285 32 kF_226_285_32)).trans (((uSlot f51 285 32 (iS (show n24 = ((33 : Nat) : Int) from f50) rfl))).trans (((uPlace f35 285 32 (iS (show n7 = ((295 : Nat) : Int) from f16) rfl))).trans (f6.1.2.1.1 285 32 kF_225_285_32)))
  have e34 : hV H4 285 33 = n23 := ((f52.1.2.1.1 285 33 kF_226_285_33)).trans (uSame f51 285 33 f4.symm f50.symm)
  have e36 : hV H4 294 = hV H1 294 := (fRow f52.1.2.1 294 kR_226_294).trans ((uRowNe f51 294 (iS (show n2 = ((285 : Nat) : Int) from f4) rfl)).trans (uRowNe f35 294 (iS (show n7 = ((295 : Nat) : Int) from f16) rfl)))
  have e37 : (0 : Int) ≤ hV H1 285 11 ∧ hV H1 285 11 ≤ 500 := f6.1.2.2 285 11 _ _ kW_285_11
  have e38 : (0 : Int) ≤ hV H1 285 13 ∧ hV H1 285 13 ≤ 2 := f6.1.2.2 285 13 _ _ kW_285_13
  have e39 : (0 : Int) ≤ hV H1 285 15 ∧ hV H1 285 15 ≤ 6 := f6.1.2.2 285 15 _ _ kW_285_15
  have e40 : (0 : Int) ≤ hV H0 285 18 ∧ hV H0 285 18 ≤ 8 := bTo e20 (f6.1.2.2 285 18 _ _ kW_285_18)
  have e41 : (0 : Int) ≤ hV H0 285 32 ∧ hV H0 285 32 ≤ 7 := bTo e21 (f6.1.2.2 285 32 _ _ kW_285_32)
  have e42 : (0 : Int) ≤ hV H1 285 33 ∧ hV H1 285 33 ≤ 62 := f6.1.2.2 285 33 _ _ kW_285_33
  have e43 : (0 : Int) ≤ hV H4 285 11 ∧ hV H4 285 11 ≤ 500 := f52.1.2.2.2 285 11 _ _ kW_285_11
  have e44 : (0 : Int) ≤ hV H4 285 13 ∧ hV H4 285 13 ≤ 2 := f52.1.2.2.2 285 13 _ _ kW_285_13
  have e45 : (0 : Int) ≤ hV H4 285 15 ∧ hV H4 285 15 ≤ 6 := f52.1.2.2.2 285 15 _ _ kW_285_15
  have e47 : (0 : Int) ≤ hV H4 285 33 ∧ hV H4 285 33 ≤ 62 := f52.1.2.2.2 285 33 _ _ kW_285_33
  try simp only [PB, PW]
  try simp only [e34] at e47
  have y0 := g4.1
  have y1 := g4.2.1
  have y2 := g4.2.2.1
  have y3 := g4.2.2.2.1
  have y4 := g4.2.2.2.2.1
  have y5 := g4.2.2.2.2.2.1
  have y6 := g4.2.2.2.2.2.2.1
  have y7 := g4.2.2.2.2.2.2.2.1
  have y8 := g4.2.2.2.2.2.2.2.2.1
  have y9 := g4.2.2.2.2.2.2.2.2.2
  have p0 := g3.1
  have p1 := g3.2.1
  have p2 := g3.2.2.1
  have p3 := g3.2.2.2.1
  have p4 := g3.2.2.2.2
  have r0_0 := f52.2.1
  have r0_1 := f52.2.2.1
  have r0_2 := f52.2.2.2.1
  have r0_3 := f52.2.2.2.2.1
  have r0_4 := f52.2.2.2.2.2.1
  have r0_5 := f52.2.2.2.2.2.2.1
  have r0_6 := f52.2.2.2.2.2.2.2.1
  have r0_7 := f52.2.2.2.2.2.2.2.2
  try simp only [PB] at y2
  try simp only [PB] at p4
  try simp only [PW] at r0_1
  try simp only [e21] at y2
  try simp only [e21] at y9
  try simp only [e31, e34, e36] at r0_1
  try simp only [e24] at r0_3
  try simp only [e24] at r0_4
  try simp only [e27] at r0_5
  try simp only [e30] at r0_6
  try simp only [e30] at r0_7
  clear g3
  clear g4
  have wb0 := (y1 (hV H0 285 32).toNat).1
  have wp0 := (y1 (hV H0 285 33).toNat).2
  try simp only [e20, e21] at wb0
  try simp only [e20, e21] at wp0
  clear f8 f11 f14 f17 f21 f24 f27 f30 f33 f34 f39 f42 f45 f48 f54 f57 f60 e20 e21 e24 e27 e30 e31 e36
  clear f6 f52
  subst e1
  subst e2
  subst e3
  subst e4
  subst e5
  subst e7
  subst e9
  subst e10
  subst e12
  subst e15
  subst e18
  rw [f18] at f22
  rw [f36] at f40
  first
  | (have ix0 : n10 = 6 * (hV H0 285 32) := Eq.trans f22 (w32_iv (Iml 6 rfl (Iat f10 f9)) (by decide)); subst ix0; clear f22)
  | (have ix0 : n10 = 6 * (hV H0 285 32) := Eq.trans f22 (w32_id (by omega) (by omega)); subst ix0; clear f22)
  | (unfold w32 at f22; have ix0 : n10 = 6 * (hV H0 285 32) := (by omega); subst ix0)
  | skip
  first
  | (have ix1 : n14 = (6 * (hV H0 285 32)) + hV H1 294 (hV H0 285 32).toNat := Eq.trans f31 (w32_iv (Iad (Iml 6 rfl (Iat f10 f9)) (Iat f13 f12)) (by decide)); subst ix1; clear f31)
  | (have ix1 : n14 = (6 * (hV H0 285 32)) + hV H1 294 (hV H0 285 32).toNat := Eq.trans f31 (w32_id (by omega) (by omega)); subst ix1; clear f31)
  | (unfold w32 at f31; have ix1 : n14 = (6 * (hV H0 285 32)) + hV H1 294 (hV H0 285 32).toNat := (by omega); subst ix1)
  | skip
  first
  | (have ix2 : n19 = 7 * (hV H0 285 32) := Eq.trans f40 (w32_iv (Iml 7 rfl (Iat f10 f9)) (by decide)); subst ix2; clear f40)
  | (have ix2 : n19 = 7 * (hV H0 285 32) := Eq.trans f40 (w32_id (by omega) (by omega)); subst ix2; clear f40)
  | (unfold w32 at f40; have ix2 : n19 = 7 * (hV H0 285 32) := (by omega); subst ix2)
  | skip
  first
  | (have ix3 : n23 = (7 * (hV H0 285 32)) + hV H1 294 (hV H0 285 32).toNat := Eq.trans f49 (w32_iv (Iad (Iml 7 rfl (Iat f10 f9)) (Iat f13 f12)) (by decide)); subst ix3; clear f49)
  | (have ix3 : n23 = (7 * (hV H0 285 32)) + hV H1 294 (hV H0 285 32).toNat := Eq.trans f49 (w32_id (by omega) (by omega)); subst ix3; clear f49)
  | (unfold w32 at f49; have ix3 : n23 = (7 * (hV H0 285 32)) + hV H1 294 (hV H0 285 32).toNat := (by omega); subst ix3)
  | skip
  first
  | (have ix4 : n29 = hV H1 294 (hV H0 285 32).toNat + 1 := Eq.trans f62 (w32_iv (Iad (Iat f13 f12) (IC 1)) (by decide)); subst ix4; clear f62)
  | (have ix4 : n29 = hV H1 294 (hV H0 285 32).toNat + 1 := Eq.trans f62 (w32_id (by omega) (by omega)); subst ix4; clear f62)
  | (unfold w32 at f62; have ix4 : n29 = hV H1 294 (hV H0 285 32).toNat + 1 := (by omega); subst ix4)
  | skip
  try unfold w32 at f22
  try unfold w32 at f31
  try unfold w32 at f40
  try unfold w32 at f49
  try unfold w32 at f62

  (try clear y0 y1 y2 p0 p1 p4 r0_0 r0_1 r0_2)
  omega
def g_225_43_5 : vG := ([(1, [29, 27, 28], [], 0), (0, [28], [], 1), (22, [27, 25, 26], [4], 0), (90, [27], [], 0), (91, [27], [], 6), (20, [26, 1], [4], 32), (90, [26], [], 0), (91, [26], [], 7), (20, [25, 1], [4], 20), (0, [25], [], 294), (1226, [1], [3, 4], 0), (80, [1, 24, 23], [3, 2], 0), (0, [24], [], 33), (1, [23, 19, 22], [], 0), (22, [22, 20, 21], [2], 0), (90, [22], [], 0), (91, [22], [], 6), (20, [21, 1], [2], 32), (90, [21], [], 0), (91, [21], [], 7), (20, [20, 1], [2], 20), (0, [20], [], 294), (3, [19, 17, 18], [], 0), (20, [18, 1], [2], 32), (90, [18], [], 0), (91, [18], [], 7), (0, [17], [], 7), (80, [7, 14, 16], [2, 1], 1), (22, [16, 15, 2], [1], 0), (20, [15, 1], [1], 8), (0, [15], [], 291), (1, [14, 10, 13], [], 0), (22, [13, 11, 12], [1], 0), (90, [13], [], 0), (91, [13], [], 6), (20, [12, 1], [1], 32), (90, [12], [], 0), (91, [12], [], 7), (20, [11, 1], [1], 20), (0, [11], [], 294), (3, [10, 8, 9], [], 0), (20, [9, 1], [1], 32), (90, [9], [], 0), (91, [9], [], 7), (0, [8], [], 6), (20, [7, 1], [1], 21), (0, [7], [], 295), (43, [3, 6], [], 0), (22, [6, 4, 5], [1], 0), (90, [6], [], 0), (91, [6], [], 6), (20, [5, 1], [1], 32), (90, [5], [], 0), (91, [5], [], 7), (20, [4, 1], [1], 20), (0, [4], [], 294), (5000, [0, 1, 2, 3], [0, 1], 43), (0, [0], [], 285), (0, [1], [], 285), (90, [2], [], 0), (91, [2], [], 500), (90, [3], [], 0), (91, [3], [], 6)], (91, [29], [], 6))
theorem c_225_43_5 {q0 : Nat} : vOkm T0 (eP e_225 L_225 A_225 mu_225 (some q0)) 1 g_225_43_5 := vOk_inI fun ρ η f0 f1 f2 f3 f4 f5 f6 f7 f8 f9 f10 f11 f12 f13 f14 f15 f16 f17 f18 f19 f20 f21 f22 f23 f24 f25 f26 f27 f28 f29 f30 f31 f32 f33 f34 f35 f36 f37 f38 f39 f40 f41 f42 f43 f44 f45 f46 f47 f48 f49 f50 f51 f52 f53 f54 f55 f56 f57 f58 f59 f60 f61 f62 => q_225_9 (q0 := q0) (n0 := ρ 3) (n1 := ρ 2) (n2 := ρ 1) (n3 := ρ 0) (n4 := ρ 4) (n5 := ρ 5) (n6 := ρ 6) (n7 := ρ 7) (n8 := ρ 8) (n9 := ρ 9) (n10 := ρ 10) (n11 := ρ 11) (n12 := ρ 12) (n13 := ρ 13) (n14 := ρ 14) (n15 := ρ 15) (n16 := ρ 16) (n17 := ρ 17) (n18 := ρ 18) (n19 := ρ 19) (n20 := ρ 20) (n21 := ρ 21) (n22 := ρ 22) (n23 := ρ 23) (n24 := ρ 24) (n25 := ρ 25) (n26 := ρ 26) (n27 := ρ 27) (n28 := ρ 28) (n29 := ρ 29) (H0 := η 0) (H1 := η 1) (H2 := η 2) (H3 := η 3) (H4 := η 4) f62 f61 f60 f59 f58 f57 f56 f55 f54 f53 f52 f51 f50 f49 f48 f47 f46 f45 f44 f43 f42 f41 f40 f39 f38 f37 f36 f35 f34 f33 f32 f31 f30 f29 f28 f27 f26 f25 f24 f23 f22 f21 f20 f19 f18 f17 f16 f15 f14 f13 f12 f11 f10 f9 f8 f7 f6 f5 f4 f3 f2 f1 f0
set_option maxHeartbeats 20000000 in
theorem kR_225_328 : vFreeR s_225.2.2.2.2 328 = true := by decide +kernel
theorem kR_225_332 : vFreeR s_225.2.2.2.2 332 = true := by decide +kernel
theorem kR_225_335 : vFreeR s_225.2.2.2.2 335 = true := by decide +kernel
theorem kR_226_328 : vFreeR s_226.2.2.2.2 328 = true := by decide +kernel
theorem kR_226_332 : vFreeR s_226.2.2.2.2 332 = true := by decide +kernel
theorem kR_226_335 : vFreeR s_226.2.2.2.2 335 = true := by decide +kernel
theorem kF_225_285_64 : vFree s_225.2.2.2.2 285 64 = true := by decide +kernel
theorem kF_226_285_64 : vFree s_226.2.2.2.2 285 64 = true := by decide +kernel
theorem q_225_10 {q0 : Nat} {n0 n1 n2 n3 n4 n5 n6 n7 n8 n9 n10 n11 n12 n13 n14 n15 n16 n17 n18 n19 n20 n21 n22 n23 n24 n25 n26 n27 n28 n29 : Int} {H0 H1 H2 H3 H4 H5 : gH} (f0 : n0 ≤ 6) (f1 : 0 ≤ n0) (f2 : n1 ≤ 500) (f3 : 0 ≤ n1) (f4 : n2 = 285) (f5 : n3 = 285) (f6 : (hLe T0 H0 H1 ∧ hFr s_225.2.2.2.2 H0 H1 ∧ hWt T0 H1) ∧ (Ab_225_43 n3 n2 n1 n0 H0 H1 ∧ preb_225 n3 H0) ∧ some q0 = some (mub_225_43 n3 n2 n1 n0 H0 H1)) (f7 : n4 = 294) (f8 : n4 = hV H1 (n2).toNat 20) (f9 : n5 ≤ 7) (f10 : 0 ≤ n5) (f11 : n5 = hV H1 (n2).toNat 32) (f12 : n6 ≤ 6) (f13 : 0 ≤ n6) (f14 : n6 = hV H1 (n4).toNat (n5).toNat) (f15 : n6 ≤ n0) (f16 : n7 = 295) (f17 : n7 = hV H1 (n2).toNat 21) (f18 : n8 = 6) (f19 : n9 ≤ 7) (f20 : 0 ≤ n9) (f21 : n9 = hV H1 (n2).toNat 32) (f22 : n10 = w32 (n8 * n9)) (f23 : n11 = 294) (f24 : n11 = hV H1 (n2).toNat 20) (f25 : n12 ≤ 7) (f26 : 0 ≤ n12) (f27 : n12 = hV H1 (n2).toNat 32) (f28 : n13 ≤ 6) (f29 : 0 ≤ n13) (f30 : n13 = hV H1 (n11).toNat (n12).toNat) (f31 : n14 = w32 (n10 + n13)) (f32 : n15 = 291) (f33 : n15 = hV H1 (n2).toNat 8) (f34 : n16 = hV H1 (n15).toNat (n1).toNat) (f35 : hUpd H2 H1 n7 n14 n16) (f36 : n17 = 7) (f37 : n18 ≤ 7) (f38 : 0 ≤ n18) (f39 : n18 = hV H2 (n2).toNat 32) (f40 : n19 = w32 (n17 * n18)) (f41 : n20 = 294) (f42 : n20 = hV H2 (n2).toNat 20) (f43 : n21 ≤ 7) (f44 : 0 ≤ n21) (f45 : n21 = hV H2 (n2).toNat 32) (f46 : n22 ≤ 6) (f47 : 0 ≤ n22) (f48 : n22 = hV H2 (n20).toNat (n21).toNat) (f49 : n23 = w32 (n19 + n22)) (f50 : n24 = 33) (f51 : hUpd H3 H2 n2 n24 n23) (f52 : (hLe T0 H3 H4 ∧ hFr s_226.2.2.2.2 H3 H4 ∧ ((0 : Int) = 0 → H4.length = H3.length) ∧ hWt T0 H4) ∧ postb_226 n2 H3 H4) (f53 : n25 = 294) (f54 : n25 = hV H4 (n2).toNat 20) (f55 : n26 ≤ 7) (f56 : 0 ≤ n26) (f57 : n26 = hV H4 (n2).toNat 32) (f58 : n27 ≤ 6) (f59 : 0 ≤ n27) (f60 : n27 = hV H4 (n25).toNat (n26).toNat) (f61 : n28 = 1) (f62 : n29 = w32 (n27 + n28)) (f63 : hUpd H5 H4 n25 n26 n29) : postb_225 n3 H0 H5 := by
  have g4 := f6.2.1.1
  unfold Ab_225_43 at g4
  have g3 := f6.2.1.2
  unfold preb_225 at g3
  unfold postb_226 at f52
  unfold postb_225
  have e1 : n5 = hV H0 285 32 := (by rw [f4] at f11; exact f11 : n5 = hV H1 285 32).trans ((f6.1.2.1.1 285 32 kF_225_285_32))
  have e2 : n6 = hV H1 294 (n5).toNat := (by rw [f7] at f14; exact f14 : n6 = hV H1 294 (n5).toNat)
  have e3 : n9 = hV H0 285 32 := (by rw [f4] at f21; exact f21 : n9 = hV H1 285 32).trans ((f6.1.2.1.1 285 32 kF_225_285_32))
  have e4 : n12 = hV H0 285 32 := (by rw [f4] at f27; exact f27 : n12 = hV H1 285 32).trans ((f6.1.2.1.1 285 32 kF_225_285_32))
  have e5 : n13 = hV H1 294 (n12).toNat := (by rw [f23] at f30; exact f30 : n13 = hV H1 294 (n12).toNat)
  have e7 : n16 = hV H0 291 (n1).toNat := (by rw [f32] at f34; exact f34 : n16 = hV H1 291 (n1).toNat).trans ((congrFun (fRow f6.1.2.1 291 kR_225_291) _))
  have e9 : n18 = hV H0 285 32 := (by rw [f4] at f39; exact f39 : n18 = hV H2 285 32).trans (((uPlace f35 285 32 (iS (show n7 = ((295 : Nat) : Int) from f16) rfl))).trans (f6.1.2.1.1 285 32 kF_225_285_32))
  have e10 : n21 = hV H0 285 32 := (by rw [f4] at f45; exact f45 : n21 = hV H2 285 32).trans (((uPlace f35 285 32 (iS (show n7 = ((295 : Nat) : Int) from f16) rfl))).trans (f6.1.2.1.1 285 32 kF_225_285_32))
  have e12 : n22 = hV H1 294 (n21).toNat := (by rw [f41] at f48; exact f48 : n22 = hV H2 294 (n21).toNat).trans ((congrFun (uRowNe f35 294 (iS (show n7 = ((295 : Nat) : Int) from f16) rfl)) _))
  have e15 : n26 = hV H0 285 32 := (by rw [f4] at f57; exact f57 : n26 = hV H4 285 32).trans (((f52.1.2.1.1 285 32 kF_226_285_32)).trans (((uSlot f51 285 32 (iS (show n24 = ((33 : Nat) : Int) from f50) rfl))).trans (((uPlace f35 285 32 (iS (show n7 = ((295 : Nat) : Int) from f16) rfl))).trans (f6.1.2.1.1 285 32 kF_225_285_32))))
  have e18 : n27 = hV H1 294 (n26).toNat := (by rw [f53] at f60; exact f60 : n27 = hV H4 294 (n26).toNat).trans (((congrFun (fRow f52.1.2.1 294 kR_226_294) _)).trans (((congrFun (uRowNe f51 294 (iS (show n2 = ((285 : Nat) : Int) from f4) rfl)) _)).trans ((congrFun (uRowNe f35 294 (iS (show n7 = ((295 : Nat) : Int) from f16) rfl)) _))))
  have e20 : hV H1 285 18 = hV H0 285 18 := (f6.1.2.1.1 285 18 kF_225_285_18)
  have e21 : hV H1 285 32 = hV H0 285 32 := (f6.1.2.1.1 285 32 kF_225_285_32)
  have e23 : hV H1 285 64 = hV H0 285 64 := (f6.1.2.1.1 285 64 kF_225_285_64)
  have e24 : hV H1 328 = hV H0 328 := fRow f6.1.2.1 328 kR_225_328
  have e25 : hV H1 332 = hV H0 332 := fRow f6.1.2.1 332 kR_225_332
  have e26 : hV H1 335 = hV H0 335 := fRow f6.1.2.1 335 kR_225_335
  have e29 : hV H3 285 11 = hV H1 285 11 := ((uSlot f51 285 11 (iS (show n24 = ((33 : Nat) : Int) from f50) rfl))).trans (uPlace f35 285 11 (iS (show n7 = ((295 : Nat) : Int) from f16) rfl))
  have e32 : hV H3 285 13 = hV H1 285 13 := ((uSlot f51 285 13 (iS (show n24 = ((33 : Nat) : Int) from f50) rfl))).trans (uPlace f35 285 13 (iS (show n7 = ((295 : Nat) : Int) from f16) rfl))
  have e35 : hV H3 285 15 = hV H1 285 15 := ((uSlot f51 285 15 (iS (show n24 = ((33 : Nat) : Int) from f50) rfl))).trans (uPlace f35 285 15 (iS (show n7 = ((295 : Nat) : Int) from f16) rfl))
  have e39 : hV H4 285 18 = hV H0 285 18 := ((f52.1.2.1.1 285 18 kF_226_285_18)).trans (((uSlot f51 285 18 (iS (show n24 = ((33 : Nat) : Int) from f50) rfl))).trans (((uPlace f35 285 18 (iS (show n7 = ((295 : Nat) : Int) from f16) rfl))).trans (f6.1.2.1.1 285 18 kF_225_285_18)))
  have e40 : hV H4 285 32 = hV H0 285 32 := ((f52.1.2.1.1 285 32 kF_226_285_32)).trans (((uSlot f51 285 32 (iS (show n24 = ((33 : Nat) : Int) from f50) rfl))).trans (((uPlace f35 285 32 (iS (show n7 = ((295 : Nat) : Int) from f16) rfl))).trans (f6.1.2.1.1 285 32 kF_225_285_32)))
  have e43 : hV H4 285 33 = n23 := ((f52.1.2.1.1 285 33 kF_226_285_33)).trans (uSame f51 285 33 f4.symm f50.symm)
  have e47 : hV H4 285 64 = hV H0 285 64 := ((f52.1.2.1.1 285 64 kF_226_285_64)).trans (((uSlot f51 285 64 (iS (show n24 = ((33 : Nat) : Int) from f50) rfl))).trans (((uPlace f35 285 64 (iS (show n7 = ((295 : Nat) : Int) from f16) rfl))).trans (f6.1.2.1.1 285 64 kF_225_285_64)))
  have e49 : hV H4 294 = hV H1 294 := (fRow f52.1.2.1 294 kR_226_294).trans ((uRowNe f51 294 (iS (show n2 = ((285 : Nat) : Int) from f4) rfl)).trans (uRowNe f35 294 (iS (show n7 = ((295 : Nat) : Int) from f16) rfl)))
  have e55 : hV H4 328 = hV H0 328 := (fRow f52.1.2.1 328 kR_226_328).trans ((uRowNe f51 328 (iS (show n2 = ((285 : Nat) : Int) from f4) rfl)).trans ((uRowNe f35 328 (iS (show n7 = ((295 : Nat) : Int) from f16) rfl)).trans e24))
  have e61 : hV H4 332 = hV H0 332 := (fRow f52.1.2.1 332 kR_226_332).trans ((uRowNe f51 332 (iS (show n2 = ((285 : Nat) : Int) from f4) rfl)).trans ((uRowNe f35 332 (iS (show n7 = ((295 : Nat) : Int) from f16) rfl)).trans e25))
  have e67 : hV H4 335 = hV H0 335 := (fRow f52.1.2.1 335 kR_226_335).trans ((uRowNe f51 335 (iS (show n2 = ((285 : Nat) : Int) from f4) rfl)).trans ((uRowNe f35 335 (iS (show n7 = ((295 : Nat) : Int) from f16) rfl)).trans e26))
  have e69 : hV H5 285 11 = hV H4 285 11 := (uPlace f63 285 11 (iS (show n25 = ((294 : Nat) : Int) from f53) rfl))
  have e71 : hV H5 285 13 = hV H4 285 13 := (uPlace f63 285 13 (iS (show n25 = ((294 : Nat) : Int) from f53) rfl))
  have e73 : hV H5 285 15 = hV H4 285 15 := (uPlace f63 285 15 (iS (show n25 = ((294 : Nat) : Int) from f53) rfl))
  have e75 : hV H5 285 18 = hV H0 285 18 := ((uPlace f63 285 18 (iS (show n25 = ((294 : Nat) : Int) from f53) rfl))).trans (((f52.1.2.1.1 285 18 kF_226_285_18)).trans (((uSlot f51 285 18 (iS (show n24 = ((33 : Nat) : Int) from f50) rfl))).trans (((uPlace f35 285 18 (iS (show n7 = ((295 : Nat) : Int) from f16) rfl))).trans (f6.1.2.1.1 285 18 kF_225_285_18))))
  have e77 : hV H5 285 32 = hV H0 285 32 := ((uPlace f63 285 32 (iS (show n25 = ((294 : Nat) : Int) from f53) rfl))).trans (((f52.1.2.1.1 285 32 kF_226_285_32)).trans (((uSlot f51 285 32 (iS (show n24 = ((33 : Nat) : Int) from f50) rfl))).trans (((uPlace f35 285 32 (iS (show n7 = ((295 : Nat) : Int) from f16) rfl))).trans (f6.1.2.1.1 285 32 kF_225_285_32))))
  have e79 : hV H5 285 64 = hV H0 285 64 := ((uPlace f63 285 64 (iS (show n25 = ((294 : Nat) : Int) from f53) rfl))).trans (((f52.1.2.1.1 285 64 kF_226_285_64)).trans (((uSlot f51 285 64 (iS (show n24 = ((33 : Nat) : Int) from f50) rfl))).trans (((uPlace f35 285 64 (iS (show n7 = ((295 : Nat) : Int) from f16) rfl))).trans (f6.1.2.1.1 285 64 kF_225_285_64))))
  have e81 : hV H5 294 = (uF (hV H1 294) n26 n29) := (uRow f63 294 f53.symm).trans (congrArg (fun z => uF z n26 n29) e49)
  have e82 : hV H5 296 = hV H4 296 := uRowNe f63 296 (iS (show n25 = ((294 : Nat) : Int) from f53) rfl)
  have e83 : hV H5 297 = hV H4 297 := uRowNe f63 297 (iS (show n25 = ((294 : Nat) : Int) from f53) rfl)
  have e84 : hV H5 298 = hV H4 298 := uRowNe f63 298 (iS (show n25 = ((294 : Nat) : Int) from f53) rfl)
  have e85 : hV H5 300 = hV H4 300 := uRowNe f63 300 (iS (show n25 = ((294 : Nat) : Int) from f53) rfl)
  have e86 : hV H5 301 = hV H4 301 := uRowNe f63 301 (iS (show n25 = ((294 : Nat) : Int) from f53) rfl)
  have e87 : hV H5 302 = hV H4 302 := uRowNe f63 302 (iS (show n25 = ((294 : Nat) : Int) from f53) rfl)
  have e88 : hV H5 303 = hV H4 303 := uRowNe f63 303 (iS (show n25 = ((294 : Nat) : Int) from f53) rfl)
  have e89 : hV H5 305 = hV H4 305 := uRowNe f63 305 (iS (show n25 = ((294 : Nat) : Int) from f53) rfl)
  have e91 : hV H5 328 = hV H0 328 := (uRowNe f63 328 (iS (show n25 = ((294 : Nat) : Int) from f53) rfl)).trans e55
  have e93 : hV H5 332 = hV H0 332 := (uRowNe f63 332 (iS (show n25 = ((294 : Nat) : Int) from f53) rfl)).trans e61
  have e95 : hV H5 335 = hV H0 335 := (uRowNe f63 335 (iS (show n25 = ((294 : Nat) : Int) from f53) rfl)).trans e67
  have e96 : (0 : Int) ≤ hV H1 285 11 ∧ hV H1 285 11 ≤ 500 := f6.1.2.2 285 11 _ _ kW_285_11
  have e97 : (0 : Int) ≤ hV H1 285 13 ∧ hV H1 285 13 ≤ 2 := f6.1.2.2 285 13 _ _ kW_285_13
  have e98 : (0 : Int) ≤ hV H1 285 15 ∧ hV H1 285 15 ≤ 6 := f6.1.2.2 285 15 _ _ kW_285_15
  have e99 : (0 : Int) ≤ hV H0 285 18 ∧ hV H0 285 18 ≤ 8 := bTo e20 (f6.1.2.2 285 18 _ _ kW_285_18)
  have e100 : (0 : Int) ≤ hV H0 285 32 ∧ hV H0 285 32 ≤ 7 := bTo e21 (f6.1.2.2 285 32 _ _ kW_285_32)
  have e101 : (0 : Int) ≤ hV H1 285 33 ∧ hV H1 285 33 ≤ 62 := f6.1.2.2 285 33 _ _ kW_285_33
  have e102 : (0 : Int) ≤ hV H0 285 64 ∧ hV H0 285 64 ≤ 20 := bTo e23 (f6.1.2.2 285 64 _ _ kW_285_64)
  have e103 : (0 : Int) ≤ hV H4 285 11 ∧ hV H4 285 11 ≤ 500 := f52.1.2.2.2 285 11 _ _ kW_285_11
  have e104 : (0 : Int) ≤ hV H4 285 13 ∧ hV H4 285 13 ≤ 2 := f52.1.2.2.2 285 13 _ _ kW_285_13
  have e105 : (0 : Int) ≤ hV H4 285 15 ∧ hV H4 285 15 ≤ 6 := f52.1.2.2.2 285 15 _ _ kW_285_15
  have e108 : (0 : Int) ≤ hV H4 285 33 ∧ hV H4 285 33 ≤ 62 := f52.1.2.2.2 285 33 _ _ kW_285_33
  try simp only [PA, PB, PW, PQ]
  try simp only [e43] at e108
  try simp only [e69, e71, e73, e75, e77, e79, e81, e82, e83, e84, e85, e86, e87, e88, e89, e91, e93, e95]
  have y0 := g4.1
  have y1 := g4.2.1
  have y2 := g4.2.2.1
  have y3 := g4.2.2.2.1
  have y4 := g4.2.2.2.2.1
  have y5 := g4.2.2.2.2.2.1
  have y6 := g4.2.2.2.2.2.2.1
  have y7 := g4.2.2.2.2.2.2.2.1
  have y8 := g4.2.2.2.2.2.2.2.2.1
  have y9 := g4.2.2.2.2.2.2.2.2.2
  have p0 := g3.1
  have p1 := g3.2.1
  have p2 := g3.2.2.1
  have p3 := g3.2.2.2.1
  have p4 := g3.2.2.2.2
  have r0_0 := f52.2.1
  have r0_1 := f52.2.2.1
  have r0_2 := f52.2.2.2.1
  have r0_3 := f52.2.2.2.2.1
  have r0_4 := f52.2.2.2.2.2.1
  have r0_5 := f52.2.2.2.2.2.2.1
  have r0_6 := f52.2.2.2.2.2.2.2.1
  have r0_7 := f52.2.2.2.2.2.2.2.2
  try simp only [PA] at y0
  try simp only [PQ] at y1
  try simp only [PB] at y2
  try simp only [PA] at p0
  try simp only [PQ] at p1
  try simp only [PB] at p4
  try simp only [PA] at r0_0
  try simp only [PW] at r0_1
  try simp only [PQ] at r0_2
  try simp only [e20, e23, e24, e25, e26] at y0
  try simp only [e21] at y2
  try simp only [e21] at y9
  try simp only [e39, e47, e49, e55, e61, e67] at r0_0
  try simp only [e40, e43, e49] at r0_1
  try simp only [e49] at r0_2
  try simp only [e29] at r0_3
  try simp only [e29] at r0_4
  try simp only [e32] at r0_5
  try simp only [e35] at r0_6
  try simp only [e35] at r0_7
  clear g3
  clear g4
  have wb0 := (y1 (hV H0 285 32).toNat).1
  have wp0 := (y1 (hV H0 285 33).toNat).2
  try simp only [e20, e21, e23, e24, e25, e26] at wb0
  try simp only [e20, e21, e23, e24, e25, e26] at wp0
  clear f8 f11 f14 f17 f21 f24 f27 f30 f33 f34 f39 f42 f45 f48 f54 f57 f60 e20 e21 e23 e24 e25 e26 e29 e32 e35 e39 e40 e47 e49 e55 e61 e67 e69 e71 e73 e75 e77 e79 e81 e82 e83 e84 e85 e86 e87 e88 e89 e91 e93 e95
  clear f6 f52
  subst e1
  subst e2
  subst e3
  subst e4
  subst e5
  subst e7
  subst e9
  subst e10
  subst e12
  subst e15
  subst e18
  rw [f18] at f22
  rw [f36] at f40
  first
  | (have ix0 : n10 = 6 * (hV H0 285 32) := Eq.trans f22 (w32_iv (Iml 6 rfl (Iat f10 f9)) (by decide)); subst ix0; clear f22)
  | (have ix0 : n10 = 6 * (hV H0 285 32) := Eq.trans f22 (w32_id (by omega) (by omega)); subst ix0; clear f22)
  | (unfold w32 at f22; have ix0 : n10 = 6 * (hV H0 285 32) := (by omega); subst ix0)
  | skip
  first
  | (have ix1 : n14 = (6 * (hV H0 285 32)) + hV H1 294 (hV H0 285 32).toNat := Eq.trans f31 (w32_iv (Iad (Iml 6 rfl (Iat f10 f9)) (Iat f13 f12)) (by decide)); subst ix1; clear f31)
  | (have ix1 : n14 = (6 * (hV H0 285 32)) + hV H1 294 (hV H0 285 32).toNat := Eq.trans f31 (w32_id (by omega) (by omega)); subst ix1; clear f31)
  | (unfold w32 at f31; have ix1 : n14 = (6 * (hV H0 285 32)) + hV H1 294 (hV H0 285 32).toNat := (by omega); subst ix1)
  | skip
  first
  | (have ix2 : n19 = 7 * (hV H0 285 32) := Eq.trans f40 (w32_iv (Iml 7 rfl (Iat f10 f9)) (by decide)); subst ix2; clear f40)
  | (have ix2 : n19 = 7 * (hV H0 285 32) := Eq.trans f40 (w32_id (by omega) (by omega)); subst ix2; clear f40)
  | (unfold w32 at f40; have ix2 : n19 = 7 * (hV H0 285 32) := (by omega); subst ix2)
  | skip
  first
  | (have ix3 : n23 = (7 * (hV H0 285 32)) + hV H1 294 (hV H0 285 32).toNat := Eq.trans f49 (w32_iv (Iad (Iml 7 rfl (Iat f10 f9)) (Iat f13 f12)) (by decide)); subst ix3; clear f49)
  | (have ix3 : n23 = (7 * (hV H0 285 32)) + hV H1 294 (hV H0 285 32).toNat := Eq.trans f49 (w32_id (by omega) (by omega)); subst ix3; clear f49)
  | (unfold w32 at f49; have ix3 : n23 = (7 * (hV H0 285 32)) + hV H1 294 (hV H0 285 32).toNat := (by omega); subst ix3)
  | skip
  first
  | (have ix4 : n29 = hV H1 294 (hV H0 285 32).toNat + 1 := Eq.trans f62 (w32_iv (Iad (Iat f13 f12) (IC 1)) (by decide)); subst ix4; clear f62)
  | (have ix4 : n29 = hV H1 294 (hV H0 285 32).toNat + 1 := Eq.trans f62 (w32_id (by omega) (by omega)); subst ix4; clear f62)
  | (unfold w32 at f62; have ix4 : n29 = hV H1 294 (hV H0 285 32).toNat + 1 := (by omega); subst ix4)
  | skip
  try unfold w32 at f22
  try unfold w32 at f31
  try unfold w32 at f40
  try unfold w32 at f49
  try unfold w32 at f62

  refine ⟨?_, ?_, ?_, ?_⟩
  · refine PA_bl ?_ (by omega)
    exact r0_0
  · refine PQ_bl ?_ (by omega) (by omega)
    exact r0_2
  · intro z1 z2
    exact PB_add (r0_1 (by omega) (by omega)) (by omega) (by omega) (by omega) (by omega) (by omega)
  · (try clear y0 y1 y2 p0 p1 p4 r0_0 r0_1 r0_2)
    first
    | omega
    | (refine ⟨?_, ?_, ?_, ?_, ?_⟩ <;> first | exact True.intro | omega)
def g_225_43_6 : vG := ([(80, [25, 26, 29], [5, 4], 0), (1, [29, 27, 28], [], 0), (0, [28], [], 1), (22, [27, 25, 26], [4], 0), (90, [27], [], 0), (91, [27], [], 6), (20, [26, 1], [4], 32), (90, [26], [], 0), (91, [26], [], 7), (20, [25, 1], [4], 20), (0, [25], [], 294), (1226, [1], [3, 4], 0), (80, [1, 24, 23], [3, 2], 0), (0, [24], [], 33), (1, [23, 19, 22], [], 0), (22, [22, 20, 21], [2], 0), (90, [22], [], 0), (91, [22], [], 6), (20, [21, 1], [2], 32), (90, [21], [], 0), (91, [21], [], 7), (20, [20, 1], [2], 20), (0, [20], [], 294), (3, [19, 17, 18], [], 0), (20, [18, 1], [2], 32), (90, [18], [], 0), (91, [18], [], 7), (0, [17], [], 7), (80, [7, 14, 16], [2, 1], 1), (22, [16, 15, 2], [1], 0), (20, [15, 1], [1], 8), (0, [15], [], 291), (1, [14, 10, 13], [], 0), (22, [13, 11, 12], [1], 0), (90, [13], [], 0), (91, [13], [], 6), (20, [12, 1], [1], 32), (90, [12], [], 0), (91, [12], [], 7), (20, [11, 1], [1], 20), (0, [11], [], 294), (3, [10, 8, 9], [], 0), (20, [9, 1], [1], 32), (90, [9], [], 0), (91, [9], [], 7), (0, [8], [], 6), (20, [7, 1], [1], 21), (0, [7], [], 295), (43, [3, 6], [], 0), (22, [6, 4, 5], [1], 0), (90, [6], [], 0), (91, [6], [], 6), (20, [5, 1], [1], 32), (90, [5], [], 0), (91, [5], [], 7), (20, [4, 1], [1], 20), (0, [4], [], 294), (5000, [0, 1, 2, 3], [0, 1], 43), (0, [0], [], 285), (0, [1], [], 285), (90, [2], [], 0), (91, [2], [], 500), (90, [3], [], 0), (91, [3], [], 6)], (3000, [], [5], 158))
theorem c_225_43_6 {q0 : Nat} : vOkm T0 (eP e_225 L_225 A_225 mu_225 (some q0)) 1 g_225_43_6 := vOk_inI fun ρ η f0 f1 f2 f3 f4 f5 f6 f7 f8 f9 f10 f11 f12 f13 f14 f15 f16 f17 f18 f19 f20 f21 f22 f23 f24 f25 f26 f27 f28 f29 f30 f31 f32 f33 f34 f35 f36 f37 f38 f39 f40 f41 f42 f43 f44 f45 f46 f47 f48 f49 f50 f51 f52 f53 f54 f55 f56 f57 f58 f59 f60 f61 f62 f63 => q_225_10 (q0 := q0) (n0 := ρ 3) (n1 := ρ 2) (n2 := ρ 1) (n3 := ρ 0) (n4 := ρ 4) (n5 := ρ 5) (n6 := ρ 6) (n7 := ρ 7) (n8 := ρ 8) (n9 := ρ 9) (n10 := ρ 10) (n11 := ρ 11) (n12 := ρ 12) (n13 := ρ 13) (n14 := ρ 14) (n15 := ρ 15) (n16 := ρ 16) (n17 := ρ 17) (n18 := ρ 18) (n19 := ρ 19) (n20 := ρ 20) (n21 := ρ 21) (n22 := ρ 22) (n23 := ρ 23) (n24 := ρ 24) (n25 := ρ 25) (n26 := ρ 26) (n27 := ρ 27) (n28 := ρ 28) (n29 := ρ 29) (H0 := η 0) (H1 := η 1) (H2 := η 2) (H3 := η 3) (H4 := η 4) (H5 := η 5) f63 f62 f61 f60 f59 f58 f57 f56 f55 f54 f53 f52 f51 f50 f49 f48 f47 f46 f45 f44 f43 f42 f41 f40 f39 f38 f37 f36 f35 f34 f33 f32 f31 f30 f29 f28 f27 f26 f25 f24 f23 f22 f21 f20 f19 f18 f17 f16 f15 f14 f13 f12 f11 f10 f9 f8 f7 f6 f5 f4 f3 f2 f1 f0
set_option maxHeartbeats 20000000 in
theorem q_225_11 {q0 : Nat} {n0 n1 n2 n3 n4 n5 n6 n7 n8 n9 n10 : Int} {H0 H1 : gH} (f0 : n0 ≤ 6) (f1 : 0 ≤ n0) (f2 : n1 ≤ 500) (f3 : 0 ≤ n1) (f4 : n2 = 285) (f5 : n3 = 285) (f6 : (hLe T0 H0 H1 ∧ hFr s_225.2.2.2.2 H0 H1 ∧ hWt T0 H1) ∧ (Ab_225_43 n3 n2 n1 n0 H0 H1 ∧ preb_225 n3 H0) ∧ some q0 = some (mub_225_43 n3 n2 n1 n0 H0 H1)) (f7 : n4 = 294) (f8 : n4 = hV H1 (n2).toNat 20) (f9 : n5 ≤ 7) (f10 : 0 ≤ n5) (f11 : n5 = hV H1 (n2).toNat 32) (f12 : n6 ≤ 6) (f13 : 0 ≤ n6) (f14 : n6 = hV H1 (n4).toNat (n5).toNat) (f15 : n0 < n6) (f16 : n7 = 6) (f17 : n8 ≤ 7) (f18 : 0 ≤ n8) (f19 : n8 = hV H1 (n2).toNat 32) (f20 : n9 = w32 (n7 * n8)) (f21 : n10 = w32 (n9 + n0)) : 0 ≤ n10 ∧ n10 < 54 := by
  have g4 := f6.2.1.1
  unfold Ab_225_43 at g4
  have g3 := f6.2.1.2
  unfold preb_225 at g3
  have e1 : n5 = hV H0 285 32 := (by rw [f4] at f11; exact f11 : n5 = hV H1 285 32).trans ((f6.1.2.1.1 285 32 kF_225_285_32))
  have e2 : n6 = hV H1 294 (n5).toNat := (by rw [f7] at f14; exact f14 : n6 = hV H1 294 (n5).toNat)
  have e3 : n8 = hV H0 285 32 := (by rw [f4] at f19; exact f19 : n8 = hV H1 285 32).trans ((f6.1.2.1.1 285 32 kF_225_285_32))
  have e5 : hV H1 285 18 = hV H0 285 18 := (f6.1.2.1.1 285 18 kF_225_285_18)
  have e6 : hV H1 285 32 = hV H0 285 32 := (f6.1.2.1.1 285 32 kF_225_285_32)
  have e7 : (0 : Int) ≤ hV H1 285 11 ∧ hV H1 285 11 ≤ 500 := f6.1.2.2 285 11 _ _ kW_285_11
  have e8 : (0 : Int) ≤ hV H1 285 13 ∧ hV H1 285 13 ≤ 2 := f6.1.2.2 285 13 _ _ kW_285_13
  have e9 : (0 : Int) ≤ hV H1 285 15 ∧ hV H1 285 15 ≤ 6 := f6.1.2.2 285 15 _ _ kW_285_15
  have e10 : (0 : Int) ≤ hV H0 285 18 ∧ hV H0 285 18 ≤ 8 := bTo e5 (f6.1.2.2 285 18 _ _ kW_285_18)
  have e11 : (0 : Int) ≤ hV H0 285 32 ∧ hV H0 285 32 ≤ 7 := bTo e6 (f6.1.2.2 285 32 _ _ kW_285_32)
  have y0 := g4.1
  have y1 := g4.2.1
  have y2 := g4.2.2.1
  have y3 := g4.2.2.2.1
  have y4 := g4.2.2.2.2.1
  have y5 := g4.2.2.2.2.2.1
  have y6 := g4.2.2.2.2.2.2.1
  have y7 := g4.2.2.2.2.2.2.2.1
  have y8 := g4.2.2.2.2.2.2.2.2.1
  have y9 := g4.2.2.2.2.2.2.2.2.2
  have p0 := g3.1
  have p1 := g3.2.1
  have p2 := g3.2.2.1
  have p3 := g3.2.2.2.1
  have p4 := g3.2.2.2.2
  try simp only [e6] at y9
  clear g3
  clear g4
  have wb0 := (y1 (hV H0 285 32).toNat).1
  have wp0 := (y1 (hV H0 285 33).toNat).2
  try simp only [e5, e6] at wb0
  try simp only [e5, e6] at wp0
  clear f8 f11 f14 f19 e5 e6
  clear f6
  subst e1
  subst e2
  subst e3
  rw [f16] at f20
  first
  | (have ix0 : n9 = 6 * (hV H0 285 32) := Eq.trans f20 (w32_iv (Iml 6 rfl (Iat f10 f9)) (by decide)); subst ix0; clear f20)
  | (have ix0 : n9 = 6 * (hV H0 285 32) := Eq.trans f20 (w32_id (by omega) (by omega)); subst ix0; clear f20)
  | (unfold w32 at f20; have ix0 : n9 = 6 * (hV H0 285 32) := (by omega); subst ix0)
  | skip
  first
  | (have ix1 : n10 = (6 * (hV H0 285 32)) + n0 := Eq.trans f21 (w32_iv (Iad (Iml 6 rfl (Iat f10 f9)) (Iat f1 f0)) (by decide)); subst ix1; clear f21)
  | (have ix1 : n10 = (6 * (hV H0 285 32)) + n0 := Eq.trans f21 (w32_id (by omega) (by omega)); subst ix1; clear f21)
  | (unfold w32 at f21; have ix1 : n10 = (6 * (hV H0 285 32)) + n0 := (by omega); subst ix1)
  | skip
  try unfold w32 at f20
  try unfold w32 at f21

  (try clear y0 y1 y2 p0 p1 p4)
  omega
def g_225_43_7 : vG := ([(1, [11, 10, 3], [], 0), (3, [10, 8, 9], [], 0), (20, [9, 1], [1], 32), (90, [9], [], 0), (91, [9], [], 7), (0, [8], [], 6), (42, [3, 6], [], 0), (22, [6, 4, 5], [1], 0), (90, [6], [], 0), (91, [6], [], 6), (20, [5, 1], [1], 32), (90, [5], [], 0), (91, [5], [], 7), (20, [4, 1], [1], 20), (0, [4], [], 294), (5000, [0, 1, 2, 3], [0, 1], 43), (0, [0], [], 285), (0, [1], [], 285), (90, [2], [], 0), (91, [2], [], 500), (90, [3], [], 0), (91, [3], [], 6)], (70, [11], [], 54))
theorem c_225_43_7 {q0 : Nat} : vOkm T0 (eP e_225 L_225 A_225 mu_225 (some q0)) 1 g_225_43_7 := vOk_inI fun ρ η f0 f1 f2 f3 f4 f5 f6 f7 f8 f9 f10 f11 f12 f13 f14 f15 f16 f17 f18 f19 f20 f21 => q_225_11 (q0 := q0) (n0 := ρ 3) (n1 := ρ 2) (n2 := ρ 1) (n3 := ρ 0) (n4 := ρ 4) (n5 := ρ 5) (n6 := ρ 6) (n7 := ρ 8) (n8 := ρ 9) (n9 := ρ 10) (n10 := ρ 11) (H0 := η 0) (H1 := η 1) f21 f20 f19 f18 f17 f16 f15 f14 f13 f12 f11 f10 f9 f8 f7 f6 f5 f4 f3 f2 f1 f0
set_option maxHeartbeats 20000000 in
theorem q_225_12 {q0 : Nat} {n0 n1 n2 n3 n4 n5 n6 n7 n8 n9 n10 n11 : Int} {H0 H1 : gH} (f0 : n0 ≤ 6) (f1 : 0 ≤ n0) (f2 : n1 ≤ 500) (f3 : 0 ≤ n1) (f4 : n2 = 285) (f5 : n3 = 285) (f6 : (hLe T0 H0 H1 ∧ hFr s_225.2.2.2.2 H0 H1 ∧ hWt T0 H1) ∧ (Ab_225_43 n3 n2 n1 n0 H0 H1 ∧ preb_225 n3 H0) ∧ some q0 = some (mub_225_43 n3 n2 n1 n0 H0 H1)) (f7 : n4 = 294) (f8 : n4 = hV H1 (n2).toNat 20) (f9 : n5 ≤ 7) (f10 : 0 ≤ n5) (f11 : n5 = hV H1 (n2).toNat 32) (f12 : n6 ≤ 6) (f13 : 0 ≤ n6) (f14 : n6 = hV H1 (n4).toNat (n5).toNat) (f15 : n0 < n6) (f16 : n7 = 6) (f17 : n8 ≤ 7) (f18 : 0 ≤ n8) (f19 : n8 = hV H1 (n2).toNat 32) (f20 : n9 = w32 (n7 * n8)) (f21 : n10 = w32 (n9 + n0)) (f22 : n11 = w32 (n0 + 1)) : 0 ≤ n11 := by
  have g4 := f6.2.1.1
  unfold Ab_225_43 at g4
  have g3 := f6.2.1.2
  unfold preb_225 at g3
  have e1 : n5 = hV H0 285 32 := (by rw [f4] at f11; exact f11 : n5 = hV H1 285 32).trans ((f6.1.2.1.1 285 32 kF_225_285_32))
  have e2 : n6 = hV H1 294 (n5).toNat := (by rw [f7] at f14; exact f14 : n6 = hV H1 294 (n5).toNat)
  have e3 : n8 = hV H0 285 32 := (by rw [f4] at f19; exact f19 : n8 = hV H1 285 32).trans ((f6.1.2.1.1 285 32 kF_225_285_32))
  have e5 : hV H1 285 18 = hV H0 285 18 := (f6.1.2.1.1 285 18 kF_225_285_18)
  have e6 : hV H1 285 32 = hV H0 285 32 := (f6.1.2.1.1 285 32 kF_225_285_32)
  have e7 : (0 : Int) ≤ hV H1 285 11 ∧ hV H1 285 11 ≤ 500 := f6.1.2.2 285 11 _ _ kW_285_11
  have e8 : (0 : Int) ≤ hV H1 285 13 ∧ hV H1 285 13 ≤ 2 := f6.1.2.2 285 13 _ _ kW_285_13
  have e9 : (0 : Int) ≤ hV H1 285 15 ∧ hV H1 285 15 ≤ 6 := f6.1.2.2 285 15 _ _ kW_285_15
  have e10 : (0 : Int) ≤ hV H0 285 18 ∧ hV H0 285 18 ≤ 8 := bTo e5 (f6.1.2.2 285 18 _ _ kW_285_18)
  have e11 : (0 : Int) ≤ hV H0 285 32 ∧ hV H0 285 32 ≤ 7 := bTo e6 (f6.1.2.2 285 32 _ _ kW_285_32)
  have y0 := g4.1
  have y1 := g4.2.1
  have y2 := g4.2.2.1
  have y3 := g4.2.2.2.1
  have y4 := g4.2.2.2.2.1
  have y5 := g4.2.2.2.2.2.1
  have y6 := g4.2.2.2.2.2.2.1
  have y7 := g4.2.2.2.2.2.2.2.1
  have y8 := g4.2.2.2.2.2.2.2.2.1
  have y9 := g4.2.2.2.2.2.2.2.2.2
  have p0 := g3.1
  have p1 := g3.2.1
  have p2 := g3.2.2.1
  have p3 := g3.2.2.2.1
  have p4 := g3.2.2.2.2
  try simp only [e6] at y9
  clear g3
  clear g4
  have wb0 := (y1 (hV H0 285 32).toNat).1
  have wp0 := (y1 (hV H0 285 33).toNat).2
  try simp only [e5, e6] at wb0
  try simp only [e5, e6] at wp0
  clear f8 f11 f14 f19 e5 e6
  clear f6
  subst e1
  subst e2
  subst e3
  rw [f16] at f20
  first
  | (have ix0 : n11 = n0 + 1 := Eq.trans f22 (w32_iv (Iad (Iat f1 f0) (IC 1)) (by decide)); subst ix0; clear f22)
  | (have ix0 : n11 = n0 + 1 := Eq.trans f22 (w32_id (by omega) (by omega)); subst ix0; clear f22)
  | (unfold w32 at f22; have ix0 : n11 = n0 + 1 := (by omega); subst ix0)
  | skip
  try unfold w32 at f20
  try unfold w32 at f21
  try unfold w32 at f22

  (try clear y0 y1 y2 p0 p1 p4)
  omega
def g_225_43_8 : vG := ([(10, [16, 3], [], 1), (1, [11, 10, 3], [], 0), (3, [10, 8, 9], [], 0), (20, [9, 1], [1], 32), (90, [9], [], 0), (91, [9], [], 7), (0, [8], [], 6), (42, [3, 6], [], 0), (22, [6, 4, 5], [1], 0), (90, [6], [], 0), (91, [6], [], 6), (20, [5, 1], [1], 32), (90, [5], [], 0), (91, [5], [], 7), (20, [4, 1], [1], 20), (0, [4], [], 294), (5000, [0, 1, 2, 3], [0, 1], 43), (0, [0], [], 285), (0, [1], [], 285), (90, [2], [], 0), (91, [2], [], 500), (90, [3], [], 0), (91, [3], [], 6)], (90, [16], [], 0))
theorem c_225_43_8 {q0 : Nat} : vOkm T0 (eP e_225 L_225 A_225 mu_225 (some q0)) 1 g_225_43_8 := vOk_inI fun ρ η f0 f1 f2 f3 f4 f5 f6 f7 f8 f9 f10 f11 f12 f13 f14 f15 f16 f17 f18 f19 f20 f21 f22 => q_225_12 (q0 := q0) (n0 := ρ 3) (n1 := ρ 2) (n2 := ρ 1) (n3 := ρ 0) (n4 := ρ 4) (n5 := ρ 5) (n6 := ρ 6) (n7 := ρ 8) (n8 := ρ 9) (n9 := ρ 10) (n10 := ρ 11) (n11 := ρ 16) (H0 := η 0) (H1 := η 1) f22 f21 f20 f19 f18 f17 f16 f15 f14 f13 f12 f11 f10 f9 f8 f7 f6 f5 f4 f3 f2 f1 f0
set_option maxHeartbeats 20000000 in
theorem q_225_13 {q0 : Nat} {n0 n1 n2 n3 n4 n5 n6 n7 n8 n9 n10 n11 : Int} {H0 H1 : gH} (f0 : n0 ≤ 6) (f1 : 0 ≤ n0) (f2 : n1 ≤ 500) (f3 : 0 ≤ n1) (f4 : n2 = 285) (f5 : n3 = 285) (f6 : (hLe T0 H0 H1 ∧ hFr s_225.2.2.2.2 H0 H1 ∧ hWt T0 H1) ∧ (Ab_225_43 n3 n2 n1 n0 H0 H1 ∧ preb_225 n3 H0) ∧ some q0 = some (mub_225_43 n3 n2 n1 n0 H0 H1)) (f7 : n4 = 294) (f8 : n4 = hV H1 (n2).toNat 20) (f9 : n5 ≤ 7) (f10 : 0 ≤ n5) (f11 : n5 = hV H1 (n2).toNat 32) (f12 : n6 ≤ 6) (f13 : 0 ≤ n6) (f14 : n6 = hV H1 (n4).toNat (n5).toNat) (f15 : n0 < n6) (f16 : n7 = 6) (f17 : n8 ≤ 7) (f18 : 0 ≤ n8) (f19 : n8 = hV H1 (n2).toNat 32) (f20 : n9 = w32 (n7 * n8)) (f21 : n10 = w32 (n9 + n0)) (f22 : n11 = w32 (n0 + 1)) : n11 ≤ 6 := by
  have g4 := f6.2.1.1
  unfold Ab_225_43 at g4
  have g3 := f6.2.1.2
  unfold preb_225 at g3
  have e1 : n5 = hV H0 285 32 := (by rw [f4] at f11; exact f11 : n5 = hV H1 285 32).trans ((f6.1.2.1.1 285 32 kF_225_285_32))
  have e2 : n6 = hV H1 294 (n5).toNat := (by rw [f7] at f14; exact f14 : n6 = hV H1 294 (n5).toNat)
  have e3 : n8 = hV H0 285 32 := (by rw [f4] at f19; exact f19 : n8 = hV H1 285 32).trans ((f6.1.2.1.1 285 32 kF_225_285_32))
  have e5 : hV H1 285 18 = hV H0 285 18 := (f6.1.2.1.1 285 18 kF_225_285_18)
  have e6 : hV H1 285 32 = hV H0 285 32 := (f6.1.2.1.1 285 32 kF_225_285_32)
  have e7 : (0 : Int) ≤ hV H1 285 11 ∧ hV H1 285 11 ≤ 500 := f6.1.2.2 285 11 _ _ kW_285_11
  have e8 : (0 : Int) ≤ hV H1 285 13 ∧ hV H1 285 13 ≤ 2 := f6.1.2.2 285 13 _ _ kW_285_13
  have e9 : (0 : Int) ≤ hV H1 285 15 ∧ hV H1 285 15 ≤ 6 := f6.1.2.2 285 15 _ _ kW_285_15
  have e10 : (0 : Int) ≤ hV H0 285 18 ∧ hV H0 285 18 ≤ 8 := bTo e5 (f6.1.2.2 285 18 _ _ kW_285_18)
  have e11 : (0 : Int) ≤ hV H0 285 32 ∧ hV H0 285 32 ≤ 7 := bTo e6 (f6.1.2.2 285 32 _ _ kW_285_32)
  have y0 := g4.1
  have y1 := g4.2.1
  have y2 := g4.2.2.1
  have y3 := g4.2.2.2.1
  have y4 := g4.2.2.2.2.1
  have y5 := g4.2.2.2.2.2.1
  have y6 := g4.2.2.2.2.2.2.1
  have y7 := g4.2.2.2.2.2.2.2.1
  have y8 := g4.2.2.2.2.2.2.2.2.1
  have y9 := g4.2.2.2.2.2.2.2.2.2
  have p0 := g3.1
  have p1 := g3.2.1
  have p2 := g3.2.2.1
  have p3 := g3.2.2.2.1
  have p4 := g3.2.2.2.2
  try simp only [e6] at y9
  clear g3
  clear g4
  have wb0 := (y1 (hV H0 285 32).toNat).1
  have wp0 := (y1 (hV H0 285 33).toNat).2
  try simp only [e5, e6] at wb0
  try simp only [e5, e6] at wp0
  clear f8 f11 f14 f19 e5 e6
  clear f6
  subst e1
  subst e2
  subst e3
  rw [f16] at f20
  first
  | (have ix0 : n11 = n0 + 1 := Eq.trans f22 (w32_iv (Iad (Iat f1 f0) (IC 1)) (by decide)); subst ix0; clear f22)
  | (have ix0 : n11 = n0 + 1 := Eq.trans f22 (w32_id (by omega) (by omega)); subst ix0; clear f22)
  | (unfold w32 at f22; have ix0 : n11 = n0 + 1 := (by omega); subst ix0)
  | skip
  try unfold w32 at f20
  try unfold w32 at f21
  try unfold w32 at f22

  (try clear y0 y1 y2 p0 p1 p4)
  omega
def g_225_43_9 : vG := ([(10, [16, 3], [], 1), (1, [11, 10, 3], [], 0), (3, [10, 8, 9], [], 0), (20, [9, 1], [1], 32), (90, [9], [], 0), (91, [9], [], 7), (0, [8], [], 6), (42, [3, 6], [], 0), (22, [6, 4, 5], [1], 0), (90, [6], [], 0), (91, [6], [], 6), (20, [5, 1], [1], 32), (90, [5], [], 0), (91, [5], [], 7), (20, [4, 1], [1], 20), (0, [4], [], 294), (5000, [0, 1, 2, 3], [0, 1], 43), (0, [0], [], 285), (0, [1], [], 285), (90, [2], [], 0), (91, [2], [], 500), (90, [3], [], 0), (91, [3], [], 6)], (91, [16], [], 6))
theorem c_225_43_9 {q0 : Nat} : vOkm T0 (eP e_225 L_225 A_225 mu_225 (some q0)) 1 g_225_43_9 := vOk_inI fun ρ η f0 f1 f2 f3 f4 f5 f6 f7 f8 f9 f10 f11 f12 f13 f14 f15 f16 f17 f18 f19 f20 f21 f22 => q_225_13 (q0 := q0) (n0 := ρ 3) (n1 := ρ 2) (n2 := ρ 1) (n3 := ρ 0) (n4 := ρ 4) (n5 := ρ 5) (n6 := ρ 6) (n7 := ρ 8) (n8 := ρ 9) (n9 := ρ 10) (n10 := ρ 11) (n11 := ρ 16) (H0 := η 0) (H1 := η 1) f22 f21 f20 f19 f18 f17 f16 f15 f14 f13 f12 f11 f10 f9 f8 f7 f6 f5 f4 f3 f2 f1 f0
set_option maxHeartbeats 20000000 in
theorem q_225_14 {q0 : Nat} {n0 n1 n2 n3 n4 n5 n6 n7 n8 n9 n10 n11 : Int} {H0 H1 : gH} (f0 : n0 ≤ 6) (f1 : 0 ≤ n0) (f2 : n1 ≤ 500) (f3 : 0 ≤ n1) (f4 : n2 = 285) (f5 : n3 = 285) (f6 : (hLe T0 H0 H1 ∧ hFr s_225.2.2.2.2 H0 H1 ∧ hWt T0 H1) ∧ (Ab_225_43 n3 n2 n1 n0 H0 H1 ∧ preb_225 n3 H0) ∧ some q0 = some (mub_225_43 n3 n2 n1 n0 H0 H1)) (f7 : n4 = 294) (f8 : n4 = hV H1 (n2).toNat 20) (f9 : n5 ≤ 7) (f10 : 0 ≤ n5) (f11 : n5 = hV H1 (n2).toNat 32) (f12 : n6 ≤ 6) (f13 : 0 ≤ n6) (f14 : n6 = hV H1 (n4).toNat (n5).toNat) (f15 : n0 < n6) (f16 : n7 = 6) (f17 : n8 ≤ 7) (f18 : 0 ≤ n8) (f19 : n8 = hV H1 (n2).toNat 32) (f20 : n9 = w32 (n7 * n8)) (f21 : n10 = w32 (n9 + n0)) (f22 : n11 = w32 (n0 + 1)) : Ab_225_43 n3 n2 n1 n11 H0 H1 ∧ ∀ q, some q0 = some q → mub_225_43 n3 n2 n1 n11 H0 H1 < q := by
  have g4 := f6.2.1.1
  unfold Ab_225_43 at g4
  have g3 := f6.2.1.2
  unfold preb_225 at g3
  have g5 := Option.some.inj f6.2.2
  unfold mub_225_43 at g5
  unfold Ab_225_43
  unfold mub_225_43
  have e1 : n5 = hV H0 285 32 := (by rw [f4] at f11; exact f11 : n5 = hV H1 285 32).trans ((f6.1.2.1.1 285 32 kF_225_285_32))
  have e2 : n6 = hV H1 294 (n5).toNat := (by rw [f7] at f14; exact f14 : n6 = hV H1 294 (n5).toNat)
  have e3 : n8 = hV H0 285 32 := (by rw [f4] at f19; exact f19 : n8 = hV H1 285 32).trans ((f6.1.2.1.1 285 32 kF_225_285_32))
  have e5 : hV H1 285 18 = hV H0 285 18 := (f6.1.2.1.1 285 18 kF_225_285_18)
  have e6 : hV H1 285 32 = hV H0 285 32 := (f6.1.2.1.1 285 32 kF_225_285_32)
  have e7 : (0 : Int) ≤ hV H1 285 11 ∧ hV H1 285 11 ≤ 500 := f6.1.2.2 285 11 _ _ kW_285_11
  have e8 : (0 : Int) ≤ hV H1 285 13 ∧ hV H1 285 13 ≤ 2 := f6.1.2.2 285 13 _ _ kW_285_13
  have e9 : (0 : Int) ≤ hV H1 285 15 ∧ hV H1 285 15 ≤ 6 := f6.1.2.2 285 15 _ _ kW_285_15
  have e10 : (0 : Int) ≤ hV H0 285 18 ∧ hV H0 285 18 ≤ 8 := bTo e5 (f6.1.2.2 285 18 _ _ kW_285_18)
  have e11 : (0 : Int) ≤ hV H0 285 32 ∧ hV H0 285 32 ≤ 7 := bTo e6 (f6.1.2.2 285 32 _ _ kW_285_32)
  try simp only [e6]
  have y0 := g4.1
  have y1 := g4.2.1
  have y2 := g4.2.2.1
  have y3 := g4.2.2.2.1
  have y4 := g4.2.2.2.2.1
  have y5 := g4.2.2.2.2.2.1
  have y6 := g4.2.2.2.2.2.2.1
  have y7 := g4.2.2.2.2.2.2.2.1
  have y8 := g4.2.2.2.2.2.2.2.2.1
  have y9 := g4.2.2.2.2.2.2.2.2.2
  have p0 := g3.1
  have p1 := g3.2.1
  have p2 := g3.2.2.1
  have p3 := g3.2.2.2.1
  have p4 := g3.2.2.2.2
  try simp only [e6] at y9
  clear g3
  clear g4
  have wb0 := (y1 (hV H0 285 32).toNat).1
  have wp0 := (y1 (hV H0 285 33).toNat).2
  try simp only [e5, e6] at wb0
  try simp only [e5, e6] at wp0
  clear f8 f11 f14 f19 e5 e6
  clear f6
  subst e1
  subst e2
  subst e3
  rw [f16] at f20
  first
  | (have ix0 : n11 = n0 + 1 := Eq.trans f22 (w32_iv (Iad (Iat f1 f0) (IC 1)) (by decide)); subst ix0; clear f22)
  | (have ix0 : n11 = n0 + 1 := Eq.trans f22 (w32_id (by omega) (by omega)); subst ix0; clear f22)
  | (unfold w32 at f22; have ix0 : n11 = n0 + 1 := (by omega); subst ix0)
  | skip
  try unfold w32 at f20
  try unfold w32 at f21
  try unfold w32 at f22

  refine ⟨⟨?_, ?_, ?_, ?_⟩, fun q hq => ?_⟩
  · exact y0
  · exact y1
  · intro z1 z2
    exact y2 (by omega) (by omega)
  · (try clear y0 y1 y2 p0 p1 p4)
    first
    | omega
    | (refine ⟨?_, ?_, ?_, ?_, ?_, ?_, ?_⟩ <;> first | exact True.intro | omega)
  · (try clear y0 y1 y2 p0 p1 p4)
    have g6 := Option.some.inj hq
    subst g6
    omega
def g_225_43_10 : vG := ([(10, [16, 3], [], 1), (1, [11, 10, 3], [], 0), (3, [10, 8, 9], [], 0), (20, [9, 1], [1], 32), (90, [9], [], 0), (91, [9], [], 7), (0, [8], [], 6), (42, [3, 6], [], 0), (22, [6, 4, 5], [1], 0), (90, [6], [], 0), (91, [6], [], 6), (20, [5, 1], [1], 32), (90, [5], [], 0), (91, [5], [], 7), (20, [4, 1], [1], 20), (0, [4], [], 294), (5000, [0, 1, 2, 3], [0, 1], 43), (0, [0], [], 285), (0, [1], [], 285), (90, [2], [], 0), (91, [2], [], 500), (90, [3], [], 0), (91, [3], [], 6)], (4000, [1, 2, 16], [1], 43))
theorem c_225_43_10 {q0 : Nat} : vOkm T0 (eP e_225 L_225 A_225 mu_225 (some q0)) 1 g_225_43_10 := vOk_inI fun ρ η f0 f1 f2 f3 f4 f5 f6 f7 f8 f9 f10 f11 f12 f13 f14 f15 f16 f17 f18 f19 f20 f21 f22 => q_225_14 (q0 := q0) (n0 := ρ 3) (n1 := ρ 2) (n2 := ρ 1) (n3 := ρ 0) (n4 := ρ 4) (n5 := ρ 5) (n6 := ρ 6) (n7 := ρ 8) (n8 := ρ 9) (n9 := ρ 10) (n10 := ρ 11) (n11 := ρ 16) (H0 := η 0) (H1 := η 1) f22 f21 f20 f19 f18 f17 f16 f15 f14 f13 f12 f11 f10 f9 f8 f7 f6 f5 f4 f3 f2 f1 f0
set_option maxHeartbeats 20000000 in
theorem q_225_15 {q0 : Nat} {n0 n1 n2 n3 n4 n5 n6 n7 n8 n9 n10 n11 n12 : Int} {H0 H1 H2 : gH} (f0 : n0 ≤ 6) (f1 : 0 ≤ n0) (f2 : n1 ≤ 500) (f3 : 0 ≤ n1) (f4 : n2 = 285) (f5 : n3 = 285) (f6 : (hLe T0 H0 H1 ∧ hFr s_225.2.2.2.2 H0 H1 ∧ hWt T0 H1) ∧ (Ab_225_43 n3 n2 n1 n0 H0 H1 ∧ preb_225 n3 H0) ∧ some q0 = some (mub_225_43 n3 n2 n1 n0 H0 H1)) (f7 : n4 = 294) (f8 : n4 = hV H1 (n2).toNat 20) (f9 : n5 ≤ 7) (f10 : 0 ≤ n5) (f11 : n5 = hV H1 (n2).toNat 32) (f12 : n6 ≤ 6) (f13 : 0 ≤ n6) (f14 : n6 = hV H1 (n4).toNat (n5).toNat) (f15 : n0 < n6) (f16 : n7 = 6) (f17 : n8 ≤ 7) (f18 : 0 ≤ n8) (f19 : n8 = hV H1 (n2).toNat 32) (f20 : n9 = w32 (n7 * n8)) (f21 : n10 = w32 (n9 + n0)) (f22 : n11 = 3) (f23 : (hLe T0 H1 H2 ∧ hFr s_218.2.2.2.2 H1 H2 ∧ ((0 : Int) = 0 → H2.length = H1.length) ∧ hWt T0 H2) ∧ postb_218 n2 n11 n1 H1 H2) (f24 : n12 = w32 (n0 + 1)) : 0 ≤ n12 := by
  have g4 := f6.2.1.1
  unfold Ab_225_43 at g4
  have g3 := f6.2.1.2
  unfold preb_225 at g3
  unfold postb_218 at f23
  have e1 : n5 = hV H0 285 32 := (by rw [f4] at f11; exact f11 : n5 = hV H1 285 32).trans ((f6.1.2.1.1 285 32 kF_225_285_32))
  have e2 : n6 = hV H1 294 (n5).toNat := (by rw [f7] at f14; exact f14 : n6 = hV H1 294 (n5).toNat)
  have e3 : n8 = hV H0 285 32 := (by rw [f4] at f19; exact f19 : n8 = hV H1 285 32).trans ((f6.1.2.1.1 285 32 kF_225_285_32))
  have e5 : hV H1 285 18 = hV H0 285 18 := (f6.1.2.1.1 285 18 kF_225_285_18)
  have e6 : hV H1 285 32 = hV H0 285 32 := (f6.1.2.1.1 285 32 kF_225_285_32)
  have e8 : hV H2 285 13 = hV H1 285 13 := (f23.1.2.1.1 285 13 kF_218_285_13)
  have e9 : (0 : Int) ≤ hV H1 285 11 ∧ hV H1 285 11 ≤ 500 := f6.1.2.2 285 11 _ _ kW_285_11
  have e10 : (0 : Int) ≤ hV H1 285 13 ∧ hV H1 285 13 ≤ 2 := f6.1.2.2 285 13 _ _ kW_285_13
  have e11 : (0 : Int) ≤ hV H1 285 15 ∧ hV H1 285 15 ≤ 6 := f6.1.2.2 285 15 _ _ kW_285_15
  have e12 : (0 : Int) ≤ hV H0 285 18 ∧ hV H0 285 18 ≤ 8 := bTo e5 (f6.1.2.2 285 18 _ _ kW_285_18)
  have e13 : (0 : Int) ≤ hV H0 285 32 ∧ hV H0 285 32 ≤ 7 := bTo e6 (f6.1.2.2 285 32 _ _ kW_285_32)
  have e15 : (0 : Int) ≤ hV H2 285 15 ∧ hV H2 285 15 ≤ 6 := f23.1.2.2.2 285 15 _ _ kW_285_15
  have y0 := g4.1
  have y1 := g4.2.1
  have y2 := g4.2.2.1
  have y3 := g4.2.2.2.1
  have y4 := g4.2.2.2.2.1
  have y5 := g4.2.2.2.2.2.1
  have y6 := g4.2.2.2.2.2.2.1
  have y7 := g4.2.2.2.2.2.2.2.1
  have y8 := g4.2.2.2.2.2.2.2.2.1
  have y9 := g4.2.2.2.2.2.2.2.2.2
  have p0 := g3.1
  have p1 := g3.2.1
  have p2 := g3.2.2.1
  have p3 := g3.2.2.2.1
  have p4 := g3.2.2.2.2
  have r0_0 := f23.2.1
  have r0_1 := f23.2.2
  try simp only [e6] at y9
  try simp only [e8] at r0_1
  clear g3
  clear g4
  have wb0 := (y1 (hV H0 285 32).toNat).1
  have wp0 := (y1 (hV H0 285 33).toNat).2
  try simp only [e5, e6] at wb0
  try simp only [e5, e6] at wp0
  clear f8 f11 f14 f19 e5 e6 e8
  clear f6 f23
  subst e1
  subst e2
  subst e3
  rw [f16] at f20
  first
  | (have ix0 : n12 = n0 + 1 := Eq.trans f24 (w32_iv (Iad (Iat f1 f0) (IC 1)) (by decide)); subst ix0; clear f24)
  | (have ix0 : n12 = n0 + 1 := Eq.trans f24 (w32_id (by omega) (by omega)); subst ix0; clear f24)
  | (unfold w32 at f24; have ix0 : n12 = n0 + 1 := (by omega); subst ix0)
  | skip
  try unfold w32 at f20
  try unfold w32 at f21
  try unfold w32 at f24

  (try clear y0 y1 y2 p0 p1 p4)
  omega
def g_225_43_11 : vG := ([(10, [17, 3], [], 1), (1218, [1, 16, 2], [1, 2], 0), (0, [16], [], 3), (1, [11, 10, 3], [], 0), (3, [10, 8, 9], [], 0), (20, [9, 1], [1], 32), (90, [9], [], 0), (91, [9], [], 7), (0, [8], [], 6), (42, [3, 6], [], 0), (22, [6, 4, 5], [1], 0), (90, [6], [], 0), (91, [6], [], 6), (20, [5, 1], [1], 32), (90, [5], [], 0), (91, [5], [], 7), (20, [4, 1], [1], 20), (0, [4], [], 294), (5000, [0, 1, 2, 3], [0, 1], 43), (0, [0], [], 285), (0, [1], [], 285), (90, [2], [], 0), (91, [2], [], 500), (90, [3], [], 0), (91, [3], [], 6)], (90, [17], [], 0))
theorem c_225_43_11 {q0 : Nat} : vOkm T0 (eP e_225 L_225 A_225 mu_225 (some q0)) 1 g_225_43_11 := vOk_inI fun ρ η f0 f1 f2 f3 f4 f5 f6 f7 f8 f9 f10 f11 f12 f13 f14 f15 f16 f17 f18 f19 f20 f21 f22 f23 f24 => q_225_15 (q0 := q0) (n0 := ρ 3) (n1 := ρ 2) (n2 := ρ 1) (n3 := ρ 0) (n4 := ρ 4) (n5 := ρ 5) (n6 := ρ 6) (n7 := ρ 8) (n8 := ρ 9) (n9 := ρ 10) (n10 := ρ 11) (n11 := ρ 16) (n12 := ρ 17) (H0 := η 0) (H1 := η 1) (H2 := η 2) f24 f23 f22 f21 f20 f19 f18 f17 f16 f15 f14 f13 f12 f11 f10 f9 f8 f7 f6 f5 f4 f3 f2 f1 f0
set_option maxHeartbeats 20000000 in
theorem q_225_16 {q0 : Nat} {n0 n1 n2 n3 n4 n5 n6 n7 n8 n9 n10 n11 n12 : Int} {H0 H1 H2 : gH} (f0 : n0 ≤ 6) (f1 : 0 ≤ n0) (f2 : n1 ≤ 500) (f3 : 0 ≤ n1) (f4 : n2 = 285) (f5 : n3 = 285) (f6 : (hLe T0 H0 H1 ∧ hFr s_225.2.2.2.2 H0 H1 ∧ hWt T0 H1) ∧ (Ab_225_43 n3 n2 n1 n0 H0 H1 ∧ preb_225 n3 H0) ∧ some q0 = some (mub_225_43 n3 n2 n1 n0 H0 H1)) (f7 : n4 = 294) (f8 : n4 = hV H1 (n2).toNat 20) (f9 : n5 ≤ 7) (f10 : 0 ≤ n5) (f11 : n5 = hV H1 (n2).toNat 32) (f12 : n6 ≤ 6) (f13 : 0 ≤ n6) (f14 : n6 = hV H1 (n4).toNat (n5).toNat) (f15 : n0 < n6) (f16 : n7 = 6) (f17 : n8 ≤ 7) (f18 : 0 ≤ n8) (f19 : n8 = hV H1 (n2).toNat 32) (f20 : n9 = w32 (n7 * n8)) (f21 : n10 = w32 (n9 + n0)) (f22 : n11 = 3) (f23 : (hLe T0 H1 H2 ∧ hFr s_218.2.2.2.2 H1 H2 ∧ ((0 : Int) = 0 → H2.length = H1.length) ∧ hWt T0 H2) ∧ postb_218 n2 n11 n1 H1 H2) (f24 : n12 = w32 (n0 + 1)) : n12 ≤ 6 := by
  have g4 := f6.2.1.1
  unfold Ab_225_43 at g4
  have g3 := f6.2.1.2
  unfold preb_225 at g3
  unfold postb_218 at f23
  have e1 : n5 = hV H0 285 32 := (by rw [f4] at f11; exact f11 : n5 = hV H1 285 32).trans ((f6.1.2.1.1 285 32 kF_225_285_32))
  have e2 : n6 = hV H1 294 (n5).toNat := (by rw [f7] at f14; exact f14 : n6 = hV H1 294 (n5).toNat)
  have e3 : n8 = hV H0 285 32 := (by rw [f4] at f19; exact f19 : n8 = hV H1 285 32).trans ((f6.1.2.1.1 285 32 kF_225_285_32))
  have e5 : hV H1 285 18 = hV H0 285 18 := (f6.1.2.1.1 285 18 kF_225_285_18)
  have e6 : hV H1 285 32 = hV H0 285 32 := (f6.1.2.1.1 285 32 kF_225_285_32)
  have e8 : hV H2 285 13 = hV H1 285 13 := (f23.1.2.1.1 285 13 kF_218_285_13)
  have e9 : (0 : Int) ≤ hV H1 285 11 ∧ hV H1 285 11 ≤ 500 := f6.1.2.2 285 11 _ _ kW_285_11
  have e10 : (0 : Int) ≤ hV H1 285 13 ∧ hV H1 285 13 ≤ 2 := f6.1.2.2 285 13 _ _ kW_285_13
  have e11 : (0 : Int) ≤ hV H1 285 15 ∧ hV H1 285 15 ≤ 6 := f6.1.2.2 285 15 _ _ kW_285_15
  have e12 : (0 : Int) ≤ hV H0 285 18 ∧ hV H0 285 18 ≤ 8 := bTo e5 (f6.1.2.2 285 18 _ _ kW_285_18)
  have e13 : (0 : Int) ≤ hV H0 285 32 ∧ hV H0 285 32 ≤ 7 := bTo e6 (f6.1.2.2 285 32 _ _ kW_285_32)
  have e15 : (0 : Int) ≤ hV H2 285 15 ∧ hV H2 285 15 ≤ 6 := f23.1.2.2.2 285 15 _ _ kW_285_15
  have y0 := g4.1
  have y1 := g4.2.1
  have y2 := g4.2.2.1
  have y3 := g4.2.2.2.1
  have y4 := g4.2.2.2.2.1
  have y5 := g4.2.2.2.2.2.1
  have y6 := g4.2.2.2.2.2.2.1
  have y7 := g4.2.2.2.2.2.2.2.1
  have y8 := g4.2.2.2.2.2.2.2.2.1
  have y9 := g4.2.2.2.2.2.2.2.2.2
  have p0 := g3.1
  have p1 := g3.2.1
  have p2 := g3.2.2.1
  have p3 := g3.2.2.2.1
  have p4 := g3.2.2.2.2
  have r0_0 := f23.2.1
  have r0_1 := f23.2.2
  try simp only [e6] at y9
  try simp only [e8] at r0_1
  clear g3
  clear g4
  have wb0 := (y1 (hV H0 285 32).toNat).1
  have wp0 := (y1 (hV H0 285 33).toNat).2
  try simp only [e5, e6] at wb0
  try simp only [e5, e6] at wp0
  clear f8 f11 f14 f19 e5 e6 e8
  clear f6 f23
  subst e1
  subst e2
  subst e3
  rw [f16] at f20
  first
  | (have ix0 : n12 = n0 + 1 := Eq.trans f24 (w32_iv (Iad (Iat f1 f0) (IC 1)) (by decide)); subst ix0; clear f24)
  | (have ix0 : n12 = n0 + 1 := Eq.trans f24 (w32_id (by omega) (by omega)); subst ix0; clear f24)
  | (unfold w32 at f24; have ix0 : n12 = n0 + 1 := (by omega); subst ix0)
  | skip
  try unfold w32 at f20
  try unfold w32 at f21
  try unfold w32 at f24

  (try clear y0 y1 y2 p0 p1 p4)
  omega
def g_225_43_12 : vG := ([(10, [17, 3], [], 1), (1218, [1, 16, 2], [1, 2], 0), (0, [16], [], 3), (1, [11, 10, 3], [], 0), (3, [10, 8, 9], [], 0), (20, [9, 1], [1], 32), (90, [9], [], 0), (91, [9], [], 7), (0, [8], [], 6), (42, [3, 6], [], 0), (22, [6, 4, 5], [1], 0), (90, [6], [], 0), (91, [6], [], 6), (20, [5, 1], [1], 32), (90, [5], [], 0), (91, [5], [], 7), (20, [4, 1], [1], 20), (0, [4], [], 294), (5000, [0, 1, 2, 3], [0, 1], 43), (0, [0], [], 285), (0, [1], [], 285), (90, [2], [], 0), (91, [2], [], 500), (90, [3], [], 0), (91, [3], [], 6)], (91, [17], [], 6))
theorem c_225_43_12 {q0 : Nat} : vOkm T0 (eP e_225 L_225 A_225 mu_225 (some q0)) 1 g_225_43_12 := vOk_inI fun ρ η f0 f1 f2 f3 f4 f5 f6 f7 f8 f9 f10 f11 f12 f13 f14 f15 f16 f17 f18 f19 f20 f21 f22 f23 f24 => q_225_16 (q0 := q0) (n0 := ρ 3) (n1 := ρ 2) (n2 := ρ 1) (n3 := ρ 0) (n4 := ρ 4) (n5 := ρ 5) (n6 := ρ 6) (n7 := ρ 8) (n8 := ρ 9) (n9 := ρ 10) (n10 := ρ 11) (n11 := ρ 16) (n12 := ρ 17) (H0 := η 0) (H1 := η 1) (H2 := η 2) f24 f23 f22 f21 f20 f19 f18 f17 f16 f15 f14 f13 f12 f11 f10 f9 f8 f7 f6 f5 f4 f3 f2 f1 f0
set_option maxHeartbeats 20000000 in
theorem q_225_17 {q0 : Nat} {n0 n1 n2 n3 n4 n5 n6 n7 n8 n9 n10 n11 n12 : Int} {H0 H1 H2 : gH} (f0 : n0 ≤ 6) (f1 : 0 ≤ n0) (f2 : n1 ≤ 500) (f3 : 0 ≤ n1) (f4 : n2 = 285) (f5 : n3 = 285) (f6 : (hLe T0 H0 H1 ∧ hFr s_225.2.2.2.2 H0 H1 ∧ hWt T0 H1) ∧ (Ab_225_43 n3 n2 n1 n0 H0 H1 ∧ preb_225 n3 H0) ∧ some q0 = some (mub_225_43 n3 n2 n1 n0 H0 H1)) (f7 : n4 = 294) (f8 : n4 = hV H1 (n2).toNat 20) (f9 : n5 ≤ 7) (f10 : 0 ≤ n5) (f11 : n5 = hV H1 (n2).toNat 32) (f12 : n6 ≤ 6) (f13 : 0 ≤ n6) (f14 : n6 = hV H1 (n4).toNat (n5).toNat) (f15 : n0 < n6) (f16 : n7 = 6) (f17 : n8 ≤ 7) (f18 : 0 ≤ n8) (f19 : n8 = hV H1 (n2).toNat 32) (f20 : n9 = w32 (n7 * n8)) (f21 : n10 = w32 (n9 + n0)) (f22 : n11 = 3) (f23 : (hLe T0 H1 H2 ∧ hFr s_218.2.2.2.2 H1 H2 ∧ ((0 : Int) = 0 → H2.length = H1.length) ∧ hWt T0 H2) ∧ postb_218 n2 n11 n1 H1 H2) (f24 : n12 = w32 (n0 + 1)) : Ab_225_43 n3 n2 n1 n12 H0 H2 ∧ ∀ q, some q0 = some q → mub_225_43 n3 n2 n1 n12 H0 H2 < q := by
  have g4 := f6.2.1.1
  unfold Ab_225_43 at g4
  have g3 := f6.2.1.2
  unfold preb_225 at g3
  have g5 := Option.some.inj f6.2.2
  unfold mub_225_43 at g5
  unfold postb_218 at f23
  unfold Ab_225_43
  unfold mub_225_43
  have e1 : n5 = hV H0 285 32 := (by rw [f4] at f11; exact f11 : n5 = hV H1 285 32).trans ((f6.1.2.1.1 285 32 kF_225_285_32))
  have e2 : n6 = hV H1 294 (n5).toNat := (by rw [f7] at f14; exact f14 : n6 = hV H1 294 (n5).toNat)
  have e3 : n8 = hV H0 285 32 := (by rw [f4] at f19; exact f19 : n8 = hV H1 285 32).trans ((f6.1.2.1.1 285 32 kF_225_285_32))
  have e5 : hV H1 285 18 = hV H0 285 18 := (f6.1.2.1.1 285 18 kF_225_285_18)
  have e6 : hV H1 285 32 = hV H0 285 32 := (f6.1.2.1.1 285 32 kF_225_285_32)
  have e8 : hV H2 285 11 = hV H1 285 11 := (f23.1.2.1.1 285 11 kF_218_285_11)
  have e10 : hV H2 285 13 = hV H1 285 13 := (f23.1.2.1.1 285 13 kF_218_285_13)
  have e12 : hV H2 285 32 = hV H0 285 32 := ((f23.1.2.1.1 285 32 kF_218_285_32)).trans (f6.1.2.1.1 285 32 kF_225_285_32)
  have e13 : hV H2 294 = hV H1 294 := fRow f23.1.2.1 294 kR_218_294
  have e14 : PA H2 = PA H1 := PA_fr f23.1.2.1 (by decide +kernel)
  have e15 : PB H2 = PB H1 := PB_fr f23.1.2.1 (by decide +kernel)
  have e16 : PQ H2 = PQ H1 := PQ_fr f23.1.2.1 (by decide +kernel)
  have e17 : (0 : Int) ≤ hV H1 285 11 ∧ hV H1 285 11 ≤ 500 := f6.1.2.2 285 11 _ _ kW_285_11
  have e18 : (0 : Int) ≤ hV H1 285 13 ∧ hV H1 285 13 ≤ 2 := f6.1.2.2 285 13 _ _ kW_285_13
  have e19 : (0 : Int) ≤ hV H1 285 15 ∧ hV H1 285 15 ≤ 6 := f6.1.2.2 285 15 _ _ kW_285_15
  have e20 : (0 : Int) ≤ hV H0 285 18 ∧ hV H0 285 18 ≤ 8 := bTo e5 (f6.1.2.2 285 18 _ _ kW_285_18)
  have e21 : (0 : Int) ≤ hV H0 285 32 ∧ hV H0 285 32 ≤ 7 := bTo e6 (f6.1.2.2 285 32 _ _ kW_285_32)
  have e24 : (0 : Int) ≤ hV H2 285 15 ∧ hV H2 285 15 ≤ 6 := f23.1.2.2.2 285 15 _ _ kW_285_15
  try simp only [e8, e10, e12, e13, e14, e15, e16]
  have y0 := g4.1
  have y1 := g4.2.1
  have y2 := g4.2.2.1
  have y3 := g4.2.2.2.1
  have y4 := g4.2.2.2.2.1
  have y5 := g4.2.2.2.2.2.1
  have y6 := g4.2.2.2.2.2.2.1
  have y7 := g4.2.2.2.2.2.2.2.1
  have y8 := g4.2.2.2.2.2.2.2.2.1
  have y9 := g4.2.2.2.2.2.2.2.2.2
  have p0 := g3.1
  have p1 := g3.2.1
  have p2 := g3.2.2.1
  have p3 := g3.2.2.2.1
  have p4 := g3.2.2.2.2
  have r0_0 := f23.2.1
  have r0_1 := f23.2.2
  try simp only [e6] at y9
  try simp only [e10] at r0_1
  clear g3
  clear g4
  have wb0 := (y1 (hV H0 285 32).toNat).1
  have wp0 := (y1 (hV H0 285 33).toNat).2
  try simp only [e5, e6] at wb0
  try simp only [e5, e6] at wp0
  clear f8 f11 f14 f19 e5 e6 e8 e10 e12 e13 e14 e15 e16
  clear f6 f23
  subst e1
  subst e2
  subst e3
  rw [f16] at f20
  first
  | (have ix0 : n12 = n0 + 1 := Eq.trans f24 (w32_iv (Iad (Iat f1 f0) (IC 1)) (by decide)); subst ix0; clear f24)
  | (have ix0 : n12 = n0 + 1 := Eq.trans f24 (w32_id (by omega) (by omega)); subst ix0; clear f24)
  | (unfold w32 at f24; have ix0 : n12 = n0 + 1 := (by omega); subst ix0)
  | skip
  try unfold w32 at f20
  try unfold w32 at f21
  try unfold w32 at f24

  refine ⟨⟨?_, ?_, ?_, ?_⟩, fun q hq => ?_⟩
  · exact y0
  · exact y1
  · intro z1 z2
    exact y2 (by omega) (by omega)
  · (try clear y0 y1 y2 p0 p1 p4)
    first
    | omega
    | (refine ⟨?_, ?_, ?_, ?_, ?_, ?_, ?_⟩ <;> first | exact True.intro | omega)
  · (try clear y0 y1 y2 p0 p1 p4)
    have g6 := Option.some.inj hq
    subst g6
    omega
def g_225_43_13 : vG := ([(10, [17, 3], [], 1), (1218, [1, 16, 2], [1, 2], 0), (0, [16], [], 3), (1, [11, 10, 3], [], 0), (3, [10, 8, 9], [], 0), (20, [9, 1], [1], 32), (90, [9], [], 0), (91, [9], [], 7), (0, [8], [], 6), (42, [3, 6], [], 0), (22, [6, 4, 5], [1], 0), (90, [6], [], 0), (91, [6], [], 6), (20, [5, 1], [1], 32), (90, [5], [], 0), (91, [5], [], 7), (20, [4, 1], [1], 20), (0, [4], [], 294), (5000, [0, 1, 2, 3], [0, 1], 43), (0, [0], [], 285), (0, [1], [], 285), (90, [2], [], 0), (91, [2], [], 500), (90, [3], [], 0), (91, [3], [], 6)], (4000, [1, 2, 17], [2], 43))
theorem c_225_43_13 {q0 : Nat} : vOkm T0 (eP e_225 L_225 A_225 mu_225 (some q0)) 1 g_225_43_13 := vOk_inI fun ρ η f0 f1 f2 f3 f4 f5 f6 f7 f8 f9 f10 f11 f12 f13 f14 f15 f16 f17 f18 f19 f20 f21 f22 f23 f24 => q_225_17 (q0 := q0) (n0 := ρ 3) (n1 := ρ 2) (n2 := ρ 1) (n3 := ρ 0) (n4 := ρ 4) (n5 := ρ 5) (n6 := ρ 6) (n7 := ρ 8) (n8 := ρ 9) (n9 := ρ 10) (n10 := ρ 11) (n11 := ρ 16) (n12 := ρ 17) (H0 := η 0) (H1 := η 1) (H2 := η 2) f24 f23 f22 f21 f20 f19 f18 f17 f16 f15 f14 f13 f12 f11 f10 f9 f8 f7 f6 f5 f4 f3 f2 f1 f0
def p_225_43 : List vG := [g_225_43_0,
  g_225_43_1,
  g_225_43_2,
  g_225_43_3,
  g_225_43_4,
  g_225_43_5,
  g_225_43_6,
  g_225_43_7,
  g_225_43_8,
  g_225_43_9,
  g_225_43_10,
  g_225_43_11,
  g_225_43_12,
  g_225_43_13]
theorem r_225_43 : vCovO false (eRc e_225 L_225 cs_225 2000 (43, [(0, (3, 12, 285, 0)), (1, (0, 0, 500, 0)), (2, (0, 0, 6, 0))])) p_225_43 = true := by decide +kernel
theorem m_225 (d : Nat) : eC e_225 (d + 9) := eC_ok (e := e_225) (L := L_225) (cs := cs_225) (n := 2000) (d := d + 8) (A := A_225) (μ := mu_225) (tp := false) (p0 := p_225_s) rfl ⟨m_217 (d + 7), ⟨m_218 (d + 7), ⟨m_219 (d + 6), ⟨m_220 (d + 5), ⟨m_226 d, trivial⟩⟩⟩⟩⟩ rfl (.inl rfl) (by decide +kernel) (fun z => nomatch z) r_225_s (allC c_225_s_0 (allC c_225_s_1 (allC c_225_s_2 (allC c_225_s_3 allN)))) (allC (.inl ⟨p_225_43, r_225_43, fun q0 => (allC c_225_43_0 (allC c_225_43_1 (allC c_225_43_2 (allC c_225_43_3 (allC c_225_43_4 (allC c_225_43_5 (allC c_225_43_6 (allC c_225_43_7 (allC c_225_43_8 (allC c_225_43_9 (allC c_225_43_10 (allC c_225_43_11 (allC c_225_43_12 (allC c_225_43_13 allN))))))))))))))⟩) allN)
/- MixStageModel.tellSheet ()V -/
noncomputable def s_224 : vM := ([(3, 12, 285, 0)], (9, 0, 0, 0), 1, 0, [(12, 11), (12, 13), (12, 14), (12, 15), (12, 16), (12, 33), (180, 0), (189, 0), (196, 0), (204, 0), (212, 0), (220, 0), (228, 0), (236, 0), (244, 0), (252, 0), (260, 0), (268, 0)])
def preb_224 (a0 : Int) (h : gH) : Prop := PA h ∧ PQ h ∧ hV h 285 32 = hV h 285 18 ∧ hV h 285 18 ≤ 7
def pre_224 : List Int → gH → Prop := fun xs h => match xs with
  | [a0] => preb_224 a0 h
  | _ => False
def postb_224 (a0 : Int) (h0 h : gH) : Prop := PA h ∧ PQ h ∧ (hV h 285 13 = 0 → hV h 285 15 = 0 → PGs (hV h 294) (hV h 296) (hV h 298) (hV h 300) (hV h 301) (hV h 302) (hV h 303) (hV h 305) (hV h 285 32).toNat)
def post_224 : List Int → gH → gH → Prop := fun xs h0 h => match xs with
  | [a0] => postb_224 a0 h0 h
  | _ => True
noncomputable def e_224 : vE := (224, s_224, pre_224, post_224)
noncomputable def L_224 : List vE := [e_216, e_218, e_220, e_225, e_226]
def cs_224 : List vC := [(10, [(0, (3, 12, 285, 0))])]
def Ab_224_10 (a0 x0 : Int) (h0 h : gH) : Prop := PA h ∧ PQ h ∧ (hV h 285 13 = 0 → hV h 285 15 = 0 → PB h)
def mub_224_10 (a0 x0 : Int) (h0 h : gH) : Nat := (1002 - 2 * hV h 285 11 - hV h 285 13).toNat
def A_224 : Int → List Int → gH → gH → Prop := fun c xs h0 h => match c.toNat with
  | 10 => PA h ∧ PQ h ∧ (hV h 285 13 = 0 → hV h 285 15 = 0 → PB h)
  | _ => True
def mu_224 : Int → List Int → gH → gH → Nat := fun c xs h0 h => match c.toNat with
  | 10 => (match xs with
    | [a0, x0] => mub_224_10 a0 x0 h0 h
    | _ => 0)
  | _ => 0
set_option maxHeartbeats 20000000 in
theorem q_224_0 {n0 n1 n2 n3 : Int} {H0 H1 : gH} (f0 : n0 = 285) (f1 : hWt T0 H0 ∧ preb_224 n0 H0) (f2 : n1 = 294) (f3 : n1 = hV H0 (n0).toNat 20) (f4 : n2 ≤ 7) (f5 : 0 ≤ n2) (f6 : n2 = hV H0 (n0).toNat 32) (f7 : n3 = 0) (f8 : hUpd H1 H0 n1 n2 n3) : Ab_224_10 n0 n0 H0 H1 ∧ ∀ q, none = some q → mub_224_10 n0 n0 H0 H1 < q := by
  unfold preb_224 at f1
  unfold Ab_224_10
  have e0 : n2 = hV H0 285 32 := (by rw [f0] at f6; exact f6 : n2 = hV H0 285 32)
  have e4 : hV H1 285 13 = hV H0 285 13 := (uPlace f8 285 13 (iS (show n1 = ((294 : Nat) : Int) from f2) rfl))
  have e6 : hV H1 285 15 = hV H0 285 15 := (uPlace f8 285 15 (iS (show n1 = ((294 : Nat) : Int) from f2) rfl))
  have e8 : hV H1 285 18 = hV H0 285 18 := (uPlace f8 285 18 (iS (show n1 = ((294 : Nat) : Int) from f2) rfl))
  have e10 : hV H1 285 32 = hV H0 285 32 := (uPlace f8 285 32 (iS (show n1 = ((294 : Nat) : Int) from f2) rfl))
  have e12 : hV H1 285 64 = hV H0 285 64 := (uPlace f8 285 64 (iS (show n1 = ((294 : Nat) : Int) from f2) rfl))
  have e13 : hV H1 294 = uF (hV H0 294) n2 n3 := uRow f8 294 f2.symm
  have e14 : hV H1 296 = hV H0 296 := uRowNe f8 296 (iS (show n1 = ((294 : Nat) : Int) from f2) rfl)
  have e15 : hV H1 297 = hV H0 297 := uRowNe f8 297 (iS (show n1 = ((294 : Nat) : Int) from f2) rfl)
  have e16 : hV H1 298 = hV H0 298 := uRowNe f8 298 (iS (show n1 = ((294 : Nat) : Int) from f2) rfl)
  have e17 : hV H1 300 = hV H0 300 := uRowNe f8 300 (iS (show n1 = ((294 : Nat) : Int) from f2) rfl)
  have e18 : hV H1 301 = hV H0 301 := uRowNe f8 301 (iS (show n1 = ((294 : Nat) : Int) from f2) rfl)
  have e19 : hV H1 302 = hV H0 302 := uRowNe f8 302 (iS (show n1 = ((294 : Nat) : Int) from f2) rfl)
  have e20 : hV H1 303 = hV H0 303 := uRowNe f8 303 (iS (show n1 = ((294 : Nat) : Int) from f2) rfl)
  have e21 : hV H1 305 = hV H0 305 := uRowNe f8 305 (iS (show n1 = ((294 : Nat) : Int) from f2) rfl)
  have e22 : hV H1 328 = hV H0 328 := uRowNe f8 328 (iS (show n1 = ((294 : Nat) : Int) from f2) rfl)
  have e23 : hV H1 332 = hV H0 332 := uRowNe f8 332 (iS (show n1 = ((294 : Nat) : Int) from f2) rfl)
  have e24 : hV H1 335 = hV H0 335 := uRowNe f8 335 (iS (show n1 = ((294 : Nat) : Int) from f2) rfl)
  have e25 : (0 : Int) ≤ hV H0 285 18 ∧ hV H0 285 18 ≤ 8 := f1.1 285 18 _ _ kW_285_18
  have e26 : (0 : Int) ≤ hV H0 285 32 ∧ hV H0 285 32 ≤ 7 := f1.1 285 32 _ _ kW_285_32
  have e27 : (0 : Int) ≤ hV H0 285 64 ∧ hV H0 285 64 ≤ 20 := f1.1 285 64 _ _ kW_285_64
  have e28 : (0 : Int) ≤ hV H0 285 11 ∧ hV H0 285 11 ≤ 500 := f1.1 285 11 _ _ kW_285_11
  have e29 : (0 : Int) ≤ hV H0 285 13 ∧ hV H0 285 13 ≤ 2 := f1.1 285 13 _ _ kW_285_13
  have e30 : (0 : Int) ≤ hV H0 285 15 ∧ hV H0 285 15 ≤ 6 := f1.1 285 15 _ _ kW_285_15
  try simp only [PA, PB, PW, PQ]
  try simp only [e4, e6, e8, e10, e12, e13, e14, e15, e16, e17, e18, e19, e20, e21, e22, e23, e24]
  have p0 := f1.2.1
  have p1 := f1.2.2.1
  have p2 := f1.2.2.2.1
  have p3 := f1.2.2.2.2
  try simp only [PA] at p0
  try simp only [PQ] at p1
  have wb0 := (p1 (hV H0 285 32).toNat).1
  have wp0 := (p1 (hV H0 285 33).toNat).2
  clear f3 f6 e4 e6 e8 e10 e12 e14 e15 e16 e17 e18 e19 e20 e21 e22 e23 e24
  clear f1
  subst e0

  refine ⟨⟨?_, ?_, ?_⟩, fun q hq => ?_⟩
  · refine PA_bl ?_ (by omega)
    exact p0
  · refine PQ_bl ?_ (by omega) (by omega)
    exact p1
  · intro z1 z2
    exact PB_first (by simp only [uF_at]; omega)
  · exact nomatch hq
def g_224_s_0 : vG := ([(80, [1, 2, 3], [1, 0], 0), (0, [3], [], 0), (20, [2, 0], [0], 32), (90, [2], [], 0), (91, [2], [], 7), (20, [1, 0], [0], 20), (0, [1], [], 294), (6000, [0], [0], 0), (0, [0], [], 285)], (4000, [0], [1], 10))
theorem c_224_s_0 : vOkm T0 (eP e_224 L_224 A_224 mu_224 none) 1 g_224_s_0 := vOk_inI fun ρ η f0 f1 f2 f3 f4 f5 f6 f7 f8 => q_224_0 (n0 := ρ 0) (n1 := ρ 1) (n2 := ρ 2) (n3 := ρ 3) (H0 := η 0) (H1 := η 1) f8 f7 f6 f5 f4 f3 f2 f1 f0
def p_224_s : List vG := [g_224_s_0]
theorem r_224_s : vCovO false (eR0 e_224 L_224 cs_224 2000) p_224_s = true := by decide +kernel
set_option maxHeartbeats 20000000 in
theorem kF_224_285_32 : vFree s_224.2.2.2.2 285 32 = true := by decide +kernel
theorem kF_224_285_18 : vFree s_224.2.2.2.2 285 18 = true := by decide +kernel
theorem q_224_1 {q0 : Nat} {n0 n1 n2 n3 n4 n5 n6 n7 n8 n9 n10 : Int} {H0 H1 H2 H3 : gH} (f0 : n0 = 285) (f1 : n1 = 285) (f2 : (hLe T0 H0 H1 ∧ hFr s_224.2.2.2.2 H0 H1 ∧ hWt T0 H1) ∧ (Ab_224_10 n1 n0 H0 H1 ∧ preb_224 n1 H0) ∧ some q0 = some (mub_224_10 n1 n0 H0 H1)) (f3 : n2 = 20) (f4 : n3 ≤ 1) (f5 : 0 ≤ n3) (f6 : (hLe T0 H1 H2 ∧ hFr s_216.2.2.2.2 H1 H2 ∧ ((0 : Int) = 0 → H2.length = H1.length) ∧ hWt T0 H2) ∧ postb_216 n3 n0 n2 H1 H2) (f7 : n3 = 0) (f8 : n4 ≤ 500) (f9 : 0 ≤ n4) (f10 : n4 = hV H2 (n0).toNat 11) (f11 : n5 = 22) (f12 : (hLe T0 H2 H3 ∧ hFr s_220.2.2.2.2 H2 H3 ∧ ((0 : Int) = 0 → H3.length = H2.length) ∧ hWt T0 H3) ∧ postb_220 n0 n5 H2 H3) (f13 : n6 = 7) (f14 : n7 ≤ 7) (f15 : 0 ≤ n7) (f16 : n7 = hV H3 (n0).toNat 32) (f17 : n8 = w32 (n6 * n7)) (f18 : n9 = 6) (f19 : n10 = w32 (n8 + n9)) : 0 ≤ n10 := by
  have g4 := f2.2.1.1
  unfold Ab_224_10 at g4
  have g3 := f2.2.1.2
  unfold preb_224 at g3
  unfold postb_216 at f6
  unfold postb_220 at f12
  have e1 : n4 = hV H1 285 11 := (by rw [f0] at f10; exact f10 : n4 = hV H2 285 11).trans ((f6.1.2.1.1 285 11 kF_216_285_11))
  have e5 : n7 = hV H0 285 32 := (by rw [f0] at f16; exact f16 : n7 = hV H3 285 32).trans (((f12.1.2.1.1 285 32 kF_220_285_32)).trans (((f6.1.2.1.1 285 32 kF_216_285_32)).trans (f2.1.2.1.1 285 32 kF_224_285_32)))
  have e7 : hV H1 285 18 = hV H0 285 18 := (f2.1.2.1.1 285 18 kF_224_285_18)
  have e8 : hV H1 285 32 = hV H0 285 32 := (f2.1.2.1.1 285 32 kF_224_285_32)
  have e9 : hV H2 285 11 = hV H1 285 11 := (f6.1.2.1.1 285 11 kF_216_285_11)
  have e11 : hV H2 285 13 = hV H1 285 13 := (f6.1.2.1.1 285 13 kF_216_285_13)
  have e17 : (0 : Int) ≤ hV H1 285 11 ∧ hV H1 285 11 ≤ 500 := f2.1.2.2 285 11 _ _ kW_285_11
  have e18 : (0 : Int) ≤ hV H1 285 13 ∧ hV H1 285 13 ≤ 2 := f2.1.2.2 285 13 _ _ kW_285_13
  have e19 : (0 : Int) ≤ hV H1 285 15 ∧ hV H1 285 15 ≤ 6 := f2.1.2.2 285 15 _ _ kW_285_15
  have e20 : (0 : Int) ≤ hV H0 285 18 ∧ hV H0 285 18 ≤ 8 := bTo e7 (f2.1.2.2 285 18 _ _ kW_285_18)
  have e21 : (0 : Int) ≤ hV H0 285 32 ∧ hV H0 285 32 ≤ 7 := bTo e8 (f2.1.2.2 285 32 _ _ kW_285_32)
  have e24 : (0 : Int) ≤ hV H3 285 11 ∧ hV H3 285 11 ≤ 500 := f12.1.2.2.2 285 11 _ _ kW_285_11
  have e25 : (0 : Int) ≤ hV H3 285 13 ∧ hV H3 285 13 ≤ 2 := f12.1.2.2.2 285 13 _ _ kW_285_13
  have y0 := g4.1
  have y1 := g4.2.1
  have y2 := g4.2.2
  have p0 := g3.1
  have p1 := g3.2.1
  have p2 := g3.2.2.1
  have p3 := g3.2.2.2
  have r0_0 := f6.2.1
  have r1_0 := f12.2.1
  have r1_1 := f12.2.2.1
  have r1_2 := f12.2.2.2.1
  have r1_3 := f12.2.2.2.2.1
  try simp only [e11] at r0_0
  try simp only [e9] at r1_0
  try simp only [e9] at r1_1
  try simp only [e11] at r1_2
  try simp only [e9] at r1_3
  clear g3
  clear g4
  have wb0 := (y1 (hV H0 285 32).toNat).1
  have wp0 := (y1 (hV H0 285 33).toNat).2
  try simp only [e7, e8] at wb0
  try simp only [e7, e8] at wp0
  clear f10 f16 e7 e8 e9 e11
  clear f2 f6 f12
  subst e1
  subst e5
  rw [f13] at f17
  first
  | (have ix0 : n8 = 7 * (hV H0 285 32) := Eq.trans f17 (w32_iv (Iml 7 rfl (Iat f15 f14)) (by decide)); subst ix0; clear f17)
  | (have ix0 : n8 = 7 * (hV H0 285 32) := Eq.trans f17 (w32_id (by omega) (by omega)); subst ix0; clear f17)
  | (unfold w32 at f17; have ix0 : n8 = 7 * (hV H0 285 32) := (by omega); subst ix0)
  | skip
  first
  | (have ix1 : n10 = (7 * (hV H0 285 32)) + 6 := Eq.trans f19 (w32_iv (Iad (Iml 7 rfl (Iat f15 f14)) (IC 6)) (by decide)); subst ix1; clear f19)
  | (have ix1 : n10 = (7 * (hV H0 285 32)) + 6 := Eq.trans f19 (w32_id (by omega) (by omega)); subst ix1; clear f19)
  | (unfold w32 at f19; have ix1 : n10 = (7 * (hV H0 285 32)) + 6 := (by omega); subst ix1)
  | skip
  try unfold w32 at f17
  try unfold w32 at f19

  (try clear y0 y1 y2 p0 p1)
  omega
def g_224_10_0 : vG := ([(1, [10, 8, 9], [], 0), (0, [9], [], 6), (3, [8, 6, 7], [], 0), (20, [7, 1], [3], 32), (90, [7], [], 0), (91, [7], [], 7), (0, [6], [], 7), (1220, [1, 5], [2, 3], 0), (0, [5], [], 22), (20, [4, 1], [2], 11), (90, [4], [], 0), (91, [4], [], 500), (30, [3], [], 0), (1216, [3, 1, 2], [1, 2], 0), (90, [3], [], 0), (91, [3], [], 1), (0, [2], [], 20), (5000, [0, 1], [0, 1], 10), (0, [0], [], 285), (0, [1], [], 285)], (90, [10], [], 0))
theorem c_224_10_0 {q0 : Nat} : vOkm T0 (eP e_224 L_224 A_224 mu_224 (some q0)) 1 g_224_10_0 := vOk_inI fun ρ η f0 f1 f2 f3 f4 f5 f6 f7 f8 f9 f10 f11 f12 f13 f14 f15 f16 f17 f18 f19 => q_224_1 (q0 := q0) (n0 := ρ 1) (n1 := ρ 0) (n2 := ρ 2) (n3 := ρ 3) (n4 := ρ 4) (n5 := ρ 5) (n6 := ρ 6) (n7 := ρ 7) (n8 := ρ 8) (n9 := ρ 9) (n10 := ρ 10) (H0 := η 0) (H1 := η 1) (H2 := η 2) (H3 := η 3) f19 f18 f17 f16 f15 f14 f13 f12 f11 f10 f9 f8 f7 f6 f5 f4 f3 f2 f1 f0
set_option maxHeartbeats 20000000 in
theorem q_224_2 {q0 : Nat} {n0 n1 n2 n3 n4 n5 n6 n7 n8 n9 n10 : Int} {H0 H1 H2 H3 : gH} (f0 : n0 = 285) (f1 : n1 = 285) (f2 : (hLe T0 H0 H1 ∧ hFr s_224.2.2.2.2 H0 H1 ∧ hWt T0 H1) ∧ (Ab_224_10 n1 n0 H0 H1 ∧ preb_224 n1 H0) ∧ some q0 = some (mub_224_10 n1 n0 H0 H1)) (f3 : n2 = 20) (f4 : n3 ≤ 1) (f5 : 0 ≤ n3) (f6 : (hLe T0 H1 H2 ∧ hFr s_216.2.2.2.2 H1 H2 ∧ ((0 : Int) = 0 → H2.length = H1.length) ∧ hWt T0 H2) ∧ postb_216 n3 n0 n2 H1 H2) (f7 : n3 = 0) (f8 : n4 ≤ 500) (f9 : 0 ≤ n4) (f10 : n4 = hV H2 (n0).toNat 11) (f11 : n5 = 22) (f12 : (hLe T0 H2 H3 ∧ hFr s_220.2.2.2.2 H2 H3 ∧ ((0 : Int) = 0 → H3.length = H2.length) ∧ hWt T0 H3) ∧ postb_220 n0 n5 H2 H3) (f13 : n6 = 7) (f14 : n7 ≤ 7) (f15 : 0 ≤ n7) (f16 : n7 = hV H3 (n0).toNat 32) (f17 : n8 = w32 (n6 * n7)) (f18 : n9 = 6) (f19 : n10 = w32 (n8 + n9)) : n10 ≤ 62 := by
  have g4 := f2.2.1.1
  unfold Ab_224_10 at g4
  have g3 := f2.2.1.2
  unfold preb_224 at g3
  unfold postb_216 at f6
  unfold postb_220 at f12
  have e1 : n4 = hV H1 285 11 := (by rw [f0] at f10; exact f10 : n4 = hV H2 285 11).trans ((f6.1.2.1.1 285 11 kF_216_285_11))
  have e5 : n7 = hV H0 285 32 := (by rw [f0] at f16; exact f16 : n7 = hV H3 285 32).trans (((f12.1.2.1.1 285 32 kF_220_285_32)).trans (((f6.1.2.1.1 285 32 kF_216_285_32)).trans (f2.1.2.1.1 285 32 kF_224_285_32)))
  have e7 : hV H1 285 18 = hV H0 285 18 := (f2.1.2.1.1 285 18 kF_224_285_18)
  have e8 : hV H1 285 32 = hV H0 285 32 := (f2.1.2.1.1 285 32 kF_224_285_32)
  have e9 : hV H2 285 11 = hV H1 285 11 := (f6.1.2.1.1 285 11 kF_216_285_11)
  have e11 : hV H2 285 13 = hV H1 285 13 := (f6.1.2.1.1 285 13 kF_216_285_13)
  have e17 : (0 : Int) ≤ hV H1 285 11 ∧ hV H1 285 11 ≤ 500 := f2.1.2.2 285 11 _ _ kW_285_11
  have e18 : (0 : Int) ≤ hV H1 285 13 ∧ hV H1 285 13 ≤ 2 := f2.1.2.2 285 13 _ _ kW_285_13
  have e19 : (0 : Int) ≤ hV H1 285 15 ∧ hV H1 285 15 ≤ 6 := f2.1.2.2 285 15 _ _ kW_285_15
  have e20 : (0 : Int) ≤ hV H0 285 18 ∧ hV H0 285 18 ≤ 8 := bTo e7 (f2.1.2.2 285 18 _ _ kW_285_18)
  have e21 : (0 : Int) ≤ hV H0 285 32 ∧ hV H0 285 32 ≤ 7 := bTo e8 (f2.1.2.2 285 32 _ _ kW_285_32)
  have e24 : (0 : Int) ≤ hV H3 285 11 ∧ hV H3 285 11 ≤ 500 := f12.1.2.2.2 285 11 _ _ kW_285_11
  have e25 : (0 : Int) ≤ hV H3 285 13 ∧ hV H3 285 13 ≤ 2 := f12.1.2.2.2 285 13 _ _ kW_285_13
  have y0 := g4.1
  have y1 := g4.2.1
  have y2 := g4.2.2
  have p0 := g3.1
  have p1 := g3.2.1
  have p2 := g3.2.2.1
  have p3 := g3.2.2.2
  have r0_0 := f6.2.1
  have r1_0 := f12.2.1
  have r1_1 := f12.2.2.1
  have r1_2 := f12.2.2.2.1
  have r1_3 := f12.2.2.2.2.1
  try simp only [e11] at r0_0
  try simp only [e9] at r1_0
  try simp only [e9] at r1_1
  try simp only [e11] at r1_2
  try simp only [e9] at r1_3
  clear g3
  clear g4
  have wb0 := (y1 (hV H0 285 32).toNat).1
  have wp0 := (y1 (hV H0 285 33).toNat).2
  try simp only [e7, e8] at wb0
  try simp only [e7, e8] at wp0
  clear f10 f16 e7 e8 e9 e11
  clear f2 f6 f12
  subst e1
  subst e5
  rw [f13] at f17
  first
  | (have ix0 : n8 = 7 * (hV H0 285 32) := Eq.trans f17 (w32_iv (Iml 7 rfl (Iat f15 f14)) (by decide)); subst ix0; clear f17)
  | (have ix0 : n8 = 7 * (hV H0 285 32) := Eq.trans f17 (w32_id (by omega) (by omega)); subst ix0; clear f17)
  | (unfold w32 at f17; have ix0 : n8 = 7 * (hV H0 285 32) := (by omega); subst ix0)
  | skip
  first
  | (have ix1 : n10 = (7 * (hV H0 285 32)) + 6 := Eq.trans f19 (w32_iv (Iad (Iml 7 rfl (Iat f15 f14)) (IC 6)) (by decide)); subst ix1; clear f19)
  | (have ix1 : n10 = (7 * (hV H0 285 32)) + 6 := Eq.trans f19 (w32_id (by omega) (by omega)); subst ix1; clear f19)
  | (unfold w32 at f19; have ix1 : n10 = (7 * (hV H0 285 32)) + 6 := (by omega); subst ix1)
  | skip
  try unfold w32 at f17
  try unfold w32 at f19

  (try clear y0 y1 y2 p0 p1)
  omega
def g_224_10_1 : vG := ([(1, [10, 8, 9], [], 0), (0, [9], [], 6), (3, [8, 6, 7], [], 0), (20, [7, 1], [3], 32), (90, [7], [], 0), (91, [7], [], 7), (0, [6], [], 7), (1220, [1, 5], [2, 3], 0), (0, [5], [], 22), (20, [4, 1], [2], 11), (90, [4], [], 0), (91, [4], [], 500), (30, [3], [], 0), (1216, [3, 1, 2], [1, 2], 0), (90, [3], [], 0), (91, [3], [], 1), (0, [2], [], 20), (5000, [0, 1], [0, 1], 10), (0, [0], [], 285), (0, [1], [], 285)], (91, [10], [], 62))
theorem c_224_10_1 {q0 : Nat} : vOkm T0 (eP e_224 L_224 A_224 mu_224 (some q0)) 1 g_224_10_1 := vOk_inI fun ρ η f0 f1 f2 f3 f4 f5 f6 f7 f8 f9 f10 f11 f12 f13 f14 f15 f16 f17 f18 f19 => q_224_2 (q0 := q0) (n0 := ρ 1) (n1 := ρ 0) (n2 := ρ 2) (n3 := ρ 3) (n4 := ρ 4) (n5 := ρ 5) (n6 := ρ 6) (n7 := ρ 7) (n8 := ρ 8) (n9 := ρ 9) (n10 := ρ 10) (H0 := η 0) (H1 := η 1) (H2 := η 2) (H3 := η 3) f19 f18 f17 f16 f15 f14 f13 f12 f11 f10 f9 f8 f7 f6 f5 f4 f3 f2 f1 f0
set_option maxHeartbeats 20000000 in
theorem q_224_3 {q0 : Nat} {n0 n1 n2 n3 n4 n5 n6 n7 n8 n9 n10 n11 : Int} {H0 H1 H2 H3 H4 : gH} (f0 : n0 = 285) (f1 : n1 = 285) (f2 : (hLe T0 H0 H1 ∧ hFr s_224.2.2.2.2 H0 H1 ∧ hWt T0 H1) ∧ (Ab_224_10 n1 n0 H0 H1 ∧ preb_224 n1 H0) ∧ some q0 = some (mub_224_10 n1 n0 H0 H1)) (f3 : n2 = 20) (f4 : n3 ≤ 1) (f5 : 0 ≤ n3) (f6 : (hLe T0 H1 H2 ∧ hFr s_216.2.2.2.2 H1 H2 ∧ ((0 : Int) = 0 → H2.length = H1.length) ∧ hWt T0 H2) ∧ postb_216 n3 n0 n2 H1 H2) (f7 : n3 = 0) (f8 : n4 ≤ 500) (f9 : 0 ≤ n4) (f10 : n4 = hV H2 (n0).toNat 11) (f11 : n5 = 22) (f12 : (hLe T0 H2 H3 ∧ hFr s_220.2.2.2.2 H2 H3 ∧ ((0 : Int) = 0 → H3.length = H2.length) ∧ hWt T0 H3) ∧ postb_220 n0 n5 H2 H3) (f13 : n6 = 7) (f14 : n7 ≤ 7) (f15 : 0 ≤ n7) (f16 : n7 = hV H3 (n0).toNat 32) (f17 : n8 = w32 (n6 * n7)) (f18 : n9 = 6) (f19 : n10 = w32 (n8 + n9)) (f20 : n11 = 33) (f21 : hUpd H4 H3 n0 n11 n10) : preb_226 n0 H4 := by
  have g4 := f2.2.1.1
  unfold Ab_224_10 at g4
  have g3 := f2.2.1.2
  unfold preb_224 at g3
  unfold postb_216 at f6
  unfold postb_220 at f12
  unfold preb_226
  have e1 : n4 = hV H1 285 11 := (by rw [f0] at f10; exact f10 : n4 = hV H2 285 11).trans ((f6.1.2.1.1 285 11 kF_216_285_11))
  have e5 : n7 = hV H0 285 32 := (by rw [f0] at f16; exact f16 : n7 = hV H3 285 32).trans (((f12.1.2.1.1 285 32 kF_220_285_32)).trans (((f6.1.2.1.1 285 32 kF_216_285_32)).trans (f2.1.2.1.1 285 32 kF_224_285_32)))
  have e7 : hV H1 285 18 = hV H0 285 18 := (f2.1.2.1.1 285 18 kF_224_285_18)
  have e8 : hV H1 285 32 = hV H0 285 32 := (f2.1.2.1.1 285 32 kF_224_285_32)
  have e9 : hV H2 285 11 = hV H1 285 11 := (f6.1.2.1.1 285 11 kF_216_285_11)
  have e11 : hV H2 285 13 = hV H1 285 13 := (f6.1.2.1.1 285 13 kF_216_285_13)
  have e18 : hV H4 285 13 = hV H3 285 13 := (uSlot f21 285 13 (iS (show n11 = ((33 : Nat) : Int) from f20) rfl))
  have e22 : hV H4 285 15 = hV H1 285 15 := ((uSlot f21 285 15 (iS (show n11 = ((33 : Nat) : Int) from f20) rfl))).trans (((f12.1.2.1.1 285 15 kF_220_285_15)).trans (f6.1.2.1.1 285 15 kF_216_285_15))
  have e26 : hV H4 285 18 = hV H0 285 18 := ((uSlot f21 285 18 (iS (show n11 = ((33 : Nat) : Int) from f20) rfl))).trans (((f12.1.2.1.1 285 18 kF_220_285_18)).trans (((f6.1.2.1.1 285 18 kF_216_285_18)).trans (f2.1.2.1.1 285 18 kF_224_285_18)))
  have e28 : hV H4 285 32 = hV H0 285 32 := ((uSlot f21 285 32 (iS (show n11 = ((33 : Nat) : Int) from f20) rfl))).trans (((f12.1.2.1.1 285 32 kF_220_285_32)).trans (((f6.1.2.1.1 285 32 kF_216_285_32)).trans (f2.1.2.1.1 285 32 kF_224_285_32)))
  have e30 : hV H4 285 33 = n10 := (uSame f21 285 33 f0.symm f20.symm)
  have e35 : hV H4 294 = hV H1 294 := (uRowNe f21 294 (iS (show n0 = ((285 : Nat) : Int) from f0) rfl)).trans ((fRow f12.1.2.1 294 kR_220_294).trans (fRow f6.1.2.1 294 kR_216_294))
  have e36 : PA H2 = PA H1 := PA_fr f6.1.2.1 (by decide +kernel)
  have e37 : PA H3 = PA H2 := PA_fr f12.1.2.1 (by decide +kernel)
  have e38 : PA H3 = PA H1 := e37.trans e36
  have e39 : PA H4 = PA H3 := PA_upF f21 f0 (show n11 = ((33 : Nat) : Int) from f20) (by decide)
  have e40 : PA H4 = PA H1 := e39.trans e38
  have e41 : PB H2 = PB H1 := PB_fr f6.1.2.1 (by decide +kernel)
  have e42 : PB H3 = PB H2 := PB_fr f12.1.2.1 (by decide +kernel)
  have e43 : PB H3 = PB H1 := e42.trans e41
  have e44 : PB H4 = PB H3 := PB_upF f21 f0 (show n11 = ((33 : Nat) : Int) from f20) (by decide)
  have e45 : PB H4 = PB H1 := e44.trans e43
  have e46 : PQ H2 = PQ H1 := PQ_fr f6.1.2.1 (by decide +kernel)
  have e47 : PQ H3 = PQ H2 := PQ_fr f12.1.2.1 (by decide +kernel)
  have e48 : PQ H3 = PQ H1 := e47.trans e46
  have e49 : PQ H4 = PQ H3 := PQ_upF f21 f0 (show n11 = ((33 : Nat) : Int) from f20) (by decide)
  have e50 : PQ H4 = PQ H1 := e49.trans e48
  have e51 : (0 : Int) ≤ hV H1 285 11 ∧ hV H1 285 11 ≤ 500 := f2.1.2.2 285 11 _ _ kW_285_11
  have e52 : (0 : Int) ≤ hV H1 285 13 ∧ hV H1 285 13 ≤ 2 := f2.1.2.2 285 13 _ _ kW_285_13
  have e53 : (0 : Int) ≤ hV H1 285 15 ∧ hV H1 285 15 ≤ 6 := f2.1.2.2 285 15 _ _ kW_285_15
  have e54 : (0 : Int) ≤ hV H0 285 18 ∧ hV H0 285 18 ≤ 8 := bTo e7 (f2.1.2.2 285 18 _ _ kW_285_18)
  have e55 : (0 : Int) ≤ hV H0 285 32 ∧ hV H0 285 32 ≤ 7 := bTo e8 (f2.1.2.2 285 32 _ _ kW_285_32)
  have e56 : (0 : Int) ≤ hV H1 285 33 ∧ hV H1 285 33 ≤ 62 := f2.1.2.2 285 33 _ _ kW_285_33
  have e59 : (0 : Int) ≤ hV H3 285 11 ∧ hV H3 285 11 ≤ 500 := f12.1.2.2.2 285 11 _ _ kW_285_11
  have e60 : (0 : Int) ≤ hV H3 285 13 ∧ hV H3 285 13 ≤ 2 := f12.1.2.2.2 285 13 _ _ kW_285_13
  try simp only [PW]
  try simp only [e18, e22, e26, e28, e30, e35, e40, e45, e50]
  have y0 := g4.1
  have y1 := g4.2.1
  have y2 := g4.2.2
  have p0 := g3.1
  have p1 := g3.2.1
  have p2 := g3.2.2.1
  have p3 := g3.2.2.2
  have r0_0 := f6.2.1
  have r1_0 := f12.2.1
  have r1_1 := f12.2.2.1
  have r1_2 := f12.2.2.2.1
  have r1_3 := f12.2.2.2.2.1
  try simp only [e11] at r0_0
  try simp only [e9] at r1_0
  try simp only [e9] at r1_1
  try simp only [e11] at r1_2
  try simp only [e9] at r1_3
  clear g3
  clear g4
  have wb0 := (y1 (hV H0 285 32).toNat).1
  have wp0 := (y1 (hV H0 285 33).toNat).2
  try simp only [e7, e8] at wb0
  try simp only [e7, e8] at wp0
  clear f10 f16 e7 e8 e9 e11 e18 e22 e26 e28 e35 e36 e37 e38 e39 e40 e41 e42 e43 e44 e45 e46 e47 e48 e49 e50
  clear f2 f6 f12
  subst e1
  subst e5
  rw [f13] at f17
  first
  | (have ix0 : n8 = 7 * (hV H0 285 32) := Eq.trans f17 (w32_iv (Iml 7 rfl (Iat f15 f14)) (by decide)); subst ix0; clear f17)
  | (have ix0 : n8 = 7 * (hV H0 285 32) := Eq.trans f17 (w32_id (by omega) (by omega)); subst ix0; clear f17)
  | (unfold w32 at f17; have ix0 : n8 = 7 * (hV H0 285 32) := (by omega); subst ix0)
  | skip
  first
  | (have ix1 : n10 = (7 * (hV H0 285 32)) + 6 := Eq.trans f19 (w32_iv (Iad (Iml 7 rfl (Iat f15 f14)) (IC 6)) (by decide)); subst ix1; clear f19)
  | (have ix1 : n10 = (7 * (hV H0 285 32)) + 6 := Eq.trans f19 (w32_id (by omega) (by omega)); subst ix1; clear f19)
  | (unfold w32 at f19; have ix1 : n10 = (7 * (hV H0 285 32)) + 6 := (by omega); subst ix1)
  | skip
  try unfold w32 at f17
  try unfold w32 at f19

  refine ⟨?_, ?_, ?_, ?_, ?_, ?_⟩
  · exact y0
  · exact y1
  · (try clear y0 y1 y2 p0 p1)
    first | exact True.intro | omega
  · (try clear y0 y1 y2 p0 p1)
    first | exact True.intro | omega
  · intro z1 z2
    exact y2 (by omega) (by omega)
  · (try clear y0 y1 y2 p0 p1)
    first
    | omega
    | (refine ⟨?_, ?_⟩ <;> first | exact True.intro | omega)
def g_224_10_2 : vG := ([(80, [1, 11, 10], [4, 3], 0), (0, [11], [], 33), (1, [10, 8, 9], [], 0), (0, [9], [], 6), (3, [8, 6, 7], [], 0), (20, [7, 1], [3], 32), (90, [7], [], 0), (91, [7], [], 7), (0, [6], [], 7), (1220, [1, 5], [2, 3], 0), (0, [5], [], 22), (20, [4, 1], [2], 11), (90, [4], [], 0), (91, [4], [], 500), (30, [3], [], 0), (1216, [3, 1, 2], [1, 2], 0), (90, [3], [], 0), (91, [3], [], 1), (0, [2], [], 20), (5000, [0, 1], [0, 1], 10), (0, [0], [], 285), (0, [1], [], 285)], (2226, [1], [4], 0))
theorem c_224_10_2 {q0 : Nat} : vOkm T0 (eP e_224 L_224 A_224 mu_224 (some q0)) 1 g_224_10_2 := vOk_inI fun ρ η f0 f1 f2 f3 f4 f5 f6 f7 f8 f9 f10 f11 f12 f13 f14 f15 f16 f17 f18 f19 f20 f21 => q_224_3 (q0 := q0) (n0 := ρ 1) (n1 := ρ 0) (n2 := ρ 2) (n3 := ρ 3) (n4 := ρ 4) (n5 := ρ 5) (n6 := ρ 6) (n7 := ρ 7) (n8 := ρ 8) (n9 := ρ 9) (n10 := ρ 10) (n11 := ρ 11) (H0 := η 0) (H1 := η 1) (H2 := η 2) (H3 := η 3) (H4 := η 4) f21 f20 f19 f18 f17 f16 f15 f14 f13 f12 f11 f10 f9 f8 f7 f6 f5 f4 f3 f2 f1 f0
set_option maxHeartbeats 20000000 in
theorem q_224_4 {q0 : Nat} {n0 n1 n2 n3 n4 n5 n6 n7 n8 n9 n10 n11 n12 : Int} {H0 H1 H2 H3 H4 H5 : gH} (f0 : n0 = 285) (f1 : n1 = 285) (f2 : (hLe T0 H0 H1 ∧ hFr s_224.2.2.2.2 H0 H1 ∧ hWt T0 H1) ∧ (Ab_224_10 n1 n0 H0 H1 ∧ preb_224 n1 H0) ∧ some q0 = some (mub_224_10 n1 n0 H0 H1)) (f3 : n2 = 20) (f4 : n3 ≤ 1) (f5 : 0 ≤ n3) (f6 : (hLe T0 H1 H2 ∧ hFr s_216.2.2.2.2 H1 H2 ∧ ((0 : Int) = 0 → H2.length = H1.length) ∧ hWt T0 H2) ∧ postb_216 n3 n0 n2 H1 H2) (f7 : n3 = 0) (f8 : n4 ≤ 500) (f9 : 0 ≤ n4) (f10 : n4 = hV H2 (n0).toNat 11) (f11 : n5 = 22) (f12 : (hLe T0 H2 H3 ∧ hFr s_220.2.2.2.2 H2 H3 ∧ ((0 : Int) = 0 → H3.length = H2.length) ∧ hWt T0 H3) ∧ postb_220 n0 n5 H2 H3) (f13 : n6 = 7) (f14 : n7 ≤ 7) (f15 : 0 ≤ n7) (f16 : n7 = hV H3 (n0).toNat 32) (f17 : n8 = w32 (n6 * n7)) (f18 : n9 = 6) (f19 : n10 = w32 (n8 + n9)) (f20 : n11 = 33) (f21 : hUpd H4 H3 n0 n11 n10) (f22 : (hLe T0 H4 H5 ∧ hFr s_226.2.2.2.2 H4 H5 ∧ ((0 : Int) = 0 → H5.length = H4.length) ∧ hWt T0 H5) ∧ postb_226 n0 H4 H5) (f23 : n12 ≤ 2) (f24 : 0 ≤ n12) (f25 : n12 = hV H5 (n0).toNat 13) (f26 : n12 ≠ 0) : postb_224 n1 H0 H5 := by
  have g4 := f2.2.1.1
  unfold Ab_224_10 at g4
  have g3 := f2.2.1.2
  unfold preb_224 at g3
  unfold postb_216 at f6
  unfold postb_220 at f12
  unfold postb_226 at f22
  unfold postb_224
  have e1 : n4 = hV H1 285 11 := (by rw [f0] at f10; exact f10 : n4 = hV H2 285 11).trans ((f6.1.2.1.1 285 11 kF_216_285_11))
  have e5 : n7 = hV H0 285 32 := (by rw [f0] at f16; exact f16 : n7 = hV H3 285 32).trans (((f12.1.2.1.1 285 32 kF_220_285_32)).trans (((f6.1.2.1.1 285 32 kF_216_285_32)).trans (f2.1.2.1.1 285 32 kF_224_285_32)))
  have e6 : n12 = hV H5 285 13 := (by rw [f0] at f25; exact f25 : n12 = hV H5 285 13)
  have e8 : hV H1 285 18 = hV H0 285 18 := (f2.1.2.1.1 285 18 kF_224_285_18)
  have e9 : hV H1 285 32 = hV H0 285 32 := (f2.1.2.1.1 285 32 kF_224_285_32)
  have e10 : hV H2 285 11 = hV H1 285 11 := (f6.1.2.1.1 285 11 kF_216_285_11)
  have e12 : hV H2 285 13 = hV H1 285 13 := (f6.1.2.1.1 285 13 kF_216_285_13)
  have e19 : hV H4 285 11 = hV H3 285 11 := (uSlot f21 285 11 (iS (show n11 = ((33 : Nat) : Int) from f20) rfl))
  have e21 : hV H4 285 13 = hV H3 285 13 := (uSlot f21 285 13 (iS (show n11 = ((33 : Nat) : Int) from f20) rfl))
  have e25 : hV H4 285 15 = hV H1 285 15 := ((uSlot f21 285 15 (iS (show n11 = ((33 : Nat) : Int) from f20) rfl))).trans (((f12.1.2.1.1 285 15 kF_220_285_15)).trans (f6.1.2.1.1 285 15 kF_216_285_15))
  have e28 : hV H5 285 32 = hV H0 285 32 := ((f22.1.2.1.1 285 32 kF_226_285_32)).trans (((uSlot f21 285 32 (iS (show n11 = ((33 : Nat) : Int) from f20) rfl))).trans (((f12.1.2.1.1 285 32 kF_220_285_32)).trans (((f6.1.2.1.1 285 32 kF_216_285_32)).trans (f2.1.2.1.1 285 32 kF_224_285_32))))
  have e31 : hV H5 285 33 = n10 := ((f22.1.2.1.1 285 33 kF_226_285_33)).trans (uSame f21 285 33 f0.symm f20.symm)
  have e38 : hV H5 294 = hV H1 294 := (fRow f22.1.2.1 294 kR_226_294).trans ((uRowNe f21 294 (iS (show n0 = ((285 : Nat) : Int) from f0) rfl)).trans ((fRow f12.1.2.1 294 kR_220_294).trans (fRow f6.1.2.1 294 kR_216_294)))
  have e39 : (0 : Int) ≤ hV H1 285 11 ∧ hV H1 285 11 ≤ 500 := f2.1.2.2 285 11 _ _ kW_285_11
  have e40 : (0 : Int) ≤ hV H1 285 13 ∧ hV H1 285 13 ≤ 2 := f2.1.2.2 285 13 _ _ kW_285_13
  have e41 : (0 : Int) ≤ hV H1 285 15 ∧ hV H1 285 15 ≤ 6 := f2.1.2.2 285 15 _ _ kW_285_15
  have e42 : (0 : Int) ≤ hV H0 285 18 ∧ hV H0 285 18 ≤ 8 := bTo e8 (f2.1.2.2 285 18 _ _ kW_285_18)
  have e43 : (0 : Int) ≤ hV H0 285 32 ∧ hV H0 285 32 ≤ 7 := bTo e9 (f2.1.2.2 285 32 _ _ kW_285_32)
  have e44 : (0 : Int) ≤ hV H1 285 33 ∧ hV H1 285 33 ≤ 62 := f2.1.2.2 285 33 _ _ kW_285_33
  have e47 : (0 : Int) ≤ hV H3 285 11 ∧ hV H3 285 11 ≤ 500 := f12.1.2.2.2 285 11 _ _ kW_285_11
  have e48 : (0 : Int) ≤ hV H3 285 13 ∧ hV H3 285 13 ≤ 2 := f12.1.2.2.2 285 13 _ _ kW_285_13
  have e49 : (0 : Int) ≤ hV H5 285 11 ∧ hV H5 285 11 ≤ 500 := f22.1.2.2.2 285 11 _ _ kW_285_11
  have e50 : (0 : Int) ≤ hV H5 285 13 ∧ hV H5 285 13 ≤ 2 := f22.1.2.2.2 285 13 _ _ kW_285_13
  have e51 : (0 : Int) ≤ hV H5 285 15 ∧ hV H5 285 15 ≤ 6 := f22.1.2.2.2 285 15 _ _ kW_285_15
  have e53 : (0 : Int) ≤ hV H5 285 33 ∧ hV H5 285 33 ≤ 62 := f22.1.2.2.2 285 33 _ _ kW_285_33
  try simp only [PB, PW]
  try simp only [e31] at e53
  try simp only [e28, e38]
  have y0 := g4.1
  have y1 := g4.2.1
  have y2 := g4.2.2
  have p0 := g3.1
  have p1 := g3.2.1
  have p2 := g3.2.2.1
  have p3 := g3.2.2.2
  have r0_0 := f6.2.1
  have r1_0 := f12.2.1
  have r1_1 := f12.2.2.1
  have r1_2 := f12.2.2.2.1
  have r1_3 := f12.2.2.2.2.1
  have r2_0 := f22.2.1
  have r2_1 := f22.2.2.1
  have r2_2 := f22.2.2.2.1
  have r2_3 := f22.2.2.2.2.1
  have r2_4 := f22.2.2.2.2.2.1
  have r2_5 := f22.2.2.2.2.2.2.1
  have r2_6 := f22.2.2.2.2.2.2.2.1
  have r2_7 := f22.2.2.2.2.2.2.2.2
  try simp only [PB] at y2
  try simp only [PW] at r2_1
  try simp only [e9] at y2
  try simp only [e12] at r0_0
  try simp only [e10] at r1_0
  try simp only [e10] at r1_1
  try simp only [e12] at r1_2
  try simp only [e10] at r1_3
  try simp only [e28, e31, e38] at r2_1
  try simp only [e19] at r2_3
  try simp only [e19] at r2_4
  try simp only [e21] at r2_5
  try simp only [e25] at r2_6
  try simp only [e25] at r2_7
  clear g3
  clear g4
  have wb0 := (y1 (hV H0 285 32).toNat).1
  have wp0 := (y1 (hV H0 285 33).toNat).2
  try simp only [e8, e9] at wb0
  try simp only [e8, e9] at wp0
  clear f10 f16 f25 e8 e9 e10 e12 e19 e21 e25 e28 e38
  clear f2 f6 f12 f22
  subst e1
  subst e5
  subst e6
  rw [f13] at f17
  first
  | (have ix0 : n8 = 7 * (hV H0 285 32) := Eq.trans f17 (w32_iv (Iml 7 rfl (Iat f15 f14)) (by decide)); subst ix0; clear f17)
  | (have ix0 : n8 = 7 * (hV H0 285 32) := Eq.trans f17 (w32_id (by omega) (by omega)); subst ix0; clear f17)
  | (unfold w32 at f17; have ix0 : n8 = 7 * (hV H0 285 32) := (by omega); subst ix0)
  | skip
  first
  | (have ix1 : n10 = (7 * (hV H0 285 32)) + 6 := Eq.trans f19 (w32_iv (Iad (Iml 7 rfl (Iat f15 f14)) (IC 6)) (by decide)); subst ix1; clear f19)
  | (have ix1 : n10 = (7 * (hV H0 285 32)) + 6 := Eq.trans f19 (w32_id (by omega) (by omega)); subst ix1; clear f19)
  | (unfold w32 at f19; have ix1 : n10 = (7 * (hV H0 285 32)) + 6 := (by omega); subst ix1)
  | skip
  try unfold w32 at f17
  try unfold w32 at f19

  refine ⟨?_, ?_, ?_⟩
  · exact r2_0
  · exact r2_2
  · intro z1 z2
    first
    | omega
    | (exact PGs_of (r2_1 (by omega) (by omega)) (by omega) (by omega) (by omega) (by omega) (by omega) (fun x => (r2_2 x).2.2.1))

def g_224_10_3 : vG := ([(31, [12], [], 0), (20, [12, 1], [5], 13), (90, [12], [], 0), (91, [12], [], 2), (1226, [1], [4, 5], 0), (80, [1, 11, 10], [4, 3], 0), (0, [11], [], 33), (1, [10, 8, 9], [], 0), (0, [9], [], 6), (3, [8, 6, 7], [], 0), (20, [7, 1], [3], 32), (90, [7], [], 0), (91, [7], [], 7), (0, [6], [], 7), (1220, [1, 5], [2, 3], 0), (0, [5], [], 22), (20, [4, 1], [2], 11), (90, [4], [], 0), (91, [4], [], 500), (30, [3], [], 0), (1216, [3, 1, 2], [1, 2], 0), (90, [3], [], 0), (91, [3], [], 1), (0, [2], [], 20), (5000, [0, 1], [0, 1], 10), (0, [0], [], 285), (0, [1], [], 285)], (3000, [], [5], 90))
theorem c_224_10_3 {q0 : Nat} : vOkm T0 (eP e_224 L_224 A_224 mu_224 (some q0)) 1 g_224_10_3 := vOk_inI fun ρ η f0 f1 f2 f3 f4 f5 f6 f7 f8 f9 f10 f11 f12 f13 f14 f15 f16 f17 f18 f19 f20 f21 f22 f23 f24 f25 f26 => q_224_4 (q0 := q0) (n0 := ρ 1) (n1 := ρ 0) (n2 := ρ 2) (n3 := ρ 3) (n4 := ρ 4) (n5 := ρ 5) (n6 := ρ 6) (n7 := ρ 7) (n8 := ρ 8) (n9 := ρ 9) (n10 := ρ 10) (n11 := ρ 11) (n12 := ρ 12) (H0 := η 0) (H1 := η 1) (H2 := η 2) (H3 := η 3) (H4 := η 4) (H5 := η 5) f26 f25 f24 f23 f22 f21 f20 f19 f18 f17 f16 f15 f14 f13 f12 f11 f10 f9 f8 f7 f6 f5 f4 f3 f2 f1 f0
set_option maxHeartbeats 20000000 in
theorem q_224_5 {q0 : Nat} {n0 n1 n2 n3 n4 n5 n6 n7 n8 n9 n10 n11 n12 n13 : Int} {H0 H1 H2 H3 H4 H5 : gH} (f0 : n0 = 285) (f1 : n1 = 285) (f2 : (hLe T0 H0 H1 ∧ hFr s_224.2.2.2.2 H0 H1 ∧ hWt T0 H1) ∧ (Ab_224_10 n1 n0 H0 H1 ∧ preb_224 n1 H0) ∧ some q0 = some (mub_224_10 n1 n0 H0 H1)) (f3 : n2 = 20) (f4 : n3 ≤ 1) (f5 : 0 ≤ n3) (f6 : (hLe T0 H1 H2 ∧ hFr s_216.2.2.2.2 H1 H2 ∧ ((0 : Int) = 0 → H2.length = H1.length) ∧ hWt T0 H2) ∧ postb_216 n3 n0 n2 H1 H2) (f7 : n3 = 0) (f8 : n4 ≤ 500) (f9 : 0 ≤ n4) (f10 : n4 = hV H2 (n0).toNat 11) (f11 : n5 = 22) (f12 : (hLe T0 H2 H3 ∧ hFr s_220.2.2.2.2 H2 H3 ∧ ((0 : Int) = 0 → H3.length = H2.length) ∧ hWt T0 H3) ∧ postb_220 n0 n5 H2 H3) (f13 : n6 = 7) (f14 : n7 ≤ 7) (f15 : 0 ≤ n7) (f16 : n7 = hV H3 (n0).toNat 32) (f17 : n8 = w32 (n6 * n7)) (f18 : n9 = 6) (f19 : n10 = w32 (n8 + n9)) (f20 : n11 = 33) (f21 : hUpd H4 H3 n0 n11 n10) (f22 : (hLe T0 H4 H5 ∧ hFr s_226.2.2.2.2 H4 H5 ∧ ((0 : Int) = 0 → H5.length = H4.length) ∧ hWt T0 H5) ∧ postb_226 n0 H4 H5) (f23 : n12 ≤ 2) (f24 : 0 ≤ n12) (f25 : n12 = hV H5 (n0).toNat 13) (f26 : n12 = 0) (f27 : n13 ≤ 6) (f28 : 0 ≤ n13) (f29 : n13 = hV H5 (n0).toNat 15) (f30 : n13 ≠ 0) : postb_224 n1 H0 H5 := by
  have g4 := f2.2.1.1
  unfold Ab_224_10 at g4
  have g3 := f2.2.1.2
  unfold preb_224 at g3
  unfold postb_216 at f6
  unfold postb_220 at f12
  unfold postb_226 at f22
  unfold postb_224
  have e1 : n4 = hV H1 285 11 := (by rw [f0] at f10; exact f10 : n4 = hV H2 285 11).trans ((f6.1.2.1.1 285 11 kF_216_285_11))
  have e5 : n7 = hV H0 285 32 := (by rw [f0] at f16; exact f16 : n7 = hV H3 285 32).trans (((f12.1.2.1.1 285 32 kF_220_285_32)).trans (((f6.1.2.1.1 285 32 kF_216_285_32)).trans (f2.1.2.1.1 285 32 kF_224_285_32)))
  have e6 : n12 = hV H5 285 13 := (by rw [f0] at f25; exact f25 : n12 = hV H5 285 13)
  have e7 : n13 = hV H5 285 15 := (by rw [f0] at f29; exact f29 : n13 = hV H5 285 15)
  have e9 : hV H1 285 18 = hV H0 285 18 := (f2.1.2.1.1 285 18 kF_224_285_18)
  have e10 : hV H1 285 32 = hV H0 285 32 := (f2.1.2.1.1 285 32 kF_224_285_32)
  have e11 : hV H2 285 11 = hV H1 285 11 := (f6.1.2.1.1 285 11 kF_216_285_11)
  have e13 : hV H2 285 13 = hV H1 285 13 := (f6.1.2.1.1 285 13 kF_216_285_13)
  have e20 : hV H4 285 11 = hV H3 285 11 := (uSlot f21 285 11 (iS (show n11 = ((33 : Nat) : Int) from f20) rfl))
  have e22 : hV H4 285 13 = hV H3 285 13 := (uSlot f21 285 13 (iS (show n11 = ((33 : Nat) : Int) from f20) rfl))
  have e26 : hV H4 285 15 = hV H1 285 15 := ((uSlot f21 285 15 (iS (show n11 = ((33 : Nat) : Int) from f20) rfl))).trans (((f12.1.2.1.1 285 15 kF_220_285_15)).trans (f6.1.2.1.1 285 15 kF_216_285_15))
  have e29 : hV H5 285 32 = hV H0 285 32 := ((f22.1.2.1.1 285 32 kF_226_285_32)).trans (((uSlot f21 285 32 (iS (show n11 = ((33 : Nat) : Int) from f20) rfl))).trans (((f12.1.2.1.1 285 32 kF_220_285_32)).trans (((f6.1.2.1.1 285 32 kF_216_285_32)).trans (f2.1.2.1.1 285 32 kF_224_285_32))))
  have e32 : hV H5 285 33 = n10 := ((f22.1.2.1.1 285 33 kF_226_285_33)).trans (uSame f21 285 33 f0.symm f20.symm)
  have e39 : hV H5 294 = hV H1 294 := (fRow f22.1.2.1 294 kR_226_294).trans ((uRowNe f21 294 (iS (show n0 = ((285 : Nat) : Int) from f0) rfl)).trans ((fRow f12.1.2.1 294 kR_220_294).trans (fRow f6.1.2.1 294 kR_216_294)))
  have e40 : (0 : Int) ≤ hV H1 285 11 ∧ hV H1 285 11 ≤ 500 := f2.1.2.2 285 11 _ _ kW_285_11
  have e41 : (0 : Int) ≤ hV H1 285 13 ∧ hV H1 285 13 ≤ 2 := f2.1.2.2 285 13 _ _ kW_285_13
  have e42 : (0 : Int) ≤ hV H1 285 15 ∧ hV H1 285 15 ≤ 6 := f2.1.2.2 285 15 _ _ kW_285_15
  have e43 : (0 : Int) ≤ hV H0 285 18 ∧ hV H0 285 18 ≤ 8 := bTo e9 (f2.1.2.2 285 18 _ _ kW_285_18)
  have e44 : (0 : Int) ≤ hV H0 285 32 ∧ hV H0 285 32 ≤ 7 := bTo e10 (f2.1.2.2 285 32 _ _ kW_285_32)
  have e45 : (0 : Int) ≤ hV H1 285 33 ∧ hV H1 285 33 ≤ 62 := f2.1.2.2 285 33 _ _ kW_285_33
  have e48 : (0 : Int) ≤ hV H3 285 11 ∧ hV H3 285 11 ≤ 500 := f12.1.2.2.2 285 11 _ _ kW_285_11
  have e49 : (0 : Int) ≤ hV H3 285 13 ∧ hV H3 285 13 ≤ 2 := f12.1.2.2.2 285 13 _ _ kW_285_13
  have e50 : (0 : Int) ≤ hV H5 285 11 ∧ hV H5 285 11 ≤ 500 := f22.1.2.2.2 285 11 _ _ kW_285_11
  have e51 : (0 : Int) ≤ hV H5 285 13 ∧ hV H5 285 13 ≤ 2 := f22.1.2.2.2 285 13 _ _ kW_285_13
  have e52 : (0 : Int) ≤ hV H5 285 15 ∧ hV H5 285 15 ≤ 6 := f22.1.2.2.2 285 15 _ _ kW_285_15
  have e54 : (0 : Int) ≤ hV H5 285 33 ∧ hV H5 285 33 ≤ 62 := f22.1.2.2.2 285 33 _ _ kW_285_33
  try simp only [PB, PW]
  try simp only [e32] at e54
  try simp only [e29, e39]
  have y0 := g4.1
  have y1 := g4.2.1
  have y2 := g4.2.2
  have p0 := g3.1
  have p1 := g3.2.1
  have p2 := g3.2.2.1
  have p3 := g3.2.2.2
  have r0_0 := f6.2.1
  have r1_0 := f12.2.1
  have r1_1 := f12.2.2.1
  have r1_2 := f12.2.2.2.1
  have r1_3 := f12.2.2.2.2.1
  have r2_0 := f22.2.1
  have r2_1 := f22.2.2.1
  have r2_2 := f22.2.2.2.1
  have r2_3 := f22.2.2.2.2.1
  have r2_4 := f22.2.2.2.2.2.1
  have r2_5 := f22.2.2.2.2.2.2.1
  have r2_6 := f22.2.2.2.2.2.2.2.1
  have r2_7 := f22.2.2.2.2.2.2.2.2
  try simp only [PB] at y2
  try simp only [PW] at r2_1
  try simp only [e10] at y2
  try simp only [e13] at r0_0
  try simp only [e11] at r1_0
  try simp only [e11] at r1_1
  try simp only [e13] at r1_2
  try simp only [e11] at r1_3
  try simp only [e29, e32, e39] at r2_1
  try simp only [e20] at r2_3
  try simp only [e20] at r2_4
  try simp only [e22] at r2_5
  try simp only [e26] at r2_6
  try simp only [e26] at r2_7
  clear g3
  clear g4
  have wb0 := (y1 (hV H0 285 32).toNat).1
  have wp0 := (y1 (hV H0 285 33).toNat).2
  try simp only [e9, e10] at wb0
  try simp only [e9, e10] at wp0
  clear f10 f16 f25 f29 e9 e10 e11 e13 e20 e22 e26 e29 e39
  clear f2 f6 f12 f22
  subst e1
  subst e5
  subst e6
  subst e7
  rw [f13] at f17
  first
  | (have ix0 : n8 = 7 * (hV H0 285 32) := Eq.trans f17 (w32_iv (Iml 7 rfl (Iat f15 f14)) (by decide)); subst ix0; clear f17)
  | (have ix0 : n8 = 7 * (hV H0 285 32) := Eq.trans f17 (w32_id (by omega) (by omega)); subst ix0; clear f17)
  | (unfold w32 at f17; have ix0 : n8 = 7 * (hV H0 285 32) := (by omega); subst ix0)
  | skip
  first
  | (have ix1 : n10 = (7 * (hV H0 285 32)) + 6 := Eq.trans f19 (w32_iv (Iad (Iml 7 rfl (Iat f15 f14)) (IC 6)) (by decide)); subst ix1; clear f19)
  | (have ix1 : n10 = (7 * (hV H0 285 32)) + 6 := Eq.trans f19 (w32_id (by omega) (by omega)); subst ix1; clear f19)
  | (unfold w32 at f19; have ix1 : n10 = (7 * (hV H0 285 32)) + 6 := (by omega); subst ix1)
  | skip
  try unfold w32 at f17
  try unfold w32 at f19

  refine ⟨?_, ?_, ?_⟩
  · exact r2_0
  · exact r2_2
  · intro z1 z2
    first
    | omega
    | (exact PGs_of (r2_1 (by omega) (by omega)) (by omega) (by omega) (by omega) (by omega) (by omega) (fun x => (r2_2 x).2.2.1))

def g_224_10_4 : vG := ([(31, [13], [], 0), (20, [13, 1], [5], 15), (90, [13], [], 0), (91, [13], [], 6), (30, [12], [], 0), (20, [12, 1], [5], 13), (90, [12], [], 0), (91, [12], [], 2), (1226, [1], [4, 5], 0), (80, [1, 11, 10], [4, 3], 0), (0, [11], [], 33), (1, [10, 8, 9], [], 0), (0, [9], [], 6), (3, [8, 6, 7], [], 0), (20, [7, 1], [3], 32), (90, [7], [], 0), (91, [7], [], 7), (0, [6], [], 7), (1220, [1, 5], [2, 3], 0), (0, [5], [], 22), (20, [4, 1], [2], 11), (90, [4], [], 0), (91, [4], [], 500), (30, [3], [], 0), (1216, [3, 1, 2], [1, 2], 0), (90, [3], [], 0), (91, [3], [], 1), (0, [2], [], 20), (5000, [0, 1], [0, 1], 10), (0, [0], [], 285), (0, [1], [], 285)], (3000, [], [5], 90))
theorem c_224_10_4 {q0 : Nat} : vOkm T0 (eP e_224 L_224 A_224 mu_224 (some q0)) 1 g_224_10_4 := vOk_inI fun ρ η f0 f1 f2 f3 f4 f5 f6 f7 f8 f9 f10 f11 f12 f13 f14 f15 f16 f17 f18 f19 f20 f21 f22 f23 f24 f25 f26 f27 f28 f29 f30 => q_224_5 (q0 := q0) (n0 := ρ 1) (n1 := ρ 0) (n2 := ρ 2) (n3 := ρ 3) (n4 := ρ 4) (n5 := ρ 5) (n6 := ρ 6) (n7 := ρ 7) (n8 := ρ 8) (n9 := ρ 9) (n10 := ρ 10) (n11 := ρ 11) (n12 := ρ 12) (n13 := ρ 13) (H0 := η 0) (H1 := η 1) (H2 := η 2) (H3 := η 3) (H4 := η 4) (H5 := η 5) f30 f29 f28 f27 f26 f25 f24 f23 f22 f21 f20 f19 f18 f17 f16 f15 f14 f13 f12 f11 f10 f9 f8 f7 f6 f5 f4 f3 f2 f1 f0
set_option maxHeartbeats 20000000 in
theorem q_224_6 {q0 : Nat} {n0 n1 n2 n3 n4 n5 n6 n7 n8 n9 n10 n11 n12 n13 n14 n15 n16 n17 : Int} {H0 H1 H2 H3 H4 H5 : gH} (f0 : n0 = 285) (f1 : n1 = 285) (f2 : (hLe T0 H0 H1 ∧ hFr s_224.2.2.2.2 H0 H1 ∧ hWt T0 H1) ∧ (Ab_224_10 n1 n0 H0 H1 ∧ preb_224 n1 H0) ∧ some q0 = some (mub_224_10 n1 n0 H0 H1)) (f3 : n2 = 20) (f4 : n3 ≤ 1) (f5 : 0 ≤ n3) (f6 : (hLe T0 H1 H2 ∧ hFr s_216.2.2.2.2 H1 H2 ∧ ((0 : Int) = 0 → H2.length = H1.length) ∧ hWt T0 H2) ∧ postb_216 n3 n0 n2 H1 H2) (f7 : n3 = 0) (f8 : n4 ≤ 500) (f9 : 0 ≤ n4) (f10 : n4 = hV H2 (n0).toNat 11) (f11 : n5 = 22) (f12 : (hLe T0 H2 H3 ∧ hFr s_220.2.2.2.2 H2 H3 ∧ ((0 : Int) = 0 → H3.length = H2.length) ∧ hWt T0 H3) ∧ postb_220 n0 n5 H2 H3) (f13 : n6 = 7) (f14 : n7 ≤ 7) (f15 : 0 ≤ n7) (f16 : n7 = hV H3 (n0).toNat 32) (f17 : n8 = w32 (n6 * n7)) (f18 : n9 = 6) (f19 : n10 = w32 (n8 + n9)) (f20 : n11 = 33) (f21 : hUpd H4 H3 n0 n11 n10) (f22 : (hLe T0 H4 H5 ∧ hFr s_226.2.2.2.2 H4 H5 ∧ ((0 : Int) = 0 → H5.length = H4.length) ∧ hWt T0 H5) ∧ postb_226 n0 H4 H5) (f23 : n12 ≤ 2) (f24 : 0 ≤ n12) (f25 : n12 = hV H5 (n0).toNat 13) (f26 : n12 = 0) (f27 : n13 ≤ 6) (f28 : 0 ≤ n13) (f29 : n13 = hV H5 (n0).toNat 15) (f30 : n13 = 0) (f31 : n14 = 297) (f32 : n14 = hV H5 (n0).toNat 23) (f33 : n15 ≤ 62) (f34 : 0 ≤ n15) (f35 : n15 = hV H5 (n0).toNat 33) (f36 : n16 ≤ 2000) (f37 : 0 ≤ n16) (f38 : n16 = hV H5 (n14).toNat (n15).toNat) (f39 : n17 = 40) (f40 : n16 ≤ n17) : postb_224 n1 H0 H5 := by
  have g4 := f2.2.1.1
  unfold Ab_224_10 at g4
  have g3 := f2.2.1.2
  unfold preb_224 at g3
  unfold postb_216 at f6
  unfold postb_220 at f12
  unfold postb_226 at f22
  unfold postb_224
  have e1 : n4 = hV H1 285 11 := (by rw [f0] at f10; exact f10 : n4 = hV H2 285 11).trans ((f6.1.2.1.1 285 11 kF_216_285_11))
  have e5 : n7 = hV H0 285 32 := (by rw [f0] at f16; exact f16 : n7 = hV H3 285 32).trans (((f12.1.2.1.1 285 32 kF_220_285_32)).trans (((f6.1.2.1.1 285 32 kF_216_285_32)).trans (f2.1.2.1.1 285 32 kF_224_285_32)))
  have e6 : n12 = hV H5 285 13 := (by rw [f0] at f25; exact f25 : n12 = hV H5 285 13)
  have e7 : n13 = hV H5 285 15 := (by rw [f0] at f29; exact f29 : n13 = hV H5 285 15)
  have e10 : n15 = n10 := (by rw [f0] at f35; exact f35 : n15 = hV H5 285 33).trans (((f22.1.2.1.1 285 33 kF_226_285_33)).trans (uSame f21 285 33 f0.symm f20.symm))
  have e11 : n16 = hV H5 297 (n15).toNat := (by rw [f31] at f38; exact f38 : n16 = hV H5 297 (n15).toNat)
  have e13 : hV H1 285 18 = hV H0 285 18 := (f2.1.2.1.1 285 18 kF_224_285_18)
  have e14 : hV H1 285 32 = hV H0 285 32 := (f2.1.2.1.1 285 32 kF_224_285_32)
  have e15 : hV H2 285 11 = hV H1 285 11 := (f6.1.2.1.1 285 11 kF_216_285_11)
  have e17 : hV H2 285 13 = hV H1 285 13 := (f6.1.2.1.1 285 13 kF_216_285_13)
  have e24 : hV H4 285 11 = hV H3 285 11 := (uSlot f21 285 11 (iS (show n11 = ((33 : Nat) : Int) from f20) rfl))
  have e26 : hV H4 285 13 = hV H3 285 13 := (uSlot f21 285 13 (iS (show n11 = ((33 : Nat) : Int) from f20) rfl))
  have e30 : hV H4 285 15 = hV H1 285 15 := ((uSlot f21 285 15 (iS (show n11 = ((33 : Nat) : Int) from f20) rfl))).trans (((f12.1.2.1.1 285 15 kF_220_285_15)).trans (f6.1.2.1.1 285 15 kF_216_285_15))
  have e33 : hV H5 285 32 = hV H0 285 32 := ((f22.1.2.1.1 285 32 kF_226_285_32)).trans (((uSlot f21 285 32 (iS (show n11 = ((33 : Nat) : Int) from f20) rfl))).trans (((f12.1.2.1.1 285 32 kF_220_285_32)).trans (((f6.1.2.1.1 285 32 kF_216_285_32)).trans (f2.1.2.1.1 285 32 kF_224_285_32))))
  have e34 : hV H5 285 33 = n10 := ((f22.1.2.1.1 285 33 kF_226_285_33)).trans (uSame f21 285 33 f0.symm f20.symm)
  have e41 : hV H5 294 = hV H1 294 := (fRow f22.1.2.1 294 kR_226_294).trans ((uRowNe f21 294 (iS (show n0 = ((285 : Nat) : Int) from f0) rfl)).trans ((fRow f12.1.2.1 294 kR_220_294).trans (fRow f6.1.2.1 294 kR_216_294)))
  have e42 : (0 : Int) ≤ hV H1 285 11 ∧ hV H1 285 11 ≤ 500 := f2.1.2.2 285 11 _ _ kW_285_11
  have e43 : (0 : Int) ≤ hV H1 285 13 ∧ hV H1 285 13 ≤ 2 := f2.1.2.2 285 13 _ _ kW_285_13
  have e44 : (0 : Int) ≤ hV H1 285 15 ∧ hV H1 285 15 ≤ 6 := f2.1.2.2 285 15 _ _ kW_285_15
  have e45 : (0 : Int) ≤ hV H0 285 18 ∧ hV H0 285 18 ≤ 8 := bTo e13 (f2.1.2.2 285 18 _ _ kW_285_18)
  have e46 : (0 : Int) ≤ hV H0 285 32 ∧ hV H0 285 32 ≤ 7 := bTo e14 (f2.1.2.2 285 32 _ _ kW_285_32)
  have e47 : (0 : Int) ≤ hV H1 285 33 ∧ hV H1 285 33 ≤ 62 := f2.1.2.2 285 33 _ _ kW_285_33
  have e50 : (0 : Int) ≤ hV H3 285 11 ∧ hV H3 285 11 ≤ 500 := f12.1.2.2.2 285 11 _ _ kW_285_11
  have e51 : (0 : Int) ≤ hV H3 285 13 ∧ hV H3 285 13 ≤ 2 := f12.1.2.2.2 285 13 _ _ kW_285_13
  have e52 : (0 : Int) ≤ hV H5 285 11 ∧ hV H5 285 11 ≤ 500 := f22.1.2.2.2 285 11 _ _ kW_285_11
  have e53 : (0 : Int) ≤ hV H5 285 13 ∧ hV H5 285 13 ≤ 2 := f22.1.2.2.2 285 13 _ _ kW_285_13
  have e54 : (0 : Int) ≤ hV H5 285 15 ∧ hV H5 285 15 ≤ 6 := f22.1.2.2.2 285 15 _ _ kW_285_15
  have e56 : (0 : Int) ≤ hV H5 285 33 ∧ hV H5 285 33 ≤ 62 := f22.1.2.2.2 285 33 _ _ kW_285_33
  try simp only [PB, PW]
  try simp only [e34] at e56
  try simp only [e33, e41]
  have y0 := g4.1
  have y1 := g4.2.1
  have y2 := g4.2.2
  have p0 := g3.1
  have p1 := g3.2.1
  have p2 := g3.2.2.1
  have p3 := g3.2.2.2
  have r0_0 := f6.2.1
  have r1_0 := f12.2.1
  have r1_1 := f12.2.2.1
  have r1_2 := f12.2.2.2.1
  have r1_3 := f12.2.2.2.2.1
  have r2_0 := f22.2.1
  have r2_1 := f22.2.2.1
  have r2_2 := f22.2.2.2.1
  have r2_3 := f22.2.2.2.2.1
  have r2_4 := f22.2.2.2.2.2.1
  have r2_5 := f22.2.2.2.2.2.2.1
  have r2_6 := f22.2.2.2.2.2.2.2.1
  have r2_7 := f22.2.2.2.2.2.2.2.2
  try simp only [PB] at y2
  try simp only [PW] at r2_1
  try simp only [e14] at y2
  try simp only [e17] at r0_0
  try simp only [e15] at r1_0
  try simp only [e15] at r1_1
  try simp only [e17] at r1_2
  try simp only [e15] at r1_3
  try simp only [e33, e34, e41] at r2_1
  try simp only [e24] at r2_3
  try simp only [e24] at r2_4
  try simp only [e26] at r2_5
  try simp only [e30] at r2_6
  try simp only [e30] at r2_7
  clear g3
  clear g4
  have wb0 := (y1 (hV H0 285 32).toNat).1
  have wp0 := (y1 (hV H0 285 33).toNat).2
  have wi38 := (y1 (n15).toNat).2.2
  try simp only [e13, e14] at wb0
  try simp only [e13, e14] at wp0
  try simp only [e13, e14] at wi38
  clear f10 f16 f25 f29 f32 f35 f38 e13 e14 e15 e17 e24 e26 e30 e33 e41
  clear f2 f6 f12 f22
  subst e1
  subst e5
  subst e6
  subst e7
  subst e11
  rw [f13] at f17
  first
  | (have ix0 : n8 = 7 * (hV H0 285 32) := Eq.trans f17 (w32_iv (Iml 7 rfl (Iat f15 f14)) (by decide)); subst ix0; clear f17)
  | (have ix0 : n8 = 7 * (hV H0 285 32) := Eq.trans f17 (w32_id (by omega) (by omega)); subst ix0; clear f17)
  | (unfold w32 at f17; have ix0 : n8 = 7 * (hV H0 285 32) := (by omega); subst ix0)
  | skip
  first
  | (have ix1 : n10 = (7 * (hV H0 285 32)) + 6 := Eq.trans f19 (w32_iv (Iad (Iml 7 rfl (Iat f15 f14)) (IC 6)) (by decide)); subst ix1; clear f19)
  | (have ix1 : n10 = (7 * (hV H0 285 32)) + 6 := Eq.trans f19 (w32_id (by omega) (by omega)); subst ix1; clear f19)
  | (unfold w32 at f19; have ix1 : n10 = (7 * (hV H0 285 32)) + 6 := (by omega); subst ix1)
  | skip
  try unfold w32 at f17
  try unfold w32 at f19

  refine ⟨?_, ?_, ?_⟩
  · exact r2_0
  · exact r2_2
  · intro z1 z2
    first
    | omega
    | (have eq40 : n15 = 7 * hV H0 285 32 + 6 := by omega
       subst eq40
       exact PGs_of (r2_1 (by omega) (by omega)) (by omega) (by omega) (by omega) (by omega) (by omega) (fun x => (r2_2 x).2.2.1))

def g_224_10_5 : vG := ([(45, [16, 17], [], 0), (0, [17], [], 40), (22, [16, 14, 15], [5], 0), (90, [16], [], 0), (91, [16], [], 2000), (20, [15, 1], [5], 33), (90, [15], [], 0), (91, [15], [], 62), (20, [14, 1], [5], 23), (0, [14], [], 297), (30, [13], [], 0), (20, [13, 1], [5], 15), (90, [13], [], 0), (91, [13], [], 6), (30, [12], [], 0), (20, [12, 1], [5], 13), (90, [12], [], 0), (91, [12], [], 2), (1226, [1], [4, 5], 0), (80, [1, 11, 10], [4, 3], 0), (0, [11], [], 33), (1, [10, 8, 9], [], 0), (0, [9], [], 6), (3, [8, 6, 7], [], 0), (20, [7, 1], [3], 32), (90, [7], [], 0), (91, [7], [], 7), (0, [6], [], 7), (1220, [1, 5], [2, 3], 0), (0, [5], [], 22), (20, [4, 1], [2], 11), (90, [4], [], 0), (91, [4], [], 500), (30, [3], [], 0), (1216, [3, 1, 2], [1, 2], 0), (90, [3], [], 0), (91, [3], [], 1), (0, [2], [], 20), (5000, [0, 1], [0, 1], 10), (0, [0], [], 285), (0, [1], [], 285)], (3000, [], [5], 90))
theorem c_224_10_5 {q0 : Nat} : vOkm T0 (eP e_224 L_224 A_224 mu_224 (some q0)) 1 g_224_10_5 := vOk_inI fun ρ η f0 f1 f2 f3 f4 f5 f6 f7 f8 f9 f10 f11 f12 f13 f14 f15 f16 f17 f18 f19 f20 f21 f22 f23 f24 f25 f26 f27 f28 f29 f30 f31 f32 f33 f34 f35 f36 f37 f38 f39 f40 => q_224_6 (q0 := q0) (n0 := ρ 1) (n1 := ρ 0) (n2 := ρ 2) (n3 := ρ 3) (n4 := ρ 4) (n5 := ρ 5) (n6 := ρ 6) (n7 := ρ 7) (n8 := ρ 8) (n9 := ρ 9) (n10 := ρ 10) (n11 := ρ 11) (n12 := ρ 12) (n13 := ρ 13) (n14 := ρ 14) (n15 := ρ 15) (n16 := ρ 16) (n17 := ρ 17) (H0 := η 0) (H1 := η 1) (H2 := η 2) (H3 := η 3) (H4 := η 4) (H5 := η 5) f40 f39 f38 f37 f36 f35 f34 f33 f32 f31 f30 f29 f28 f27 f26 f25 f24 f23 f22 f21 f20 f19 f18 f17 f16 f15 f14 f13 f12 f11 f10 f9 f8 f7 f6 f5 f4 f3 f2 f1 f0
set_option maxHeartbeats 20000000 in
theorem q_224_7 {q0 : Nat} {n0 n1 n2 n3 n4 n5 n6 n7 n8 n9 n10 n11 n12 n13 n14 n15 n16 n17 n18 : Int} {H0 H1 H2 H3 H4 H5 H6 : gH} (f0 : n0 = 285) (f1 : n1 = 285) (f2 : (hLe T0 H0 H1 ∧ hFr s_224.2.2.2.2 H0 H1 ∧ hWt T0 H1) ∧ (Ab_224_10 n1 n0 H0 H1 ∧ preb_224 n1 H0) ∧ some q0 = some (mub_224_10 n1 n0 H0 H1)) (f3 : n2 = 20) (f4 : n3 ≤ 1) (f5 : 0 ≤ n3) (f6 : (hLe T0 H1 H2 ∧ hFr s_216.2.2.2.2 H1 H2 ∧ ((0 : Int) = 0 → H2.length = H1.length) ∧ hWt T0 H2) ∧ postb_216 n3 n0 n2 H1 H2) (f7 : n3 = 0) (f8 : n4 ≤ 500) (f9 : 0 ≤ n4) (f10 : n4 = hV H2 (n0).toNat 11) (f11 : n5 = 22) (f12 : (hLe T0 H2 H3 ∧ hFr s_220.2.2.2.2 H2 H3 ∧ ((0 : Int) = 0 → H3.length = H2.length) ∧ hWt T0 H3) ∧ postb_220 n0 n5 H2 H3) (f13 : n6 = 7) (f14 : n7 ≤ 7) (f15 : 0 ≤ n7) (f16 : n7 = hV H3 (n0).toNat 32) (f17 : n8 = w32 (n6 * n7)) (f18 : n9 = 6) (f19 : n10 = w32 (n8 + n9)) (f20 : n11 = 33) (f21 : hUpd H4 H3 n0 n11 n10) (f22 : (hLe T0 H4 H5 ∧ hFr s_226.2.2.2.2 H4 H5 ∧ ((0 : Int) = 0 → H5.length = H4.length) ∧ hWt T0 H5) ∧ postb_226 n0 H4 H5) (f23 : n12 ≤ 2) (f24 : 0 ≤ n12) (f25 : n12 = hV H5 (n0).toNat 13) (f26 : n12 = 0) (f27 : n13 ≤ 6) (f28 : 0 ≤ n13) (f29 : n13 = hV H5 (n0).toNat 15) (f30 : n13 = 0) (f31 : n14 = 297) (f32 : n14 = hV H5 (n0).toNat 23) (f33 : n15 ≤ 62) (f34 : 0 ≤ n15) (f35 : n15 = hV H5 (n0).toNat 33) (f36 : n16 ≤ 2000) (f37 : 0 ≤ n16) (f38 : n16 = hV H5 (n14).toNat (n15).toNat) (f39 : n17 = 40) (f40 : n17 < n16) (f41 : n18 = 6) (f42 : (hLe T0 H5 H6 ∧ hFr s_218.2.2.2.2 H5 H6 ∧ ((0 : Int) = 0 → H6.length = H5.length) ∧ hWt T0 H6) ∧ postb_218 n0 n18 n4 H5 H6) : postb_224 n1 H0 H6 := by
  have g4 := f2.2.1.1
  unfold Ab_224_10 at g4
  have g3 := f2.2.1.2
  unfold preb_224 at g3
  unfold postb_216 at f6
  unfold postb_220 at f12
  unfold postb_226 at f22
  unfold postb_218 at f42
  unfold postb_224
  have e1 : n4 = hV H1 285 11 := (by rw [f0] at f10; exact f10 : n4 = hV H2 285 11).trans ((f6.1.2.1.1 285 11 kF_216_285_11))
  have e5 : n7 = hV H0 285 32 := (by rw [f0] at f16; exact f16 : n7 = hV H3 285 32).trans (((f12.1.2.1.1 285 32 kF_220_285_32)).trans (((f6.1.2.1.1 285 32 kF_216_285_32)).trans (f2.1.2.1.1 285 32 kF_224_285_32)))
  have e6 : n12 = hV H5 285 13 := (by rw [f0] at f25; exact f25 : n12 = hV H5 285 13)
  have e7 : n13 = hV H5 285 15 := (by rw [f0] at f29; exact f29 : n13 = hV H5 285 15)
  have e10 : n15 = n10 := (by rw [f0] at f35; exact f35 : n15 = hV H5 285 33).trans (((f22.1.2.1.1 285 33 kF_226_285_33)).trans (uSame f21 285 33 f0.symm f20.symm))
  have e11 : n16 = hV H5 297 (n15).toNat := (by rw [f31] at f38; exact f38 : n16 = hV H5 297 (n15).toNat)
  have e13 : hV H1 285 18 = hV H0 285 18 := (f2.1.2.1.1 285 18 kF_224_285_18)
  have e14 : hV H1 285 32 = hV H0 285 32 := (f2.1.2.1.1 285 32 kF_224_285_32)
  have e15 : hV H2 285 11 = hV H1 285 11 := (f6.1.2.1.1 285 11 kF_216_285_11)
  have e17 : hV H2 285 13 = hV H1 285 13 := (f6.1.2.1.1 285 13 kF_216_285_13)
  have e24 : hV H4 285 11 = hV H3 285 11 := (uSlot f21 285 11 (iS (show n11 = ((33 : Nat) : Int) from f20) rfl))
  have e26 : hV H4 285 13 = hV H3 285 13 := (uSlot f21 285 13 (iS (show n11 = ((33 : Nat) : Int) from f20) rfl))
  have e30 : hV H4 285 15 = hV H1 285 15 := ((uSlot f21 285 15 (iS (show n11 = ((33 : Nat) : Int) from f20) rfl))).trans (((f12.1.2.1.1 285 15 kF_220_285_15)).trans (f6.1.2.1.1 285 15 kF_216_285_15))
  have e33 : hV H5 285 32 = hV H0 285 32 := ((f22.1.2.1.1 285 32 kF_226_285_32)).trans (((uSlot f21 285 32 (iS (show n11 = ((33 : Nat) : Int) from f20) rfl))).trans (((f12.1.2.1.1 285 32 kF_220_285_32)).trans (((f6.1.2.1.1 285 32 kF_216_285_32)).trans (f2.1.2.1.1 285 32 kF_224_285_32))))
  have e34 : hV H5 285 33 = n10 := ((f22.1.2.1.1 285 33 kF_226_285_33)).trans (uSame f21 285 33 f0.symm f20.symm)
  have e41 : hV H5 294 = hV H1 294 := (fRow f22.1.2.1 294 kR_226_294).trans ((uRowNe f21 294 (iS (show n0 = ((285 : Nat) : Int) from f0) rfl)).trans ((fRow f12.1.2.1 294 kR_220_294).trans (fRow f6.1.2.1 294 kR_216_294)))
  have e43 : hV H6 285 13 = hV H5 285 13 := (f42.1.2.1.1 285 13 kF_218_285_13)
  have e45 : hV H6 285 32 = hV H0 285 32 := ((f42.1.2.1.1 285 32 kF_218_285_32)).trans (((f22.1.2.1.1 285 32 kF_226_285_32)).trans (((uSlot f21 285 32 (iS (show n11 = ((33 : Nat) : Int) from f20) rfl))).trans (((f12.1.2.1.1 285 32 kF_220_285_32)).trans (((f6.1.2.1.1 285 32 kF_216_285_32)).trans (f2.1.2.1.1 285 32 kF_224_285_32)))))
  have e47 : hV H6 294 = hV H1 294 := (fRow f42.1.2.1 294 kR_218_294).trans e41
  have e48 : hV H6 296 = hV H5 296 := fRow f42.1.2.1 296 kR_218_296
  have e49 : hV H6 298 = hV H5 298 := fRow f42.1.2.1 298 kR_218_298
  have e50 : hV H6 300 = hV H5 300 := fRow f42.1.2.1 300 kR_218_300
  have e51 : hV H6 301 = hV H5 301 := fRow f42.1.2.1 301 kR_218_301
  have e52 : hV H6 302 = hV H5 302 := fRow f42.1.2.1 302 kR_218_302
  have e53 : hV H6 303 = hV H5 303 := fRow f42.1.2.1 303 kR_218_303
  have e54 : hV H6 305 = hV H5 305 := fRow f42.1.2.1 305 kR_218_305
  have e55 : PA H6 = PA H5 := PA_fr f42.1.2.1 (by decide +kernel)
  have e56 : PQ H6 = PQ H5 := PQ_fr f42.1.2.1 (by decide +kernel)
  have e57 : (0 : Int) ≤ hV H1 285 11 ∧ hV H1 285 11 ≤ 500 := f2.1.2.2 285 11 _ _ kW_285_11
  have e58 : (0 : Int) ≤ hV H1 285 13 ∧ hV H1 285 13 ≤ 2 := f2.1.2.2 285 13 _ _ kW_285_13
  have e59 : (0 : Int) ≤ hV H1 285 15 ∧ hV H1 285 15 ≤ 6 := f2.1.2.2 285 15 _ _ kW_285_15
  have e60 : (0 : Int) ≤ hV H0 285 18 ∧ hV H0 285 18 ≤ 8 := bTo e13 (f2.1.2.2 285 18 _ _ kW_285_18)
  have e61 : (0 : Int) ≤ hV H0 285 32 ∧ hV H0 285 32 ≤ 7 := bTo e14 (f2.1.2.2 285 32 _ _ kW_285_32)
  have e62 : (0 : Int) ≤ hV H1 285 33 ∧ hV H1 285 33 ≤ 62 := f2.1.2.2 285 33 _ _ kW_285_33
  have e65 : (0 : Int) ≤ hV H3 285 11 ∧ hV H3 285 11 ≤ 500 := f12.1.2.2.2 285 11 _ _ kW_285_11
  have e66 : (0 : Int) ≤ hV H3 285 13 ∧ hV H3 285 13 ≤ 2 := f12.1.2.2.2 285 13 _ _ kW_285_13
  have e67 : (0 : Int) ≤ hV H5 285 11 ∧ hV H5 285 11 ≤ 500 := f22.1.2.2.2 285 11 _ _ kW_285_11
  have e68 : (0 : Int) ≤ hV H5 285 13 ∧ hV H5 285 13 ≤ 2 := f22.1.2.2.2 285 13 _ _ kW_285_13
  have e69 : (0 : Int) ≤ hV H5 285 15 ∧ hV H5 285 15 ≤ 6 := f22.1.2.2.2 285 15 _ _ kW_285_15
  have e71 : (0 : Int) ≤ hV H5 285 33 ∧ hV H5 285 33 ≤ 62 := f22.1.2.2.2 285 33 _ _ kW_285_33
  have e73 : (0 : Int) ≤ hV H6 285 15 ∧ hV H6 285 15 ≤ 6 := f42.1.2.2.2 285 15 _ _ kW_285_15
  try simp only [PB, PW]
  try simp only [e34] at e71
  try simp only [e43, e45, e47, e48, e49, e50, e51, e52, e53, e54, e55, e56]
  have y0 := g4.1
  have y1 := g4.2.1
  have y2 := g4.2.2
  have p0 := g3.1
  have p1 := g3.2.1
  have p2 := g3.2.2.1
  have p3 := g3.2.2.2
  have r0_0 := f6.2.1
  have r1_0 := f12.2.1
  have r1_1 := f12.2.2.1
  have r1_2 := f12.2.2.2.1
  have r1_3 := f12.2.2.2.2.1
  have r2_0 := f22.2.1
  have r2_1 := f22.2.2.1
  have r2_2 := f22.2.2.2.1
  have r2_3 := f22.2.2.2.2.1
  have r2_4 := f22.2.2.2.2.2.1
  have r2_5 := f22.2.2.2.2.2.2.1
  have r2_6 := f22.2.2.2.2.2.2.2.1
  have r2_7 := f22.2.2.2.2.2.2.2.2
  have r3_0 := f42.2.1
  have r3_1 := f42.2.2
  try simp only [PB] at y2
  try simp only [PW] at r2_1
  try simp only [e14] at y2
  try simp only [e17] at r0_0
  try simp only [e15] at r1_0
  try simp only [e15] at r1_1
  try simp only [e17] at r1_2
  try simp only [e15] at r1_3
  try simp only [e33, e34, e41] at r2_1
  try simp only [e24] at r2_3
  try simp only [e24] at r2_4
  try simp only [e26] at r2_5
  try simp only [e30] at r2_6
  try simp only [e30] at r2_7
  try simp only [e43] at r3_1
  clear g3
  clear g4
  have wb0 := (y1 (hV H0 285 32).toNat).1
  have wp0 := (y1 (hV H0 285 33).toNat).2
  have wi38 := (y1 (n15).toNat).2.2
  try simp only [e13, e14] at wb0
  try simp only [e13, e14] at wp0
  try simp only [e13, e14] at wi38
  clear f10 f16 f25 f29 f32 f35 f38 e13 e14 e15 e17 e24 e26 e30 e33 e41 e43 e45 e47 e48 e49 e50 e51 e52 e53 e54 e55 e56
  clear f2 f6 f12 f22 f42
  subst e1
  subst e5
  subst e6
  subst e7
  subst e11
  rw [f13] at f17
  first
  | (have ix0 : n8 = 7 * (hV H0 285 32) := Eq.trans f17 (w32_iv (Iml 7 rfl (Iat f15 f14)) (by decide)); subst ix0; clear f17)
  | (have ix0 : n8 = 7 * (hV H0 285 32) := Eq.trans f17 (w32_id (by omega) (by omega)); subst ix0; clear f17)
  | (unfold w32 at f17; have ix0 : n8 = 7 * (hV H0 285 32) := (by omega); subst ix0)
  | skip
  first
  | (have ix1 : n10 = (7 * (hV H0 285 32)) + 6 := Eq.trans f19 (w32_iv (Iad (Iml 7 rfl (Iat f15 f14)) (IC 6)) (by decide)); subst ix1; clear f19)
  | (have ix1 : n10 = (7 * (hV H0 285 32)) + 6 := Eq.trans f19 (w32_id (by omega) (by omega)); subst ix1; clear f19)
  | (unfold w32 at f19; have ix1 : n10 = (7 * (hV H0 285 32)) + 6 := (by omega); subst ix1)
  | skip
  try unfold w32 at f17
  try unfold w32 at f19

  refine ⟨?_, ?_, ?_⟩
  · exact r2_0
  · exact r2_2
  · intro z1 z2
    omega

def g_224_10_6 : vG := ([(1218, [1, 18, 4], [5, 6], 0), (0, [18], [], 6), (44, [16, 17], [], 0), (0, [17], [], 40), (22, [16, 14, 15], [5], 0), (90, [16], [], 0), (91, [16], [], 2000), (20, [15, 1], [5], 33), (90, [15], [], 0), (91, [15], [], 62), (20, [14, 1], [5], 23), (0, [14], [], 297), (30, [13], [], 0), (20, [13, 1], [5], 15), (90, [13], [], 0), (91, [13], [], 6), (30, [12], [], 0), (20, [12, 1], [5], 13), (90, [12], [], 0), (91, [12], [], 2), (1226, [1], [4, 5], 0), (80, [1, 11, 10], [4, 3], 0), (0, [11], [], 33), (1, [10, 8, 9], [], 0), (0, [9], [], 6), (3, [8, 6, 7], [], 0), (20, [7, 1], [3], 32), (90, [7], [], 0), (91, [7], [], 7), (0, [6], [], 7), (1220, [1, 5], [2, 3], 0), (0, [5], [], 22), (20, [4, 1], [2], 11), (90, [4], [], 0), (91, [4], [], 500), (30, [3], [], 0), (1216, [3, 1, 2], [1, 2], 0), (90, [3], [], 0), (91, [3], [], 1), (0, [2], [], 20), (5000, [0, 1], [0, 1], 10), (0, [0], [], 285), (0, [1], [], 285)], (3000, [], [6], 90))
theorem c_224_10_6 {q0 : Nat} : vOkm T0 (eP e_224 L_224 A_224 mu_224 (some q0)) 1 g_224_10_6 := vOk_inI fun ρ η f0 f1 f2 f3 f4 f5 f6 f7 f8 f9 f10 f11 f12 f13 f14 f15 f16 f17 f18 f19 f20 f21 f22 f23 f24 f25 f26 f27 f28 f29 f30 f31 f32 f33 f34 f35 f36 f37 f38 f39 f40 f41 f42 => q_224_7 (q0 := q0) (n0 := ρ 1) (n1 := ρ 0) (n2 := ρ 2) (n3 := ρ 3) (n4 := ρ 4) (n5 := ρ 5) (n6 := ρ 6) (n7 := ρ 7) (n8 := ρ 8) (n9 := ρ 9) (n10 := ρ 10) (n11 := ρ 11) (n12 := ρ 12) (n13 := ρ 13) (n14 := ρ 14) (n15 := ρ 15) (n16 := ρ 16) (n17 := ρ 17) (n18 := ρ 18) (H0 := η 0) (H1 := η 1) (H2 := η 2) (H3 := η 3) (H4 := η 4) (H5 := η 5) (H6 := η 6) f42 f41 f40 f39 f38 f37 f36 f35 f34 f33 f32 f31 f30 f29 f28 f27 f26 f25 f24 f23 f22 f21 f20 f19 f18 f17 f16 f15 f14 f13 f12 f11 f10 f9 f8 f7 f6 f5 f4 f3 f2 f1 f0
set_option maxHeartbeats 20000000 in
theorem kR_224_288 : vFreeR s_224.2.2.2.2 288 = true := by decide +kernel
theorem q_224_8 {q0 : Nat} {n0 n1 n2 n3 : Int} {H0 H1 H2 : gH} (f0 : n0 = 285) (f1 : n1 = 285) (f2 : (hLe T0 H0 H1 ∧ hFr s_224.2.2.2.2 H0 H1 ∧ hWt T0 H1) ∧ (Ab_224_10 n1 n0 H0 H1 ∧ preb_224 n1 H0) ∧ some q0 = some (mub_224_10 n1 n0 H0 H1)) (f3 : n2 = 20) (f4 : n3 ≤ 1) (f5 : 0 ≤ n3) (f6 : (hLe T0 H1 H2 ∧ hFr s_216.2.2.2.2 H1 H2 ∧ ((0 : Int) = 0 → H2.length = H1.length) ∧ hWt T0 H2) ∧ postb_216 n3 n0 n2 H1 H2) (f7 : n3 ≠ 0) : preb_225 n0 H2 := by
  have g4 := f2.2.1.1
  unfold Ab_224_10 at g4
  have g3 := f2.2.1.2
  unfold preb_224 at g3
  unfold postb_216 at f6
  unfold preb_225
  have e1 : hV H1 285 18 = hV H0 285 18 := (f2.1.2.1.1 285 18 kF_224_285_18)
  have e3 : hV H1 285 32 = hV H0 285 32 := (f2.1.2.1.1 285 32 kF_224_285_32)
  have e5 : hV H2 285 11 = hV H1 285 11 := (f6.1.2.1.1 285 11 kF_216_285_11)
  have e7 : hV H2 285 13 = hV H1 285 13 := (f6.1.2.1.1 285 13 kF_216_285_13)
  have e9 : hV H2 285 15 = hV H1 285 15 := (f6.1.2.1.1 285 15 kF_216_285_15)
  have e11 : hV H2 285 18 = hV H0 285 18 := ((f6.1.2.1.1 285 18 kF_216_285_18)).trans (f2.1.2.1.1 285 18 kF_224_285_18)
  have e13 : hV H2 285 32 = hV H0 285 32 := ((f6.1.2.1.1 285 32 kF_216_285_32)).trans (f2.1.2.1.1 285 32 kF_224_285_32)
  have e16 : hV H2 288 = hV H0 288 := (fRow f6.1.2.1 288 kR_216_288).trans (fRow f2.1.2.1 288 kR_224_288)
  have e17 : PA H2 = PA H1 := PA_fr f6.1.2.1 (by decide +kernel)
  have e18 : PB H2 = PB H1 := PB_fr f6.1.2.1 (by decide +kernel)
  have e19 : PQ H2 = PQ H1 := PQ_fr f6.1.2.1 (by decide +kernel)
  have e20 : (0 : Int) ≤ hV H1 285 11 ∧ hV H1 285 11 ≤ 500 := f2.1.2.2 285 11 _ _ kW_285_11
  have e21 : (0 : Int) ≤ hV H1 285 13 ∧ hV H1 285 13 ≤ 2 := f2.1.2.2 285 13 _ _ kW_285_13
  have e22 : (0 : Int) ≤ hV H1 285 15 ∧ hV H1 285 15 ≤ 6 := f2.1.2.2 285 15 _ _ kW_285_15
  have e23 : (0 : Int) ≤ hV H0 285 18 ∧ hV H0 285 18 ≤ 8 := bTo e1 (f2.1.2.2 285 18 _ _ kW_285_18)
  have e24 : (0 : Int) ≤ hV H0 285 32 ∧ hV H0 285 32 ≤ 7 := bTo e3 (f2.1.2.2 285 32 _ _ kW_285_32)
  try simp only [e7, e9, e11, e13, e17, e18, e19]
  have y0 := g4.1
  have y1 := g4.2.1
  have y2 := g4.2.2
  have p0 := g3.1
  have p1 := g3.2.1
  have p2 := g3.2.2.1
  have p3 := g3.2.2.2
  have r0_0 := f6.2.1
  have r0_1 := f6.2.2.resolve_right (fun z => f7 z.1)
  try simp only [e7] at r0_0
  try simp only [e1, e3, e5, e7, e9, e11, e13, e16, e17, e18, e19] at r0_1
  clear g3
  clear g4
  have wb0 := (y1 (hV H0 285 32).toNat).1
  have wp0 := (y1 (hV H0 285 33).toNat).2
  try simp only [e1, e3] at wb0
  try simp only [e1, e3] at wp0
  clear e1 e3 e5 e7 e9 e11 e13 e16 e17 e18 e19
  clear f2 f6

  refine ⟨?_, ?_, ?_, ?_, ?_⟩
  · exact y0
  · exact y1
  · (try clear y0 y1 y2 p0 p1)
    first | exact True.intro | omega
  · (try clear y0 y1 y2 p0 p1)
    first | exact True.intro | omega
  · intro z1 z2
    exact y2 (by omega) (by omega)

def g_224_10_7 : vG := ([(31, [3], [], 0), (1216, [3, 1, 2], [1, 2], 0), (90, [3], [], 0), (91, [3], [], 1), (0, [2], [], 20), (5000, [0, 1], [0, 1], 10), (0, [0], [], 285), (0, [1], [], 285)], (2225, [1], [2], 0))
theorem c_224_10_7 {q0 : Nat} : vOkm T0 (eP e_224 L_224 A_224 mu_224 (some q0)) 1 g_224_10_7 := vOk_inI fun ρ η f0 f1 f2 f3 f4 f5 f6 f7 => q_224_8 (q0 := q0) (n0 := ρ 1) (n1 := ρ 0) (n2 := ρ 2) (n3 := ρ 3) (H0 := η 0) (H1 := η 1) (H2 := η 2) f7 f6 f5 f4 f3 f2 f1 f0
set_option maxHeartbeats 20000000 in
theorem q_224_9 {q0 : Nat} {n0 n1 n2 n3 : Int} {H0 H1 H2 H3 : gH} (f0 : n0 = 285) (f1 : n1 = 285) (f2 : (hLe T0 H0 H1 ∧ hFr s_224.2.2.2.2 H0 H1 ∧ hWt T0 H1) ∧ (Ab_224_10 n1 n0 H0 H1 ∧ preb_224 n1 H0) ∧ some q0 = some (mub_224_10 n1 n0 H0 H1)) (f3 : n2 = 20) (f4 : n3 ≤ 1) (f5 : 0 ≤ n3) (f6 : (hLe T0 H1 H2 ∧ hFr s_216.2.2.2.2 H1 H2 ∧ ((0 : Int) = 0 → H2.length = H1.length) ∧ hWt T0 H2) ∧ postb_216 n3 n0 n2 H1 H2) (f7 : n3 ≠ 0) (f8 : (hLe T0 H2 H3 ∧ hFr s_225.2.2.2.2 H2 H3 ∧ ((0 : Int) = 0 → H3.length = H2.length) ∧ hWt T0 H3) ∧ postb_225 n0 H2 H3) : Ab_224_10 n1 n0 H0 H3 ∧ ∀ q, some q0 = some q → mub_224_10 n1 n0 H0 H3 < q := by
  have g4 := f2.2.1.1
  unfold Ab_224_10 at g4
  have g3 := f2.2.1.2
  unfold preb_224 at g3
  have g5 := Option.some.inj f2.2.2
  unfold mub_224_10 at g5
  unfold postb_216 at f6
  unfold postb_225 at f8
  unfold Ab_224_10
  unfold mub_224_10
  have e1 : hV H1 285 18 = hV H0 285 18 := (f2.1.2.1.1 285 18 kF_224_285_18)
  have e3 : hV H1 285 32 = hV H0 285 32 := (f2.1.2.1.1 285 32 kF_224_285_32)
  have e5 : hV H2 285 11 = hV H1 285 11 := (f6.1.2.1.1 285 11 kF_216_285_11)
  have e7 : hV H2 285 13 = hV H1 285 13 := (f6.1.2.1.1 285 13 kF_216_285_13)
  have e9 : hV H2 285 15 = hV H1 285 15 := (f6.1.2.1.1 285 15 kF_216_285_15)
  have e12 : hV H2 288 = hV H0 288 := (fRow f6.1.2.1 288 kR_216_288).trans (fRow f2.1.2.1 288 kR_224_288)
  have e13 : (0 : Int) ≤ hV H1 285 11 ∧ hV H1 285 11 ≤ 500 := f2.1.2.2 285 11 _ _ kW_285_11
  have e14 : (0 : Int) ≤ hV H1 285 13 ∧ hV H1 285 13 ≤ 2 := f2.1.2.2 285 13 _ _ kW_285_13
  have e15 : (0 : Int) ≤ hV H1 285 15 ∧ hV H1 285 15 ≤ 6 := f2.1.2.2 285 15 _ _ kW_285_15
  have e16 : (0 : Int) ≤ hV H0 285 18 ∧ hV H0 285 18 ≤ 8 := bTo e1 (f2.1.2.2 285 18 _ _ kW_285_18)
  have e17 : (0 : Int) ≤ hV H0 285 32 ∧ hV H0 285 32 ≤ 7 := bTo e3 (f2.1.2.2 285 32 _ _ kW_285_32)
  have e21 : (0 : Int) ≤ hV H3 285 11 ∧ hV H3 285 11 ≤ 500 := f8.1.2.2.2 285 11 _ _ kW_285_11
  have e22 : (0 : Int) ≤ hV H3 285 13 ∧ hV H3 285 13 ≤ 2 := f8.1.2.2.2 285 13 _ _ kW_285_13
  have e23 : (0 : Int) ≤ hV H3 285 15 ∧ hV H3 285 15 ≤ 6 := f8.1.2.2.2 285 15 _ _ kW_285_15
  try simp only [PW]
  have y0 := g4.1
  have y1 := g4.2.1
  have y2 := g4.2.2
  have p0 := g3.1
  have p1 := g3.2.1
  have p2 := g3.2.2.1
  have p3 := g3.2.2.2
  have r0_0 := f6.2.1
  have r0_1 := f6.2.2.resolve_right (fun z => f7 z.1)
  have r1_0 := f8.2.1
  have r1_1 := f8.2.2.1
  have r1_2 := f8.2.2.2.1
  have r1_3 := f8.2.2.2.2.1
  have r1_4 := f8.2.2.2.2.2.1
  have r1_5 := f8.2.2.2.2.2.2.1
  have r1_6 := f8.2.2.2.2.2.2.2.1
  have r1_7 := f8.2.2.2.2.2.2.2.2
  try simp only [e7] at r0_0
  try simp only [e1, e3, e5, e7, e9, e12] at r0_1
  try simp only [e5] at r1_3
  try simp only [e5] at r1_4
  try simp only [e7] at r1_5
  try simp only [e9] at r1_6
  try simp only [e9] at r1_7
  clear g3
  clear g4
  have wb0 := (y1 (hV H0 285 32).toNat).1
  have wp0 := (y1 (hV H0 285 33).toNat).2
  try simp only [e1, e3] at wb0
  try simp only [e1, e3] at wp0
  clear e1 e3 e5 e7 e9 e12
  clear f2 f6 f8

  refine ⟨⟨?_, ?_, ?_⟩, fun q hq => ?_⟩
  · exact r1_0
  · exact r1_1
  · intro z1 z2
    exact r1_2 (by omega) (by omega)
  · (try clear y0 y1 y2 p0 p1 r1_0 r1_1 r1_2)
    have g6 := Option.some.inj hq
    subst g6
    omega
def g_224_10_8 : vG := ([(1225, [1], [2, 3], 0), (31, [3], [], 0), (1216, [3, 1, 2], [1, 2], 0), (90, [3], [], 0), (91, [3], [], 1), (0, [2], [], 20), (5000, [0, 1], [0, 1], 10), (0, [0], [], 285), (0, [1], [], 285)], (4000, [1], [3], 10))
theorem c_224_10_8 {q0 : Nat} : vOkm T0 (eP e_224 L_224 A_224 mu_224 (some q0)) 1 g_224_10_8 := vOk_inI fun ρ η f0 f1 f2 f3 f4 f5 f6 f7 f8 => q_224_9 (q0 := q0) (n0 := ρ 1) (n1 := ρ 0) (n2 := ρ 2) (n3 := ρ 3) (H0 := η 0) (H1 := η 1) (H2 := η 2) (H3 := η 3) f8 f7 f6 f5 f4 f3 f2 f1 f0
def p_224_10 : List vG := [g_224_10_0,
  g_224_10_1,
  g_224_10_2,
  g_224_10_3,
  g_224_10_4,
  g_224_10_5,
  g_224_10_6,
  g_224_10_7,
  g_224_10_8]
theorem r_224_10 : vCovO false (eRc e_224 L_224 cs_224 2000 (10, [(0, (3, 12, 285, 0))])) p_224_10 = true := by decide +kernel
theorem m_224 (d : Nat) : eC e_224 (d + 10) := eC_ok (e := e_224) (L := L_224) (cs := cs_224) (n := 2000) (d := d + 9) (A := A_224) (μ := mu_224) (tp := false) (p0 := p_224_s) rfl ⟨m_216 (d + 8), ⟨m_218 (d + 8), ⟨m_220 (d + 6), ⟨m_225 d, ⟨m_226 (d + 1), trivial⟩⟩⟩⟩⟩ rfl (.inl rfl) (by decide +kernel) (fun z => nomatch z) r_224_s (allC c_224_s_0 allN) (allC (.inl ⟨p_224_10, r_224_10, fun q0 => (allC c_224_10_0 (allC c_224_10_1 (allC c_224_10_2 (allC c_224_10_3 (allC c_224_10_4 (allC c_224_10_5 (allC c_224_10_6 (allC c_224_10_7 (allC c_224_10_8 allN)))))))))⟩) allN)
