/-! CONTRACTS of methods (printed by wip/gen/emit.py). -/
/- MixStageModel.put (I)V -/
noncomputable def s_206 : vM := ([(3, 12, 285, 0), (0, -2147483648, 2147483647, 0)], (9, 0, 0, 0), 1, 0, [(12, 2), (118, 0)])
def preb_206 (a0 a1 : Int) (h : gH) : Prop := hV h 285 2 ≤ 1996
def pre_206 : List Int → gH → Prop := fun xs h => match xs with
  | [a0, a1] => preb_206 a0 a1 h
  | _ => False
def postb_206 (a0 a1 : Int) (h0 h : gH) : Prop := hV h 285 2 = hV h0 285 2 + 4
def post_206 : List Int → gH → gH → Prop := fun xs h0 h => match xs with
  | [a0, a1] => postb_206 a0 a1 h0 h
  | _ => True
noncomputable def e_206 : vE := (206, s_206, pre_206, post_206)
noncomputable def L_206 : List vE := []
def cs_206 : List vC := [(3, [(0, (3, 12, 285, 0)), (1, (0, -2147483648, 2147483647, 0)), (2, (0, -2147483648, 2147483647, 0))])]
def Ab_206_3 (a0 a1 x0 x1 x2 : Int) (h0 h : gH) : Prop := x1 = a1 ∧ 8 * (hV h 285 2 - hV h0 285 2) = 24 - x2 ∧ -8 ≤ x2 ∧ x2 ≤ 24
def mub_206_3 (a0 a1 x0 x1 x2 : Int) (h0 h : gH) : Nat := (x2 + 8).toNat
def A_206 : Int → List Int → gH → gH → Prop := fun c xs h0 h => match c.toNat with
  | 3 => (match xs with
    | [a0, a1, x0, x1, x2] => Ab_206_3 a0 a1 x0 x1 x2 h0 h
    | _ => False)
  | _ => True
def mu_206 : Int → List Int → gH → gH → Nat := fun c xs h0 h => match c.toNat with
  | 3 => (match xs with
    | [a0, a1, x0, x1, x2] => mub_206_3 a0 a1 x0 x1 x2 h0 h
    | _ => 0)
  | _ => 0
theorem kW_285_2 : vRg T0 285 2 (0) (2000) = true := by decide +kernel
theorem q_206_0 {n0 n1 n2 : Int} {H0 : gH} (f0 : n0 ≤ 2147483647) (f1 : (-2147483648) ≤ n0) (f2 : n1 = 285) (f3 : hWt T0 H0 ∧ preb_206 n1 n0 H0) (f4 : n2 = 24) : Ab_206_3 n1 n0 n1 n0 n2 H0 H0 ∧ ∀ q, none = some q → mub_206_3 n1 n0 n1 n0 n2 H0 H0 < q := by
  unfold preb_206 at f3
  unfold Ab_206_3
  have e0 : (0 : Int) ≤ hV H0 285 2 ∧ hV H0 285 2 ≤ 2000 := f3.1 285 2 _ _ kW_285_2
  have p0 := f3.2
  refine ⟨?_, fun q hq => ?_⟩
  · refine ⟨?_, ?_, ?_, ?_⟩ <;> first | assumption | omega | trivial
  · exact nomatch hq
def g_206_s_0 : vG := ([(0, [2], [], 24), (6000, [0, 1], [0], 0), (0, [0], [], 285), (90, [1], [], -2147483648), (91, [1], [], 2147483647)], (4000, [0, 1, 2], [0], 3))
theorem c_206_s_0 : vOkm T0 (eP e_206 L_206 A_206 mu_206 none) 2 g_206_s_0 := vOk_inI fun ρ η f0 f1 f2 f3 f4 => q_206_0 (n0 := ρ 1) (n1 := ρ 0) (n2 := ρ 2) (H0 := η 0) f4 f3 f2 f1 f0
def p_206_s : List vG := [g_206_s_0]
theorem r_206_s : vCovO false (eR0 e_206 L_206 cs_206 2000) p_206_s = true := by decide +kernel
theorem q_206_1 {q0 : Nat} {n0 n1 n2 n3 n4 : Int} {H0 H1 : gH} (f0 : n0 ≤ 2147483647) (f1 : (-2147483648) ≤ n0) (f2 : n1 ≤ 2147483647) (f3 : (-2147483648) ≤ n1) (f4 : n2 = 285) (f5 : n3 ≤ 2147483647) (f6 : (-2147483648) ≤ n3) (f7 : n4 = 285) (f8 : (hLe T0 H0 H1 ∧ hFr s_206.2.2.2.2 H0 H1 ∧ hWt T0 H1) ∧ (Ab_206_3 n4 n3 n2 n1 n0 H0 H1 ∧ preb_206 n4 n3 H0) ∧ some q0 = some (mub_206_3 n4 n3 n2 n1 n0 H0 H1)) (f9 : n0 < 0) : postb_206 n4 n3 H0 H1 := by
  have g4 := f8.2.1.1
  unfold Ab_206_3 at g4
  have g3 := f8.2.1.2
  unfold preb_206 at g3
  unfold postb_206
  have e0 : (0 : Int) ≤ hV H1 285 2 ∧ hV H1 285 2 ≤ 2000 := f8.1.2.2 285 2 _ _ kW_285_2
  have k0 := g4.1
  have y0 := g4.2.1
  have y1 := g4.2.2.1
  have y2 := g4.2.2.2
  have p0 := g3
  clear g3
  clear g4
  try subst k0
  first | assumption | omega | trivial
def g_206_3_0 : vG := ([(32, [4], [], 0), (5000, [0, 1, 2, 3, 4], [0, 1], 3), (0, [0], [], 285), (90, [1], [], -2147483648), (91, [1], [], 2147483647), (0, [2], [], 285), (90, [3], [], -2147483648), (91, [3], [], 2147483647), (90, [4], [], -2147483648), (91, [4], [], 2147483647)], (3000, [], [1], 36))
theorem c_206_3_0 {q0 : Nat} : vOkm T0 (eP e_206 L_206 A_206 mu_206 (some q0)) 2 g_206_3_0 := vOk_inI fun ρ η f0 f1 f2 f3 f4 f5 f6 f7 f8 f9 => q_206_1 (q0 := q0) (n0 := ρ 4) (n1 := ρ 3) (n2 := ρ 2) (n3 := ρ 1) (n4 := ρ 0) (H0 := η 0) (H1 := η 1) f9 f8 f7 f6 f5 f4 f3 f2 f1 f0
theorem q_206_2 {q0 : Nat} {n0 n1 n2 n3 n4 n5 n6 : Int} {H0 H1 : gH} (f0 : n0 ≤ 2147483647) (f1 : (-2147483648) ≤ n0) (f2 : n1 ≤ 2147483647) (f3 : (-2147483648) ≤ n1) (f4 : n2 = 285) (f5 : n3 ≤ 2147483647) (f6 : (-2147483648) ≤ n3) (f7 : n4 = 285) (f8 : (hLe T0 H0 H1 ∧ hFr s_206.2.2.2.2 H0 H1 ∧ hWt T0 H1) ∧ (Ab_206_3 n4 n3 n2 n1 n0 H0 H1 ∧ preb_206 n4 n3 H0) ∧ some q0 = some (mub_206_3 n4 n3 n2 n1 n0 H0 H1)) (f9 : 0 ≤ n0) (f10 : n5 ≤ 2000) (f11 : 0 ≤ n5) (f12 : n5 = hV H1 (n2).toNat 2) (f13 : n6 = o32 (fun x y => x >>> (y &&& 31)) n1 n0) : 0 ≤ n5 ∧ n5 < 2000 := by
  have g4 := f8.2.1.1
  unfold Ab_206_3 at g4
  have g3 := f8.2.1.2
  unfold preb_206 at g3
  have e0 : n5 = hV H1 285 2 := (by rw [f4] at f12; exact f12 : n5 = hV H1 285 2)
  have e1 : (0 : Int) ≤ hV H1 285 2 ∧ hV H1 285 2 ≤ 2000 := f8.1.2.2 285 2 _ _ kW_285_2
  have k0 := g4.1
  have y0 := g4.2.1
  have y1 := g4.2.2.1
  have y2 := g4.2.2.2
  have p0 := g3
  clear g3
  clear g4
  clear f12
  subst e0
  try subst k0
  omega
def g_206_3_1 : vG := ([(8, [7, 3, 4], [], 0), (20, [6, 2], [1], 2), (90, [6], [], 0), (91, [6], [], 2000), (33, [4], [], 0), (5000, [0, 1, 2, 3, 4], [0, 1], 3), (0, [0], [], 285), (90, [1], [], -2147483648), (91, [1], [], 2147483647), (0, [2], [], 285), (90, [3], [], -2147483648), (91, [3], [], 2147483647), (90, [4], [], -2147483648), (91, [4], [], 2147483647)], (70, [6], [], 2000))
theorem c_206_3_1 {q0 : Nat} : vOkm T0 (eP e_206 L_206 A_206 mu_206 (some q0)) 2 g_206_3_1 := vOk_inI fun ρ η f0 f1 f2 f3 f4 f5 f6 f7 f8 f9 f10 f11 f12 f13 => q_206_2 (q0 := q0) (n0 := ρ 4) (n1 := ρ 3) (n2 := ρ 2) (n3 := ρ 1) (n4 := ρ 0) (n5 := ρ 6) (n6 := ρ 7) (H0 := η 0) (H1 := η 1) f13 f12 f11 f10 f9 f8 f7 f6 f5 f4 f3 f2 f1 f0
theorem q_206_3 {q0 : Nat} {n0 n1 n2 n3 n4 n5 n6 n7 n8 n9 n10 n11 n12 : Int} {H0 H1 H2 : gH} (f0 : n0 ≤ 2147483647) (f1 : (-2147483648) ≤ n0) (f2 : n1 ≤ 2147483647) (f3 : (-2147483648) ≤ n1) (f4 : n2 = 285) (f5 : n3 ≤ 2147483647) (f6 : (-2147483648) ≤ n3) (f7 : n4 = 285) (f8 : (hLe T0 H0 H1 ∧ hFr s_206.2.2.2.2 H0 H1 ∧ hWt T0 H1) ∧ (Ab_206_3 n4 n3 n2 n1 n0 H0 H1 ∧ preb_206 n4 n3 H0) ∧ some q0 = some (mub_206_3 n4 n3 n2 n1 n0 H0 H1)) (f9 : 0 ≤ n0) (f10 : n5 = 286) (f11 : n5 = hV H1 (n2).toNat 1) (f12 : n6 ≤ 2000) (f13 : 0 ≤ n6) (f14 : n6 = hV H1 (n2).toNat 2) (f15 : n7 = o32 (fun x y => x >>> (y &&& 31)) n1 n0) (f16 : n8 = o32 (fun x _ => x.toInt8.toInt32) n7 0) (f17 : n9 = o32 (fun x _ => x.toInt8.toInt32) n8 0) (f18 : hUpd H2 H1 n5 n6 n9) (f19 : n10 ≤ 2000) (f20 : 0 ≤ n10) (f21 : n10 = hV H2 (n2).toNat 2) (f22 : n11 = 1) (f23 : n12 = w32 (n10 + n11)) : 0 ≤ n12 := by
  have g4 := f8.2.1.1
  unfold Ab_206_3 at g4
  have g3 := f8.2.1.2
  unfold preb_206 at g3
  have e0 : n6 = hV H1 285 2 := (by rw [f4] at f14; exact f14 : n6 = hV H1 285 2)
  have e2 : n10 = hV H1 285 2 := (by rw [f4] at f21; exact f21 : n10 = hV H2 285 2).trans ((uPlace f18 285 2 (iS (show n5 = ((286 : Nat) : Int) from f10) rfl)))
  have e3 : (0 : Int) ≤ hV H1 285 2 ∧ hV H1 285 2 ≤ 2000 := f8.1.2.2 285 2 _ _ kW_285_2
  have k0 := g4.1
  have y0 := g4.2.1
  have y1 := g4.2.2.1
  have y2 := g4.2.2.2
  have p0 := g3
  clear g3
  clear g4
  clear f11 f14 f21
  subst e0
  subst e2
  first
  | (have ix0 : n12 = hV H1 285 2 + 1 := Eq.trans f23 (w32_iv (Iad (Iat f13 f12) (IC 1)) (by decide)); subst ix0; clear f23)
  | (have ix0 : n12 = hV H1 285 2 + 1 := Eq.trans f23 (w32_id (by omega) (by omega)); subst ix0; clear f23)
  | (unfold w32 at f23; have ix0 : n12 = hV H1 285 2 + 1 := (by omega); subst ix0)
  | skip
  try unfold w32 at f23
  try subst k0
  omega
def g_206_3_2 : vG := ([(1, [12, 10, 11], [], 0), (0, [11], [], 1), (20, [10, 2], [2], 2), (90, [10], [], 0), (91, [10], [], 2000), (80, [5, 6, 9], [2, 1], 0), (15, [9, 8], [], 0), (15, [8, 7], [], 0), (8, [7, 3, 4], [], 0), (20, [6, 2], [1], 2), (90, [6], [], 0), (91, [6], [], 2000), (20, [5, 2], [1], 1), (0, [5], [], 286), (33, [4], [], 0), (5000, [0, 1, 2, 3, 4], [0, 1], 3), (0, [0], [], 285), (90, [1], [], -2147483648), (91, [1], [], 2147483647), (0, [2], [], 285), (90, [3], [], -2147483648), (91, [3], [], 2147483647), (90, [4], [], -2147483648), (91, [4], [], 2147483647)], (90, [12], [], 0))
theorem c_206_3_2 {q0 : Nat} : vOkm T0 (eP e_206 L_206 A_206 mu_206 (some q0)) 2 g_206_3_2 := vOk_inI fun ρ η f0 f1 f2 f3 f4 f5 f6 f7 f8 f9 f10 f11 f12 f13 f14 f15 f16 f17 f18 f19 f20 f21 f22 f23 => q_206_3 (q0 := q0) (n0 := ρ 4) (n1 := ρ 3) (n2 := ρ 2) (n3 := ρ 1) (n4 := ρ 0) (n5 := ρ 5) (n6 := ρ 6) (n7 := ρ 7) (n8 := ρ 8) (n9 := ρ 9) (n10 := ρ 10) (n11 := ρ 11) (n12 := ρ 12) (H0 := η 0) (H1 := η 1) (H2 := η 2) f23 f22 f21 f20 f19 f18 f17 f16 f15 f14 f13 f12 f11 f10 f9 f8 f7 f6 f5 f4 f3 f2 f1 f0
theorem q_206_4 {q0 : Nat} {n0 n1 n2 n3 n4 n5 n6 n7 n8 n9 n10 n11 n12 : Int} {H0 H1 H2 : gH} (f0 : n0 ≤ 2147483647) (f1 : (-2147483648) ≤ n0) (f2 : n1 ≤ 2147483647) (f3 : (-2147483648) ≤ n1) (f4 : n2 = 285) (f5 : n3 ≤ 2147483647) (f6 : (-2147483648) ≤ n3) (f7 : n4 = 285) (f8 : (hLe T0 H0 H1 ∧ hFr s_206.2.2.2.2 H0 H1 ∧ hWt T0 H1) ∧ (Ab_206_3 n4 n3 n2 n1 n0 H0 H1 ∧ preb_206 n4 n3 H0) ∧ some q0 = some (mub_206_3 n4 n3 n2 n1 n0 H0 H1)) (f9 : 0 ≤ n0) (f10 : n5 = 286) (f11 : n5 = hV H1 (n2).toNat 1) (f12 : n6 ≤ 2000) (f13 : 0 ≤ n6) (f14 : n6 = hV H1 (n2).toNat 2) (f15 : n7 = o32 (fun x y => x >>> (y &&& 31)) n1 n0) (f16 : n8 = o32 (fun x _ => x.toInt8.toInt32) n7 0) (f17 : n9 = o32 (fun x _ => x.toInt8.toInt32) n8 0) (f18 : hUpd H2 H1 n5 n6 n9) (f19 : n10 ≤ 2000) (f20 : 0 ≤ n10) (f21 : n10 = hV H2 (n2).toNat 2) (f22 : n11 = 1) (f23 : n12 = w32 (n10 + n11)) : n12 ≤ 2000 := by
  have g4 := f8.2.1.1
  unfold Ab_206_3 at g4
  have g3 := f8.2.1.2
  unfold preb_206 at g3
  have e0 : n6 = hV H1 285 2 := (by rw [f4] at f14; exact f14 : n6 = hV H1 285 2)
  have e2 : n10 = hV H1 285 2 := (by rw [f4] at f21; exact f21 : n10 = hV H2 285 2).trans ((uPlace f18 285 2 (iS (show n5 = ((286 : Nat) : Int) from f10) rfl)))
  have e3 : (0 : Int) ≤ hV H1 285 2 ∧ hV H1 285 2 ≤ 2000 := f8.1.2.2 285 2 _ _ kW_285_2
  have k0 := g4.1
  have y0 := g4.2.1
  have y1 := g4.2.2.1
  have y2 := g4.2.2.2
  have p0 := g3
  clear g3
  clear g4
  clear f11 f14 f21
  subst e0
  subst e2
  first
  | (have ix0 : n12 = hV H1 285 2 + 1 := Eq.trans f23 (w32_iv (Iad (Iat f13 f12) (IC 1)) (by decide)); subst ix0; clear f23)
  | (have ix0 : n12 = hV H1 285 2 + 1 := Eq.trans f23 (w32_id (by omega) (by omega)); subst ix0; clear f23)
  | (unfold w32 at f23; have ix0 : n12 = hV H1 285 2 + 1 := (by omega); subst ix0)
  | skip
  try unfold w32 at f23
  try subst k0
  omega
def g_206_3_3 : vG := ([(1, [12, 10, 11], [], 0), (0, [11], [], 1), (20, [10, 2], [2], 2), (90, [10], [], 0), (91, [10], [], 2000), (80, [5, 6, 9], [2, 1], 0), (15, [9, 8], [], 0), (15, [8, 7], [], 0), (8, [7, 3, 4], [], 0), (20, [6, 2], [1], 2), (90, [6], [], 0), (91, [6], [], 2000), (20, [5, 2], [1], 1), (0, [5], [], 286), (33, [4], [], 0), (5000, [0, 1, 2, 3, 4], [0, 1], 3), (0, [0], [], 285), (90, [1], [], -2147483648), (91, [1], [], 2147483647), (0, [2], [], 285), (90, [3], [], -2147483648), (91, [3], [], 2147483647), (90, [4], [], -2147483648), (91, [4], [], 2147483647)], (91, [12], [], 2000))
theorem c_206_3_3 {q0 : Nat} : vOkm T0 (eP e_206 L_206 A_206 mu_206 (some q0)) 2 g_206_3_3 := vOk_inI fun ρ η f0 f1 f2 f3 f4 f5 f6 f7 f8 f9 f10 f11 f12 f13 f14 f15 f16 f17 f18 f19 f20 f21 f22 f23 => q_206_4 (q0 := q0) (n0 := ρ 4) (n1 := ρ 3) (n2 := ρ 2) (n3 := ρ 1) (n4 := ρ 0) (n5 := ρ 5) (n6 := ρ 6) (n7 := ρ 7) (n8 := ρ 8) (n9 := ρ 9) (n10 := ρ 10) (n11 := ρ 11) (n12 := ρ 12) (H0 := η 0) (H1 := η 1) (H2 := η 2) f23 f22 f21 f20 f19 f18 f17 f16 f15 f14 f13 f12 f11 f10 f9 f8 f7 f6 f5 f4 f3 f2 f1 f0
theorem q_206_5 {q0 : Nat} {n0 n1 n2 n3 n4 n5 n6 n7 n8 n9 n10 n11 n12 n13 n14 : Int} {H0 H1 H2 H3 : gH} (f0 : n0 ≤ 2147483647) (f1 : (-2147483648) ≤ n0) (f2 : n1 ≤ 2147483647) (f3 : (-2147483648) ≤ n1) (f4 : n2 = 285) (f5 : n3 ≤ 2147483647) (f6 : (-2147483648) ≤ n3) (f7 : n4 = 285) (f8 : (hLe T0 H0 H1 ∧ hFr s_206.2.2.2.2 H0 H1 ∧ hWt T0 H1) ∧ (Ab_206_3 n4 n3 n2 n1 n0 H0 H1 ∧ preb_206 n4 n3 H0) ∧ some q0 = some (mub_206_3 n4 n3 n2 n1 n0 H0 H1)) (f9 : 0 ≤ n0) (f10 : n5 = 286) (f11 : n5 = hV H1 (n2).toNat 1) (f12 : n6 ≤ 2000) (f13 : 0 ≤ n6) (f14 : n6 = hV H1 (n2).toNat 2) (f15 : n7 = o32 (fun x y => x >>> (y &&& 31)) n1 n0) (f16 : n8 = o32 (fun x _ => x.toInt8.toInt32) n7 0) (f17 : n9 = o32 (fun x _ => x.toInt8.toInt32) n8 0) (f18 : hUpd H2 H1 n5 n6 n9) (f19 : n10 ≤ 2000) (f20 : 0 ≤ n10) (f21 : n10 = hV H2 (n2).toNat 2) (f22 : n11 = 1) (f23 : n12 = w32 (n10 + n11)) (f24 : n13 = 2) (f25 : hUpd H3 H2 n2 n13 n12) (f26 : n14 = w32 (n0 + (-8))) : Ab_206_3 n4 n3 n2 n1 n14 H0 H3 ∧ ∀ q, some q0 = some q → mub_206_3 n4 n3 n2 n1 n14 H0 H3 < q := by
  have g4 := f8.2.1.1
  unfold Ab_206_3 at g4
  have g3 := f8.2.1.2
  unfold preb_206 at g3
  have g5 := Option.some.inj f8.2.2
  unfold mub_206_3 at g5
  unfold Ab_206_3
  unfold mub_206_3
  have e0 : n6 = hV H1 285 2 := (by rw [f4] at f14; exact f14 : n6 = hV H1 285 2)
  have e2 : n10 = hV H1 285 2 := (by rw [f4] at f21; exact f21 : n10 = hV H2 285 2).trans ((uPlace f18 285 2 (iS (show n5 = ((286 : Nat) : Int) from f10) rfl)))
  have e4 : hV H3 285 2 = n12 := (uSame f25 285 2 f4.symm f24.symm)
  have e5 : (0 : Int) ≤ hV H1 285 2 ∧ hV H1 285 2 ≤ 2000 := f8.1.2.2 285 2 _ _ kW_285_2
  try simp only [e4]
  have k0 := g4.1
  have y0 := g4.2.1
  have y1 := g4.2.2.1
  have y2 := g4.2.2.2
  have p0 := g3
  clear g3
  clear g4
  clear f11 f14 f21
  subst e0
  subst e2
  first
  | (have ix0 : n12 = hV H1 285 2 + 1 := Eq.trans f23 (w32_iv (Iad (Iat f13 f12) (IC 1)) (by decide)); subst ix0; clear f23)
  | (have ix0 : n12 = hV H1 285 2 + 1 := Eq.trans f23 (w32_id (by omega) (by omega)); subst ix0; clear f23)
  | (unfold w32 at f23; have ix0 : n12 = hV H1 285 2 + 1 := (by omega); subst ix0)
  | skip
  first
  | (have ix1 : n14 = n0 + -8 := Eq.trans f26 (w32_id (by omega) (by omega)); subst ix1; clear f26)
  | (unfold w32 at f26; have ix1 : n14 = n0 + -8 := (by omega); subst ix1)
  | skip
  try unfold w32 at f23
  try unfold w32 at f26
  try subst k0
  refine ⟨?_, fun q hq => ?_⟩
  · refine ⟨?_, ?_, ?_, ?_⟩ <;> first | assumption | omega | trivial
  · have g6 := Option.some.inj hq
    subst g6
    omega
def g_206_3_4 : vG := ([(10, [14, 4], [], -8), (80, [2, 13, 12], [3, 2], 0), (0, [13], [], 2), (1, [12, 10, 11], [], 0), (0, [11], [], 1), (20, [10, 2], [2], 2), (90, [10], [], 0), (91, [10], [], 2000), (80, [5, 6, 9], [2, 1], 0), (15, [9, 8], [], 0), (15, [8, 7], [], 0), (8, [7, 3, 4], [], 0), (20, [6, 2], [1], 2), (90, [6], [], 0), (91, [6], [], 2000), (20, [5, 2], [1], 1), (0, [5], [], 286), (33, [4], [], 0), (5000, [0, 1, 2, 3, 4], [0, 1], 3), (0, [0], [], 285), (90, [1], [], -2147483648), (91, [1], [], 2147483647), (0, [2], [], 285), (90, [3], [], -2147483648), (91, [3], [], 2147483647), (90, [4], [], -2147483648), (91, [4], [], 2147483647)], (4000, [2, 3, 14], [3], 3))
theorem c_206_3_4 {q0 : Nat} : vOkm T0 (eP e_206 L_206 A_206 mu_206 (some q0)) 2 g_206_3_4 := vOk_inI fun ρ η f0 f1 f2 f3 f4 f5 f6 f7 f8 f9 f10 f11 f12 f13 f14 f15 f16 f17 f18 f19 f20 f21 f22 f23 f24 f25 f26 => q_206_5 (q0 := q0) (n0 := ρ 4) (n1 := ρ 3) (n2 := ρ 2) (n3 := ρ 1) (n4 := ρ 0) (n5 := ρ 5) (n6 := ρ 6) (n7 := ρ 7) (n8 := ρ 8) (n9 := ρ 9) (n10 := ρ 10) (n11 := ρ 11) (n12 := ρ 12) (n13 := ρ 13) (n14 := ρ 14) (H0 := η 0) (H1 := η 1) (H2 := η 2) (H3 := η 3) f26 f25 f24 f23 f22 f21 f20 f19 f18 f17 f16 f15 f14 f13 f12 f11 f10 f9 f8 f7 f6 f5 f4 f3 f2 f1 f0
def p_206_3 : List vG := [g_206_3_0,
  g_206_3_1,
  g_206_3_2,
  g_206_3_3,
  g_206_3_4]
theorem r_206_3 : vCovO false (eRc e_206 L_206 cs_206 2000 (3, [(0, (3, 12, 285, 0)), (1, (0, -2147483648, 2147483647, 0)), (2, (0, -2147483648, 2147483647, 0))])) p_206_3 = true := by decide +kernel
theorem m_206 (d : Nat) : eC e_206 (d + 1) := eC_ok (e := e_206) (L := L_206) (cs := cs_206) (n := 2000) (d := d + 0) (A := A_206) (μ := mu_206) (tp := false) (p0 := p_206_s) rfl trivial rfl (.inl rfl) (by decide +kernel) (fun z => nomatch z) r_206_s (allC c_206_s_0 allN) (allC (.inl ⟨p_206_3, r_206_3, fun q0 => (allC c_206_3_0 (allC c_206_3_1 (allC c_206_3_2 (allC c_206_3_3 (allC c_206_3_4 allN)))))⟩) allN)
/- MixStageModel.feed (IIIII)I -/
noncomputable def s_205 : vM := ([(3, 12, 285, 0), (0, -2147483648, 2147483647, 0), (0, -2147483648, 2147483647, 0), (0, -2147483648, 2147483647, 0), (0, -2147483648, 2147483647, 0), (0, -2147483648, 2147483647, 0)], (0, -2147483648, 2147483647, 0), 0, 0, [(12, 2), (118, 0)])
noncomputable def e_205 : vE := (205, s_205, pre0, post0)
noncomputable def L_205 : List vE := [e_206]
def cs_205 : List vC := []
def A_205 : Int → List Int → gH → gH → Prop := fun c xs h0 h => True
def mu_205 : Int → List Int → gH → gH → Nat := fun c xs h0 h => 0
theorem q_205_0 {n0 n1 n2 n3 n4 n5 n6 n7 n8 n9 : Int} {H0 : gH} (f0 : n0 ≤ 2147483647) (f1 : (-2147483648) ≤ n0) (f2 : n1 ≤ 2147483647) (f3 : (-2147483648) ≤ n1) (f4 : n2 ≤ 2147483647) (f5 : (-2147483648) ≤ n2) (f6 : n3 ≤ 2147483647) (f7 : (-2147483648) ≤ n3) (f8 : n4 ≤ 2147483647) (f9 : (-2147483648) ≤ n4) (f10 : n5 = 285) (f11 : hWt T0 H0 ∧ True) (f12 : n6 ≤ 2000) (f13 : 0 ≤ n6) (f14 : n6 = hV H0 (n5).toNat 2) (f15 : n7 = 20) (f16 : n8 = w32 (n6 + n7)) (f17 : n9 = 2000) (f18 : n8 ≤ n9) : preb_206 n5 n4 H0 := by
  unfold preb_206
  have e0 : n6 = hV H0 285 2 := (by rw [f10] at f14; exact f14 : n6 = hV H0 285 2)
  have e1 : (0 : Int) ≤ hV H0 285 2 ∧ hV H0 285 2 ≤ 2000 := f11.1 285 2 _ _ kW_285_2
  clear f14
  subst e0
  unfold w32 at f16
  first | assumption | omega | trivial
def g_205_s_0 : vG := ([(45, [8, 9], [], 0), (0, [9], [], 2000), (1, [8, 6, 7], [], 0), (0, [7], [], 20), (20, [6, 0], [0], 2), (90, [6], [], 0), (91, [6], [], 2000), (6000, [0, 1, 2, 3, 4, 5], [0], 0), (0, [0], [], 285), (90, [1], [], -2147483648), (91, [1], [], 2147483647), (90, [2], [], -2147483648), (91, [2], [], 2147483647), (90, [3], [], -2147483648), (91, [3], [], 2147483647), (90, [4], [], -2147483648), (91, [4], [], 2147483647), (90, [5], [], -2147483648), (91, [5], [], 2147483647)], (2206, [0, 1], [0], 0))
theorem c_205_s_0 : vOkm T0 (eP e_205 L_205 A_205 mu_205 none) 6 g_205_s_0 := vOk_inI fun ρ η f0 f1 f2 f3 f4 f5 f6 f7 f8 f9 f10 f11 f12 f13 f14 f15 f16 f17 f18 => q_205_0 (n0 := ρ 5) (n1 := ρ 4) (n2 := ρ 3) (n3 := ρ 2) (n4 := ρ 1) (n5 := ρ 0) (n6 := ρ 6) (n7 := ρ 7) (n8 := ρ 8) (n9 := ρ 9) (H0 := η 0) f18 f17 f16 f15 f14 f13 f12 f11 f10 f9 f8 f7 f6 f5 f4 f3 f2 f1 f0
theorem q_205_1 {n0 n1 n2 n3 n4 n5 n6 n7 n8 n9 : Int} {H0 H1 : gH} (f0 : n0 ≤ 2147483647) (f1 : (-2147483648) ≤ n0) (f2 : n1 ≤ 2147483647) (f3 : (-2147483648) ≤ n1) (f4 : n2 ≤ 2147483647) (f5 : (-2147483648) ≤ n2) (f6 : n3 ≤ 2147483647) (f7 : (-2147483648) ≤ n3) (f8 : n4 ≤ 2147483647) (f9 : (-2147483648) ≤ n4) (f10 : n5 = 285) (f11 : hWt T0 H0 ∧ True) (f12 : n6 ≤ 2000) (f13 : 0 ≤ n6) (f14 : n6 = hV H0 (n5).toNat 2) (f15 : n7 = 20) (f16 : n8 = w32 (n6 + n7)) (f17 : n9 = 2000) (f18 : n8 ≤ n9) (f19 : (hLe T0 H0 H1 ∧ hFr s_206.2.2.2.2 H0 H1 ∧ ((0 : Int) = 0 → H1.length = H0.length) ∧ hWt T0 H1) ∧ postb_206 n5 n4 H0 H1) : preb_206 n5 n3 H1 := by
  unfold postb_206 at f19
  unfold preb_206
  have e0 : n6 = hV H0 285 2 := (by rw [f10] at f14; exact f14 : n6 = hV H0 285 2)
  have e1 : (0 : Int) ≤ hV H0 285 2 ∧ hV H0 285 2 ≤ 2000 := f11.1 285 2 _ _ kW_285_2
  have e2 : (0 : Int) ≤ hV H1 285 2 ∧ hV H1 285 2 ≤ 2000 := f19.1.2.2.2 285 2 _ _ kW_285_2
  have r0_0 := f19.2
  clear f14
  subst e0
  unfold w32 at f16
  first | assumption | omega | trivial
def g_205_s_1 : vG := ([(1206, [0, 1], [0, 1], 0), (45, [8, 9], [], 0), (0, [9], [], 2000), (1, [8, 6, 7], [], 0), (0, [7], [], 20), (20, [6, 0], [0], 2), (90, [6], [], 0), (91, [6], [], 2000), (6000, [0, 1, 2, 3, 4, 5], [0], 0), (0, [0], [], 285), (90, [1], [], -2147483648), (91, [1], [], 2147483647), (90, [2], [], -2147483648), (91, [2], [], 2147483647), (90, [3], [], -2147483648), (91, [3], [], 2147483647), (90, [4], [], -2147483648), (91, [4], [], 2147483647), (90, [5], [], -2147483648), (91, [5], [], 2147483647)], (2206, [0, 2], [1], 0))
theorem c_205_s_1 : vOkm T0 (eP e_205 L_205 A_205 mu_205 none) 6 g_205_s_1 := vOk_inI fun ρ η f0 f1 f2 f3 f4 f5 f6 f7 f8 f9 f10 f11 f12 f13 f14 f15 f16 f17 f18 f19 => q_205_1 (n0 := ρ 5) (n1 := ρ 4) (n2 := ρ 3) (n3 := ρ 2) (n4 := ρ 1) (n5 := ρ 0) (n6 := ρ 6) (n7 := ρ 7) (n8 := ρ 8) (n9 := ρ 9) (H0 := η 0) (H1 := η 1) f19 f18 f17 f16 f15 f14 f13 f12 f11 f10 f9 f8 f7 f6 f5 f4 f3 f2 f1 f0
theorem q_205_2 {n0 n1 n2 n3 n4 n5 n6 n7 n8 n9 : Int} {H0 H1 H2 : gH} (f0 : n0 ≤ 2147483647) (f1 : (-2147483648) ≤ n0) (f2 : n1 ≤ 2147483647) (f3 : (-2147483648) ≤ n1) (f4 : n2 ≤ 2147483647) (f5 : (-2147483648) ≤ n2) (f6 : n3 ≤ 2147483647) (f7 : (-2147483648) ≤ n3) (f8 : n4 ≤ 2147483647) (f9 : (-2147483648) ≤ n4) (f10 : n5 = 285) (f11 : hWt T0 H0 ∧ True) (f12 : n6 ≤ 2000) (f13 : 0 ≤ n6) (f14 : n6 = hV H0 (n5).toNat 2) (f15 : n7 = 20) (f16 : n8 = w32 (n6 + n7)) (f17 : n9 = 2000) (f18 : n8 ≤ n9) (f19 : (hLe T0 H0 H1 ∧ hFr s_206.2.2.2.2 H0 H1 ∧ ((0 : Int) = 0 → H1.length = H0.length) ∧ hWt T0 H1) ∧ postb_206 n5 n4 H0 H1) (f20 : (hLe T0 H1 H2 ∧ hFr s_206.2.2.2.2 H1 H2 ∧ ((0 : Int) = 0 → H2.length = H1.length) ∧ hWt T0 H2) ∧ postb_206 n5 n3 H1 H2) : preb_206 n5 n2 H2 := by
  unfold postb_206 at f19
  unfold postb_206 at f20
  unfold preb_206
  have e0 : n6 = hV H0 285 2 := (by rw [f10] at f14; exact f14 : n6 = hV H0 285 2)
  have e1 : (0 : Int) ≤ hV H0 285 2 ∧ hV H0 285 2 ≤ 2000 := f11.1 285 2 _ _ kW_285_2
  have e2 : (0 : Int) ≤ hV H1 285 2 ∧ hV H1 285 2 ≤ 2000 := f19.1.2.2.2 285 2 _ _ kW_285_2
  have e3 : (0 : Int) ≤ hV H2 285 2 ∧ hV H2 285 2 ≤ 2000 := f20.1.2.2.2 285 2 _ _ kW_285_2
  have r0_0 := f19.2
  have r1_0 := f20.2
  clear f14
  subst e0
  unfold w32 at f16
  first | assumption | omega | trivial
def g_205_s_2 : vG := ([(1206, [0, 2], [1, 2], 0), (1206, [0, 1], [0, 1], 0), (45, [8, 9], [], 0), (0, [9], [], 2000), (1, [8, 6, 7], [], 0), (0, [7], [], 20), (20, [6, 0], [0], 2), (90, [6], [], 0), (91, [6], [], 2000), (6000, [0, 1, 2, 3, 4, 5], [0], 0), (0, [0], [], 285), (90, [1], [], -2147483648), (91, [1], [], 2147483647), (90, [2], [], -2147483648), (91, [2], [], 2147483647), (90, [3], [], -2147483648), (91, [3], [], 2147483647), (90, [4], [], -2147483648), (91, [4], [], 2147483647), (90, [5], [], -2147483648), (91, [5], [], 2147483647)], (2206, [0, 3], [2], 0))
theorem c_205_s_2 : vOkm T0 (eP e_205 L_205 A_205 mu_205 none) 6 g_205_s_2 := vOk_inI fun ρ η f0 f1 f2 f3 f4 f5 f6 f7 f8 f9 f10 f11 f12 f13 f14 f15 f16 f17 f18 f19 f20 => q_205_2 (n0 := ρ 5) (n1 := ρ 4) (n2 := ρ 3) (n3 := ρ 2) (n4 := ρ 1) (n5 := ρ 0) (n6 := ρ 6) (n7 := ρ 7) (n8 := ρ 8) (n9 := ρ 9) (H0 := η 0) (H1 := η 1) (H2 := η 2) f20 f19 f18 f17 f16 f15 f14 f13 f12 f11 f10 f9 f8 f7 f6 f5 f4 f3 f2 f1 f0
theorem q_205_3 {n0 n1 n2 n3 n4 n5 n6 n7 n8 n9 : Int} {H0 H1 H2 H3 : gH} (f0 : n0 ≤ 2147483647) (f1 : (-2147483648) ≤ n0) (f2 : n1 ≤ 2147483647) (f3 : (-2147483648) ≤ n1) (f4 : n2 ≤ 2147483647) (f5 : (-2147483648) ≤ n2) (f6 : n3 ≤ 2147483647) (f7 : (-2147483648) ≤ n3) (f8 : n4 ≤ 2147483647) (f9 : (-2147483648) ≤ n4) (f10 : n5 = 285) (f11 : hWt T0 H0 ∧ True) (f12 : n6 ≤ 2000) (f13 : 0 ≤ n6) (f14 : n6 = hV H0 (n5).toNat 2) (f15 : n7 = 20) (f16 : n8 = w32 (n6 + n7)) (f17 : n9 = 2000) (f18 : n8 ≤ n9) (f19 : (hLe T0 H0 H1 ∧ hFr s_206.2.2.2.2 H0 H1 ∧ ((0 : Int) = 0 → H1.length = H0.length) ∧ hWt T0 H1) ∧ postb_206 n5 n4 H0 H1) (f20 : (hLe T0 H1 H2 ∧ hFr s_206.2.2.2.2 H1 H2 ∧ ((0 : Int) = 0 → H2.length = H1.length) ∧ hWt T0 H2) ∧ postb_206 n5 n3 H1 H2) (f21 : (hLe T0 H2 H3 ∧ hFr s_206.2.2.2.2 H2 H3 ∧ ((0 : Int) = 0 → H3.length = H2.length) ∧ hWt T0 H3) ∧ postb_206 n5 n2 H2 H3) : preb_206 n5 n1 H3 := by
  unfold postb_206 at f19
  unfold postb_206 at f20
  unfold postb_206 at f21
  unfold preb_206
  have e0 : n6 = hV H0 285 2 := (by rw [f10] at f14; exact f14 : n6 = hV H0 285 2)
  have e1 : (0 : Int) ≤ hV H0 285 2 ∧ hV H0 285 2 ≤ 2000 := f11.1 285 2 _ _ kW_285_2
  have e2 : (0 : Int) ≤ hV H1 285 2 ∧ hV H1 285 2 ≤ 2000 := f19.1.2.2.2 285 2 _ _ kW_285_2
  have e3 : (0 : Int) ≤ hV H2 285 2 ∧ hV H2 285 2 ≤ 2000 := f20.1.2.2.2 285 2 _ _ kW_285_2
  have e4 : (0 : Int) ≤ hV H3 285 2 ∧ hV H3 285 2 ≤ 2000 := f21.1.2.2.2 285 2 _ _ kW_285_2
  have r0_0 := f19.2
  have r1_0 := f20.2
  have r2_0 := f21.2
  clear f14
  subst e0
  unfold w32 at f16
  first | assumption | omega | trivial
def g_205_s_3 : vG := ([(1206, [0, 3], [2, 3], 0), (1206, [0, 2], [1, 2], 0), (1206, [0, 1], [0, 1], 0), (45, [8, 9], [], 0), (0, [9], [], 2000), (1, [8, 6, 7], [], 0), (0, [7], [], 20), (20, [6, 0], [0], 2), (90, [6], [], 0), (91, [6], [], 2000), (6000, [0, 1, 2, 3, 4, 5], [0], 0), (0, [0], [], 285), (90, [1], [], -2147483648), (91, [1], [], 2147483647), (90, [2], [], -2147483648), (91, [2], [], 2147483647), (90, [3], [], -2147483648), (91, [3], [], 2147483647), (90, [4], [], -2147483648), (91, [4], [], 2147483647), (90, [5], [], -2147483648), (91, [5], [], 2147483647)], (2206, [0, 4], [3], 0))
theorem c_205_s_3 : vOkm T0 (eP e_205 L_205 A_205 mu_205 none) 6 g_205_s_3 := vOk_inI fun ρ η f0 f1 f2 f3 f4 f5 f6 f7 f8 f9 f10 f11 f12 f13 f14 f15 f16 f17 f18 f19 f20 f21 => q_205_3 (n0 := ρ 5) (n1 := ρ 4) (n2 := ρ 3) (n3 := ρ 2) (n4 := ρ 1) (n5 := ρ 0) (n6 := ρ 6) (n7 := ρ 7) (n8 := ρ 8) (n9 := ρ 9) (H0 := η 0) (H1 := η 1) (H2 := η 2) (H3 := η 3) f21 f20 f19 f18 f17 f16 f15 f14 f13 f12 f11 f10 f9 f8 f7 f6 f5 f4 f3 f2 f1 f0
theorem q_205_4 {n0 n1 n2 n3 n4 n5 n6 n7 n8 n9 : Int} {H0 H1 H2 H3 H4 : gH} (f0 : n0 ≤ 2147483647) (f1 : (-2147483648) ≤ n0) (f2 : n1 ≤ 2147483647) (f3 : (-2147483648) ≤ n1) (f4 : n2 ≤ 2147483647) (f5 : (-2147483648) ≤ n2) (f6 : n3 ≤ 2147483647) (f7 : (-2147483648) ≤ n3) (f8 : n4 ≤ 2147483647) (f9 : (-2147483648) ≤ n4) (f10 : n5 = 285) (f11 : hWt T0 H0 ∧ True) (f12 : n6 ≤ 2000) (f13 : 0 ≤ n6) (f14 : n6 = hV H0 (n5).toNat 2) (f15 : n7 = 20) (f16 : n8 = w32 (n6 + n7)) (f17 : n9 = 2000) (f18 : n8 ≤ n9) (f19 : (hLe T0 H0 H1 ∧ hFr s_206.2.2.2.2 H0 H1 ∧ ((0 : Int) = 0 → H1.length = H0.length) ∧ hWt T0 H1) ∧ postb_206 n5 n4 H0 H1) (f20 : (hLe T0 H1 H2 ∧ hFr s_206.2.2.2.2 H1 H2 ∧ ((0 : Int) = 0 → H2.length = H1.length) ∧ hWt T0 H2) ∧ postb_206 n5 n3 H1 H2) (f21 : (hLe T0 H2 H3 ∧ hFr s_206.2.2.2.2 H2 H3 ∧ ((0 : Int) = 0 → H3.length = H2.length) ∧ hWt T0 H3) ∧ postb_206 n5 n2 H2 H3) (f22 : (hLe T0 H3 H4 ∧ hFr s_206.2.2.2.2 H3 H4 ∧ ((0 : Int) = 0 → H4.length = H3.length) ∧ hWt T0 H4) ∧ postb_206 n5 n1 H3 H4) : preb_206 n5 n0 H4 := by
  unfold postb_206 at f19
  unfold postb_206 at f20
  unfold postb_206 at f21
  unfold postb_206 at f22
  unfold preb_206
  have e0 : n6 = hV H0 285 2 := (by rw [f10] at f14; exact f14 : n6 = hV H0 285 2)
  have e1 : (0 : Int) ≤ hV H0 285 2 ∧ hV H0 285 2 ≤ 2000 := f11.1 285 2 _ _ kW_285_2
  have e2 : (0 : Int) ≤ hV H1 285 2 ∧ hV H1 285 2 ≤ 2000 := f19.1.2.2.2 285 2 _ _ kW_285_2
  have e3 : (0 : Int) ≤ hV H2 285 2 ∧ hV H2 285 2 ≤ 2000 := f20.1.2.2.2 285 2 _ _ kW_285_2
  have e4 : (0 : Int) ≤ hV H3 285 2 ∧ hV H3 285 2 ≤ 2000 := f21.1.2.2.2 285 2 _ _ kW_285_2
  have e5 : (0 : Int) ≤ hV H4 285 2 ∧ hV H4 285 2 ≤ 2000 := f22.1.2.2.2 285 2 _ _ kW_285_2
  have r0_0 := f19.2
  have r1_0 := f20.2
  have r2_0 := f21.2
  have r3_0 := f22.2
  clear f14
  subst e0
  unfold w32 at f16
  first | assumption | omega | trivial
def g_205_s_4 : vG := ([(1206, [0, 4], [3, 4], 0), (1206, [0, 3], [2, 3], 0), (1206, [0, 2], [1, 2], 0), (1206, [0, 1], [0, 1], 0), (45, [8, 9], [], 0), (0, [9], [], 2000), (1, [8, 6, 7], [], 0), (0, [7], [], 20), (20, [6, 0], [0], 2), (90, [6], [], 0), (91, [6], [], 2000), (6000, [0, 1, 2, 3, 4, 5], [0], 0), (0, [0], [], 285), (90, [1], [], -2147483648), (91, [1], [], 2147483647), (90, [2], [], -2147483648), (91, [2], [], 2147483647), (90, [3], [], -2147483648), (91, [3], [], 2147483647), (90, [4], [], -2147483648), (91, [4], [], 2147483647), (90, [5], [], -2147483648), (91, [5], [], 2147483647)], (2206, [0, 5], [4], 0))
theorem c_205_s_4 : vOkm T0 (eP e_205 L_205 A_205 mu_205 none) 6 g_205_s_4 := vOk_inI fun ρ η f0 f1 f2 f3 f4 f5 f6 f7 f8 f9 f10 f11 f12 f13 f14 f15 f16 f17 f18 f19 f20 f21 f22 => q_205_4 (n0 := ρ 5) (n1 := ρ 4) (n2 := ρ 3) (n3 := ρ 2) (n4 := ρ 1) (n5 := ρ 0) (n6 := ρ 6) (n7 := ρ 7) (n8 := ρ 8) (n9 := ρ 9) (H0 := η 0) (H1 := η 1) (H2 := η 2) (H3 := η 3) (H4 := η 4) f22 f21 f20 f19 f18 f17 f16 f15 f14 f13 f12 f11 f10 f9 f8 f7 f6 f5 f4 f3 f2 f1 f0
def p_205_s : List vG := [g_205_s_0,
  g_205_s_1,
  g_205_s_2,
  g_205_s_3,
  g_205_s_4]
theorem r_205_s : vCovO true (eR0 e_205 L_205 cs_205 2000) p_205_s = true := by decide +kernel
theorem m_205 (d : Nat) : eC e_205 (d + 2) := eC_ok (e := e_205) (L := L_205) (cs := cs_205) (n := 2000) (d := d + 1) (A := A_205) (μ := mu_205) (tp := true) (p0 := p_205_s) rfl ⟨m_206 d, trivial⟩ rfl (.inr pre0_ok) (by decide +kernel) (fun _ => post0_ok) r_205_s (allC c_205_s_0 (allC c_205_s_1 (allC c_205_s_2 (allC c_205_s_3 (allC c_205_s_4 allN))))) allN
/- MixStageModel.back (I)I -/
noncomputable def s_207 : vM := ([(3, 12, 285, 0), (0, -2147483648, 2147483647, 0)], (0, -2147483648, 2147483647, 0), 0, 0, [(12, 2)])
noncomputable def e_207 : vE := (207, s_207, pre0, post0)
noncomputable def L_207 : List vE := []
def cs_207 : List vC := []
def A_207 : Int → List Int → gH → gH → Prop := fun c xs h0 h => True
def mu_207 : Int → List Int → gH → gH → Nat := fun c xs h0 h => 0
theorem q_207_0 {n0 n1 n2 n3 n4 : Int} {H0 : gH} (f0 : n0 ≤ 2147483647) (f1 : (-2147483648) ≤ n0) (f2 : n1 = 285) (f3 : hWt T0 H0 ∧ True) (f4 : 0 ≤ n0) (f5 : n2 ≤ 2000) (f6 : 0 ≤ n2) (f7 : n2 = hV H0 (n1).toNat 2) (f8 : n0 ≤ n2) (f9 : n3 ≤ 2000) (f10 : 0 ≤ n3) (f11 : n3 = hV H0 (n1).toNat 2) (f12 : n4 = w32 (n3 - n0)) : 0 ≤ n4 := by
  have e0 : n2 = hV H0 285 2 := (by rw [f2] at f7; exact f7 : n2 = hV H0 285 2)
  have e1 : n3 = hV H0 285 2 := (by rw [f2] at f11; exact f11 : n3 = hV H0 285 2)
  clear f7 f11
  subst e0
  subst e1
  first
  | (have ix0 : n4 = hV H0 285 2 - n0 := Eq.trans f12 (w32_id (by omega) (by omega)); subst ix0; clear f12)
  | (unfold w32 at f12; have ix0 : n4 = hV H0 285 2 - n0 := (by omega); subst ix0)
  | skip
  try unfold w32 at f12
  omega
def g_207_s_0 : vG := ([(2, [4, 3, 1], [], 0), (20, [3, 0], [0], 2), (90, [3], [], 0), (91, [3], [], 2000), (45, [1, 2], [], 0), (20, [2, 0], [0], 2), (90, [2], [], 0), (91, [2], [], 2000), (33, [1], [], 0), (6000, [0, 1], [0], 0), (0, [0], [], 285), (90, [1], [], -2147483648), (91, [1], [], 2147483647)], (90, [4], [], 0))
theorem c_207_s_0 : vOkm T0 (eP e_207 L_207 A_207 mu_207 none) 2 g_207_s_0 := vOk_inI fun ρ η f0 f1 f2 f3 f4 f5 f6 f7 f8 f9 f10 f11 f12 => q_207_0 (n0 := ρ 1) (n1 := ρ 0) (n2 := ρ 2) (n3 := ρ 3) (n4 := ρ 4) (H0 := η 0) f12 f11 f10 f9 f8 f7 f6 f5 f4 f3 f2 f1 f0
theorem q_207_1 {n0 n1 n2 n3 n4 : Int} {H0 : gH} (f0 : n0 ≤ 2147483647) (f1 : (-2147483648) ≤ n0) (f2 : n1 = 285) (f3 : hWt T0 H0 ∧ True) (f4 : 0 ≤ n0) (f5 : n2 ≤ 2000) (f6 : 0 ≤ n2) (f7 : n2 = hV H0 (n1).toNat 2) (f8 : n0 ≤ n2) (f9 : n3 ≤ 2000) (f10 : 0 ≤ n3) (f11 : n3 = hV H0 (n1).toNat 2) (f12 : n4 = w32 (n3 - n0)) : n4 ≤ 2000 := by
  have e0 : n2 = hV H0 285 2 := (by rw [f2] at f7; exact f7 : n2 = hV H0 285 2)
  have e1 : n3 = hV H0 285 2 := (by rw [f2] at f11; exact f11 : n3 = hV H0 285 2)
  clear f7 f11
  subst e0
  subst e1
  first
  | (have ix0 : n4 = hV H0 285 2 - n0 := Eq.trans f12 (w32_id (by omega) (by omega)); subst ix0; clear f12)
  | (unfold w32 at f12; have ix0 : n4 = hV H0 285 2 - n0 := (by omega); subst ix0)
  | skip
  try unfold w32 at f12
  omega
def g_207_s_1 : vG := ([(2, [4, 3, 1], [], 0), (20, [3, 0], [0], 2), (90, [3], [], 0), (91, [3], [], 2000), (45, [1, 2], [], 0), (20, [2, 0], [0], 2), (90, [2], [], 0), (91, [2], [], 2000), (33, [1], [], 0), (6000, [0, 1], [0], 0), (0, [0], [], 285), (90, [1], [], -2147483648), (91, [1], [], 2147483647)], (91, [4], [], 2000))
theorem c_207_s_1 : vOkm T0 (eP e_207 L_207 A_207 mu_207 none) 2 g_207_s_1 := vOk_inI fun ρ η f0 f1 f2 f3 f4 f5 f6 f7 f8 f9 f10 f11 f12 => q_207_1 (n0 := ρ 1) (n1 := ρ 0) (n2 := ρ 2) (n3 := ρ 3) (n4 := ρ 4) (H0 := η 0) f12 f11 f10 f9 f8 f7 f6 f5 f4 f3 f2 f1 f0
def p_207_s : List vG := [g_207_s_0,
  g_207_s_1]
theorem r_207_s : vCovO true (eR0 e_207 L_207 cs_207 2000) p_207_s = true := by decide +kernel
theorem m_207 (d : Nat) : eC e_207 (d + 1) := eC_ok (e := e_207) (L := L_207) (cs := cs_207) (n := 2000) (d := d + 0) (A := A_207) (μ := mu_207) (tp := true) (p0 := p_207_s) rfl trivial rfl (.inr pre0_ok) (by decide +kernel) (fun _ => post0_ok) r_207_s (allC c_207_s_0 (allC c_207_s_1 allN)) allN
/- MixStageModel.at (I)I -/
noncomputable def s_208 : vM := ([(3, 12, 285, 0), (0, -2147483648, 2147483647, 0)], (0, 0, 255, 0), 1, 0, [])
def preb_208 (a0 a1 : Int) (h : gH) : Prop := 0 ≤ a1
def pre_208 : List Int → gH → Prop := fun xs h => match xs with
  | [a0, a1] => preb_208 a0 a1 h
  | _ => False
def postb_208 (r a0 a1 : Int) (h0 h : gH) : Prop := r = atv (hV h 287) (hV h 285 4) a1 ∧ (r = 0 ∨ a1 < hV h 285 4)
def post_208 : List Int → gH → gH → Prop := fun xs h0 h => match xs with
  | [r, a0, a1] => postb_208 r a0 a1 h0 h
  | _ => True
noncomputable def e_208 : vE := (208, s_208, pre_208, post_208)
noncomputable def L_208 : List vE := []
def cs_208 : List vC := []
def A_208 : Int → List Int → gH → gH → Prop := fun c xs h0 h => True
def mu_208 : Int → List Int → gH → gH → Nat := fun c xs h0 h => 0
theorem kW_285_4 : vRg T0 285 4 (0) (2000) = true := by decide +kernel
theorem q_208_0 {n0 n1 n2 n3 : Int} {H0 : gH} (f0 : n0 ≤ 2147483647) (f1 : (-2147483648) ≤ n0) (f2 : n1 = 285) (f3 : hWt T0 H0 ∧ preb_208 n1 n0 H0) (f4 : n2 ≤ 2000) (f5 : 0 ≤ n2) (f6 : n2 = hV H0 (n1).toNat 4) (f7 : n2 ≤ n0) (f8 : n3 = 0) : postb_208 n3 n1 n0 H0 H0 := by
  unfold preb_208 at f3
  unfold postb_208
  have e0 : n2 = hV H0 285 4 := (by rw [f2] at f6; exact f6 : n2 = hV H0 285 4)
  have e1 : (0 : Int) ≤ hV H0 285 4 ∧ hV H0 285 4 ≤ 2000 := f3.1 285 4 _ _ kW_285_4
  have p0 := f3.2
  clear f6
  subst e0

  exact ⟨atv_out (by omega) (by assumption), by omega⟩
def g_208_s_0 : vG := ([(0, [3], [], 0), (43, [1, 2], [], 0), (20, [2, 0], [0], 4), (90, [2], [], 0), (91, [2], [], 2000), (6000, [0, 1], [0], 0), (0, [0], [], 285), (90, [1], [], -2147483648), (91, [1], [], 2147483647)], (3000, [3], [0], 22))
theorem c_208_s_0 : vOkm T0 (eP e_208 L_208 A_208 mu_208 none) 2 g_208_s_0 := vOk_inI fun ρ η f0 f1 f2 f3 f4 f5 f6 f7 f8 => q_208_0 (n0 := ρ 1) (n1 := ρ 0) (n2 := ρ 2) (n3 := ρ 3) (H0 := η 0) f8 f7 f6 f5 f4 f3 f2 f1 f0
theorem q_208_1 {n0 n1 n2 : Int} {H0 : gH} (f0 : n0 ≤ 2147483647) (f1 : (-2147483648) ≤ n0) (f2 : n1 = 285) (f3 : hWt T0 H0 ∧ preb_208 n1 n0 H0) (f4 : n2 ≤ 2000) (f5 : 0 ≤ n2) (f6 : n2 = hV H0 (n1).toNat 4) (f7 : n0 < n2) : 0 ≤ n0 ∧ n0 < 2000 := by
  unfold preb_208 at f3
  have e0 : n2 = hV H0 285 4 := (by rw [f2] at f6; exact f6 : n2 = hV H0 285 4)
  have p0 := f3.2
  clear f6
  subst e0
  omega
def g_208_s_1 : vG := ([(42, [1, 2], [], 0), (20, [2, 0], [0], 4), (90, [2], [], 0), (91, [2], [], 2000), (6000, [0, 1], [0], 0), (0, [0], [], 285), (90, [1], [], -2147483648), (91, [1], [], 2147483647)], (70, [1], [], 2000))
theorem c_208_s_1 : vOkm T0 (eP e_208 L_208 A_208 mu_208 none) 2 g_208_s_1 := vOk_inI fun ρ η f0 f1 f2 f3 f4 f5 f6 f7 => q_208_1 (n0 := ρ 1) (n1 := ρ 0) (n2 := ρ 2) (H0 := η 0) f7 f6 f5 f4 f3 f2 f1 f0
theorem q_208_2 {n0 n1 n2 n3 n4 n5 n6 : Int} {H0 : gH} (f0 : n0 ≤ 2147483647) (f1 : (-2147483648) ≤ n0) (f2 : n1 = 285) (f3 : hWt T0 H0 ∧ preb_208 n1 n0 H0) (f4 : n2 ≤ 2000) (f5 : 0 ≤ n2) (f6 : n2 = hV H0 (n1).toNat 4) (f7 : n0 < n2) (f8 : n3 = 287) (f9 : n3 = hV H0 (n1).toNat 3) (f10 : n4 ≤ 127) (f11 : (-128) ≤ n4) (f12 : n4 = hV H0 (n3).toNat (n0).toNat) (f13 : n5 = 255) (f14 : n6 = o32 (fun x y => x &&& y) n4 n5) : 0 ≤ n6 := by
  unfold preb_208 at f3
  have e0 : n2 = hV H0 285 4 := (by rw [f2] at f6; exact f6 : n2 = hV H0 285 4)
  have e1 : n4 = hV H0 287 (n0).toNat := (by rw [f8] at f12; exact f12 : n4 = hV H0 287 (n0).toNat)
  have p0 := f3.2
  clear f6 f9 f12
  subst e0
  subst e1
  have b14 := o32_and_r f14 (by omega) (by omega)
  omega
def g_208_s_2 : vG := ([(4, [6, 4, 5], [], 0), (0, [5], [], 255), (22, [4, 3, 1], [0], 0), (90, [4], [], -128), (91, [4], [], 127), (20, [3, 0], [0], 3), (0, [3], [], 287), (42, [1, 2], [], 0), (20, [2, 0], [0], 4), (90, [2], [], 0), (91, [2], [], 2000), (6000, [0, 1], [0], 0), (0, [0], [], 285), (90, [1], [], -2147483648), (91, [1], [], 2147483647)], (90, [6], [], 0))
theorem c_208_s_2 : vOkm T0 (eP e_208 L_208 A_208 mu_208 none) 2 g_208_s_2 := vOk_inI fun ρ η f0 f1 f2 f3 f4 f5 f6 f7 f8 f9 f10 f11 f12 f13 f14 => q_208_2 (n0 := ρ 1) (n1 := ρ 0) (n2 := ρ 2) (n3 := ρ 3) (n4 := ρ 4) (n5 := ρ 5) (n6 := ρ 6) (H0 := η 0) f14 f13 f12 f11 f10 f9 f8 f7 f6 f5 f4 f3 f2 f1 f0
theorem q_208_3 {n0 n1 n2 n3 n4 n5 n6 : Int} {H0 : gH} (f0 : n0 ≤ 2147483647) (f1 : (-2147483648) ≤ n0) (f2 : n1 = 285) (f3 : hWt T0 H0 ∧ preb_208 n1 n0 H0) (f4 : n2 ≤ 2000) (f5 : 0 ≤ n2) (f6 : n2 = hV H0 (n1).toNat 4) (f7 : n0 < n2) (f8 : n3 = 287) (f9 : n3 = hV H0 (n1).toNat 3) (f10 : n4 ≤ 127) (f11 : (-128) ≤ n4) (f12 : n4 = hV H0 (n3).toNat (n0).toNat) (f13 : n5 = 255) (f14 : n6 = o32 (fun x y => x &&& y) n4 n5) : n6 ≤ 255 := by
  unfold preb_208 at f3
  have e0 : n2 = hV H0 285 4 := (by rw [f2] at f6; exact f6 : n2 = hV H0 285 4)
  have e1 : n4 = hV H0 287 (n0).toNat := (by rw [f8] at f12; exact f12 : n4 = hV H0 287 (n0).toNat)
  have p0 := f3.2
  clear f6 f9 f12
  subst e0
  subst e1
  have b14 := o32_and_r f14 (by omega) (by omega)
  omega
def g_208_s_3 : vG := ([(4, [6, 4, 5], [], 0), (0, [5], [], 255), (22, [4, 3, 1], [0], 0), (90, [4], [], -128), (91, [4], [], 127), (20, [3, 0], [0], 3), (0, [3], [], 287), (42, [1, 2], [], 0), (20, [2, 0], [0], 4), (90, [2], [], 0), (91, [2], [], 2000), (6000, [0, 1], [0], 0), (0, [0], [], 285), (90, [1], [], -2147483648), (91, [1], [], 2147483647)], (91, [6], [], 255))
theorem c_208_s_3 : vOkm T0 (eP e_208 L_208 A_208 mu_208 none) 2 g_208_s_3 := vOk_inI fun ρ η f0 f1 f2 f3 f4 f5 f6 f7 f8 f9 f10 f11 f12 f13 f14 => q_208_3 (n0 := ρ 1) (n1 := ρ 0) (n2 := ρ 2) (n3 := ρ 3) (n4 := ρ 4) (n5 := ρ 5) (n6 := ρ 6) (H0 := η 0) f14 f13 f12 f11 f10 f9 f8 f7 f6 f5 f4 f3 f2 f1 f0
theorem q_208_4 {n0 n1 n2 n3 n4 n5 n6 : Int} {H0 : gH} (f0 : n0 ≤ 2147483647) (f1 : (-2147483648) ≤ n0) (f2 : n1 = 285) (f3 : hWt T0 H0 ∧ preb_208 n1 n0 H0) (f4 : n2 ≤ 2000) (f5 : 0 ≤ n2) (f6 : n2 = hV H0 (n1).toNat 4) (f7 : n0 < n2) (f8 : n3 = 287) (f9 : n3 = hV H0 (n1).toNat 3) (f10 : n4 ≤ 127) (f11 : (-128) ≤ n4) (f12 : n4 = hV H0 (n3).toNat (n0).toNat) (f13 : n5 = 255) (f14 : n6 = o32 (fun x y => x &&& y) n4 n5) : postb_208 n6 n1 n0 H0 H0 := by
  unfold preb_208 at f3
  unfold postb_208
  have e0 : n2 = hV H0 285 4 := (by rw [f2] at f6; exact f6 : n2 = hV H0 285 4)
  have e1 : n4 = hV H0 287 (n0).toNat := (by rw [f8] at f12; exact f12 : n4 = hV H0 287 (n0).toNat)
  have e2 : (0 : Int) ≤ hV H0 285 4 ∧ hV H0 285 4 ≤ 2000 := f3.1 285 4 _ _ kW_285_4
  have p0 := f3.2
  clear f6 f9 f12
  subst e0
  subst e1
  have b14 := o32_and_r f14 (by omega) (by omega)

  exact ⟨atv_in (by omega) (by assumption) f14, by omega⟩
def g_208_s_4 : vG := ([(4, [6, 4, 5], [], 0), (0, [5], [], 255), (22, [4, 3, 1], [0], 0), (90, [4], [], -128), (91, [4], [], 127), (20, [3, 0], [0], 3), (0, [3], [], 287), (42, [1, 2], [], 0), (20, [2, 0], [0], 4), (90, [2], [], 0), (91, [2], [], 2000), (6000, [0, 1], [0], 0), (0, [0], [], 285), (90, [1], [], -2147483648), (91, [1], [], 2147483647)], (3000, [6], [0], 22))
theorem c_208_s_4 : vOkm T0 (eP e_208 L_208 A_208 mu_208 none) 2 g_208_s_4 := vOk_inI fun ρ η f0 f1 f2 f3 f4 f5 f6 f7 f8 f9 f10 f11 f12 f13 f14 => q_208_4 (n0 := ρ 1) (n1 := ρ 0) (n2 := ρ 2) (n3 := ρ 3) (n4 := ρ 4) (n5 := ρ 5) (n6 := ρ 6) (H0 := η 0) f14 f13 f12 f11 f10 f9 f8 f7 f6 f5 f4 f3 f2 f1 f0
def p_208_s : List vG := [g_208_s_0,
  g_208_s_1,
  g_208_s_2,
  g_208_s_3,
  g_208_s_4]
theorem r_208_s : vCovO false (eR0 e_208 L_208 cs_208 2000) p_208_s = true := by decide +kernel
theorem m_208 (d : Nat) : eC e_208 (d + 1) := eC_ok (e := e_208) (L := L_208) (cs := cs_208) (n := 2000) (d := d + 0) (A := A_208) (μ := mu_208) (tp := false) (p0 := p_208_s) rfl trivial rfl (.inl rfl) (by decide +kernel) (fun z => nomatch z) r_208_s (allC c_208_s_0 (allC c_208_s_1 (allC c_208_s_2 (allC c_208_s_3 (allC c_208_s_4 allN))))) allN
/- MixStageModel.isDigit (I)Z -/
noncomputable def s_209 : vM := ([(0, -2147483648, 2147483647, 0)], (0, 0, 1, 0), 0, 0, [])
def postb_209 (r a0 : Int) (h0 h : gH) : Prop := (r = 1 ∧ 48 ≤ a0 ∧ a0 ≤ 57) ∨ (r = 0 ∧ ¬ (48 ≤ a0 ∧ a0 ≤ 57))
def post_209 : List Int → gH → gH → Prop := fun xs h0 h => match xs with
  | [r, a0] => postb_209 r a0 h0 h
  | _ => True
noncomputable def e_209 : vE := (209, s_209, pre0, post_209)
noncomputable def L_209 : List vE := []
def cs_209 : List vC := []
def A_209 : Int → List Int → gH → gH → Prop := fun c xs h0 h => True
def mu_209 : Int → List Int → gH → gH → Nat := fun c xs h0 h => 0
theorem q_209_0 {n0 n1 n2 : Int} {H0 : gH} (f0 : n0 ≤ 2147483647) (f1 : (-2147483648) ≤ n0) (f2 : hWt T0 H0 ∧ True) (f3 : n1 = 48) (f4 : n0 < n1) (f5 : n2 = 0) : postb_209 n2 n0 H0 H0 := by
  unfold postb_209
  first | assumption | omega | trivial
def g_209_s_0 : vG := ([(0, [2], [], 0), (42, [0, 1], [], 0), (0, [1], [], 48), (6000, [0], [0], 0), (90, [0], [], -2147483648), (91, [0], [], 2147483647)], (3000, [2], [0], 17))
theorem c_209_s_0 : vOkm T0 (eP e_209 L_209 A_209 mu_209 none) 1 g_209_s_0 := vOk_inI fun ρ η f0 f1 f2 f3 f4 f5 => q_209_0 (n0 := ρ 0) (n1 := ρ 1) (n2 := ρ 2) (H0 := η 0) f5 f4 f3 f2 f1 f0
theorem q_209_1 {n0 n1 n2 n3 : Int} {H0 : gH} (f0 : n0 ≤ 2147483647) (f1 : (-2147483648) ≤ n0) (f2 : hWt T0 H0 ∧ True) (f3 : n1 = 48) (f4 : n1 ≤ n0) (f5 : n2 = 57) (f6 : n2 < n0) (f7 : n3 = 0) : postb_209 n3 n0 H0 H0 := by
  unfold postb_209
  first | assumption | omega | trivial
def g_209_s_1 : vG := ([(0, [3], [], 0), (44, [0, 2], [], 0), (0, [2], [], 57), (43, [0, 1], [], 0), (0, [1], [], 48), (6000, [0], [0], 0), (90, [0], [], -2147483648), (91, [0], [], 2147483647)], (3000, [3], [0], 17))
theorem c_209_s_1 : vOkm T0 (eP e_209 L_209 A_209 mu_209 none) 1 g_209_s_1 := vOk_inI fun ρ η f0 f1 f2 f3 f4 f5 f6 f7 => q_209_1 (n0 := ρ 0) (n1 := ρ 1) (n2 := ρ 2) (n3 := ρ 3) (H0 := η 0) f7 f6 f5 f4 f3 f2 f1 f0
theorem q_209_2 {n0 n1 n2 n3 : Int} {H0 : gH} (f0 : n0 ≤ 2147483647) (f1 : (-2147483648) ≤ n0) (f2 : hWt T0 H0 ∧ True) (f3 : n1 = 48) (f4 : n1 ≤ n0) (f5 : n2 = 57) (f6 : n0 ≤ n2) (f7 : n3 = 1) : postb_209 n3 n0 H0 H0 := by
  unfold postb_209
  first | assumption | omega | trivial
def g_209_s_2 : vG := ([(0, [3], [], 1), (45, [0, 2], [], 0), (0, [2], [], 57), (43, [0, 1], [], 0), (0, [1], [], 48), (6000, [0], [0], 0), (90, [0], [], -2147483648), (91, [0], [], 2147483647)], (3000, [3], [0], 17))
theorem c_209_s_2 : vOkm T0 (eP e_209 L_209 A_209 mu_209 none) 1 g_209_s_2 := vOk_inI fun ρ η f0 f1 f2 f3 f4 f5 f6 f7 => q_209_2 (n0 := ρ 0) (n1 := ρ 1) (n2 := ρ 2) (n3 := ρ 3) (H0 := η 0) f7 f6 f5 f4 f3 f2 f1 f0
def p_209_s : List vG := [g_209_s_0,
  g_209_s_1,
  g_209_s_2]
theorem r_209_s : vCovO false (eR0 e_209 L_209 cs_209 2000) p_209_s = true := by decide +kernel
theorem m_209 (d : Nat) : eC e_209 (d + 1) := eC_ok (e := e_209) (L := L_209) (cs := cs_209) (n := 2000) (d := d + 0) (A := A_209) (μ := mu_209) (tp := false) (p0 := p_209_s) rfl trivial rfl (.inr pre0_ok) (by decide +kernel) (fun z => nomatch z) r_209_s (allC c_209_s_0 (allC c_209_s_1 (allC c_209_s_2 allN))) allN
/- MixStageModel.isLetter (I)Z -/
noncomputable def s_210 : vM := ([(0, -2147483648, 2147483647, 0)], (0, 0, 1, 0), 0, 0, [])
def postb_210 (r a0 : Int) (h0 h : gH) : Prop := (r = 1 ∧ 97 ≤ a0 ∧ a0 ≤ 122) ∨ (r = 0 ∧ ¬ (97 ≤ a0 ∧ a0 ≤ 122))
def post_210 : List Int → gH → gH → Prop := fun xs h0 h => match xs with
  | [r, a0] => postb_210 r a0 h0 h
  | _ => True
noncomputable def e_210 : vE := (210, s_210, pre0, post_210)
noncomputable def L_210 : List vE := []
def cs_210 : List vC := []
def A_210 : Int → List Int → gH → gH → Prop := fun c xs h0 h => True
def mu_210 : Int → List Int → gH → gH → Nat := fun c xs h0 h => 0
theorem q_210_0 {n0 n1 n2 : Int} {H0 : gH} (f0 : n0 ≤ 2147483647) (f1 : (-2147483648) ≤ n0) (f2 : hWt T0 H0 ∧ True) (f3 : n1 = 97) (f4 : n0 < n1) (f5 : n2 = 0) : postb_210 n2 n0 H0 H0 := by
  unfold postb_210
  first | assumption | omega | trivial
def g_210_s_0 : vG := ([(0, [2], [], 0), (42, [0, 1], [], 0), (0, [1], [], 97), (6000, [0], [0], 0), (90, [0], [], -2147483648), (91, [0], [], 2147483647)], (3000, [2], [0], 17))
theorem c_210_s_0 : vOkm T0 (eP e_210 L_210 A_210 mu_210 none) 1 g_210_s_0 := vOk_inI fun ρ η f0 f1 f2 f3 f4 f5 => q_210_0 (n0 := ρ 0) (n1 := ρ 1) (n2 := ρ 2) (H0 := η 0) f5 f4 f3 f2 f1 f0
theorem q_210_1 {n0 n1 n2 n3 : Int} {H0 : gH} (f0 : n0 ≤ 2147483647) (f1 : (-2147483648) ≤ n0) (f2 : hWt T0 H0 ∧ True) (f3 : n1 = 97) (f4 : n1 ≤ n0) (f5 : n2 = 122) (f6 : n2 < n0) (f7 : n3 = 0) : postb_210 n3 n0 H0 H0 := by
  unfold postb_210
  first | assumption | omega | trivial
def g_210_s_1 : vG := ([(0, [3], [], 0), (44, [0, 2], [], 0), (0, [2], [], 122), (43, [0, 1], [], 0), (0, [1], [], 97), (6000, [0], [0], 0), (90, [0], [], -2147483648), (91, [0], [], 2147483647)], (3000, [3], [0], 17))
theorem c_210_s_1 : vOkm T0 (eP e_210 L_210 A_210 mu_210 none) 1 g_210_s_1 := vOk_inI fun ρ η f0 f1 f2 f3 f4 f5 f6 f7 => q_210_1 (n0 := ρ 0) (n1 := ρ 1) (n2 := ρ 2) (n3 := ρ 3) (H0 := η 0) f7 f6 f5 f4 f3 f2 f1 f0
theorem q_210_2 {n0 n1 n2 n3 : Int} {H0 : gH} (f0 : n0 ≤ 2147483647) (f1 : (-2147483648) ≤ n0) (f2 : hWt T0 H0 ∧ True) (f3 : n1 = 97) (f4 : n1 ≤ n0) (f5 : n2 = 122) (f6 : n0 ≤ n2) (f7 : n3 = 1) : postb_210 n3 n0 H0 H0 := by
  unfold postb_210
  first | assumption | omega | trivial
def g_210_s_2 : vG := ([(0, [3], [], 1), (45, [0, 2], [], 0), (0, [2], [], 122), (43, [0, 1], [], 0), (0, [1], [], 97), (6000, [0], [0], 0), (90, [0], [], -2147483648), (91, [0], [], 2147483647)], (3000, [3], [0], 17))
theorem c_210_s_2 : vOkm T0 (eP e_210 L_210 A_210 mu_210 none) 1 g_210_s_2 := vOk_inI fun ρ η f0 f1 f2 f3 f4 f5 f6 f7 => q_210_2 (n0 := ρ 0) (n1 := ρ 1) (n2 := ρ 2) (n3 := ρ 3) (H0 := η 0) f7 f6 f5 f4 f3 f2 f1 f0
def p_210_s : List vG := [g_210_s_0,
  g_210_s_1,
  g_210_s_2]
theorem r_210_s : vCovO false (eR0 e_210 L_210 cs_210 2000) p_210_s = true := by decide +kernel
theorem m_210 (d : Nat) : eC e_210 (d + 1) := eC_ok (e := e_210) (L := L_210) (cs := cs_210) (n := 2000) (d := d + 0) (A := A_210) (μ := mu_210) (tp := false) (p0 := p_210_s) rfl trivial rfl (.inr pre0_ok) (by decide +kernel) (fun z => nomatch z) r_210_s (allC c_210_s_0 (allC c_210_s_1 (allC c_210_s_2 allN))) allN
/- MixStageModel.more (JI)J -/
noncomputable def s_211 : vM := ([(1, 0, 0, 0), (0, -2147483648, 2147483647, 0)], (1, 0, 0, 0), 0, 0, [])
noncomputable def e_211 : vE := (211, s_211, pre0, post0)
noncomputable def L_211 : List vE := []
def cs_211 : List vC := []
def A_211 : Int → List Int → gH → gH → Prop := fun c xs h0 h => True
def mu_211 : Int → List Int → gH → gH → Nat := fun c xs h0 h => 0
def p_211_s : List vG := []
theorem r_211_s : vCovO true (eR0 e_211 L_211 cs_211 2000) p_211_s = true := by decide +kernel
theorem m_211 (d : Nat) : eC e_211 (d + 1) := eC_ok (e := e_211) (L := L_211) (cs := cs_211) (n := 2000) (d := d + 0) (A := A_211) (μ := mu_211) (tp := true) (p0 := p_211_s) rfl trivial rfl (.inr pre0_ok) (by decide +kernel) (fun _ => post0_ok) r_211_s allN allN
/- MixStageModel.token (IIIJ)V -/
noncomputable def s_213 : vM := ([(3, 12, 285, 0), (0, 0, 53, 0), (0, 0, 2000, 0), (0, 0, 9999, 0), (1, 0, 0, 0)], (9, 0, 0, 0), 1, 0, [(12, 10), (132, 0), (140, 0), (148, 0), (157, 0)])
def preb_213 (a0 a1 a2 a3 a4 : Int) (h : gH) : Prop := hV h 285 10 ≤ 500
def pre_213 : List Int → gH → Prop := fun xs h => match xs with
  | [a0, a1, a2, a3, a4] => preb_213 a0 a1 a2 a3 a4 h
  | _ => False
def postb_213 (a0 a1 a2 a3 a4 : Int) (h0 h : gH) : Prop := hV h 285 10 = hV h0 285 10 + 1
def post_213 : List Int → gH → gH → Prop := fun xs h0 h => match xs with
  | [a0, a1, a2, a3, a4] => postb_213 a0 a1 a2 a3 a4 h0 h
  | _ => True
noncomputable def e_213 : vE := (213, s_213, pre_213, post_213)
noncomputable def L_213 : List vE := []
def cs_213 : List vC := []
def A_213 : Int → List Int → gH → gH → Prop := fun c xs h0 h => True
def mu_213 : Int → List Int → gH → gH → Nat := fun c xs h0 h => 0
theorem kW_285_10 : vRg T0 285 10 (0) (501) = true := by decide +kernel
theorem q_213_0 {n0 n1 n2 n3 n4 n5 n6 n7 n8 n9 n10 n11 n12 n13 n14 n15 : Int} {H0 H1 H2 H3 H4 : gH} (f0 : n0 ≤ 9999) (f1 : 0 ≤ n0) (f2 : n1 ≤ 2000) (f3 : 0 ≤ n1) (f4 : n2 ≤ 53) (f5 : 0 ≤ n2) (f6 : n3 = 285) (f7 : hWt T0 H0 ∧ preb_213 n3 n2 n1 n0 n4 H0) (f8 : n5 = 288) (f9 : n5 = hV H0 (n3).toNat 5) (f10 : n6 ≤ 501) (f11 : 0 ≤ n6) (f12 : n6 = hV H0 (n3).toNat 10) (f13 : hUpd H1 H0 n5 n6 n2) (f14 : n7 = 289) (f15 : n7 = hV H1 (n3).toNat 6) (f16 : n8 ≤ 501) (f17 : 0 ≤ n8) (f18 : n8 = hV H1 (n3).toNat 10) (f19 : hUpd H2 H1 n7 n8 n1) (f20 : n9 = 290) (f21 : n9 = hV H2 (n3).toNat 7) (f22 : n10 ≤ 501) (f23 : 0 ≤ n10) (f24 : n10 = hV H2 (n3).toNat 10) (f25 : hUpd H3 H2 n9 n10 n0) (f26 : n11 = 291) (f27 : n11 = hV H3 (n3).toNat 8) (f28 : n12 ≤ 501) (f29 : 0 ≤ n12) (f30 : n12 = hV H3 (n3).toNat 10) (f31 : hUpd H4 H3 n11 n12 n4) (f32 : n13 ≤ 501) (f33 : 0 ≤ n13) (f34 : n13 = hV H4 (n3).toNat 10) (f35 : n14 = 1) (f36 : n15 = w32 (n13 + n14)) : 0 ≤ n15 := by
  unfold preb_213 at f7
  have e0 : n6 = hV H0 285 10 := (by rw [f6] at f12; exact f12 : n6 = hV H0 285 10)
  have e2 : n8 = hV H0 285 10 := (by rw [f6] at f18; exact f18 : n8 = hV H1 285 10).trans ((uPlace f13 285 10 (iS (show n5 = ((288 : Nat) : Int) from f8) rfl)))
  have e4 : n10 = hV H0 285 10 := (by rw [f6] at f24; exact f24 : n10 = hV H2 285 10).trans (((uPlace f19 285 10 (iS (show n7 = ((289 : Nat) : Int) from f14) rfl))).trans (uPlace f13 285 10 (iS (show n5 = ((288 : Nat) : Int) from f8) rfl)))
  have e6 : n12 = hV H0 285 10 := (by rw [f6] at f30; exact f30 : n12 = hV H3 285 10).trans (((uPlace f25 285 10 (iS (show n9 = ((290 : Nat) : Int) from f20) rfl))).trans (((uPlace f19 285 10 (iS (show n7 = ((289 : Nat) : Int) from f14) rfl))).trans (uPlace f13 285 10 (iS (show n5 = ((288 : Nat) : Int) from f8) rfl))))
  have e8 : n13 = hV H0 285 10 := (by rw [f6] at f34; exact f34 : n13 = hV H4 285 10).trans (((uPlace f31 285 10 (iS (show n11 = ((291 : Nat) : Int) from f26) rfl))).trans (((uPlace f25 285 10 (iS (show n9 = ((290 : Nat) : Int) from f20) rfl))).trans (((uPlace f19 285 10 (iS (show n7 = ((289 : Nat) : Int) from f14) rfl))).trans (uPlace f13 285 10 (iS (show n5 = ((288 : Nat) : Int) from f8) rfl)))))
  have e9 : (0 : Int) ≤ hV H0 285 10 ∧ hV H0 285 10 ≤ 501 := f7.1 285 10 _ _ kW_285_10
  have p0 := f7.2
  clear f9 f12 f15 f18 f21 f24 f27 f30 f34
  subst e0
  subst e2
  subst e4
  subst e6
  subst e8
  first
  | (have ix0 : n15 = hV H0 285 10 + 1 := Eq.trans f36 (w32_iv (Iad (Iat f11 f10) (IC 1)) (by decide)); subst ix0; clear f36)
  | (have ix0 : n15 = hV H0 285 10 + 1 := Eq.trans f36 (w32_id (by omega) (by omega)); subst ix0; clear f36)
  | (unfold w32 at f36; have ix0 : n15 = hV H0 285 10 + 1 := (by omega); subst ix0)
  | skip
  try unfold w32 at f36
  omega
def g_213_s_0 : vG := ([(1, [15, 13, 14], [], 0), (0, [14], [], 1), (20, [13, 0], [4], 10), (90, [13], [], 0), (91, [13], [], 501), (80, [11, 12, 4], [4, 3], 1), (20, [12, 0], [3], 10), (90, [12], [], 0), (91, [12], [], 501), (20, [11, 0], [3], 8), (0, [11], [], 291), (80, [9, 10, 3], [3, 2], 0), (20, [10, 0], [2], 10), (90, [10], [], 0), (91, [10], [], 501), (20, [9, 0], [2], 7), (0, [9], [], 290), (80, [7, 8, 2], [2, 1], 0), (20, [8, 0], [1], 10), (90, [8], [], 0), (91, [8], [], 501), (20, [7, 0], [1], 6), (0, [7], [], 289), (80, [5, 6, 1], [1, 0], 0), (20, [6, 0], [0], 10), (90, [6], [], 0), (91, [6], [], 501), (20, [5, 0], [0], 5), (0, [5], [], 288), (6000, [0, 1, 2, 3, 4], [0], 0), (0, [0], [], 285), (90, [1], [], 0), (91, [1], [], 53), (90, [2], [], 0), (91, [2], [], 2000), (90, [3], [], 0), (91, [3], [], 9999)], (90, [15], [], 0))
theorem c_213_s_0 : vOkm T0 (eP e_213 L_213 A_213 mu_213 none) 5 g_213_s_0 := vOk_inI fun ρ η f0 f1 f2 f3 f4 f5 f6 f7 f8 f9 f10 f11 f12 f13 f14 f15 f16 f17 f18 f19 f20 f21 f22 f23 f24 f25 f26 f27 f28 f29 f30 f31 f32 f33 f34 f35 f36 => q_213_0 (n0 := ρ 3) (n1 := ρ 2) (n2 := ρ 1) (n3 := ρ 0) (n4 := ρ 4) (n5 := ρ 5) (n6 := ρ 6) (n7 := ρ 7) (n8 := ρ 8) (n9 := ρ 9) (n10 := ρ 10) (n11 := ρ 11) (n12 := ρ 12) (n13 := ρ 13) (n14 := ρ 14) (n15 := ρ 15) (H0 := η 0) (H1 := η 1) (H2 := η 2) (H3 := η 3) (H4 := η 4) f36 f35 f34 f33 f32 f31 f30 f29 f28 f27 f26 f25 f24 f23 f22 f21 f20 f19 f18 f17 f16 f15 f14 f13 f12 f11 f10 f9 f8 f7 f6 f5 f4 f3 f2 f1 f0
theorem q_213_1 {n0 n1 n2 n3 n4 n5 n6 n7 n8 n9 n10 n11 n12 n13 n14 n15 : Int} {H0 H1 H2 H3 H4 : gH} (f0 : n0 ≤ 9999) (f1 : 0 ≤ n0) (f2 : n1 ≤ 2000) (f3 : 0 ≤ n1) (f4 : n2 ≤ 53) (f5 : 0 ≤ n2) (f6 : n3 = 285) (f7 : hWt T0 H0 ∧ preb_213 n3 n2 n1 n0 n4 H0) (f8 : n5 = 288) (f9 : n5 = hV H0 (n3).toNat 5) (f10 : n6 ≤ 501) (f11 : 0 ≤ n6) (f12 : n6 = hV H0 (n3).toNat 10) (f13 : hUpd H1 H0 n5 n6 n2) (f14 : n7 = 289) (f15 : n7 = hV H1 (n3).toNat 6) (f16 : n8 ≤ 501) (f17 : 0 ≤ n8) (f18 : n8 = hV H1 (n3).toNat 10) (f19 : hUpd H2 H1 n7 n8 n1) (f20 : n9 = 290) (f21 : n9 = hV H2 (n3).toNat 7) (f22 : n10 ≤ 501) (f23 : 0 ≤ n10) (f24 : n10 = hV H2 (n3).toNat 10) (f25 : hUpd H3 H2 n9 n10 n0) (f26 : n11 = 291) (f27 : n11 = hV H3 (n3).toNat 8) (f28 : n12 ≤ 501) (f29 : 0 ≤ n12) (f30 : n12 = hV H3 (n3).toNat 10) (f31 : hUpd H4 H3 n11 n12 n4) (f32 : n13 ≤ 501) (f33 : 0 ≤ n13) (f34 : n13 = hV H4 (n3).toNat 10) (f35 : n14 = 1) (f36 : n15 = w32 (n13 + n14)) : n15 ≤ 501 := by
  unfold preb_213 at f7
  have e0 : n6 = hV H0 285 10 := (by rw [f6] at f12; exact f12 : n6 = hV H0 285 10)
  have e2 : n8 = hV H0 285 10 := (by rw [f6] at f18; exact f18 : n8 = hV H1 285 10).trans ((uPlace f13 285 10 (iS (show n5 = ((288 : Nat) : Int) from f8) rfl)))
  have e4 : n10 = hV H0 285 10 := (by rw [f6] at f24; exact f24 : n10 = hV H2 285 10).trans (((uPlace f19 285 10 (iS (show n7 = ((289 : Nat) : Int) from f14) rfl))).trans (uPlace f13 285 10 (iS (show n5 = ((288 : Nat) : Int) from f8) rfl)))
  have e6 : n12 = hV H0 285 10 := (by rw [f6] at f30; exact f30 : n12 = hV H3 285 10).trans (((uPlace f25 285 10 (iS (show n9 = ((290 : Nat) : Int) from f20) rfl))).trans (((uPlace f19 285 10 (iS (show n7 = ((289 : Nat) : Int) from f14) rfl))).trans (uPlace f13 285 10 (iS (show n5 = ((288 : Nat) : Int) from f8) rfl))))
  have e8 : n13 = hV H0 285 10 := (by rw [f6] at f34; exact f34 : n13 = hV H4 285 10).trans (((uPlace f31 285 10 (iS (show n11 = ((291 : Nat) : Int) from f26) rfl))).trans (((uPlace f25 285 10 (iS (show n9 = ((290 : Nat) : Int) from f20) rfl))).trans (((uPlace f19 285 10 (iS (show n7 = ((289 : Nat) : Int) from f14) rfl))).trans (uPlace f13 285 10 (iS (show n5 = ((288 : Nat) : Int) from f8) rfl)))))
  have e9 : (0 : Int) ≤ hV H0 285 10 ∧ hV H0 285 10 ≤ 501 := f7.1 285 10 _ _ kW_285_10
  have p0 := f7.2
  clear f9 f12 f15 f18 f21 f24 f27 f30 f34
  subst e0
  subst e2
  subst e4
  subst e6
  subst e8
  first
  | (have ix0 : n15 = hV H0 285 10 + 1 := Eq.trans f36 (w32_iv (Iad (Iat f11 f10) (IC 1)) (by decide)); subst ix0; clear f36)
  | (have ix0 : n15 = hV H0 285 10 + 1 := Eq.trans f36 (w32_id (by omega) (by omega)); subst ix0; clear f36)
  | (unfold w32 at f36; have ix0 : n15 = hV H0 285 10 + 1 := (by omega); subst ix0)
  | skip
  try unfold w32 at f36
  omega
def g_213_s_1 : vG := ([(1, [15, 13, 14], [], 0), (0, [14], [], 1), (20, [13, 0], [4], 10), (90, [13], [], 0), (91, [13], [], 501), (80, [11, 12, 4], [4, 3], 1), (20, [12, 0], [3], 10), (90, [12], [], 0), (91, [12], [], 501), (20, [11, 0], [3], 8), (0, [11], [], 291), (80, [9, 10, 3], [3, 2], 0), (20, [10, 0], [2], 10), (90, [10], [], 0), (91, [10], [], 501), (20, [9, 0], [2], 7), (0, [9], [], 290), (80, [7, 8, 2], [2, 1], 0), (20, [8, 0], [1], 10), (90, [8], [], 0), (91, [8], [], 501), (20, [7, 0], [1], 6), (0, [7], [], 289), (80, [5, 6, 1], [1, 0], 0), (20, [6, 0], [0], 10), (90, [6], [], 0), (91, [6], [], 501), (20, [5, 0], [0], 5), (0, [5], [], 288), (6000, [0, 1, 2, 3, 4], [0], 0), (0, [0], [], 285), (90, [1], [], 0), (91, [1], [], 53), (90, [2], [], 0), (91, [2], [], 2000), (90, [3], [], 0), (91, [3], [], 9999)], (91, [15], [], 501))
theorem c_213_s_1 : vOkm T0 (eP e_213 L_213 A_213 mu_213 none) 5 g_213_s_1 := vOk_inI fun ρ η f0 f1 f2 f3 f4 f5 f6 f7 f8 f9 f10 f11 f12 f13 f14 f15 f16 f17 f18 f19 f20 f21 f22 f23 f24 f25 f26 f27 f28 f29 f30 f31 f32 f33 f34 f35 f36 => q_213_1 (n0 := ρ 3) (n1 := ρ 2) (n2 := ρ 1) (n3 := ρ 0) (n4 := ρ 4) (n5 := ρ 5) (n6 := ρ 6) (n7 := ρ 7) (n8 := ρ 8) (n9 := ρ 9) (n10 := ρ 10) (n11 := ρ 11) (n12 := ρ 12) (n13 := ρ 13) (n14 := ρ 14) (n15 := ρ 15) (H0 := η 0) (H1 := η 1) (H2 := η 2) (H3 := η 3) (H4 := η 4) f36 f35 f34 f33 f32 f31 f30 f29 f28 f27 f26 f25 f24 f23 f22 f21 f20 f19 f18 f17 f16 f15 f14 f13 f12 f11 f10 f9 f8 f7 f6 f5 f4 f3 f2 f1 f0
theorem q_213_2 {n0 n1 n2 n3 n4 n5 n6 n7 n8 n9 n10 n11 n12 n13 n14 n15 n16 : Int} {H0 H1 H2 H3 H4 H5 : gH} (f0 : n0 ≤ 9999) (f1 : 0 ≤ n0) (f2 : n1 ≤ 2000) (f3 : 0 ≤ n1) (f4 : n2 ≤ 53) (f5 : 0 ≤ n2) (f6 : n3 = 285) (f7 : hWt T0 H0 ∧ preb_213 n3 n2 n1 n0 n4 H0) (f8 : n5 = 288) (f9 : n5 = hV H0 (n3).toNat 5) (f10 : n6 ≤ 501) (f11 : 0 ≤ n6) (f12 : n6 = hV H0 (n3).toNat 10) (f13 : hUpd H1 H0 n5 n6 n2) (f14 : n7 = 289) (f15 : n7 = hV H1 (n3).toNat 6) (f16 : n8 ≤ 501) (f17 : 0 ≤ n8) (f18 : n8 = hV H1 (n3).toNat 10) (f19 : hUpd H2 H1 n7 n8 n1) (f20 : n9 = 290) (f21 : n9 = hV H2 (n3).toNat 7) (f22 : n10 ≤ 501) (f23 : 0 ≤ n10) (f24 : n10 = hV H2 (n3).toNat 10) (f25 : hUpd H3 H2 n9 n10 n0) (f26 : n11 = 291) (f27 : n11 = hV H3 (n3).toNat 8) (f28 : n12 ≤ 501) (f29 : 0 ≤ n12) (f30 : n12 = hV H3 (n3).toNat 10) (f31 : hUpd H4 H3 n11 n12 n4) (f32 : n13 ≤ 501) (f33 : 0 ≤ n13) (f34 : n13 = hV H4 (n3).toNat 10) (f35 : n14 = 1) (f36 : n15 = w32 (n13 + n14)) (f37 : n16 = 10) (f38 : hUpd H5 H4 n3 n16 n15) : postb_213 n3 n2 n1 n0 n4 H0 H5 := by
  unfold preb_213 at f7
  unfold postb_213
  have e0 : n6 = hV H0 285 10 := (by rw [f6] at f12; exact f12 : n6 = hV H0 285 10)
  have e2 : n8 = hV H0 285 10 := (by rw [f6] at f18; exact f18 : n8 = hV H1 285 10).trans ((uPlace f13 285 10 (iS (show n5 = ((288 : Nat) : Int) from f8) rfl)))
  have e4 : n10 = hV H0 285 10 := (by rw [f6] at f24; exact f24 : n10 = hV H2 285 10).trans (((uPlace f19 285 10 (iS (show n7 = ((289 : Nat) : Int) from f14) rfl))).trans (uPlace f13 285 10 (iS (show n5 = ((288 : Nat) : Int) from f8) rfl)))
  have e6 : n12 = hV H0 285 10 := (by rw [f6] at f30; exact f30 : n12 = hV H3 285 10).trans (((uPlace f25 285 10 (iS (show n9 = ((290 : Nat) : Int) from f20) rfl))).trans (((uPlace f19 285 10 (iS (show n7 = ((289 : Nat) : Int) from f14) rfl))).trans (uPlace f13 285 10 (iS (show n5 = ((288 : Nat) : Int) from f8) rfl))))
  have e8 : n13 = hV H0 285 10 := (by rw [f6] at f34; exact f34 : n13 = hV H4 285 10).trans (((uPlace f31 285 10 (iS (show n11 = ((291 : Nat) : Int) from f26) rfl))).trans (((uPlace f25 285 10 (iS (show n9 = ((290 : Nat) : Int) from f20) rfl))).trans (((uPlace f19 285 10 (iS (show n7 = ((289 : Nat) : Int) from f14) rfl))).trans (uPlace f13 285 10 (iS (show n5 = ((288 : Nat) : Int) from f8) rfl)))))
  have e10 : hV H5 285 10 = n15 := (uSame f38 285 10 f6.symm f37.symm)
  have e11 : (0 : Int) ≤ hV H0 285 10 ∧ hV H0 285 10 ≤ 501 := f7.1 285 10 _ _ kW_285_10
  try simp only [e10]
  have p0 := f7.2
  clear f9 f12 f15 f18 f21 f24 f27 f30 f34
  subst e0
  subst e2
  subst e4
  subst e6
  subst e8
  first
  | (have ix0 : n15 = hV H0 285 10 + 1 := Eq.trans f36 (w32_iv (Iad (Iat f11 f10) (IC 1)) (by decide)); subst ix0; clear f36)
  | (have ix0 : n15 = hV H0 285 10 + 1 := Eq.trans f36 (w32_id (by omega) (by omega)); subst ix0; clear f36)
  | (unfold w32 at f36; have ix0 : n15 = hV H0 285 10 + 1 := (by omega); subst ix0)
  | skip
  try unfold w32 at f36
  first | assumption | omega | trivial
def g_213_s_2 : vG := ([(80, [0, 16, 15], [5, 4], 0), (0, [16], [], 10), (1, [15, 13, 14], [], 0), (0, [14], [], 1), (20, [13, 0], [4], 10), (90, [13], [], 0), (91, [13], [], 501), (80, [11, 12, 4], [4, 3], 1), (20, [12, 0], [3], 10), (90, [12], [], 0), (91, [12], [], 501), (20, [11, 0], [3], 8), (0, [11], [], 291), (80, [9, 10, 3], [3, 2], 0), (20, [10, 0], [2], 10), (90, [10], [], 0), (91, [10], [], 501), (20, [9, 0], [2], 7), (0, [9], [], 290), (80, [7, 8, 2], [2, 1], 0), (20, [8, 0], [1], 10), (90, [8], [], 0), (91, [8], [], 501), (20, [7, 0], [1], 6), (0, [7], [], 289), (80, [5, 6, 1], [1, 0], 0), (20, [6, 0], [0], 10), (90, [6], [], 0), (91, [6], [], 501), (20, [5, 0], [0], 5), (0, [5], [], 288), (6000, [0, 1, 2, 3, 4], [0], 0), (0, [0], [], 285), (90, [1], [], 0), (91, [1], [], 53), (90, [2], [], 0), (91, [2], [], 2000), (90, [3], [], 0), (91, [3], [], 9999)], (3000, [], [5], 51))
theorem c_213_s_2 : vOkm T0 (eP e_213 L_213 A_213 mu_213 none) 5 g_213_s_2 := vOk_inI fun ρ η f0 f1 f2 f3 f4 f5 f6 f7 f8 f9 f10 f11 f12 f13 f14 f15 f16 f17 f18 f19 f20 f21 f22 f23 f24 f25 f26 f27 f28 f29 f30 f31 f32 f33 f34 f35 f36 f37 f38 => q_213_2 (n0 := ρ 3) (n1 := ρ 2) (n2 := ρ 1) (n3 := ρ 0) (n4 := ρ 4) (n5 := ρ 5) (n6 := ρ 6) (n7 := ρ 7) (n8 := ρ 8) (n9 := ρ 9) (n10 := ρ 10) (n11 := ρ 11) (n12 := ρ 12) (n13 := ρ 13) (n14 := ρ 14) (n15 := ρ 15) (n16 := ρ 16) (H0 := η 0) (H1 := η 1) (H2 := η 2) (H3 := η 3) (H4 := η 4) (H5 := η 5) f38 f37 f36 f35 f34 f33 f32 f31 f30 f29 f28 f27 f26 f25 f24 f23 f22 f21 f20 f19 f18 f17 f16 f15 f14 f13 f12 f11 f10 f9 f8 f7 f6 f5 f4 f3 f2 f1 f0
def p_213_s : List vG := [g_213_s_0,
  g_213_s_1,
  g_213_s_2]
theorem r_213_s : vCovO false (eR0 e_213 L_213 cs_213 2000) p_213_s = true := by decide +kernel
theorem m_213 (d : Nat) : eC e_213 (d + 1) := eC_ok (e := e_213) (L := L_213) (cs := cs_213) (n := 2000) (d := d + 0) (A := A_213) (μ := mu_213) (tp := false) (p0 := p_213_s) rfl trivial rfl (.inl rfl) (by decide +kernel) (fun z => nomatch z) r_213_s (allC c_213_s_0 (allC c_213_s_1 (allC c_213_s_2 allN))) allN
/- MixStageModel.sign (III)I -/
noncomputable def s_215 : vM := ([(3, 12, 285, 0), (0, 0, 2000, 0), (0, -2147483648, 2147483647, 0), (0, -2147483648, 2147483647, 0)], (0, -2147483648, 2147483647, 0), 1, 0, [(12, 10), (132, 0), (140, 0), (148, 0), (157, 0)])
def preb_215 (a0 a1 a2 a3 : Int) (h : gH) : Prop := hV h 285 10 ≤ 500
def pre_215 : List Int → gH → Prop := fun xs h => match xs with
  | [a0, a1, a2, a3] => preb_215 a0 a1 a2 a3 h
  | _ => False
def postb_215 (r a0 a1 a2 a3 : Int) (h0 h : gH) : Prop := hV h 285 10 = hV h0 285 10 + 1 ∧ (r = 1 ∨ (r = 2 ∧ a3 = 61))
def post_215 : List Int → gH → gH → Prop := fun xs h0 h => match xs with
  | [r, a0, a1, a2, a3] => postb_215 r a0 a1 a2 a3 h0 h
  | _ => True
noncomputable def e_215 : vE := (215, s_215, pre_215, post_215)
noncomputable def L_215 : List vE := [e_213]
def cs_215 : List vC := [(46, [(0, (3, 12, 285, 0)), (1, (0, 0, 2000, 0)), (2, (0, -2147483648, 2147483647, 0)), (3, (0, -2147483648, 2147483647, 0)), (4, (0, 0, 14, 0))]), (173, [(0, (3, 12, 285, 0)), (1, (0, 0, 2000, 0)), (2, (0, -2147483648, 2147483647, 0)), (3, (0, -2147483648, 2147483647, 0)), (4, (0, 0, 14, 0)), (5, (0, 0, 53, 0))])]
def Ab_215_46 (a0 a1 a2 a3 x0 x1 x2 x3 x4 : Int) (h0 h : gH) : Prop := x1 = a1 ∧ x2 = a2 ∧ x3 = a3 ∧ (0 < x4 → a3 = 61) ∧ hV h 285 10 = hV h0 285 10
def mub_215_46 (a0 a1 a2 a3 x0 x1 x2 x3 x4 : Int) (h0 h : gH) : Nat := 1
def Ab_215_173 (a0 a1 a2 a3 x0 x1 x2 x3 x4 x5 : Int) (h0 h : gH) : Prop := x1 = a1 ∧ x2 = a2 ∧ x3 = a3 ∧ (0 < x4 → a3 = 61) ∧ hV h 285 10 = hV h0 285 10
def mub_215_173 (a0 a1 a2 a3 x0 x1 x2 x3 x4 x5 : Int) (h0 h : gH) : Nat := 0
def A_215 : Int → List Int → gH → gH → Prop := fun c xs h0 h => match c.toNat with
  | 46 => (match xs with
    | [a0, a1, a2, a3, x0, x1, x2, x3, x4] => Ab_215_46 a0 a1 a2 a3 x0 x1 x2 x3 x4 h0 h
    | _ => False)
  | 173 => (match xs with
    | [a0, a1, a2, a3, x0, x1, x2, x3, x4, x5] => Ab_215_173 a0 a1 a2 a3 x0 x1 x2 x3 x4 x5 h0 h
    | _ => False)
  | _ => True
def mu_215 : Int → List Int → gH → gH → Nat := fun c xs h0 h => match c.toNat with
  | 46 => 1
  | 173 => 0
  | _ => 0
theorem q_215_0 {n0 n1 n2 n3 n4 n5 n6 n7 n8 : Int} {H0 : gH} (f0 : n0 ≤ 2147483647) (f1 : (-2147483648) ≤ n0) (f2 : n1 ≤ 2147483647) (f3 : (-2147483648) ≤ n1) (f4 : n2 ≤ 2000) (f5 : 0 ≤ n2) (f6 : n3 = 285) (f7 : hWt T0 H0 ∧ preb_215 n3 n2 n1 n0 H0) (f8 : n4 = 61) (f9 : n0 = n4) (f10 : n5 = 61) (f11 : n1 ≠ n5) (f12 : n6 = 33) (f13 : n1 ≠ n6) (f14 : n7 = 60) (f15 : n1 ≠ n7) (f16 : n8 = 0) : Ab_215_46 n3 n2 n1 n0 n3 n2 n1 n0 n8 H0 H0 ∧ ∀ q, none = some q → mub_215_46 n3 n2 n1 n0 n3 n2 n1 n0 n8 H0 H0 < q := by
  unfold preb_215 at f7
  unfold Ab_215_46
  have e0 : (0 : Int) ≤ hV H0 285 10 ∧ hV H0 285 10 ≤ 501 := f7.1 285 10 _ _ kW_285_10
  have p0 := f7.2
  refine ⟨?_, fun q hq => ?_⟩
  · refine ⟨?_, ?_, ?_, ?_, ?_⟩ <;> first | assumption | omega | trivial
  · exact nomatch hq
def g_215_s_0 : vG := ([(0, [8], [], 0), (41, [2, 7], [], 0), (0, [7], [], 60), (41, [2, 6], [], 0), (0, [6], [], 33), (41, [2, 5], [], 0), (0, [5], [], 61), (40, [3, 4], [], 0), (0, [4], [], 61), (6000, [0, 1, 2, 3], [0], 0), (0, [0], [], 285), (90, [1], [], 0), (91, [1], [], 2000), (90, [2], [], -2147483648), (91, [2], [], 2147483647), (90, [3], [], -2147483648), (91, [3], [], 2147483647)], (4000, [0, 1, 2, 3, 8], [0], 46))
theorem c_215_s_0 : vOkm T0 (eP e_215 L_215 A_215 mu_215 none) 4 g_215_s_0 := vOk_inI fun ρ η f0 f1 f2 f3 f4 f5 f6 f7 f8 f9 f10 f11 f12 f13 f14 f15 f16 => q_215_0 (n0 := ρ 3) (n1 := ρ 2) (n2 := ρ 1) (n3 := ρ 0) (n4 := ρ 4) (n5 := ρ 5) (n6 := ρ 6) (n7 := ρ 7) (n8 := ρ 8) (H0 := η 0) f16 f15 f14 f13 f12 f11 f10 f9 f8 f7 f6 f5 f4 f3 f2 f1 f0
theorem q_215_1 {n0 n1 n2 n3 n4 n5 n6 n7 n8 : Int} {H0 : gH} (f0 : n0 ≤ 2147483647) (f1 : (-2147483648) ≤ n0) (f2 : n1 ≤ 2147483647) (f3 : (-2147483648) ≤ n1) (f4 : n2 ≤ 2000) (f5 : 0 ≤ n2) (f6 : n3 = 285) (f7 : hWt T0 H0 ∧ preb_215 n3 n2 n1 n0 H0) (f8 : n4 = 61) (f9 : n0 = n4) (f10 : n5 = 61) (f11 : n1 ≠ n5) (f12 : n6 = 33) (f13 : n1 ≠ n6) (f14 : n7 = 60) (f15 : n1 = n7) (f16 : n8 = 14) : Ab_215_46 n3 n2 n1 n0 n3 n2 n1 n0 n8 H0 H0 ∧ ∀ q, none = some q → mub_215_46 n3 n2 n1 n0 n3 n2 n1 n0 n8 H0 H0 < q := by
  unfold preb_215 at f7
  unfold Ab_215_46
  have e0 : (0 : Int) ≤ hV H0 285 10 ∧ hV H0 285 10 ≤ 501 := f7.1 285 10 _ _ kW_285_10
  have p0 := f7.2
  refine ⟨?_, fun q hq => ?_⟩
  · refine ⟨?_, ?_, ?_, ?_, ?_⟩ <;> first | assumption | omega | trivial
  · exact nomatch hq
def g_215_s_1 : vG := ([(0, [8], [], 14), (40, [2, 7], [], 0), (0, [7], [], 60), (41, [2, 6], [], 0), (0, [6], [], 33), (41, [2, 5], [], 0), (0, [5], [], 61), (40, [3, 4], [], 0), (0, [4], [], 61), (6000, [0, 1, 2, 3], [0], 0), (0, [0], [], 285), (90, [1], [], 0), (91, [1], [], 2000), (90, [2], [], -2147483648), (91, [2], [], 2147483647), (90, [3], [], -2147483648), (91, [3], [], 2147483647)], (4000, [0, 1, 2, 3, 8], [0], 46))
theorem c_215_s_1 : vOkm T0 (eP e_215 L_215 A_215 mu_215 none) 4 g_215_s_1 := vOk_inI fun ρ η f0 f1 f2 f3 f4 f5 f6 f7 f8 f9 f10 f11 f12 f13 f14 f15 f16 => q_215_1 (n0 := ρ 3) (n1 := ρ 2) (n2 := ρ 1) (n3 := ρ 0) (n4 := ρ 4) (n5 := ρ 5) (n6 := ρ 6) (n7 := ρ 7) (n8 := ρ 8) (H0 := η 0) f16 f15 f14 f13 f12 f11 f10 f9 f8 f7 f6 f5 f4 f3 f2 f1 f0
theorem q_215_2 {n0 n1 n2 n3 n4 n5 n6 n7 : Int} {H0 : gH} (f0 : n0 ≤ 2147483647) (f1 : (-2147483648) ≤ n0) (f2 : n1 ≤ 2147483647) (f3 : (-2147483648) ≤ n1) (f4 : n2 ≤ 2000) (f5 : 0 ≤ n2) (f6 : n3 = 285) (f7 : hWt T0 H0 ∧ preb_215 n3 n2 n1 n0 H0) (f8 : n4 = 61) (f9 : n0 = n4) (f10 : n5 = 61) (f11 : n1 ≠ n5) (f12 : n6 = 33) (f13 : n1 = n6) (f14 : n7 = 12) : Ab_215_46 n3 n2 n1 n0 n3 n2 n1 n0 n7 H0 H0 ∧ ∀ q, none = some q → mub_215_46 n3 n2 n1 n0 n3 n2 n1 n0 n7 H0 H0 < q := by
  unfold preb_215 at f7
  unfold Ab_215_46
  have e0 : (0 : Int) ≤ hV H0 285 10 ∧ hV H0 285 10 ≤ 501 := f7.1 285 10 _ _ kW_285_10
  have p0 := f7.2
  refine ⟨?_, fun q hq => ?_⟩
  · refine ⟨?_, ?_, ?_, ?_, ?_⟩ <;> first | assumption | omega | trivial
  · exact nomatch hq
def g_215_s_2 : vG := ([(0, [7], [], 12), (40, [2, 6], [], 0), (0, [6], [], 33), (41, [2, 5], [], 0), (0, [5], [], 61), (40, [3, 4], [], 0), (0, [4], [], 61), (6000, [0, 1, 2, 3], [0], 0), (0, [0], [], 285), (90, [1], [], 0), (91, [1], [], 2000), (90, [2], [], -2147483648), (91, [2], [], 2147483647), (90, [3], [], -2147483648), (91, [3], [], 2147483647)], (4000, [0, 1, 2, 3, 7], [0], 46))
theorem c_215_s_2 : vOkm T0 (eP e_215 L_215 A_215 mu_215 none) 4 g_215_s_2 := vOk_inI fun ρ η f0 f1 f2 f3 f4 f5 f6 f7 f8 f9 f10 f11 f12 f13 f14 => q_215_2 (n0 := ρ 3) (n1 := ρ 2) (n2 := ρ 1) (n3 := ρ 0) (n4 := ρ 4) (n5 := ρ 5) (n6 := ρ 6) (n7 := ρ 7) (H0 := η 0) f14 f13 f12 f11 f10 f9 f8 f7 f6 f5 f4 f3 f2 f1 f0
theorem q_215_3 {n0 n1 n2 n3 n4 n5 n6 : Int} {H0 : gH} (f0 : n0 ≤ 2147483647) (f1 : (-2147483648) ≤ n0) (f2 : n1 ≤ 2147483647) (f3 : (-2147483648) ≤ n1) (f4 : n2 ≤ 2000) (f5 : 0 ≤ n2) (f6 : n3 = 285) (f7 : hWt T0 H0 ∧ preb_215 n3 n2 n1 n0 H0) (f8 : n4 = 61) (f9 : n0 = n4) (f10 : n5 = 61) (f11 : n1 = n5) (f12 : n6 = 11) : Ab_215_46 n3 n2 n1 n0 n3 n2 n1 n0 n6 H0 H0 ∧ ∀ q, none = some q → mub_215_46 n3 n2 n1 n0 n3 n2 n1 n0 n6 H0 H0 < q := by
  unfold preb_215 at f7
  unfold Ab_215_46
  have e0 : (0 : Int) ≤ hV H0 285 10 ∧ hV H0 285 10 ≤ 501 := f7.1 285 10 _ _ kW_285_10
  have p0 := f7.2
  refine ⟨?_, fun q hq => ?_⟩
  · refine ⟨?_, ?_, ?_, ?_, ?_⟩ <;> first | assumption | omega | trivial
  · exact nomatch hq
def g_215_s_3 : vG := ([(0, [6], [], 11), (40, [2, 5], [], 0), (0, [5], [], 61), (40, [3, 4], [], 0), (0, [4], [], 61), (6000, [0, 1, 2, 3], [0], 0), (0, [0], [], 285), (90, [1], [], 0), (91, [1], [], 2000), (90, [2], [], -2147483648), (91, [2], [], 2147483647), (90, [3], [], -2147483648), (91, [3], [], 2147483647)], (4000, [0, 1, 2, 3, 6], [0], 46))
theorem c_215_s_3 : vOkm T0 (eP e_215 L_215 A_215 mu_215 none) 4 g_215_s_3 := vOk_inI fun ρ η f0 f1 f2 f3 f4 f5 f6 f7 f8 f9 f10 f11 f12 => q_215_3 (n0 := ρ 3) (n1 := ρ 2) (n2 := ρ 1) (n3 := ρ 0) (n4 := ρ 4) (n5 := ρ 5) (n6 := ρ 6) (H0 := η 0) f12 f11 f10 f9 f8 f7 f6 f5 f4 f3 f2 f1 f0
theorem q_215_4 {n0 n1 n2 n3 n4 n5 : Int} {H0 : gH} (f0 : n0 ≤ 2147483647) (f1 : (-2147483648) ≤ n0) (f2 : n1 ≤ 2147483647) (f3 : (-2147483648) ≤ n1) (f4 : n2 ≤ 2000) (f5 : 0 ≤ n2) (f6 : n3 = 285) (f7 : hWt T0 H0 ∧ preb_215 n3 n2 n1 n0 H0) (f8 : n4 = 61) (f9 : n0 ≠ n4) (f10 : n5 = 0) : Ab_215_46 n3 n2 n1 n0 n3 n2 n1 n0 n5 H0 H0 ∧ ∀ q, none = some q → mub_215_46 n3 n2 n1 n0 n3 n2 n1 n0 n5 H0 H0 < q := by
  unfold preb_215 at f7
  unfold Ab_215_46
  have e0 : (0 : Int) ≤ hV H0 285 10 ∧ hV H0 285 10 ≤ 501 := f7.1 285 10 _ _ kW_285_10
  have p0 := f7.2
  refine ⟨?_, fun q hq => ?_⟩
  · refine ⟨?_, ?_, ?_, ?_, ?_⟩ <;> first | assumption | omega | trivial
  · exact nomatch hq
def g_215_s_4 : vG := ([(0, [5], [], 0), (41, [3, 4], [], 0), (0, [4], [], 61), (6000, [0, 1, 2, 3], [0], 0), (0, [0], [], 285), (90, [1], [], 0), (91, [1], [], 2000), (90, [2], [], -2147483648), (91, [2], [], 2147483647), (90, [3], [], -2147483648), (91, [3], [], 2147483647)], (4000, [0, 1, 2, 3, 5], [0], 46))
theorem c_215_s_4 : vOkm T0 (eP e_215 L_215 A_215 mu_215 none) 4 g_215_s_4 := vOk_inI fun ρ η f0 f1 f2 f3 f4 f5 f6 f7 f8 f9 f10 => q_215_4 (n0 := ρ 3) (n1 := ρ 2) (n2 := ρ 1) (n3 := ρ 0) (n4 := ρ 4) (n5 := ρ 5) (H0 := η 0) f10 f9 f8 f7 f6 f5 f4 f3 f2 f1 f0
def p_215_s : List vG := [g_215_s_0,
  g_215_s_1,
  g_215_s_2,
  g_215_s_3,
  g_215_s_4]
theorem r_215_s : vCovO false (eR0 e_215 L_215 cs_215 2000) p_215_s = true := by decide +kernel
theorem q_215_5 {q0 : Nat} {n0 n1 n2 n3 n4 n5 n6 n7 n8 n9 n10 n11 n12 n13 n14 n15 n16 n17 n18 : Int} {H0 H1 : gH} (f0 : n0 ≤ 14) (f1 : 0 ≤ n0) (f2 : n1 ≤ 2147483647) (f3 : (-2147483648) ≤ n1) (f4 : n2 ≤ 2147483647) (f5 : (-2147483648) ≤ n2) (f6 : n3 ≤ 2000) (f7 : 0 ≤ n3) (f8 : n4 = 285) (f9 : n5 ≤ 2147483647) (f10 : (-2147483648) ≤ n5) (f11 : n6 ≤ 2147483647) (f12 : (-2147483648) ≤ n6) (f13 : n7 ≤ 2000) (f14 : 0 ≤ n7) (f15 : n8 = 285) (f16 : (hLe T0 H0 H1 ∧ hFr s_215.2.2.2.2 H0 H1 ∧ hWt T0 H1) ∧ (Ab_215_46 n8 n7 n6 n5 n4 n3 n2 n1 n0 H0 H1 ∧ preb_215 n8 n7 n6 n5 H0) ∧ some q0 = some (mub_215_46 n8 n7 n6 n5 n4 n3 n2 n1 n0 H0 H1)) (f17 : n9 = 3) (f18 : n0 ≤ 0) (f19 : n10 = 59) (f20 : n2 ≠ n10) (f21 : n11 = 40) (f22 : n2 ≠ n11) (f23 : n12 = 41) (f24 : n2 ≠ n12) (f25 : n13 = 43) (f26 : n2 ≠ n13) (f27 : n14 = 45) (f28 : n2 ≠ n14) (f29 : n15 = 42) (f30 : n2 ≠ n15) (f31 : n16 = 60) (f32 : n2 ≠ n16) (f33 : n17 = 44) (f34 : n2 ≠ n17) (f35 : n18 = 47) (f36 : n2 ≠ n18) : Ab_215_173 n8 n7 n6 n5 n4 n3 n2 n1 n0 n9 H0 H1 ∧ ∀ q, some q0 = some q → mub_215_173 n8 n7 n6 n5 n4 n3 n2 n1 n0 n9 H0 H1 < q := by
  have g4 := f16.2.1.1
  unfold Ab_215_46 at g4
  have g3 := f16.2.1.2
  unfold preb_215 at g3
  have g5 := Option.some.inj f16.2.2
  unfold mub_215_46 at g5
  unfold Ab_215_173
  unfold mub_215_173
  have e0 : (0 : Int) ≤ hV H1 285 10 ∧ hV H1 285 10 ≤ 501 := f16.1.2.2 285 10 _ _ kW_285_10
  have k0 := g4.1
  have k1 := g4.2.1
  have k2 := g4.2.2.1
  have y0 := g4.2.2.2.1
  have y1 := g4.2.2.2.2
  have p0 := g3
  clear g3
  clear g4
  try subst k2
  try subst k1
  try subst k0
  refine ⟨?_, fun q hq => ?_⟩
  · refine ⟨?_, ?_, ?_, ?_, ?_⟩ <;> first | assumption | omega | trivial
  · have g6 := Option.some.inj hq
    subst g6
    omega
def g_215_46_0 : vG := ([(41, [6, 18], [], 0), (0, [18], [], 47), (41, [6, 17], [], 0), (0, [17], [], 44), (41, [6, 16], [], 0), (0, [16], [], 60), (41, [6, 15], [], 0), (0, [15], [], 42), (41, [6, 14], [], 0), (0, [14], [], 45), (41, [6, 13], [], 0), (0, [13], [], 43), (41, [6, 12], [], 0), (0, [12], [], 41), (41, [6, 11], [], 0), (0, [11], [], 40), (41, [6, 10], [], 0), (0, [10], [], 59), (35, [8], [], 0), (0, [9], [], 3), (5000, [0, 1, 2, 3, 4, 5, 6, 7, 8], [0, 1], 46), (0, [0], [], 285), (90, [1], [], 0), (91, [1], [], 2000), (90, [2], [], -2147483648), (91, [2], [], 2147483647), (90, [3], [], -2147483648), (91, [3], [], 2147483647), (0, [4], [], 285), (90, [5], [], 0), (91, [5], [], 2000), (90, [6], [], -2147483648), (91, [6], [], 2147483647), (90, [7], [], -2147483648), (91, [7], [], 2147483647), (90, [8], [], 0), (91, [8], [], 14)], (4000, [4, 5, 6, 7, 8, 9], [1], 173))
theorem c_215_46_0 {q0 : Nat} : vOkm T0 (eP e_215 L_215 A_215 mu_215 (some q0)) 4 g_215_46_0 := vOk_inI fun ρ η f0 f1 f2 f3 f4 f5 f6 f7 f8 f9 f10 f11 f12 f13 f14 f15 f16 f17 f18 f19 f20 f21 f22 f23 f24 f25 f26 f27 f28 f29 f30 f31 f32 f33 f34 f35 f36 => q_215_5 (q0 := q0) (n0 := ρ 8) (n1 := ρ 7) (n2 := ρ 6) (n3 := ρ 5) (n4 := ρ 4) (n5 := ρ 3) (n6 := ρ 2) (n7 := ρ 1) (n8 := ρ 0) (n9 := ρ 9) (n10 := ρ 10) (n11 := ρ 11) (n12 := ρ 12) (n13 := ρ 13) (n14 := ρ 14) (n15 := ρ 15) (n16 := ρ 16) (n17 := ρ 17) (n18 := ρ 18) (H0 := η 0) (H1 := η 1) f36 f35 f34 f33 f32 f31 f30 f29 f28 f27 f26 f25 f24 f23 f22 f21 f20 f19 f18 f17 f16 f15 f14 f13 f12 f11 f10 f9 f8 f7 f6 f5 f4 f3 f2 f1 f0
theorem q_215_6 {q0 : Nat} {n0 n1 n2 n3 n4 n5 n6 n7 n8 n9 n10 n11 n12 n13 n14 n15 n16 n17 n18 : Int} {H0 H1 : gH} (f0 : n0 ≤ 14) (f1 : 0 ≤ n0) (f2 : n1 ≤ 2147483647) (f3 : (-2147483648) ≤ n1) (f4 : n2 ≤ 2147483647) (f5 : (-2147483648) ≤ n2) (f6 : n3 ≤ 2000) (f7 : 0 ≤ n3) (f8 : n4 = 285) (f9 : n5 ≤ 2147483647) (f10 : (-2147483648) ≤ n5) (f11 : n6 ≤ 2147483647) (f12 : (-2147483648) ≤ n6) (f13 : n7 ≤ 2000) (f14 : 0 ≤ n7) (f15 : n8 = 285) (f16 : (hLe T0 H0 H1 ∧ hFr s_215.2.2.2.2 H0 H1 ∧ hWt T0 H1) ∧ (Ab_215_46 n8 n7 n6 n5 n4 n3 n2 n1 n0 H0 H1 ∧ preb_215 n8 n7 n6 n5 H0) ∧ some q0 = some (mub_215_46 n8 n7 n6 n5 n4 n3 n2 n1 n0 H0 H1)) (f17 : n0 ≤ 0) (f18 : n9 = 59) (f19 : n2 ≠ n9) (f20 : n10 = 40) (f21 : n2 ≠ n10) (f22 : n11 = 41) (f23 : n2 ≠ n11) (f24 : n12 = 43) (f25 : n2 ≠ n12) (f26 : n13 = 45) (f27 : n2 ≠ n13) (f28 : n14 = 42) (f29 : n2 ≠ n14) (f30 : n15 = 60) (f31 : n2 ≠ n15) (f32 : n16 = 44) (f33 : n2 ≠ n16) (f34 : n17 = 47) (f35 : n2 = n17) (f36 : n18 = 15) : Ab_215_173 n8 n7 n6 n5 n4 n3 n2 n1 n0 n18 H0 H1 ∧ ∀ q, some q0 = some q → mub_215_173 n8 n7 n6 n5 n4 n3 n2 n1 n0 n18 H0 H1 < q := by
  have g4 := f16.2.1.1
  unfold Ab_215_46 at g4
  have g3 := f16.2.1.2
  unfold preb_215 at g3
  have g5 := Option.some.inj f16.2.2
  unfold mub_215_46 at g5
  unfold Ab_215_173
  unfold mub_215_173
  have e0 : (0 : Int) ≤ hV H1 285 10 ∧ hV H1 285 10 ≤ 501 := f16.1.2.2 285 10 _ _ kW_285_10
  have k0 := g4.1
  have k1 := g4.2.1
  have k2 := g4.2.2.1
  have y0 := g4.2.2.2.1
  have y1 := g4.2.2.2.2
  have p0 := g3
  clear g3
  clear g4
  try subst k2
  try subst k1
  try subst k0
  refine ⟨?_, fun q hq => ?_⟩
  · refine ⟨?_, ?_, ?_, ?_, ?_⟩ <;> first | assumption | omega | trivial
  · have g6 := Option.some.inj hq
    subst g6
    omega
def g_215_46_1 : vG := ([(0, [19], [], 15), (40, [6, 18], [], 0), (0, [18], [], 47), (41, [6, 17], [], 0), (0, [17], [], 44), (41, [6, 16], [], 0), (0, [16], [], 60), (41, [6, 15], [], 0), (0, [15], [], 42), (41, [6, 14], [], 0), (0, [14], [], 45), (41, [6, 13], [], 0), (0, [13], [], 43), (41, [6, 12], [], 0), (0, [12], [], 41), (41, [6, 11], [], 0), (0, [11], [], 40), (41, [6, 10], [], 0), (0, [10], [], 59), (35, [8], [], 0), (5000, [0, 1, 2, 3, 4, 5, 6, 7, 8], [0, 1], 46), (0, [0], [], 285), (90, [1], [], 0), (91, [1], [], 2000), (90, [2], [], -2147483648), (91, [2], [], 2147483647), (90, [3], [], -2147483648), (91, [3], [], 2147483647), (0, [4], [], 285), (90, [5], [], 0), (91, [5], [], 2000), (90, [6], [], -2147483648), (91, [6], [], 2147483647), (90, [7], [], -2147483648), (91, [7], [], 2147483647), (90, [8], [], 0), (91, [8], [], 14)], (4000, [4, 5, 6, 7, 8, 19], [1], 173))
theorem c_215_46_1 {q0 : Nat} : vOkm T0 (eP e_215 L_215 A_215 mu_215 (some q0)) 4 g_215_46_1 := vOk_inI fun ρ η f0 f1 f2 f3 f4 f5 f6 f7 f8 f9 f10 f11 f12 f13 f14 f15 f16 f17 f18 f19 f20 f21 f22 f23 f24 f25 f26 f27 f28 f29 f30 f31 f32 f33 f34 f35 f36 => q_215_6 (q0 := q0) (n0 := ρ 8) (n1 := ρ 7) (n2 := ρ 6) (n3 := ρ 5) (n4 := ρ 4) (n5 := ρ 3) (n6 := ρ 2) (n7 := ρ 1) (n8 := ρ 0) (n9 := ρ 10) (n10 := ρ 11) (n11 := ρ 12) (n12 := ρ 13) (n13 := ρ 14) (n14 := ρ 15) (n15 := ρ 16) (n16 := ρ 17) (n17 := ρ 18) (n18 := ρ 19) (H0 := η 0) (H1 := η 1) f36 f35 f34 f33 f32 f31 f30 f29 f28 f27 f26 f25 f24 f23 f22 f21 f20 f19 f18 f17 f16 f15 f14 f13 f12 f11 f10 f9 f8 f7 f6 f5 f4 f3 f2 f1 f0
theorem q_215_7 {q0 : Nat} {n0 n1 n2 n3 n4 n5 n6 n7 n8 n9 n10 n11 n12 n13 n14 n15 n16 n17 : Int} {H0 H1 : gH} (f0 : n0 ≤ 14) (f1 : 0 ≤ n0) (f2 : n1 ≤ 2147483647) (f3 : (-2147483648) ≤ n1) (f4 : n2 ≤ 2147483647) (f5 : (-2147483648) ≤ n2) (f6 : n3 ≤ 2000) (f7 : 0 ≤ n3) (f8 : n4 = 285) (f9 : n5 ≤ 2147483647) (f10 : (-2147483648) ≤ n5) (f11 : n6 ≤ 2147483647) (f12 : (-2147483648) ≤ n6) (f13 : n7 ≤ 2000) (f14 : 0 ≤ n7) (f15 : n8 = 285) (f16 : (hLe T0 H0 H1 ∧ hFr s_215.2.2.2.2 H0 H1 ∧ hWt T0 H1) ∧ (Ab_215_46 n8 n7 n6 n5 n4 n3 n2 n1 n0 H0 H1 ∧ preb_215 n8 n7 n6 n5 H0) ∧ some q0 = some (mub_215_46 n8 n7 n6 n5 n4 n3 n2 n1 n0 H0 H1)) (f17 : n0 ≤ 0) (f18 : n9 = 59) (f19 : n2 ≠ n9) (f20 : n10 = 40) (f21 : n2 ≠ n10) (f22 : n11 = 41) (f23 : n2 ≠ n11) (f24 : n12 = 43) (f25 : n2 ≠ n12) (f26 : n13 = 45) (f27 : n2 ≠ n13) (f28 : n14 = 42) (f29 : n2 ≠ n14) (f30 : n15 = 60) (f31 : n2 ≠ n15) (f32 : n16 = 44) (f33 : n2 = n16) (f34 : n17 = 5) : Ab_215_173 n8 n7 n6 n5 n4 n3 n2 n1 n0 n17 H0 H1 ∧ ∀ q, some q0 = some q → mub_215_173 n8 n7 n6 n5 n4 n3 n2 n1 n0 n17 H0 H1 < q := by
  have g4 := f16.2.1.1
  unfold Ab_215_46 at g4
  have g3 := f16.2.1.2
  unfold preb_215 at g3
  have g5 := Option.some.inj f16.2.2
  unfold mub_215_46 at g5
  unfold Ab_215_173
  unfold mub_215_173
  have e0 : (0 : Int) ≤ hV H1 285 10 ∧ hV H1 285 10 ≤ 501 := f16.1.2.2 285 10 _ _ kW_285_10
  have k0 := g4.1
  have k1 := g4.2.1
  have k2 := g4.2.2.1
  have y0 := g4.2.2.2.1
  have y1 := g4.2.2.2.2
  have p0 := g3
  clear g3
  clear g4
  try subst k2
  try subst k1
  try subst k0
  refine ⟨?_, fun q hq => ?_⟩
  · refine ⟨?_, ?_, ?_, ?_, ?_⟩ <;> first | assumption | omega | trivial
  · have g6 := Option.some.inj hq
    subst g6
    omega
def g_215_46_2 : vG := ([(0, [18], [], 5), (40, [6, 17], [], 0), (0, [17], [], 44), (41, [6, 16], [], 0), (0, [16], [], 60), (41, [6, 15], [], 0), (0, [15], [], 42), (41, [6, 14], [], 0), (0, [14], [], 45), (41, [6, 13], [], 0), (0, [13], [], 43), (41, [6, 12], [], 0), (0, [12], [], 41), (41, [6, 11], [], 0), (0, [11], [], 40), (41, [6, 10], [], 0), (0, [10], [], 59), (35, [8], [], 0), (5000, [0, 1, 2, 3, 4, 5, 6, 7, 8], [0, 1], 46), (0, [0], [], 285), (90, [1], [], 0), (91, [1], [], 2000), (90, [2], [], -2147483648), (91, [2], [], 2147483647), (90, [3], [], -2147483648), (91, [3], [], 2147483647), (0, [4], [], 285), (90, [5], [], 0), (91, [5], [], 2000), (90, [6], [], -2147483648), (91, [6], [], 2147483647), (90, [7], [], -2147483648), (91, [7], [], 2147483647), (90, [8], [], 0), (91, [8], [], 14)], (4000, [4, 5, 6, 7, 8, 18], [1], 173))
theorem c_215_46_2 {q0 : Nat} : vOkm T0 (eP e_215 L_215 A_215 mu_215 (some q0)) 4 g_215_46_2 := vOk_inI fun ρ η f0 f1 f2 f3 f4 f5 f6 f7 f8 f9 f10 f11 f12 f13 f14 f15 f16 f17 f18 f19 f20 f21 f22 f23 f24 f25 f26 f27 f28 f29 f30 f31 f32 f33 f34 => q_215_7 (q0 := q0) (n0 := ρ 8) (n1 := ρ 7) (n2 := ρ 6) (n3 := ρ 5) (n4 := ρ 4) (n5 := ρ 3) (n6 := ρ 2) (n7 := ρ 1) (n8 := ρ 0) (n9 := ρ 10) (n10 := ρ 11) (n11 := ρ 12) (n12 := ρ 13) (n13 := ρ 14) (n14 := ρ 15) (n15 := ρ 16) (n16 := ρ 17) (n17 := ρ 18) (H0 := η 0) (H1 := η 1) f34 f33 f32 f31 f30 f29 f28 f27 f26 f25 f24 f23 f22 f21 f20 f19 f18 f17 f16 f15 f14 f13 f12 f11 f10 f9 f8 f7 f6 f5 f4 f3 f2 f1 f0
theorem q_215_8 {q0 : Nat} {n0 n1 n2 n3 n4 n5 n6 n7 n8 n9 n10 n11 n12 n13 n14 n15 n16 : Int} {H0 H1 : gH} (f0 : n0 ≤ 14) (f1 : 0 ≤ n0) (f2 : n1 ≤ 2147483647) (f3 : (-2147483648) ≤ n1) (f4 : n2 ≤ 2147483647) (f5 : (-2147483648) ≤ n2) (f6 : n3 ≤ 2000) (f7 : 0 ≤ n3) (f8 : n4 = 285) (f9 : n5 ≤ 2147483647) (f10 : (-2147483648) ≤ n5) (f11 : n6 ≤ 2147483647) (f12 : (-2147483648) ≤ n6) (f13 : n7 ≤ 2000) (f14 : 0 ≤ n7) (f15 : n8 = 285) (f16 : (hLe T0 H0 H1 ∧ hFr s_215.2.2.2.2 H0 H1 ∧ hWt T0 H1) ∧ (Ab_215_46 n8 n7 n6 n5 n4 n3 n2 n1 n0 H0 H1 ∧ preb_215 n8 n7 n6 n5 H0) ∧ some q0 = some (mub_215_46 n8 n7 n6 n5 n4 n3 n2 n1 n0 H0 H1)) (f17 : n0 ≤ 0) (f18 : n9 = 59) (f19 : n2 ≠ n9) (f20 : n10 = 40) (f21 : n2 ≠ n10) (f22 : n11 = 41) (f23 : n2 ≠ n11) (f24 : n12 = 43) (f25 : n2 ≠ n12) (f26 : n13 = 45) (f27 : n2 ≠ n13) (f28 : n14 = 42) (f29 : n2 ≠ n14) (f30 : n15 = 60) (f31 : n2 = n15) (f32 : n16 = 13) : Ab_215_173 n8 n7 n6 n5 n4 n3 n2 n1 n0 n16 H0 H1 ∧ ∀ q, some q0 = some q → mub_215_173 n8 n7 n6 n5 n4 n3 n2 n1 n0 n16 H0 H1 < q := by
  have g4 := f16.2.1.1
  unfold Ab_215_46 at g4
  have g3 := f16.2.1.2
  unfold preb_215 at g3
  have g5 := Option.some.inj f16.2.2
  unfold mub_215_46 at g5
  unfold Ab_215_173
  unfold mub_215_173
  have e0 : (0 : Int) ≤ hV H1 285 10 ∧ hV H1 285 10 ≤ 501 := f16.1.2.2 285 10 _ _ kW_285_10
  have k0 := g4.1
  have k1 := g4.2.1
  have k2 := g4.2.2.1
  have y0 := g4.2.2.2.1
  have y1 := g4.2.2.2.2
  have p0 := g3
  clear g3
  clear g4
  try subst k2
  try subst k1
  try subst k0
  refine ⟨?_, fun q hq => ?_⟩
  · refine ⟨?_, ?_, ?_, ?_, ?_⟩ <;> first | assumption | omega | trivial
  · have g6 := Option.some.inj hq
    subst g6
    omega
def g_215_46_3 : vG := ([(0, [17], [], 13), (40, [6, 16], [], 0), (0, [16], [], 60), (41, [6, 15], [], 0), (0, [15], [], 42), (41, [6, 14], [], 0), (0, [14], [], 45), (41, [6, 13], [], 0), (0, [13], [], 43), (41, [6, 12], [], 0), (0, [12], [], 41), (41, [6, 11], [], 0), (0, [11], [], 40), (41, [6, 10], [], 0), (0, [10], [], 59), (35, [8], [], 0), (5000, [0, 1, 2, 3, 4, 5, 6, 7, 8], [0, 1], 46), (0, [0], [], 285), (90, [1], [], 0), (91, [1], [], 2000), (90, [2], [], -2147483648), (91, [2], [], 2147483647), (90, [3], [], -2147483648), (91, [3], [], 2147483647), (0, [4], [], 285), (90, [5], [], 0), (91, [5], [], 2000), (90, [6], [], -2147483648), (91, [6], [], 2147483647), (90, [7], [], -2147483648), (91, [7], [], 2147483647), (90, [8], [], 0), (91, [8], [], 14)], (4000, [4, 5, 6, 7, 8, 17], [1], 173))
theorem c_215_46_3 {q0 : Nat} : vOkm T0 (eP e_215 L_215 A_215 mu_215 (some q0)) 4 g_215_46_3 := vOk_inI fun ρ η f0 f1 f2 f3 f4 f5 f6 f7 f8 f9 f10 f11 f12 f13 f14 f15 f16 f17 f18 f19 f20 f21 f22 f23 f24 f25 f26 f27 f28 f29 f30 f31 f32 => q_215_8 (q0 := q0) (n0 := ρ 8) (n1 := ρ 7) (n2 := ρ 6) (n3 := ρ 5) (n4 := ρ 4) (n5 := ρ 3) (n6 := ρ 2) (n7 := ρ 1) (n8 := ρ 0) (n9 := ρ 10) (n10 := ρ 11) (n11 := ρ 12) (n12 := ρ 13) (n13 := ρ 14) (n14 := ρ 15) (n15 := ρ 16) (n16 := ρ 17) (H0 := η 0) (H1 := η 1) f32 f31 f30 f29 f28 f27 f26 f25 f24 f23 f22 f21 f20 f19 f18 f17 f16 f15 f14 f13 f12 f11 f10 f9 f8 f7 f6 f5 f4 f3 f2 f1 f0
theorem q_215_9 {q0 : Nat} {n0 n1 n2 n3 n4 n5 n6 n7 n8 n9 n10 n11 n12 n13 n14 n15 : Int} {H0 H1 : gH} (f0 : n0 ≤ 14) (f1 : 0 ≤ n0) (f2 : n1 ≤ 2147483647) (f3 : (-2147483648) ≤ n1) (f4 : n2 ≤ 2147483647) (f5 : (-2147483648) ≤ n2) (f6 : n3 ≤ 2000) (f7 : 0 ≤ n3) (f8 : n4 = 285) (f9 : n5 ≤ 2147483647) (f10 : (-2147483648) ≤ n5) (f11 : n6 ≤ 2147483647) (f12 : (-2147483648) ≤ n6) (f13 : n7 ≤ 2000) (f14 : 0 ≤ n7) (f15 : n8 = 285) (f16 : (hLe T0 H0 H1 ∧ hFr s_215.2.2.2.2 H0 H1 ∧ hWt T0 H1) ∧ (Ab_215_46 n8 n7 n6 n5 n4 n3 n2 n1 n0 H0 H1 ∧ preb_215 n8 n7 n6 n5 H0) ∧ some q0 = some (mub_215_46 n8 n7 n6 n5 n4 n3 n2 n1 n0 H0 H1)) (f17 : n0 ≤ 0) (f18 : n9 = 59) (f19 : n2 ≠ n9) (f20 : n10 = 40) (f21 : n2 ≠ n10) (f22 : n11 = 41) (f23 : n2 ≠ n11) (f24 : n12 = 43) (f25 : n2 ≠ n12) (f26 : n13 = 45) (f27 : n2 ≠ n13) (f28 : n14 = 42) (f29 : n2 = n14) (f30 : n15 = 10) : Ab_215_173 n8 n7 n6 n5 n4 n3 n2 n1 n0 n15 H0 H1 ∧ ∀ q, some q0 = some q → mub_215_173 n8 n7 n6 n5 n4 n3 n2 n1 n0 n15 H0 H1 < q := by
  have g4 := f16.2.1.1
  unfold Ab_215_46 at g4
  have g3 := f16.2.1.2
  unfold preb_215 at g3
  have g5 := Option.some.inj f16.2.2
  unfold mub_215_46 at g5
  unfold Ab_215_173
  unfold mub_215_173
  have e0 : (0 : Int) ≤ hV H1 285 10 ∧ hV H1 285 10 ≤ 501 := f16.1.2.2 285 10 _ _ kW_285_10
  have k0 := g4.1
  have k1 := g4.2.1
  have k2 := g4.2.2.1
  have y0 := g4.2.2.2.1
  have y1 := g4.2.2.2.2
  have p0 := g3
  clear g3
  clear g4
  try subst k2
  try subst k1
  try subst k0
  refine ⟨?_, fun q hq => ?_⟩
  · refine ⟨?_, ?_, ?_, ?_, ?_⟩ <;> first | assumption | omega | trivial
  · have g6 := Option.some.inj hq
    subst g6
    omega
def g_215_46_4 : vG := ([(0, [16], [], 10), (40, [6, 15], [], 0), (0, [15], [], 42), (41, [6, 14], [], 0), (0, [14], [], 45), (41, [6, 13], [], 0), (0, [13], [], 43), (41, [6, 12], [], 0), (0, [12], [], 41), (41, [6, 11], [], 0), (0, [11], [], 40), (41, [6, 10], [], 0), (0, [10], [], 59), (35, [8], [], 0), (5000, [0, 1, 2, 3, 4, 5, 6, 7, 8], [0, 1], 46), (0, [0], [], 285), (90, [1], [], 0), (91, [1], [], 2000), (90, [2], [], -2147483648), (91, [2], [], 2147483647), (90, [3], [], -2147483648), (91, [3], [], 2147483647), (0, [4], [], 285), (90, [5], [], 0), (91, [5], [], 2000), (90, [6], [], -2147483648), (91, [6], [], 2147483647), (90, [7], [], -2147483648), (91, [7], [], 2147483647), (90, [8], [], 0), (91, [8], [], 14)], (4000, [4, 5, 6, 7, 8, 16], [1], 173))
theorem c_215_46_4 {q0 : Nat} : vOkm T0 (eP e_215 L_215 A_215 mu_215 (some q0)) 4 g_215_46_4 := vOk_inI fun ρ η f0 f1 f2 f3 f4 f5 f6 f7 f8 f9 f10 f11 f12 f13 f14 f15 f16 f17 f18 f19 f20 f21 f22 f23 f24 f25 f26 f27 f28 f29 f30 => q_215_9 (q0 := q0) (n0 := ρ 8) (n1 := ρ 7) (n2 := ρ 6) (n3 := ρ 5) (n4 := ρ 4) (n5 := ρ 3) (n6 := ρ 2) (n7 := ρ 1) (n8 := ρ 0) (n9 := ρ 10) (n10 := ρ 11) (n11 := ρ 12) (n12 := ρ 13) (n13 := ρ 14) (n14 := ρ 15) (n15 := ρ 16) (H0 := η 0) (H1 := η 1) f30 f29 f28 f27 f26 f25 f24 f23 f22 f21 f20 f19 f18 f17 f16 f15 f14 f13 f12 f11 f10 f9 f8 f7 f6 f5 f4 f3 f2 f1 f0
theorem q_215_10 {q0 : Nat} {n0 n1 n2 n3 n4 n5 n6 n7 n8 n9 n10 n11 n12 n13 n14 : Int} {H0 H1 : gH} (f0 : n0 ≤ 14) (f1 : 0 ≤ n0) (f2 : n1 ≤ 2147483647) (f3 : (-2147483648) ≤ n1) (f4 : n2 ≤ 2147483647) (f5 : (-2147483648) ≤ n2) (f6 : n3 ≤ 2000) (f7 : 0 ≤ n3) (f8 : n4 = 285) (f9 : n5 ≤ 2147483647) (f10 : (-2147483648) ≤ n5) (f11 : n6 ≤ 2147483647) (f12 : (-2147483648) ≤ n6) (f13 : n7 ≤ 2000) (f14 : 0 ≤ n7) (f15 : n8 = 285) (f16 : (hLe T0 H0 H1 ∧ hFr s_215.2.2.2.2 H0 H1 ∧ hWt T0 H1) ∧ (Ab_215_46 n8 n7 n6 n5 n4 n3 n2 n1 n0 H0 H1 ∧ preb_215 n8 n7 n6 n5 H0) ∧ some q0 = some (mub_215_46 n8 n7 n6 n5 n4 n3 n2 n1 n0 H0 H1)) (f17 : n0 ≤ 0) (f18 : n9 = 59) (f19 : n2 ≠ n9) (f20 : n10 = 40) (f21 : n2 ≠ n10) (f22 : n11 = 41) (f23 : n2 ≠ n11) (f24 : n12 = 43) (f25 : n2 ≠ n12) (f26 : n13 = 45) (f27 : n2 = n13) (f28 : n14 = 9) : Ab_215_173 n8 n7 n6 n5 n4 n3 n2 n1 n0 n14 H0 H1 ∧ ∀ q, some q0 = some q → mub_215_173 n8 n7 n6 n5 n4 n3 n2 n1 n0 n14 H0 H1 < q := by
  have g4 := f16.2.1.1
  unfold Ab_215_46 at g4
  have g3 := f16.2.1.2
  unfold preb_215 at g3
  have g5 := Option.some.inj f16.2.2
  unfold mub_215_46 at g5
  unfold Ab_215_173
  unfold mub_215_173
  have e0 : (0 : Int) ≤ hV H1 285 10 ∧ hV H1 285 10 ≤ 501 := f16.1.2.2 285 10 _ _ kW_285_10
  have k0 := g4.1
  have k1 := g4.2.1
  have k2 := g4.2.2.1
  have y0 := g4.2.2.2.1
  have y1 := g4.2.2.2.2
  have p0 := g3
  clear g3
  clear g4
  try subst k2
  try subst k1
  try subst k0
  refine ⟨?_, fun q hq => ?_⟩
  · refine ⟨?_, ?_, ?_, ?_, ?_⟩ <;> first | assumption | omega | trivial
  · have g6 := Option.some.inj hq
    subst g6
    omega
def g_215_46_5 : vG := ([(0, [15], [], 9), (40, [6, 14], [], 0), (0, [14], [], 45), (41, [6, 13], [], 0), (0, [13], [], 43), (41, [6, 12], [], 0), (0, [12], [], 41), (41, [6, 11], [], 0), (0, [11], [], 40), (41, [6, 10], [], 0), (0, [10], [], 59), (35, [8], [], 0), (5000, [0, 1, 2, 3, 4, 5, 6, 7, 8], [0, 1], 46), (0, [0], [], 285), (90, [1], [], 0), (91, [1], [], 2000), (90, [2], [], -2147483648), (91, [2], [], 2147483647), (90, [3], [], -2147483648), (91, [3], [], 2147483647), (0, [4], [], 285), (90, [5], [], 0), (91, [5], [], 2000), (90, [6], [], -2147483648), (91, [6], [], 2147483647), (90, [7], [], -2147483648), (91, [7], [], 2147483647), (90, [8], [], 0), (91, [8], [], 14)], (4000, [4, 5, 6, 7, 8, 15], [1], 173))
theorem c_215_46_5 {q0 : Nat} : vOkm T0 (eP e_215 L_215 A_215 mu_215 (some q0)) 4 g_215_46_5 := vOk_inI fun ρ η f0 f1 f2 f3 f4 f5 f6 f7 f8 f9 f10 f11 f12 f13 f14 f15 f16 f17 f18 f19 f20 f21 f22 f23 f24 f25 f26 f27 f28 => q_215_10 (q0 := q0) (n0 := ρ 8) (n1 := ρ 7) (n2 := ρ 6) (n3 := ρ 5) (n4 := ρ 4) (n5 := ρ 3) (n6 := ρ 2) (n7 := ρ 1) (n8 := ρ 0) (n9 := ρ 10) (n10 := ρ 11) (n11 := ρ 12) (n12 := ρ 13) (n13 := ρ 14) (n14 := ρ 15) (H0 := η 0) (H1 := η 1) f28 f27 f26 f25 f24 f23 f22 f21 f20 f19 f18 f17 f16 f15 f14 f13 f12 f11 f10 f9 f8 f7 f6 f5 f4 f3 f2 f1 f0
theorem q_215_11 {q0 : Nat} {n0 n1 n2 n3 n4 n5 n6 n7 n8 n9 n10 n11 n12 n13 : Int} {H0 H1 : gH} (f0 : n0 ≤ 14) (f1 : 0 ≤ n0) (f2 : n1 ≤ 2147483647) (f3 : (-2147483648) ≤ n1) (f4 : n2 ≤ 2147483647) (f5 : (-2147483648) ≤ n2) (f6 : n3 ≤ 2000) (f7 : 0 ≤ n3) (f8 : n4 = 285) (f9 : n5 ≤ 2147483647) (f10 : (-2147483648) ≤ n5) (f11 : n6 ≤ 2147483647) (f12 : (-2147483648) ≤ n6) (f13 : n7 ≤ 2000) (f14 : 0 ≤ n7) (f15 : n8 = 285) (f16 : (hLe T0 H0 H1 ∧ hFr s_215.2.2.2.2 H0 H1 ∧ hWt T0 H1) ∧ (Ab_215_46 n8 n7 n6 n5 n4 n3 n2 n1 n0 H0 H1 ∧ preb_215 n8 n7 n6 n5 H0) ∧ some q0 = some (mub_215_46 n8 n7 n6 n5 n4 n3 n2 n1 n0 H0 H1)) (f17 : n0 ≤ 0) (f18 : n9 = 59) (f19 : n2 ≠ n9) (f20 : n10 = 40) (f21 : n2 ≠ n10) (f22 : n11 = 41) (f23 : n2 ≠ n11) (f24 : n12 = 43) (f25 : n2 = n12) (f26 : n13 = 8) : Ab_215_173 n8 n7 n6 n5 n4 n3 n2 n1 n0 n13 H0 H1 ∧ ∀ q, some q0 = some q → mub_215_173 n8 n7 n6 n5 n4 n3 n2 n1 n0 n13 H0 H1 < q := by
  have g4 := f16.2.1.1
  unfold Ab_215_46 at g4
  have g3 := f16.2.1.2
  unfold preb_215 at g3
  have g5 := Option.some.inj f16.2.2
  unfold mub_215_46 at g5
  unfold Ab_215_173
  unfold mub_215_173
  have e0 : (0 : Int) ≤ hV H1 285 10 ∧ hV H1 285 10 ≤ 501 := f16.1.2.2 285 10 _ _ kW_285_10
  have k0 := g4.1
  have k1 := g4.2.1
  have k2 := g4.2.2.1
  have y0 := g4.2.2.2.1
  have y1 := g4.2.2.2.2
  have p0 := g3
  clear g3
  clear g4
  try subst k2
  try subst k1
  try subst k0
  refine ⟨?_, fun q hq => ?_⟩
  · refine ⟨?_, ?_, ?_, ?_, ?_⟩ <;> first | assumption | omega | trivial
  · have g6 := Option.some.inj hq
    subst g6
    omega
def g_215_46_6 : vG := ([(0, [14], [], 8), (40, [6, 13], [], 0), (0, [13], [], 43), (41, [6, 12], [], 0), (0, [12], [], 41), (41, [6, 11], [], 0), (0, [11], [], 40), (41, [6, 10], [], 0), (0, [10], [], 59), (35, [8], [], 0), (5000, [0, 1, 2, 3, 4, 5, 6, 7, 8], [0, 1], 46), (0, [0], [], 285), (90, [1], [], 0), (91, [1], [], 2000), (90, [2], [], -2147483648), (91, [2], [], 2147483647), (90, [3], [], -2147483648), (91, [3], [], 2147483647), (0, [4], [], 285), (90, [5], [], 0), (91, [5], [], 2000), (90, [6], [], -2147483648), (91, [6], [], 2147483647), (90, [7], [], -2147483648), (91, [7], [], 2147483647), (90, [8], [], 0), (91, [8], [], 14)], (4000, [4, 5, 6, 7, 8, 14], [1], 173))
theorem c_215_46_6 {q0 : Nat} : vOkm T0 (eP e_215 L_215 A_215 mu_215 (some q0)) 4 g_215_46_6 := vOk_inI fun ρ η f0 f1 f2 f3 f4 f5 f6 f7 f8 f9 f10 f11 f12 f13 f14 f15 f16 f17 f18 f19 f20 f21 f22 f23 f24 f25 f26 => q_215_11 (q0 := q0) (n0 := ρ 8) (n1 := ρ 7) (n2 := ρ 6) (n3 := ρ 5) (n4 := ρ 4) (n5 := ρ 3) (n6 := ρ 2) (n7 := ρ 1) (n8 := ρ 0) (n9 := ρ 10) (n10 := ρ 11) (n11 := ρ 12) (n12 := ρ 13) (n13 := ρ 14) (H0 := η 0) (H1 := η 1) f26 f25 f24 f23 f22 f21 f20 f19 f18 f17 f16 f15 f14 f13 f12 f11 f10 f9 f8 f7 f6 f5 f4 f3 f2 f1 f0
theorem q_215_12 {q0 : Nat} {n0 n1 n2 n3 n4 n5 n6 n7 n8 n9 n10 n11 n12 : Int} {H0 H1 : gH} (f0 : n0 ≤ 14) (f1 : 0 ≤ n0) (f2 : n1 ≤ 2147483647) (f3 : (-2147483648) ≤ n1) (f4 : n2 ≤ 2147483647) (f5 : (-2147483648) ≤ n2) (f6 : n3 ≤ 2000) (f7 : 0 ≤ n3) (f8 : n4 = 285) (f9 : n5 ≤ 2147483647) (f10 : (-2147483648) ≤ n5) (f11 : n6 ≤ 2147483647) (f12 : (-2147483648) ≤ n6) (f13 : n7 ≤ 2000) (f14 : 0 ≤ n7) (f15 : n8 = 285) (f16 : (hLe T0 H0 H1 ∧ hFr s_215.2.2.2.2 H0 H1 ∧ hWt T0 H1) ∧ (Ab_215_46 n8 n7 n6 n5 n4 n3 n2 n1 n0 H0 H1 ∧ preb_215 n8 n7 n6 n5 H0) ∧ some q0 = some (mub_215_46 n8 n7 n6 n5 n4 n3 n2 n1 n0 H0 H1)) (f17 : n0 ≤ 0) (f18 : n9 = 59) (f19 : n2 ≠ n9) (f20 : n10 = 40) (f21 : n2 ≠ n10) (f22 : n11 = 41) (f23 : n2 = n11) (f24 : n12 = 7) : Ab_215_173 n8 n7 n6 n5 n4 n3 n2 n1 n0 n12 H0 H1 ∧ ∀ q, some q0 = some q → mub_215_173 n8 n7 n6 n5 n4 n3 n2 n1 n0 n12 H0 H1 < q := by
  have g4 := f16.2.1.1
  unfold Ab_215_46 at g4
  have g3 := f16.2.1.2
  unfold preb_215 at g3
  have g5 := Option.some.inj f16.2.2
  unfold mub_215_46 at g5
  unfold Ab_215_173
  unfold mub_215_173
  have e0 : (0 : Int) ≤ hV H1 285 10 ∧ hV H1 285 10 ≤ 501 := f16.1.2.2 285 10 _ _ kW_285_10
  have k0 := g4.1
  have k1 := g4.2.1
  have k2 := g4.2.2.1
  have y0 := g4.2.2.2.1
  have y1 := g4.2.2.2.2
  have p0 := g3
  clear g3
  clear g4
  try subst k2
  try subst k1
  try subst k0
  refine ⟨?_, fun q hq => ?_⟩
  · refine ⟨?_, ?_, ?_, ?_, ?_⟩ <;> first | assumption | omega | trivial
  · have g6 := Option.some.inj hq
    subst g6
    omega
def g_215_46_7 : vG := ([(0, [13], [], 7), (40, [6, 12], [], 0), (0, [12], [], 41), (41, [6, 11], [], 0), (0, [11], [], 40), (41, [6, 10], [], 0), (0, [10], [], 59), (35, [8], [], 0), (5000, [0, 1, 2, 3, 4, 5, 6, 7, 8], [0, 1], 46), (0, [0], [], 285), (90, [1], [], 0), (91, [1], [], 2000), (90, [2], [], -2147483648), (91, [2], [], 2147483647), (90, [3], [], -2147483648), (91, [3], [], 2147483647), (0, [4], [], 285), (90, [5], [], 0), (91, [5], [], 2000), (90, [6], [], -2147483648), (91, [6], [], 2147483647), (90, [7], [], -2147483648), (91, [7], [], 2147483647), (90, [8], [], 0), (91, [8], [], 14)], (4000, [4, 5, 6, 7, 8, 13], [1], 173))
theorem c_215_46_7 {q0 : Nat} : vOkm T0 (eP e_215 L_215 A_215 mu_215 (some q0)) 4 g_215_46_7 := vOk_inI fun ρ η f0 f1 f2 f3 f4 f5 f6 f7 f8 f9 f10 f11 f12 f13 f14 f15 f16 f17 f18 f19 f20 f21 f22 f23 f24 => q_215_12 (q0 := q0) (n0 := ρ 8) (n1 := ρ 7) (n2 := ρ 6) (n3 := ρ 5) (n4 := ρ 4) (n5 := ρ 3) (n6 := ρ 2) (n7 := ρ 1) (n8 := ρ 0) (n9 := ρ 10) (n10 := ρ 11) (n11 := ρ 12) (n12 := ρ 13) (H0 := η 0) (H1 := η 1) f24 f23 f22 f21 f20 f19 f18 f17 f16 f15 f14 f13 f12 f11 f10 f9 f8 f7 f6 f5 f4 f3 f2 f1 f0
theorem q_215_13 {q0 : Nat} {n0 n1 n2 n3 n4 n5 n6 n7 n8 n9 n10 n11 : Int} {H0 H1 : gH} (f0 : n0 ≤ 14) (f1 : 0 ≤ n0) (f2 : n1 ≤ 2147483647) (f3 : (-2147483648) ≤ n1) (f4 : n2 ≤ 2147483647) (f5 : (-2147483648) ≤ n2) (f6 : n3 ≤ 2000) (f7 : 0 ≤ n3) (f8 : n4 = 285) (f9 : n5 ≤ 2147483647) (f10 : (-2147483648) ≤ n5) (f11 : n6 ≤ 2147483647) (f12 : (-2147483648) ≤ n6) (f13 : n7 ≤ 2000) (f14 : 0 ≤ n7) (f15 : n8 = 285) (f16 : (hLe T0 H0 H1 ∧ hFr s_215.2.2.2.2 H0 H1 ∧ hWt T0 H1) ∧ (Ab_215_46 n8 n7 n6 n5 n4 n3 n2 n1 n0 H0 H1 ∧ preb_215 n8 n7 n6 n5 H0) ∧ some q0 = some (mub_215_46 n8 n7 n6 n5 n4 n3 n2 n1 n0 H0 H1)) (f17 : n0 ≤ 0) (f18 : n9 = 59) (f19 : n2 ≠ n9) (f20 : n10 = 40) (f21 : n2 = n10) (f22 : n11 = 6) : Ab_215_173 n8 n7 n6 n5 n4 n3 n2 n1 n0 n11 H0 H1 ∧ ∀ q, some q0 = some q → mub_215_173 n8 n7 n6 n5 n4 n3 n2 n1 n0 n11 H0 H1 < q := by
  have g4 := f16.2.1.1
  unfold Ab_215_46 at g4
  have g3 := f16.2.1.2
  unfold preb_215 at g3
  have g5 := Option.some.inj f16.2.2
  unfold mub_215_46 at g5
  unfold Ab_215_173
  unfold mub_215_173
  have e0 : (0 : Int) ≤ hV H1 285 10 ∧ hV H1 285 10 ≤ 501 := f16.1.2.2 285 10 _ _ kW_285_10
  have k0 := g4.1
  have k1 := g4.2.1
  have k2 := g4.2.2.1
  have y0 := g4.2.2.2.1
  have y1 := g4.2.2.2.2
  have p0 := g3
  clear g3
  clear g4
  try subst k2
  try subst k1
  try subst k0
  refine ⟨?_, fun q hq => ?_⟩
  · refine ⟨?_, ?_, ?_, ?_, ?_⟩ <;> first | assumption | omega | trivial
  · have g6 := Option.some.inj hq
    subst g6
    omega
def g_215_46_8 : vG := ([(0, [12], [], 6), (40, [6, 11], [], 0), (0, [11], [], 40), (41, [6, 10], [], 0), (0, [10], [], 59), (35, [8], [], 0), (5000, [0, 1, 2, 3, 4, 5, 6, 7, 8], [0, 1], 46), (0, [0], [], 285), (90, [1], [], 0), (91, [1], [], 2000), (90, [2], [], -2147483648), (91, [2], [], 2147483647), (90, [3], [], -2147483648), (91, [3], [], 2147483647), (0, [4], [], 285), (90, [5], [], 0), (91, [5], [], 2000), (90, [6], [], -2147483648), (91, [6], [], 2147483647), (90, [7], [], -2147483648), (91, [7], [], 2147483647), (90, [8], [], 0), (91, [8], [], 14)], (4000, [4, 5, 6, 7, 8, 12], [1], 173))
theorem c_215_46_8 {q0 : Nat} : vOkm T0 (eP e_215 L_215 A_215 mu_215 (some q0)) 4 g_215_46_8 := vOk_inI fun ρ η f0 f1 f2 f3 f4 f5 f6 f7 f8 f9 f10 f11 f12 f13 f14 f15 f16 f17 f18 f19 f20 f21 f22 => q_215_13 (q0 := q0) (n0 := ρ 8) (n1 := ρ 7) (n2 := ρ 6) (n3 := ρ 5) (n4 := ρ 4) (n5 := ρ 3) (n6 := ρ 2) (n7 := ρ 1) (n8 := ρ 0) (n9 := ρ 10) (n10 := ρ 11) (n11 := ρ 12) (H0 := η 0) (H1 := η 1) f22 f21 f20 f19 f18 f17 f16 f15 f14 f13 f12 f11 f10 f9 f8 f7 f6 f5 f4 f3 f2 f1 f0
theorem q_215_14 {q0 : Nat} {n0 n1 n2 n3 n4 n5 n6 n7 n8 n9 n10 : Int} {H0 H1 : gH} (f0 : n0 ≤ 14) (f1 : 0 ≤ n0) (f2 : n1 ≤ 2147483647) (f3 : (-2147483648) ≤ n1) (f4 : n2 ≤ 2147483647) (f5 : (-2147483648) ≤ n2) (f6 : n3 ≤ 2000) (f7 : 0 ≤ n3) (f8 : n4 = 285) (f9 : n5 ≤ 2147483647) (f10 : (-2147483648) ≤ n5) (f11 : n6 ≤ 2147483647) (f12 : (-2147483648) ≤ n6) (f13 : n7 ≤ 2000) (f14 : 0 ≤ n7) (f15 : n8 = 285) (f16 : (hLe T0 H0 H1 ∧ hFr s_215.2.2.2.2 H0 H1 ∧ hWt T0 H1) ∧ (Ab_215_46 n8 n7 n6 n5 n4 n3 n2 n1 n0 H0 H1 ∧ preb_215 n8 n7 n6 n5 H0) ∧ some q0 = some (mub_215_46 n8 n7 n6 n5 n4 n3 n2 n1 n0 H0 H1)) (f17 : n0 ≤ 0) (f18 : n9 = 59) (f19 : n2 = n9) (f20 : n10 = 4) : Ab_215_173 n8 n7 n6 n5 n4 n3 n2 n1 n0 n10 H0 H1 ∧ ∀ q, some q0 = some q → mub_215_173 n8 n7 n6 n5 n4 n3 n2 n1 n0 n10 H0 H1 < q := by
  have g4 := f16.2.1.1
  unfold Ab_215_46 at g4
  have g3 := f16.2.1.2
  unfold preb_215 at g3
  have g5 := Option.some.inj f16.2.2
  unfold mub_215_46 at g5
  unfold Ab_215_173
  unfold mub_215_173
  have e0 : (0 : Int) ≤ hV H1 285 10 ∧ hV H1 285 10 ≤ 501 := f16.1.2.2 285 10 _ _ kW_285_10
  have k0 := g4.1
  have k1 := g4.2.1
  have k2 := g4.2.2.1
  have y0 := g4.2.2.2.1
  have y1 := g4.2.2.2.2
  have p0 := g3
  clear g3
  clear g4
  try subst k2
  try subst k1
  try subst k0
  refine ⟨?_, fun q hq => ?_⟩
  · refine ⟨?_, ?_, ?_, ?_, ?_⟩ <;> first | assumption | omega | trivial
  · have g6 := Option.some.inj hq
    subst g6
    omega
def g_215_46_9 : vG := ([(0, [11], [], 4), (40, [6, 10], [], 0), (0, [10], [], 59), (35, [8], [], 0), (5000, [0, 1, 2, 3, 4, 5, 6, 7, 8], [0, 1], 46), (0, [0], [], 285), (90, [1], [], 0), (91, [1], [], 2000), (90, [2], [], -2147483648), (91, [2], [], 2147483647), (90, [3], [], -2147483648), (91, [3], [], 2147483647), (0, [4], [], 285), (90, [5], [], 0), (91, [5], [], 2000), (90, [6], [], -2147483648), (91, [6], [], 2147483647), (90, [7], [], -2147483648), (91, [7], [], 2147483647), (90, [8], [], 0), (91, [8], [], 14)], (4000, [4, 5, 6, 7, 8, 11], [1], 173))
theorem c_215_46_9 {q0 : Nat} : vOkm T0 (eP e_215 L_215 A_215 mu_215 (some q0)) 4 g_215_46_9 := vOk_inI fun ρ η f0 f1 f2 f3 f4 f5 f6 f7 f8 f9 f10 f11 f12 f13 f14 f15 f16 f17 f18 f19 f20 => q_215_14 (q0 := q0) (n0 := ρ 8) (n1 := ρ 7) (n2 := ρ 6) (n3 := ρ 5) (n4 := ρ 4) (n5 := ρ 3) (n6 := ρ 2) (n7 := ρ 1) (n8 := ρ 0) (n9 := ρ 10) (n10 := ρ 11) (H0 := η 0) (H1 := η 1) f20 f19 f18 f17 f16 f15 f14 f13 f12 f11 f10 f9 f8 f7 f6 f5 f4 f3 f2 f1 f0
theorem q_215_15 {q0 : Nat} {n0 n1 n2 n3 n4 n5 n6 n7 n8 : Int} {H0 H1 : gH} (f0 : n0 ≤ 14) (f1 : 0 ≤ n0) (f2 : n1 ≤ 2147483647) (f3 : (-2147483648) ≤ n1) (f4 : n2 ≤ 2147483647) (f5 : (-2147483648) ≤ n2) (f6 : n3 ≤ 2000) (f7 : 0 ≤ n3) (f8 : n4 = 285) (f9 : n5 ≤ 2147483647) (f10 : (-2147483648) ≤ n5) (f11 : n6 ≤ 2147483647) (f12 : (-2147483648) ≤ n6) (f13 : n7 ≤ 2000) (f14 : 0 ≤ n7) (f15 : n8 = 285) (f16 : (hLe T0 H0 H1 ∧ hFr s_215.2.2.2.2 H0 H1 ∧ hWt T0 H1) ∧ (Ab_215_46 n8 n7 n6 n5 n4 n3 n2 n1 n0 H0 H1 ∧ preb_215 n8 n7 n6 n5 H0) ∧ some q0 = some (mub_215_46 n8 n7 n6 n5 n4 n3 n2 n1 n0 H0 H1)) (f17 : 0 < n0) : Ab_215_173 n8 n7 n6 n5 n4 n3 n2 n1 n0 n0 H0 H1 ∧ ∀ q, some q0 = some q → mub_215_173 n8 n7 n6 n5 n4 n3 n2 n1 n0 n0 H0 H1 < q := by
  have g4 := f16.2.1.1
  unfold Ab_215_46 at g4
  have g3 := f16.2.1.2
  unfold preb_215 at g3
  have g5 := Option.some.inj f16.2.2
  unfold mub_215_46 at g5
  unfold Ab_215_173
  unfold mub_215_173
  have e0 : (0 : Int) ≤ hV H1 285 10 ∧ hV H1 285 10 ≤ 501 := f16.1.2.2 285 10 _ _ kW_285_10
  have k0 := g4.1
  have k1 := g4.2.1
  have k2 := g4.2.2.1
  have y0 := g4.2.2.2.1
  have y1 := g4.2.2.2.2
  have p0 := g3
  clear g3
  clear g4
  try subst k2
  try subst k1
  try subst k0
  refine ⟨?_, fun q hq => ?_⟩
  · refine ⟨?_, ?_, ?_, ?_, ?_⟩ <;> first | assumption | omega | trivial
  · have g6 := Option.some.inj hq
    subst g6
    omega
def g_215_46_10 : vG := ([(34, [8], [], 0), (5000, [0, 1, 2, 3, 4, 5, 6, 7, 8], [0, 1], 46), (0, [0], [], 285), (90, [1], [], 0), (91, [1], [], 2000), (90, [2], [], -2147483648), (91, [2], [], 2147483647), (90, [3], [], -2147483648), (91, [3], [], 2147483647), (0, [4], [], 285), (90, [5], [], 0), (91, [5], [], 2000), (90, [6], [], -2147483648), (91, [6], [], 2147483647), (90, [7], [], -2147483648), (91, [7], [], 2147483647), (90, [8], [], 0), (91, [8], [], 14)], (4000, [4, 5, 6, 7, 8, 8], [1], 173))
theorem c_215_46_10 {q0 : Nat} : vOkm T0 (eP e_215 L_215 A_215 mu_215 (some q0)) 4 g_215_46_10 := vOk_inI fun ρ η f0 f1 f2 f3 f4 f5 f6 f7 f8 f9 f10 f11 f12 f13 f14 f15 f16 f17 => q_215_15 (q0 := q0) (n0 := ρ 8) (n1 := ρ 7) (n2 := ρ 6) (n3 := ρ 5) (n4 := ρ 4) (n5 := ρ 3) (n6 := ρ 2) (n7 := ρ 1) (n8 := ρ 0) (H0 := η 0) (H1 := η 1) f17 f16 f15 f14 f13 f12 f11 f10 f9 f8 f7 f6 f5 f4 f3 f2 f1 f0
def p_215_46 : List vG := [g_215_46_0,
  g_215_46_1,
  g_215_46_2,
  g_215_46_3,
  g_215_46_4,
  g_215_46_5,
  g_215_46_6,
  g_215_46_7,
  g_215_46_8,
  g_215_46_9,
  g_215_46_10]
theorem r_215_46 : vCovO false (eRc e_215 L_215 cs_215 2000 (46, [(0, (3, 12, 285, 0)), (1, (0, 0, 2000, 0)), (2, (0, -2147483648, 2147483647, 0)), (3, (0, -2147483648, 2147483647, 0)), (4, (0, 0, 14, 0))])) p_215_46 = true := by decide +kernel
theorem q_215_16 {q0 : Nat} {n0 n1 n2 n3 n4 n5 n6 n7 n8 n9 n10 n11 : Int} {H0 H1 : gH} (f0 : n0 ≤ 53) (f1 : 0 ≤ n0) (f2 : n1 ≤ 14) (f3 : 0 ≤ n1) (f4 : n2 ≤ 2147483647) (f5 : (-2147483648) ≤ n2) (f6 : n3 ≤ 2147483647) (f7 : (-2147483648) ≤ n3) (f8 : n4 ≤ 2000) (f9 : 0 ≤ n4) (f10 : n5 = 285) (f11 : n6 ≤ 2147483647) (f12 : (-2147483648) ≤ n6) (f13 : n7 ≤ 2147483647) (f14 : (-2147483648) ≤ n7) (f15 : n8 ≤ 2000) (f16 : 0 ≤ n8) (f17 : n9 = 285) (f18 : (hLe T0 H0 H1 ∧ hFr s_215.2.2.2.2 H0 H1 ∧ hWt T0 H1) ∧ (Ab_215_173 n9 n8 n7 n6 n5 n4 n3 n2 n1 n0 H0 H1 ∧ preb_215 n9 n8 n7 n6 H0) ∧ some q0 = some (mub_215_173 n9 n8 n7 n6 n5 n4 n3 n2 n1 n0 H0 H1)) (f19 : n10 = 0) (f20 : n11 = 0) : preb_213 n5 n0 n4 n10 n11 H1 := by
  have g4 := f18.2.1.1
  unfold Ab_215_173 at g4
  have g3 := f18.2.1.2
  unfold preb_215 at g3
  unfold preb_213
  have e0 : (0 : Int) ≤ hV H1 285 10 ∧ hV H1 285 10 ≤ 501 := f18.1.2.2 285 10 _ _ kW_285_10
  have k0 := g4.1
  have k1 := g4.2.1
  have k2 := g4.2.2.1
  have y0 := g4.2.2.2.1
  have y1 := g4.2.2.2.2
  have p0 := g3
  clear g3
  clear g4
  try subst k2
  try subst k1
  try subst k0
  first | assumption | omega | trivial
def g_215_173_0 : vG := ([(0, [11], [], 0), (0, [10], [], 0), (5000, [0, 1, 2, 3, 4, 5, 6, 7, 8, 9], [0, 1], 173), (0, [0], [], 285), (90, [1], [], 0), (91, [1], [], 2000), (90, [2], [], -2147483648), (91, [2], [], 2147483647), (90, [3], [], -2147483648), (91, [3], [], 2147483647), (0, [4], [], 285), (90, [5], [], 0), (91, [5], [], 2000), (90, [6], [], -2147483648), (91, [6], [], 2147483647), (90, [7], [], -2147483648), (91, [7], [], 2147483647), (90, [8], [], 0), (91, [8], [], 14), (90, [9], [], 0), (91, [9], [], 53)], (2213, [4, 9, 5, 10, 11], [1], 0))
theorem c_215_173_0 {q0 : Nat} : vOkm T0 (eP e_215 L_215 A_215 mu_215 (some q0)) 4 g_215_173_0 := vOk_inI fun ρ η f0 f1 f2 f3 f4 f5 f6 f7 f8 f9 f10 f11 f12 f13 f14 f15 f16 f17 f18 f19 f20 => q_215_16 (q0 := q0) (n0 := ρ 9) (n1 := ρ 8) (n2 := ρ 7) (n3 := ρ 6) (n4 := ρ 5) (n5 := ρ 4) (n6 := ρ 3) (n7 := ρ 2) (n8 := ρ 1) (n9 := ρ 0) (n10 := ρ 10) (n11 := ρ 11) (H0 := η 0) (H1 := η 1) f20 f19 f18 f17 f16 f15 f14 f13 f12 f11 f10 f9 f8 f7 f6 f5 f4 f3 f2 f1 f0
theorem q_215_17 {q0 : Nat} {n0 n1 n2 n3 n4 n5 n6 n7 n8 n9 n10 n11 n12 : Int} {H0 H1 H2 : gH} (f0 : n0 ≤ 53) (f1 : 0 ≤ n0) (f2 : n1 ≤ 14) (f3 : 0 ≤ n1) (f4 : n2 ≤ 2147483647) (f5 : (-2147483648) ≤ n2) (f6 : n3 ≤ 2147483647) (f7 : (-2147483648) ≤ n3) (f8 : n4 ≤ 2000) (f9 : 0 ≤ n4) (f10 : n5 = 285) (f11 : n6 ≤ 2147483647) (f12 : (-2147483648) ≤ n6) (f13 : n7 ≤ 2147483647) (f14 : (-2147483648) ≤ n7) (f15 : n8 ≤ 2000) (f16 : 0 ≤ n8) (f17 : n9 = 285) (f18 : (hLe T0 H0 H1 ∧ hFr s_215.2.2.2.2 H0 H1 ∧ hWt T0 H1) ∧ (Ab_215_173 n9 n8 n7 n6 n5 n4 n3 n2 n1 n0 H0 H1 ∧ preb_215 n9 n8 n7 n6 H0) ∧ some q0 = some (mub_215_173 n9 n8 n7 n6 n5 n4 n3 n2 n1 n0 H0 H1)) (f19 : n10 = 0) (f20 : n11 = 0) (f21 : (hLe T0 H1 H2 ∧ hFr s_213.2.2.2.2 H1 H2 ∧ ((0 : Int) = 0 → H2.length = H1.length) ∧ hWt T0 H2) ∧ postb_213 n5 n0 n4 n10 n11 H1 H2) (f22 : n1 ≤ 0) (f23 : n12 = 1) : postb_215 n12 n9 n8 n7 n6 H0 H2 := by
  have g4 := f18.2.1.1
  unfold Ab_215_173 at g4
  have g3 := f18.2.1.2
  unfold preb_215 at g3
  unfold postb_213 at f21
  unfold postb_215
  have e0 : (0 : Int) ≤ hV H1 285 10 ∧ hV H1 285 10 ≤ 501 := f18.1.2.2 285 10 _ _ kW_285_10
  have e1 : (0 : Int) ≤ hV H2 285 10 ∧ hV H2 285 10 ≤ 501 := f21.1.2.2.2 285 10 _ _ kW_285_10
  have k0 := g4.1
  have k1 := g4.2.1
  have k2 := g4.2.2.1
  have y0 := g4.2.2.2.1
  have y1 := g4.2.2.2.2
  have p0 := g3
  have r0_0 := f21.2
  clear g3
  clear g4
  try subst k2
  try subst k1
  try subst k0
  refine ⟨?_, ?_⟩ <;> first | assumption | omega | trivial
def g_215_173_1 : vG := ([(0, [12], [], 1), (35, [8], [], 0), (1213, [4, 9, 5, 10, 11], [1, 2], 0), (0, [11], [], 0), (0, [10], [], 0), (5000, [0, 1, 2, 3, 4, 5, 6, 7, 8, 9], [0, 1], 173), (0, [0], [], 285), (90, [1], [], 0), (91, [1], [], 2000), (90, [2], [], -2147483648), (91, [2], [], 2147483647), (90, [3], [], -2147483648), (91, [3], [], 2147483647), (0, [4], [], 285), (90, [5], [], 0), (91, [5], [], 2000), (90, [6], [], -2147483648), (91, [6], [], 2147483647), (90, [7], [], -2147483648), (91, [7], [], 2147483647), (90, [8], [], 0), (91, [8], [], 14), (90, [9], [], 0), (91, [9], [], 53)], (3000, [12], [2], 192))
theorem c_215_173_1 {q0 : Nat} : vOkm T0 (eP e_215 L_215 A_215 mu_215 (some q0)) 4 g_215_173_1 := vOk_inI fun ρ η f0 f1 f2 f3 f4 f5 f6 f7 f8 f9 f10 f11 f12 f13 f14 f15 f16 f17 f18 f19 f20 f21 f22 f23 => q_215_17 (q0 := q0) (n0 := ρ 9) (n1 := ρ 8) (n2 := ρ 7) (n3 := ρ 6) (n4 := ρ 5) (n5 := ρ 4) (n6 := ρ 3) (n7 := ρ 2) (n8 := ρ 1) (n9 := ρ 0) (n10 := ρ 10) (n11 := ρ 11) (n12 := ρ 12) (H0 := η 0) (H1 := η 1) (H2 := η 2) f23 f22 f21 f20 f19 f18 f17 f16 f15 f14 f13 f12 f11 f10 f9 f8 f7 f6 f5 f4 f3 f2 f1 f0
theorem q_215_18 {q0 : Nat} {n0 n1 n2 n3 n4 n5 n6 n7 n8 n9 n10 n11 n12 : Int} {H0 H1 H2 : gH} (f0 : n0 ≤ 53) (f1 : 0 ≤ n0) (f2 : n1 ≤ 14) (f3 : 0 ≤ n1) (f4 : n2 ≤ 2147483647) (f5 : (-2147483648) ≤ n2) (f6 : n3 ≤ 2147483647) (f7 : (-2147483648) ≤ n3) (f8 : n4 ≤ 2000) (f9 : 0 ≤ n4) (f10 : n5 = 285) (f11 : n6 ≤ 2147483647) (f12 : (-2147483648) ≤ n6) (f13 : n7 ≤ 2147483647) (f14 : (-2147483648) ≤ n7) (f15 : n8 ≤ 2000) (f16 : 0 ≤ n8) (f17 : n9 = 285) (f18 : (hLe T0 H0 H1 ∧ hFr s_215.2.2.2.2 H0 H1 ∧ hWt T0 H1) ∧ (Ab_215_173 n9 n8 n7 n6 n5 n4 n3 n2 n1 n0 H0 H1 ∧ preb_215 n9 n8 n7 n6 H0) ∧ some q0 = some (mub_215_173 n9 n8 n7 n6 n5 n4 n3 n2 n1 n0 H0 H1)) (f19 : n10 = 0) (f20 : n11 = 0) (f21 : (hLe T0 H1 H2 ∧ hFr s_213.2.2.2.2 H1 H2 ∧ ((0 : Int) = 0 → H2.length = H1.length) ∧ hWt T0 H2) ∧ postb_213 n5 n0 n4 n10 n11 H1 H2) (f22 : 0 < n1) (f23 : n12 = 2) : postb_215 n12 n9 n8 n7 n6 H0 H2 := by
  have g4 := f18.2.1.1
  unfold Ab_215_173 at g4
  have g3 := f18.2.1.2
  unfold preb_215 at g3
  unfold postb_213 at f21
  unfold postb_215
  have e0 : (0 : Int) ≤ hV H1 285 10 ∧ hV H1 285 10 ≤ 501 := f18.1.2.2 285 10 _ _ kW_285_10
  have e1 : (0 : Int) ≤ hV H2 285 10 ∧ hV H2 285 10 ≤ 501 := f21.1.2.2.2 285 10 _ _ kW_285_10
  have k0 := g4.1
  have k1 := g4.2.1
  have k2 := g4.2.2.1
  have y0 := g4.2.2.2.1
  have y1 := g4.2.2.2.2
  have p0 := g3
  have r0_0 := f21.2
  clear g3
  clear g4
  try subst k2
  try subst k1
  try subst k0
  refine ⟨?_, ?_⟩ <;> first | assumption | omega | trivial
def g_215_173_2 : vG := ([(0, [12], [], 2), (34, [8], [], 0), (1213, [4, 9, 5, 10, 11], [1, 2], 0), (0, [11], [], 0), (0, [10], [], 0), (5000, [0, 1, 2, 3, 4, 5, 6, 7, 8, 9], [0, 1], 173), (0, [0], [], 285), (90, [1], [], 0), (91, [1], [], 2000), (90, [2], [], -2147483648), (91, [2], [], 2147483647), (90, [3], [], -2147483648), (91, [3], [], 2147483647), (0, [4], [], 285), (90, [5], [], 0), (91, [5], [], 2000), (90, [6], [], -2147483648), (91, [6], [], 2147483647), (90, [7], [], -2147483648), (91, [7], [], 2147483647), (90, [8], [], 0), (91, [8], [], 14), (90, [9], [], 0), (91, [9], [], 53)], (3000, [12], [2], 192))
theorem c_215_173_2 {q0 : Nat} : vOkm T0 (eP e_215 L_215 A_215 mu_215 (some q0)) 4 g_215_173_2 := vOk_inI fun ρ η f0 f1 f2 f3 f4 f5 f6 f7 f8 f9 f10 f11 f12 f13 f14 f15 f16 f17 f18 f19 f20 f21 f22 f23 => q_215_18 (q0 := q0) (n0 := ρ 9) (n1 := ρ 8) (n2 := ρ 7) (n3 := ρ 6) (n4 := ρ 5) (n5 := ρ 4) (n6 := ρ 3) (n7 := ρ 2) (n8 := ρ 1) (n9 := ρ 0) (n10 := ρ 10) (n11 := ρ 11) (n12 := ρ 12) (H0 := η 0) (H1 := η 1) (H2 := η 2) f23 f22 f21 f20 f19 f18 f17 f16 f15 f14 f13 f12 f11 f10 f9 f8 f7 f6 f5 f4 f3 f2 f1 f0
def p_215_173 : List vG := [g_215_173_0,
  g_215_173_1,
  g_215_173_2]
theorem r_215_173 : vCovO false (eRc e_215 L_215 cs_215 2000 (173, [(0, (3, 12, 285, 0)), (1, (0, 0, 2000, 0)), (2, (0, -2147483648, 2147483647, 0)), (3, (0, -2147483648, 2147483647, 0)), (4, (0, 0, 14, 0)), (5, (0, 0, 53, 0))])) p_215_173 = true := by decide +kernel
theorem m_215 (d : Nat) : eC e_215 (d + 2) := eC_ok (e := e_215) (L := L_215) (cs := cs_215) (n := 2000) (d := d + 1) (A := A_215) (μ := mu_215) (tp := false) (p0 := p_215_s) rfl ⟨m_213 d, trivial⟩ rfl (.inl rfl) (by decide +kernel) (fun z => nomatch z) r_215_s (allC c_215_s_0 (allC c_215_s_1 (allC c_215_s_2 (allC c_215_s_3 (allC c_215_s_4 allN))))) (allC (.inl ⟨p_215_46, r_215_46, fun q0 => (allC c_215_46_0 (allC c_215_46_1 (allC c_215_46_2 (allC c_215_46_3 (allC c_215_46_4 (allC c_215_46_5 (allC c_215_46_6 (allC c_215_46_7 (allC c_215_46_8 (allC c_215_46_9 (allC c_215_46_10 allN)))))))))))⟩) (allC (.inl ⟨p_215_173, r_215_173, fun q0 => (allC c_215_173_0 (allC c_215_173_1 (allC c_215_173_2 allN)))⟩) allN))
