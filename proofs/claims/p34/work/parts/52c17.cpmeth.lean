/-! CONTRACTS of the reference, sizes coupled (printed by wip/gen/fam17.py). -/
/- MixStageModel.isOwn (I)Z -/
noncomputable def s_257v : vM := ([(3, 12, 285, 0), (0, -2147483648, 2147483647, 0)], (0, 0, 1, 0), 0, 0, [])
def postb_257v (r a0 a1 : Int) (h0 h : gH) : Prop := (r = 1 ∧ 0 ≤ a1 ∧ a1 < hV h 285 64 ∧ hV h 328 ((a1).toNat) < 4 ∧ ¬ hV h 329 ((a1).toNat) = -1 ∧ 0 ≤ hV h 329 ((a1).toNat)) ∨ (r = 0 ∧ ¬ (0 ≤ a1 ∧ a1 < hV h 285 64 ∧ hV h 328 ((a1).toNat) < 4 ∧ ¬ hV h 329 ((a1).toNat) = -1))
def post_257v : List Int → gH → gH → Prop := fun xs h0 h => match xs with
  | [r, a0, a1] => postb_257v r a0 a1 h0 h
  | _ => True
noncomputable def e_257v : vE := (257, s_257v, pre0, post_257v)
noncomputable def L_257v : List vE := [e_250]
def cs_257v : List vC := []
def A_257v : Int → List Int → gH → gH → Prop := fun c xs h0 h => True
def mu_257v : Int → List Int → gH → gH → Nat := fun c xs h0 h => 0
theorem q_257v_0 {n0 n1 n2 n3 : Int} {H0 H1 : gH} (f0 : n0 ≤ 2147483647) (f1 : (-2147483648) ≤ n0) (f2 : n1 = 285) (f3 : hWt T0 H0 ∧ True) (f4 : n2 ≤ 1) (f5 : 0 ≤ n2) (f6 : (hLe T0 H0 H1 ∧ hFr s_250.2.2.2.2 H0 H1 ∧ ((0 : Int) = 0 → H1.length = H0.length) ∧ hWt T0 H1) ∧ postb_250 n2 n1 n0 H0 H1) (f7 : n2 = 0) (f8 : n3 = 0) : postb_257v n3 n1 n0 H0 H1 := by
  unfold postb_250 at f6
  unfold postb_257v
  have e1 : hV H1 285 64 = hV H0 285 64 := (f6.1.2.1.1 285 64 kF_250_285_64)
  have e2 : hV H1 328 = hV H0 328 := fRow f6.1.2.1 328 kR_250_328
  have e3 : hV H1 329 = hV H0 329 := fRow f6.1.2.1 329 kR_250_329
  have e4 : (0 : Int) ≤ hV H0 285 64 ∧ hV H0 285 64 ≤ 20 := bTo e1 (f6.1.2.2.2 285 64 _ _ kW_285_64)
  try simp only [e1] at f6
  try simp only [e1, e2, e3]
  have r0_0 := f6.2
  clear e1 e2 e3
  first | assumption | omega | trivial
def g_257v_s_0 : vG := ([(0, [3], [], 0), (30, [2], [], 0), (1250, [2, 0, 1], [0, 1], 0), (90, [2], [], 0), (91, [2], [], 1), (6000, [0, 1], [0], 0), (0, [0], [], 285), (90, [1], [], -2147483648), (91, [1], [], 2147483647)], (3000, [3], [1], 33))
theorem c_257v_s_0 : vOkm T0 (eP e_257v L_257v A_257v mu_257v none) 2 g_257v_s_0 := vOk_inI fun ρ η f0 f1 f2 f3 f4 f5 f6 f7 f8 => q_257v_0 (n0 := ρ 1) (n1 := ρ 0) (n2 := ρ 2) (n3 := ρ 3) (H0 := η 0) (H1 := η 1) f8 f7 f6 f5 f4 f3 f2 f1 f0
theorem q_257v_1 {n0 n1 n2 : Int} {H0 H1 : gH} (f0 : n0 ≤ 2147483647) (f1 : (-2147483648) ≤ n0) (f2 : n1 = 285) (f3 : hWt T0 H0 ∧ True) (f4 : n2 ≤ 1) (f5 : 0 ≤ n2) (f6 : (hLe T0 H0 H1 ∧ hFr s_250.2.2.2.2 H0 H1 ∧ ((0 : Int) = 0 → H1.length = H0.length) ∧ hWt T0 H1) ∧ postb_250 n2 n1 n0 H0 H1) (f7 : n2 ≠ 0) : 0 ≤ n0 ∧ n0 < 20 := by
  unfold postb_250 at f6
  have e1 : hV H1 285 64 = hV H0 285 64 := (f6.1.2.1.1 285 64 kF_250_285_64)
  have e2 : (0 : Int) ≤ hV H0 285 64 ∧ hV H0 285 64 ≤ 20 := bTo e1 (f6.1.2.2.2 285 64 _ _ kW_285_64)
  try simp only [e1] at f6
  have r0_0 := f6.2
  clear e1
  omega
def g_257v_s_1 : vG := ([(31, [2], [], 0), (1250, [2, 0, 1], [0, 1], 0), (90, [2], [], 0), (91, [2], [], 1), (6000, [0, 1], [0], 0), (0, [0], [], 285), (90, [1], [], -2147483648), (91, [1], [], 2147483647)], (70, [1], [], 20))
theorem c_257v_s_1 : vOkm T0 (eP e_257v L_257v A_257v mu_257v none) 2 g_257v_s_1 := vOk_inI fun ρ η f0 f1 f2 f3 f4 f5 f6 f7 => q_257v_1 (n0 := ρ 1) (n1 := ρ 0) (n2 := ρ 2) (H0 := η 0) (H1 := η 1) f7 f6 f5 f4 f3 f2 f1 f0
theorem q_257v_2 {n0 n1 n2 n3 n4 n5 n6 : Int} {H0 H1 : gH} (f0 : n0 ≤ 2147483647) (f1 : (-2147483648) ≤ n0) (f2 : n1 = 285) (f3 : hWt T0 H0 ∧ True) (f4 : n2 ≤ 1) (f5 : 0 ≤ n2) (f6 : (hLe T0 H0 H1 ∧ hFr s_250.2.2.2.2 H0 H1 ∧ ((0 : Int) = 0 → H1.length = H0.length) ∧ hWt T0 H1) ∧ postb_250 n2 n1 n0 H0 H1) (f7 : n2 ≠ 0) (f8 : n3 = 328) (f9 : n3 = hV H1 (n1).toNat 66) (f10 : n4 ≤ 6) (f11 : 0 ≤ n4) (f12 : n4 = hV H1 (n3).toNat (n0).toNat) (f13 : n5 = 4) (f14 : n5 ≤ n4) (f15 : n6 = 0) : postb_257v n6 n1 n0 H0 H1 := by
  unfold postb_250 at f6
  unfold postb_257v
  have e0 : hV H1 328 = hV H0 328 := fRow f6.1.2.1 328 kR_250_328
  have e1 : n4 = hV H0 328 (n0).toNat := (by rw [f8] at f12; exact f12 : n4 = hV H1 328 (n0).toNat).trans ((congrFun e0 _))
  have e3 : hV H1 285 64 = hV H0 285 64 := (f6.1.2.1.1 285 64 kF_250_285_64)
  have e4 : hV H1 329 = hV H0 329 := fRow f6.1.2.1 329 kR_250_329
  have e5 : (0 : Int) ≤ hV H0 285 64 ∧ hV H0 285 64 ≤ 20 := bTo e3 (f6.1.2.2.2 285 64 _ _ kW_285_64)
  try simp only [e3] at f6
  try simp only [e3, e0, e4]
  have r0_0 := f6.2
  clear f9 f12 e0 e3 e4
  subst e1
  first | assumption | omega | trivial
def g_257v_s_2 : vG := ([(0, [6], [], 0), (43, [4, 5], [], 0), (0, [5], [], 4), (22, [4, 3, 1], [1], 0), (90, [4], [], 0), (91, [4], [], 6), (20, [3, 0], [1], 66), (0, [3], [], 328), (31, [2], [], 0), (1250, [2, 0, 1], [0, 1], 0), (90, [2], [], 0), (91, [2], [], 1), (6000, [0, 1], [0], 0), (0, [0], [], 285), (90, [1], [], -2147483648), (91, [1], [], 2147483647)], (3000, [6], [1], 33))
theorem c_257v_s_2 : vOkm T0 (eP e_257v L_257v A_257v mu_257v none) 2 g_257v_s_2 := vOk_inI fun ρ η f0 f1 f2 f3 f4 f5 f6 f7 f8 f9 f10 f11 f12 f13 f14 f15 => q_257v_2 (n0 := ρ 1) (n1 := ρ 0) (n2 := ρ 2) (n3 := ρ 3) (n4 := ρ 4) (n5 := ρ 5) (n6 := ρ 6) (H0 := η 0) (H1 := η 1) f15 f14 f13 f12 f11 f10 f9 f8 f7 f6 f5 f4 f3 f2 f1 f0
def g_257v_s_3 : vG := ([(31, [2], [], 0), (1250, [2, 0, 1], [0, 1], 0), (90, [2], [], 0), (91, [2], [], 1), (6000, [0, 1], [0], 0), (0, [0], [], 285), (90, [1], [], -2147483648), (91, [1], [], 2147483647)], (70, [1], [], 20))
theorem c_257v_s_3 : vOkm T0 (eP e_257v L_257v A_257v mu_257v none) 2 g_257v_s_3 := vOk_inI fun ρ η f0 f1 f2 f3 f4 f5 f6 f7 => q_257v_1 (n0 := ρ 1) (n1 := ρ 0) (n2 := ρ 2) (H0 := η 0) (H1 := η 1) f7 f6 f5 f4 f3 f2 f1 f0
theorem q_257v_3 {n0 n1 n2 n3 n4 n5 n6 n7 n8 n9 : Int} {H0 H1 : gH} (f0 : n0 ≤ 2147483647) (f1 : (-2147483648) ≤ n0) (f2 : n1 = 285) (f3 : hWt T0 H0 ∧ True) (f4 : n2 ≤ 1) (f5 : 0 ≤ n2) (f6 : (hLe T0 H0 H1 ∧ hFr s_250.2.2.2.2 H0 H1 ∧ ((0 : Int) = 0 → H1.length = H0.length) ∧ hWt T0 H1) ∧ postb_250 n2 n1 n0 H0 H1) (f7 : n2 ≠ 0) (f8 : n3 = 328) (f9 : n3 = hV H1 (n1).toNat 66) (f10 : n4 ≤ 6) (f11 : 0 ≤ n4) (f12 : n4 = hV H1 (n3).toNat (n0).toNat) (f13 : n5 = 4) (f14 : n4 < n5) (f15 : n6 = 329) (f16 : n6 = hV H1 (n1).toNat 67) (f17 : n7 ≤ 240) (f18 : (-1) ≤ n7) (f19 : n7 = hV H1 (n6).toNat (n0).toNat) (f20 : n8 = (-1)) (f21 : n7 = n8) (f22 : n9 = 0) : postb_257v n9 n1 n0 H0 H1 := by
  unfold postb_250 at f6
  unfold postb_257v
  have e0 : hV H1 328 = hV H0 328 := fRow f6.1.2.1 328 kR_250_328
  have e1 : n4 = hV H0 328 (n0).toNat := (by rw [f8] at f12; exact f12 : n4 = hV H1 328 (n0).toNat).trans ((congrFun e0 _))
  have e2 : hV H1 329 = hV H0 329 := fRow f6.1.2.1 329 kR_250_329
  have e3 : n7 = hV H0 329 (n0).toNat := (by rw [f15] at f19; exact f19 : n7 = hV H1 329 (n0).toNat).trans ((congrFun e2 _))
  have e5 : hV H1 285 64 = hV H0 285 64 := (f6.1.2.1.1 285 64 kF_250_285_64)
  have e6 : (0 : Int) ≤ hV H0 285 64 ∧ hV H0 285 64 ≤ 20 := bTo e5 (f6.1.2.2.2 285 64 _ _ kW_285_64)
  try simp only [e5] at f6
  try simp only [e5, e0, e2]
  have r0_0 := f6.2
  clear f9 f12 f16 f19 e0 e2 e5
  subst e1
  subst e3
  first | assumption | omega | trivial
def g_257v_s_4 : vG := ([(0, [9], [], 0), (40, [7, 8], [], 0), (0, [8], [], -1), (22, [7, 6, 1], [1], 0), (90, [7], [], -1), (91, [7], [], 240), (20, [6, 0], [1], 67), (0, [6], [], 329), (42, [4, 5], [], 0), (0, [5], [], 4), (22, [4, 3, 1], [1], 0), (90, [4], [], 0), (91, [4], [], 6), (20, [3, 0], [1], 66), (0, [3], [], 328), (31, [2], [], 0), (1250, [2, 0, 1], [0, 1], 0), (90, [2], [], 0), (91, [2], [], 1), (6000, [0, 1], [0], 0), (0, [0], [], 285), (90, [1], [], -2147483648), (91, [1], [], 2147483647)], (3000, [9], [1], 33))
theorem c_257v_s_4 : vOkm T0 (eP e_257v L_257v A_257v mu_257v none) 2 g_257v_s_4 := vOk_inI fun ρ η f0 f1 f2 f3 f4 f5 f6 f7 f8 f9 f10 f11 f12 f13 f14 f15 f16 f17 f18 f19 f20 f21 f22 => q_257v_3 (n0 := ρ 1) (n1 := ρ 0) (n2 := ρ 2) (n3 := ρ 3) (n4 := ρ 4) (n5 := ρ 5) (n6 := ρ 6) (n7 := ρ 7) (n8 := ρ 8) (n9 := ρ 9) (H0 := η 0) (H1 := η 1) f22 f21 f20 f19 f18 f17 f16 f15 f14 f13 f12 f11 f10 f9 f8 f7 f6 f5 f4 f3 f2 f1 f0
theorem q_257v_4 {n0 n1 n2 n3 n4 n5 n6 n7 n8 n9 : Int} {H0 H1 : gH} (f0 : n0 ≤ 2147483647) (f1 : (-2147483648) ≤ n0) (f2 : n1 = 285) (f3 : hWt T0 H0 ∧ True) (f4 : n2 ≤ 1) (f5 : 0 ≤ n2) (f6 : (hLe T0 H0 H1 ∧ hFr s_250.2.2.2.2 H0 H1 ∧ ((0 : Int) = 0 → H1.length = H0.length) ∧ hWt T0 H1) ∧ postb_250 n2 n1 n0 H0 H1) (f7 : n2 ≠ 0) (f8 : n3 = 328) (f9 : n3 = hV H1 (n1).toNat 66) (f10 : n4 ≤ 6) (f11 : 0 ≤ n4) (f12 : n4 = hV H1 (n3).toNat (n0).toNat) (f13 : n5 = 4) (f14 : n4 < n5) (f15 : n6 = 329) (f16 : n6 = hV H1 (n1).toNat 67) (f17 : n7 ≤ 240) (f18 : (-1) ≤ n7) (f19 : n7 = hV H1 (n6).toNat (n0).toNat) (f20 : n8 = (-1)) (f21 : n7 ≠ n8) (f22 : n9 = 1) : postb_257v n9 n1 n0 H0 H1 := by
  unfold postb_250 at f6
  unfold postb_257v
  have e0 : hV H1 328 = hV H0 328 := fRow f6.1.2.1 328 kR_250_328
  have e1 : n4 = hV H0 328 (n0).toNat := (by rw [f8] at f12; exact f12 : n4 = hV H1 328 (n0).toNat).trans ((congrFun e0 _))
  have e2 : hV H1 329 = hV H0 329 := fRow f6.1.2.1 329 kR_250_329
  have e3 : n7 = hV H0 329 (n0).toNat := (by rw [f15] at f19; exact f19 : n7 = hV H1 329 (n0).toNat).trans ((congrFun e2 _))
  have e5 : hV H1 285 64 = hV H0 285 64 := (f6.1.2.1.1 285 64 kF_250_285_64)
  have e6 : (0 : Int) ≤ hV H0 285 64 ∧ hV H0 285 64 ≤ 20 := bTo e5 (f6.1.2.2.2 285 64 _ _ kW_285_64)
  try simp only [e5] at f6
  try simp only [e5, e0, e2]
  have r0_0 := f6.2
  clear f9 f12 f16 f19 e0 e2 e5
  subst e1
  subst e3
  first | assumption | omega | trivial
def g_257v_s_5 : vG := ([(0, [9], [], 1), (41, [7, 8], [], 0), (0, [8], [], -1), (22, [7, 6, 1], [1], 0), (90, [7], [], -1), (91, [7], [], 240), (20, [6, 0], [1], 67), (0, [6], [], 329), (42, [4, 5], [], 0), (0, [5], [], 4), (22, [4, 3, 1], [1], 0), (90, [4], [], 0), (91, [4], [], 6), (20, [3, 0], [1], 66), (0, [3], [], 328), (31, [2], [], 0), (1250, [2, 0, 1], [0, 1], 0), (90, [2], [], 0), (91, [2], [], 1), (6000, [0, 1], [0], 0), (0, [0], [], 285), (90, [1], [], -2147483648), (91, [1], [], 2147483647)], (3000, [9], [1], 33))
theorem c_257v_s_5 : vOkm T0 (eP e_257v L_257v A_257v mu_257v none) 2 g_257v_s_5 := vOk_inI fun ρ η f0 f1 f2 f3 f4 f5 f6 f7 f8 f9 f10 f11 f12 f13 f14 f15 f16 f17 f18 f19 f20 f21 f22 => q_257v_4 (n0 := ρ 1) (n1 := ρ 0) (n2 := ρ 2) (n3 := ρ 3) (n4 := ρ 4) (n5 := ρ 5) (n6 := ρ 6) (n7 := ρ 7) (n8 := ρ 8) (n9 := ρ 9) (H0 := η 0) (H1 := η 1) f22 f21 f20 f19 f18 f17 f16 f15 f14 f13 f12 f11 f10 f9 f8 f7 f6 f5 f4 f3 f2 f1 f0
def p_257v_s : List vG := [g_257v_s_0,
  g_257v_s_1,
  g_257v_s_2,
  g_257v_s_3,
  g_257v_s_4,
  g_257v_s_5]
theorem r_257v_s : vCovO false (eR0 e_257v L_257v cs_257v 2000) p_257v_s = true := by decide +kernel
theorem m_257v (d : Nat) : eC e_257v (d + 2) := eC_ok (e := e_257v) (L := L_257v) (cs := cs_257v) (n := 2000) (d := d + 1) (A := A_257v) (μ := mu_257v) (tp := false) (p0 := p_257v_s) rfl ⟨m_250 d, trivial⟩ rfl (.inr pre0_ok) (by decide +kernel) (fun z => nomatch z) r_257v_s (allC c_257v_s_0 (allC c_257v_s_1 (allC c_257v_s_2 (allC c_257v_s_3 (allC c_257v_s_4 (allC c_257v_s_5 allN)))))) allN
/- MixStageModel.sample (III)Z -/
noncomputable def s_260v : vM := ([(3, 12, 285, 0), (0, -2147483648, 2147483647, 0), (0, -2147483648, 2147483647, 0), (0, -2147483648, 2147483647, 0)], (0, 0, 1, 0), 1, 0, [(12, 65), (492, 0), (524, 0)])
def preb_260v (a0 a1 a2 a3 : Int) (h : gH) : Prop := hV h 285 65 ≤ 20000 ∧ SO h ∧ SS h
def pre_260v : List Int → gH → Prop := fun xs h => match xs with
  | [a0, a1, a2, a3] => preb_260v a0 a1 a2 a3 h
  | _ => False
def postb_260v (r a0 a1 a2 a3 : Int) (h0 h : gH) : Prop := SO h ∧ SS h ∧ hV h 285 65 ≤ hV h0 285 65 + 1 ∧ (((0 ≤ a1 ∧ a1 < hV h0 285 64 ∧ hV h0 328 ((a1).toNat) < 4 ∧ ¬ hV h0 329 ((a1).toNat) = -1 ∧ 0 ≤ a2 ∧ a2 < hV h0 329 ((a1).toNat) ∧ -9999 ≤ a3 ∧ a3 ≤ 9999) ∧ r = 1) ∨ (¬ (0 ≤ a1 ∧ a1 < hV h0 285 64 ∧ hV h0 328 ((a1).toNat) < 4 ∧ ¬ hV h0 329 ((a1).toNat) = -1 ∧ 0 ≤ a2 ∧ a2 < hV h0 329 ((a1).toNat) ∧ -9999 ≤ a3 ∧ a3 ≤ 9999) ∧ r = 0))
def post_260v : List Int → gH → gH → Prop := fun xs h0 h => match xs with
  | [r, a0, a1, a2, a3] => postb_260v r a0 a1 a2 a3 h0 h
  | _ => True
noncomputable def e_260v : vE := (260, s_260v, pre_260v, post_260v)
noncomputable def L_260v : List vE := [e_251, e_257v, e_258]
def cs_260v : List vC := []
def A_260v : Int → List Int → gH → gH → Prop := fun c xs h0 h => True
def mu_260v : Int → List Int → gH → gH → Nat := fun c xs h0 h => 0
theorem kR_257v_328 : vFreeR s_257v.2.2.2.2 328 = true := by decide +kernel
theorem kR_257v_329 : vFreeR s_257v.2.2.2.2 329 = true := by decide +kernel
theorem kF_257v_285_64 : vFree s_257v.2.2.2.2 285 64 = true := by decide +kernel
theorem kF_257v_285_65 : vFree s_257v.2.2.2.2 285 65 = true := by decide +kernel
theorem q_260v_0 {n0 n1 n2 n3 n4 n5 : Int} {H0 H1 : gH} (f0 : n0 ≤ 2147483647) (f1 : (-2147483648) ≤ n0) (f2 : n1 ≤ 2147483647) (f3 : (-2147483648) ≤ n1) (f4 : n2 ≤ 2147483647) (f5 : (-2147483648) ≤ n2) (f6 : n3 = 285) (f7 : hWt T0 H0 ∧ preb_260v n3 n2 n1 n0 H0) (f8 : n4 ≤ 1) (f9 : 0 ≤ n4) (f10 : (hLe T0 H0 H1 ∧ hFr s_257v.2.2.2.2 H0 H1 ∧ ((0 : Int) = 0 → H1.length = H0.length) ∧ hWt T0 H1) ∧ postb_257v n4 n3 n2 H0 H1) (f11 : n4 = 0) (f12 : n5 = 0) : postb_260v n5 n3 n2 n1 n0 H0 H1 := by
  unfold preb_260v at f7
  unfold postb_257v at f10
  unfold postb_260v
  have e1 : hV H1 285 64 = hV H0 285 64 := (f10.1.2.1.1 285 64 kF_257v_285_64)
  have e3 : hV H1 285 65 = hV H0 285 65 := (f10.1.2.1.1 285 65 kF_257v_285_65)
  have e4 : hV H1 328 = hV H0 328 := fRow f10.1.2.1 328 kR_257v_328
  have e5 : hV H1 329 = hV H0 329 := fRow f10.1.2.1 329 kR_257v_329
  have e6 : SO H1 = SO H0 := SO_fr f10.1.2.1 (by decide +kernel)
  have e7 : SS H1 = SS H0 := SS_fr f10.1.2.1 (by decide +kernel)
  have e8 : (0 : Int) ≤ hV H0 285 64 ∧ hV H0 285 64 ≤ 20 := f7.1 285 64 _ _ kW_285_64
  have e9 : (0 : Int) ≤ hV H0 285 65 ∧ hV H0 285 65 ≤ 2147483647 := f7.1 285 65 _ _ kW_285_65
  try simp only [e1, e4, e5] at f10
  try simp only [e3, e6, e7]
  have p0 := f7.2.1
  have p1 := f7.2.2.1
  have p2 := f7.2.2.2
  have r0_0 := f10.2
  clear e1 e3 e4 e5 e6 e7
  refine ⟨?_, ?_, ?_, ?_⟩ <;> first | assumption | omega | trivial
def g_260v_s_0 : vG := ([(0, [5], [], 0), (30, [4], [], 0), (1257, [4, 0, 1], [0, 1], 0), (90, [4], [], 0), (91, [4], [], 1), (6000, [0, 1, 2, 3], [0], 0), (0, [0], [], 285), (90, [1], [], -2147483648), (91, [1], [], 2147483647), (90, [2], [], -2147483648), (91, [2], [], 2147483647), (90, [3], [], -2147483648), (91, [3], [], 2147483647)], (3000, [5], [1], 36))
theorem c_260v_s_0 : vOkm T0 (eP e_260v L_260v A_260v mu_260v none) 4 g_260v_s_0 := vOk_inI fun ρ η f0 f1 f2 f3 f4 f5 f6 f7 f8 f9 f10 f11 f12 => q_260v_0 (n0 := ρ 3) (n1 := ρ 2) (n2 := ρ 1) (n3 := ρ 0) (n4 := ρ 4) (n5 := ρ 5) (H0 := η 0) (H1 := η 1) f12 f11 f10 f9 f8 f7 f6 f5 f4 f3 f2 f1 f0
theorem q_260v_1 {n0 n1 n2 n3 n4 n5 : Int} {H0 H1 : gH} (f0 : n0 ≤ 2147483647) (f1 : (-2147483648) ≤ n0) (f2 : n1 ≤ 2147483647) (f3 : (-2147483648) ≤ n1) (f4 : n2 ≤ 2147483647) (f5 : (-2147483648) ≤ n2) (f6 : n3 = 285) (f7 : hWt T0 H0 ∧ preb_260v n3 n2 n1 n0 H0) (f8 : n4 ≤ 1) (f9 : 0 ≤ n4) (f10 : (hLe T0 H0 H1 ∧ hFr s_257v.2.2.2.2 H0 H1 ∧ ((0 : Int) = 0 → H1.length = H0.length) ∧ hWt T0 H1) ∧ postb_257v n4 n3 n2 H0 H1) (f11 : n4 ≠ 0) (f12 : n1 < 0) (f13 : n5 = 0) : postb_260v n5 n3 n2 n1 n0 H0 H1 := by
  unfold preb_260v at f7
  unfold postb_257v at f10
  unfold postb_260v
  have e1 : hV H1 285 64 = hV H0 285 64 := (f10.1.2.1.1 285 64 kF_257v_285_64)
  have e3 : hV H1 285 65 = hV H0 285 65 := (f10.1.2.1.1 285 65 kF_257v_285_65)
  have e4 : hV H1 328 = hV H0 328 := fRow f10.1.2.1 328 kR_257v_328
  have e5 : hV H1 329 = hV H0 329 := fRow f10.1.2.1 329 kR_257v_329
  have e6 : SO H1 = SO H0 := SO_fr f10.1.2.1 (by decide +kernel)
  have e7 : SS H1 = SS H0 := SS_fr f10.1.2.1 (by decide +kernel)
  have e8 : (0 : Int) ≤ hV H0 285 64 ∧ hV H0 285 64 ≤ 20 := f7.1 285 64 _ _ kW_285_64
  have e9 : (0 : Int) ≤ hV H0 285 65 ∧ hV H0 285 65 ≤ 2147483647 := f7.1 285 65 _ _ kW_285_65
  try simp only [e1, e4, e5] at f10
  try simp only [e3, e6, e7]
  have p0 := f7.2.1
  have p1 := f7.2.2.1
  have p2 := f7.2.2.2
  have r0_0 := f10.2
  clear e1 e3 e4 e5 e6 e7
  refine ⟨?_, ?_, ?_, ?_⟩ <;> first | assumption | omega | trivial
def g_260v_s_1 : vG := ([(0, [5], [], 0), (32, [2], [], 0), (31, [4], [], 0), (1257, [4, 0, 1], [0, 1], 0), (90, [4], [], 0), (91, [4], [], 1), (6000, [0, 1, 2, 3], [0], 0), (0, [0], [], 285), (90, [1], [], -2147483648), (91, [1], [], 2147483647), (90, [2], [], -2147483648), (91, [2], [], 2147483647), (90, [3], [], -2147483648), (91, [3], [], 2147483647)], (3000, [5], [1], 36))
theorem c_260v_s_1 : vOkm T0 (eP e_260v L_260v A_260v mu_260v none) 4 g_260v_s_1 := vOk_inI fun ρ η f0 f1 f2 f3 f4 f5 f6 f7 f8 f9 f10 f11 f12 f13 => q_260v_1 (n0 := ρ 3) (n1 := ρ 2) (n2 := ρ 1) (n3 := ρ 0) (n4 := ρ 4) (n5 := ρ 5) (H0 := η 0) (H1 := η 1) f13 f12 f11 f10 f9 f8 f7 f6 f5 f4 f3 f2 f1 f0
theorem q_260v_2 {n0 n1 n2 n3 n4 : Int} {H0 H1 : gH} (f0 : n0 ≤ 2147483647) (f1 : (-2147483648) ≤ n0) (f2 : n1 ≤ 2147483647) (f3 : (-2147483648) ≤ n1) (f4 : n2 ≤ 2147483647) (f5 : (-2147483648) ≤ n2) (f6 : n3 = 285) (f7 : hWt T0 H0 ∧ preb_260v n3 n2 n1 n0 H0) (f8 : n4 ≤ 1) (f9 : 0 ≤ n4) (f10 : (hLe T0 H0 H1 ∧ hFr s_257v.2.2.2.2 H0 H1 ∧ ((0 : Int) = 0 → H1.length = H0.length) ∧ hWt T0 H1) ∧ postb_257v n4 n3 n2 H0 H1) (f11 : n4 ≠ 0) (f12 : 0 ≤ n1) : 0 ≤ n2 ∧ n2 < 20 := by
  unfold preb_260v at f7
  unfold postb_257v at f10
  have e1 : hV H1 285 64 = hV H0 285 64 := (f10.1.2.1.1 285 64 kF_257v_285_64)
  have e2 : hV H1 328 = hV H0 328 := fRow f10.1.2.1 328 kR_257v_328
  have e3 : hV H1 329 = hV H0 329 := fRow f10.1.2.1 329 kR_257v_329
  have e4 : (0 : Int) ≤ hV H0 285 65 ∧ hV H0 285 65 ≤ 2147483647 := f7.1 285 65 _ _ kW_285_65
  have e5 : (0 : Int) ≤ hV H0 285 64 ∧ hV H0 285 64 ≤ 20 := bTo e1 (f10.1.2.2.2 285 64 _ _ kW_285_64)
  try simp only [e1, e2, e3] at f10
  have p0 := f7.2.1
  have p1 := f7.2.2.1
  have p2 := f7.2.2.2
  have r0_0 := f10.2
  clear e1 e2 e3
  omega
def g_260v_s_2 : vG := ([(33, [2], [], 0), (31, [4], [], 0), (1257, [4, 0, 1], [0, 1], 0), (90, [4], [], 0), (91, [4], [], 1), (6000, [0, 1, 2, 3], [0], 0), (0, [0], [], 285), (90, [1], [], -2147483648), (91, [1], [], 2147483647), (90, [2], [], -2147483648), (91, [2], [], 2147483647), (90, [3], [], -2147483648), (91, [3], [], 2147483647)], (70, [1], [], 20))
theorem c_260v_s_2 : vOkm T0 (eP e_260v L_260v A_260v mu_260v none) 4 g_260v_s_2 := vOk_inI fun ρ η f0 f1 f2 f3 f4 f5 f6 f7 f8 f9 f10 f11 f12 => q_260v_2 (n0 := ρ 3) (n1 := ρ 2) (n2 := ρ 1) (n3 := ρ 0) (n4 := ρ 4) (H0 := η 0) (H1 := η 1) f12 f11 f10 f9 f8 f7 f6 f5 f4 f3 f2 f1 f0
theorem q_260v_3 {n0 n1 n2 n3 n4 n5 n6 n7 : Int} {H0 H1 : gH} (f0 : n0 ≤ 2147483647) (f1 : (-2147483648) ≤ n0) (f2 : n1 ≤ 2147483647) (f3 : (-2147483648) ≤ n1) (f4 : n2 ≤ 2147483647) (f5 : (-2147483648) ≤ n2) (f6 : n3 = 285) (f7 : hWt T0 H0 ∧ preb_260v n3 n2 n1 n0 H0) (f8 : n4 ≤ 1) (f9 : 0 ≤ n4) (f10 : (hLe T0 H0 H1 ∧ hFr s_257v.2.2.2.2 H0 H1 ∧ ((0 : Int) = 0 → H1.length = H0.length) ∧ hWt T0 H1) ∧ postb_257v n4 n3 n2 H0 H1) (f11 : n4 ≠ 0) (f12 : 0 ≤ n1) (f13 : n5 = 329) (f14 : n5 = hV H1 (n3).toNat 67) (f15 : n6 ≤ 240) (f16 : (-1) ≤ n6) (f17 : n6 = hV H1 (n5).toNat (n2).toNat) (f18 : n6 ≤ n1) (f19 : n7 = 0) : postb_260v n7 n3 n2 n1 n0 H0 H1 := by
  unfold preb_260v at f7
  unfold postb_257v at f10
  unfold postb_260v
  have e0 : hV H1 329 = hV H0 329 := fRow f10.1.2.1 329 kR_257v_329
  have e1 : n6 = hV H0 329 (n2).toNat := (by rw [f13] at f17; exact f17 : n6 = hV H1 329 (n2).toNat).trans ((congrFun e0 _))
  have e3 : hV H1 285 64 = hV H0 285 64 := (f10.1.2.1.1 285 64 kF_257v_285_64)
  have e5 : hV H1 285 65 = hV H0 285 65 := (f10.1.2.1.1 285 65 kF_257v_285_65)
  have e6 : hV H1 328 = hV H0 328 := fRow f10.1.2.1 328 kR_257v_328
  have e7 : SO H1 = SO H0 := SO_fr f10.1.2.1 (by decide +kernel)
  have e8 : SS H1 = SS H0 := SS_fr f10.1.2.1 (by decide +kernel)
  have e9 : (0 : Int) ≤ hV H0 285 64 ∧ hV H0 285 64 ≤ 20 := f7.1 285 64 _ _ kW_285_64
  have e10 : (0 : Int) ≤ hV H0 285 65 ∧ hV H0 285 65 ≤ 2147483647 := f7.1 285 65 _ _ kW_285_65
  try simp only [e3, e6, e0] at f10
  try simp only [e5, e7, e8]
  have p0 := f7.2.1
  have p1 := f7.2.2.1
  have p2 := f7.2.2.2
  have r0_0 := f10.2
  clear f14 f17 e0 e3 e5 e6 e7 e8
  subst e1
  refine ⟨?_, ?_, ?_, ?_⟩ <;> first | assumption | omega | trivial
def g_260v_s_3 : vG := ([(0, [7], [], 0), (43, [2, 6], [], 0), (22, [6, 5, 1], [1], 0), (90, [6], [], -1), (91, [6], [], 240), (20, [5, 0], [1], 67), (0, [5], [], 329), (33, [2], [], 0), (31, [4], [], 0), (1257, [4, 0, 1], [0, 1], 0), (90, [4], [], 0), (91, [4], [], 1), (6000, [0, 1, 2, 3], [0], 0), (0, [0], [], 285), (90, [1], [], -2147483648), (91, [1], [], 2147483647), (90, [2], [], -2147483648), (91, [2], [], 2147483647), (90, [3], [], -2147483648), (91, [3], [], 2147483647)], (3000, [7], [1], 36))
theorem c_260v_s_3 : vOkm T0 (eP e_260v L_260v A_260v mu_260v none) 4 g_260v_s_3 := vOk_inI fun ρ η f0 f1 f2 f3 f4 f5 f6 f7 f8 f9 f10 f11 f12 f13 f14 f15 f16 f17 f18 f19 => q_260v_3 (n0 := ρ 3) (n1 := ρ 2) (n2 := ρ 1) (n3 := ρ 0) (n4 := ρ 4) (n5 := ρ 5) (n6 := ρ 6) (n7 := ρ 7) (H0 := η 0) (H1 := η 1) f19 f18 f17 f16 f15 f14 f13 f12 f11 f10 f9 f8 f7 f6 f5 f4 f3 f2 f1 f0
theorem q_260v_4 {n0 n1 n2 n3 n4 n5 n6 n7 n8 n9 n10 n11 n12 : Int} {H0 H1 H2 : gH} (f0 : n0 ≤ 2147483647) (f1 : (-2147483648) ≤ n0) (f2 : n1 ≤ 2147483647) (f3 : (-2147483648) ≤ n1) (f4 : n2 ≤ 2147483647) (f5 : (-2147483648) ≤ n2) (f6 : n3 = 285) (f7 : hWt T0 H0 ∧ preb_260v n3 n2 n1 n0 H0) (f8 : n4 ≤ 1) (f9 : 0 ≤ n4) (f10 : (hLe T0 H0 H1 ∧ hFr s_257v.2.2.2.2 H0 H1 ∧ ((0 : Int) = 0 → H1.length = H0.length) ∧ hWt T0 H1) ∧ postb_257v n4 n3 n2 H0 H1) (f11 : n4 ≠ 0) (f12 : 0 ≤ n1) (f13 : n5 = 329) (f14 : n5 = hV H1 (n3).toNat 67) (f15 : n6 ≤ 240) (f16 : (-1) ≤ n6) (f17 : n6 = hV H1 (n5).toNat (n2).toNat) (f18 : n1 < n6) (f19 : n7 = (-9999)) (f20 : n8 = 9999) (f21 : n9 ≤ 1) (f22 : 0 ≤ n9) (f23 : (hLe T0 H1 H2 ∧ hFr s_251.2.2.2.2 H1 H2 ∧ ((0 : Int) = 0 → H2.length = H1.length) ∧ hWt T0 H2) ∧ postb_251 n9 n0 n7 n8 H1 H2) (f24 : n9 ≠ 0) (f25 : n10 = 240) (f26 : n11 = w32 (n10 * n2)) (f27 : n12 = w32 (n11 + n1)) : 0 ≤ n12 ∧ n12 < 4800 := by
  unfold preb_260v at f7
  unfold postb_257v at f10
  unfold postb_251 at f23
  have e0 : hV H1 329 = hV H0 329 := fRow f10.1.2.1 329 kR_257v_329
  have e1 : n6 = hV H0 329 (n2).toNat := (by rw [f13] at f17; exact f17 : n6 = hV H1 329 (n2).toNat).trans ((congrFun e0 _))
  have e3 : hV H1 285 64 = hV H0 285 64 := (f10.1.2.1.1 285 64 kF_257v_285_64)
  have e4 : hV H1 328 = hV H0 328 := fRow f10.1.2.1 328 kR_257v_328
  have e5 : (0 : Int) ≤ hV H0 285 65 ∧ hV H0 285 65 ≤ 2147483647 := f7.1 285 65 _ _ kW_285_65
  have e6 : (0 : Int) ≤ hV H0 285 64 ∧ hV H0 285 64 ≤ 20 := bTo e3 (f10.1.2.2.2 285 64 _ _ kW_285_64)
  try simp only [e3, e4, e0] at f10
  have p0 := f7.2.1
  have p1 := f7.2.2.1
  have p2 := f7.2.2.2
  have r0_0 := f10.2
  have r1_0 := f23.2
  clear f14 f17 e0 e3 e4
  subst e1
  rw [f25] at f26
  first
  | (have ix0 : n11 = 240 * n2 := Eq.trans f26 (w32_id (by omega) (by omega)); subst ix0; clear f26)
  | (unfold w32 at f26; have ix0 : n11 = 240 * n2 := (by omega); subst ix0)
  | skip
  first
  | (have ix1 : n12 = (240 * n2) + n1 := Eq.trans f27 (w32_id (by omega) (by omega)); subst ix1; clear f27)
  | (unfold w32 at f27; have ix1 : n12 = (240 * n2) + n1 := (by omega); subst ix1)
  | skip
  try unfold w32 at f26
  try unfold w32 at f27
  omega
def g_260v_s_4 : vG := ([(1, [13, 12, 2], [], 0), (3, [12, 11, 1], [], 0), (0, [11], [], 240), (31, [9], [], 0), (1251, [9, 3, 7, 8], [1, 2], 0), (90, [9], [], 0), (91, [9], [], 1), (0, [8], [], 9999), (0, [7], [], -9999), (42, [2, 6], [], 0), (22, [6, 5, 1], [1], 0), (90, [6], [], -1), (91, [6], [], 240), (20, [5, 0], [1], 67), (0, [5], [], 329), (33, [2], [], 0), (31, [4], [], 0), (1257, [4, 0, 1], [0, 1], 0), (90, [4], [], 0), (91, [4], [], 1), (6000, [0, 1, 2, 3], [0], 0), (0, [0], [], 285), (90, [1], [], -2147483648), (91, [1], [], 2147483647), (90, [2], [], -2147483648), (91, [2], [], 2147483647), (90, [3], [], -2147483648), (91, [3], [], 2147483647)], (70, [13], [], 4800))
theorem c_260v_s_4 : vOkm T0 (eP e_260v L_260v A_260v mu_260v none) 4 g_260v_s_4 := vOk_inI fun ρ η f0 f1 f2 f3 f4 f5 f6 f7 f8 f9 f10 f11 f12 f13 f14 f15 f16 f17 f18 f19 f20 f21 f22 f23 f24 f25 f26 f27 => q_260v_4 (n0 := ρ 3) (n1 := ρ 2) (n2 := ρ 1) (n3 := ρ 0) (n4 := ρ 4) (n5 := ρ 5) (n6 := ρ 6) (n7 := ρ 7) (n8 := ρ 8) (n9 := ρ 9) (n10 := ρ 11) (n11 := ρ 12) (n12 := ρ 13) (H0 := η 0) (H1 := η 1) (H2 := η 2) f27 f26 f25 f24 f23 f22 f21 f20 f19 f18 f17 f16 f15 f14 f13 f12 f11 f10 f9 f8 f7 f6 f5 f4 f3 f2 f1 f0
theorem q_260v_5 {n0 n1 n2 n3 n4 n5 n6 n7 n8 n9 n10 n11 n12 : Int} {H0 H1 H2 : gH} (f0 : n0 ≤ 2147483647) (f1 : (-2147483648) ≤ n0) (f2 : n1 ≤ 2147483647) (f3 : (-2147483648) ≤ n1) (f4 : n2 ≤ 2147483647) (f5 : (-2147483648) ≤ n2) (f6 : n3 = 285) (f7 : hWt T0 H0 ∧ preb_260v n3 n2 n1 n0 H0) (f8 : n4 ≤ 1) (f9 : 0 ≤ n4) (f10 : (hLe T0 H0 H1 ∧ hFr s_257v.2.2.2.2 H0 H1 ∧ ((0 : Int) = 0 → H1.length = H0.length) ∧ hWt T0 H1) ∧ postb_257v n4 n3 n2 H0 H1) (f11 : n4 ≠ 0) (f12 : 0 ≤ n1) (f13 : n5 = 329) (f14 : n5 = hV H1 (n3).toNat 67) (f15 : n6 ≤ 240) (f16 : (-1) ≤ n6) (f17 : n6 = hV H1 (n5).toNat (n2).toNat) (f18 : n1 < n6) (f19 : n7 = (-9999)) (f20 : n8 = 9999) (f21 : n9 ≤ 1) (f22 : 0 ≤ n9) (f23 : (hLe T0 H1 H2 ∧ hFr s_251.2.2.2.2 H1 H2 ∧ ((0 : Int) = 0 → H2.length = H1.length) ∧ hWt T0 H2) ∧ postb_251 n9 n0 n7 n8 H1 H2) (f24 : n9 ≠ 0) (f25 : n10 = 240) (f26 : n11 = w32 (n10 * n2)) (f27 : n12 = w32 (n11 + n1)) : 0 ≤ n2 := by
  unfold preb_260v at f7
  unfold postb_257v at f10
  unfold postb_251 at f23
  have e0 : hV H1 329 = hV H0 329 := fRow f10.1.2.1 329 kR_257v_329
  have e1 : n6 = hV H0 329 (n2).toNat := (by rw [f13] at f17; exact f17 : n6 = hV H1 329 (n2).toNat).trans ((congrFun e0 _))
  have e3 : hV H1 285 64 = hV H0 285 64 := (f10.1.2.1.1 285 64 kF_257v_285_64)
  have e4 : hV H1 328 = hV H0 328 := fRow f10.1.2.1 328 kR_257v_328
  have e5 : (0 : Int) ≤ hV H0 285 65 ∧ hV H0 285 65 ≤ 2147483647 := f7.1 285 65 _ _ kW_285_65
  have e6 : (0 : Int) ≤ hV H0 285 64 ∧ hV H0 285 64 ≤ 20 := bTo e3 (f10.1.2.2.2 285 64 _ _ kW_285_64)
  try simp only [e3, e4, e0] at f10
  have p0 := f7.2.1
  have p1 := f7.2.2.1
  have p2 := f7.2.2.2
  have r0_0 := f10.2
  have r1_0 := f23.2
  clear f14 f17 e0 e3 e4
  subst e1
  rw [f25] at f26
  unfold w32 at f26 f27
  omega
def g_260v_s_5 : vG := ([(1, [13, 12, 2], [], 0), (3, [12, 11, 1], [], 0), (0, [11], [], 240), (31, [9], [], 0), (1251, [9, 3, 7, 8], [1, 2], 0), (90, [9], [], 0), (91, [9], [], 1), (0, [8], [], 9999), (0, [7], [], -9999), (42, [2, 6], [], 0), (22, [6, 5, 1], [1], 0), (90, [6], [], -1), (91, [6], [], 240), (20, [5, 0], [1], 67), (0, [5], [], 329), (33, [2], [], 0), (31, [4], [], 0), (1257, [4, 0, 1], [0, 1], 0), (90, [4], [], 0), (91, [4], [], 1), (6000, [0, 1, 2, 3], [0], 0), (0, [0], [], 285), (90, [1], [], -2147483648), (91, [1], [], 2147483647), (90, [2], [], -2147483648), (91, [2], [], 2147483647), (90, [3], [], -2147483648), (91, [3], [], 2147483647)], (90, [1], [], 0))
theorem c_260v_s_5 : vOkm T0 (eP e_260v L_260v A_260v mu_260v none) 4 g_260v_s_5 := vOk_inI fun ρ η f0 f1 f2 f3 f4 f5 f6 f7 f8 f9 f10 f11 f12 f13 f14 f15 f16 f17 f18 f19 f20 f21 f22 f23 f24 f25 f26 f27 => q_260v_5 (n0 := ρ 3) (n1 := ρ 2) (n2 := ρ 1) (n3 := ρ 0) (n4 := ρ 4) (n5 := ρ 5) (n6 := ρ 6) (n7 := ρ 7) (n8 := ρ 8) (n9 := ρ 9) (n10 := ρ 11) (n11 := ρ 12) (n12 := ρ 13) (H0 := η 0) (H1 := η 1) (H2 := η 2) f27 f26 f25 f24 f23 f22 f21 f20 f19 f18 f17 f16 f15 f14 f13 f12 f11 f10 f9 f8 f7 f6 f5 f4 f3 f2 f1 f0
theorem q_260v_6 {n0 n1 n2 n3 n4 n5 n6 n7 n8 n9 n10 n11 n12 : Int} {H0 H1 H2 : gH} (f0 : n0 ≤ 2147483647) (f1 : (-2147483648) ≤ n0) (f2 : n1 ≤ 2147483647) (f3 : (-2147483648) ≤ n1) (f4 : n2 ≤ 2147483647) (f5 : (-2147483648) ≤ n2) (f6 : n3 = 285) (f7 : hWt T0 H0 ∧ preb_260v n3 n2 n1 n0 H0) (f8 : n4 ≤ 1) (f9 : 0 ≤ n4) (f10 : (hLe T0 H0 H1 ∧ hFr s_257v.2.2.2.2 H0 H1 ∧ ((0 : Int) = 0 → H1.length = H0.length) ∧ hWt T0 H1) ∧ postb_257v n4 n3 n2 H0 H1) (f11 : n4 ≠ 0) (f12 : 0 ≤ n1) (f13 : n5 = 329) (f14 : n5 = hV H1 (n3).toNat 67) (f15 : n6 ≤ 240) (f16 : (-1) ≤ n6) (f17 : n6 = hV H1 (n5).toNat (n2).toNat) (f18 : n1 < n6) (f19 : n7 = (-9999)) (f20 : n8 = 9999) (f21 : n9 ≤ 1) (f22 : 0 ≤ n9) (f23 : (hLe T0 H1 H2 ∧ hFr s_251.2.2.2.2 H1 H2 ∧ ((0 : Int) = 0 → H2.length = H1.length) ∧ hWt T0 H2) ∧ postb_251 n9 n0 n7 n8 H1 H2) (f24 : n9 ≠ 0) (f25 : n10 = 240) (f26 : n11 = w32 (n10 * n2)) (f27 : n12 = w32 (n11 + n1)) : n2 ≤ 19 := by
  unfold preb_260v at f7
  unfold postb_257v at f10
  unfold postb_251 at f23
  have e0 : hV H1 329 = hV H0 329 := fRow f10.1.2.1 329 kR_257v_329
  have e1 : n6 = hV H0 329 (n2).toNat := (by rw [f13] at f17; exact f17 : n6 = hV H1 329 (n2).toNat).trans ((congrFun e0 _))
  have e3 : hV H1 285 64 = hV H0 285 64 := (f10.1.2.1.1 285 64 kF_257v_285_64)
  have e4 : hV H1 328 = hV H0 328 := fRow f10.1.2.1 328 kR_257v_328
  have e5 : (0 : Int) ≤ hV H0 285 65 ∧ hV H0 285 65 ≤ 2147483647 := f7.1 285 65 _ _ kW_285_65
  have e6 : (0 : Int) ≤ hV H0 285 64 ∧ hV H0 285 64 ≤ 20 := bTo e3 (f10.1.2.2.2 285 64 _ _ kW_285_64)
  try simp only [e3, e4, e0] at f10
  have p0 := f7.2.1
  have p1 := f7.2.2.1
  have p2 := f7.2.2.2
  have r0_0 := f10.2
  have r1_0 := f23.2
  clear f14 f17 e0 e3 e4
  subst e1
  rw [f25] at f26
  unfold w32 at f26 f27
  omega
def g_260v_s_6 : vG := ([(1, [13, 12, 2], [], 0), (3, [12, 11, 1], [], 0), (0, [11], [], 240), (31, [9], [], 0), (1251, [9, 3, 7, 8], [1, 2], 0), (90, [9], [], 0), (91, [9], [], 1), (0, [8], [], 9999), (0, [7], [], -9999), (42, [2, 6], [], 0), (22, [6, 5, 1], [1], 0), (90, [6], [], -1), (91, [6], [], 240), (20, [5, 0], [1], 67), (0, [5], [], 329), (33, [2], [], 0), (31, [4], [], 0), (1257, [4, 0, 1], [0, 1], 0), (90, [4], [], 0), (91, [4], [], 1), (6000, [0, 1, 2, 3], [0], 0), (0, [0], [], 285), (90, [1], [], -2147483648), (91, [1], [], 2147483647), (90, [2], [], -2147483648), (91, [2], [], 2147483647), (90, [3], [], -2147483648), (91, [3], [], 2147483647)], (91, [1], [], 19))
theorem c_260v_s_6 : vOkm T0 (eP e_260v L_260v A_260v mu_260v none) 4 g_260v_s_6 := vOk_inI fun ρ η f0 f1 f2 f3 f4 f5 f6 f7 f8 f9 f10 f11 f12 f13 f14 f15 f16 f17 f18 f19 f20 f21 f22 f23 f24 f25 f26 f27 => q_260v_6 (n0 := ρ 3) (n1 := ρ 2) (n2 := ρ 1) (n3 := ρ 0) (n4 := ρ 4) (n5 := ρ 5) (n6 := ρ 6) (n7 := ρ 7) (n8 := ρ 8) (n9 := ρ 9) (n10 := ρ 11) (n11 := ρ 12) (n12 := ρ 13) (H0 := η 0) (H1 := η 1) (H2 := η 2) f27 f26 f25 f24 f23 f22 f21 f20 f19 f18 f17 f16 f15 f14 f13 f12 f11 f10 f9 f8 f7 f6 f5 f4 f3 f2 f1 f0
theorem kR_257v_333 : vFreeR s_257v.2.2.2.2 333 = true := by decide +kernel
theorem kR_257v_334 : vFreeR s_257v.2.2.2.2 334 = true := by decide +kernel
theorem kR_257v_341 : vFreeR s_257v.2.2.2.2 341 = true := by decide +kernel
theorem q_260v_7 {n0 n1 n2 n3 n4 n5 n6 n7 n8 n9 n10 n11 n12 n13 : Int} {H0 H1 H2 H3 : gH} (f0 : n0 ≤ 2147483647) (f1 : (-2147483648) ≤ n0) (f2 : n1 ≤ 2147483647) (f3 : (-2147483648) ≤ n1) (f4 : n2 ≤ 2147483647) (f5 : (-2147483648) ≤ n2) (f6 : n3 = 285) (f7 : hWt T0 H0 ∧ preb_260v n3 n2 n1 n0 H0) (f8 : n4 ≤ 1) (f9 : 0 ≤ n4) (f10 : (hLe T0 H0 H1 ∧ hFr s_257v.2.2.2.2 H0 H1 ∧ ((0 : Int) = 0 → H1.length = H0.length) ∧ hWt T0 H1) ∧ postb_257v n4 n3 n2 H0 H1) (f11 : n4 ≠ 0) (f12 : 0 ≤ n1) (f13 : n5 = 329) (f14 : n5 = hV H1 (n3).toNat 67) (f15 : n6 ≤ 240) (f16 : (-1) ≤ n6) (f17 : n6 = hV H1 (n5).toNat (n2).toNat) (f18 : n1 < n6) (f19 : n7 = (-9999)) (f20 : n8 = 9999) (f21 : n9 ≤ 1) (f22 : 0 ≤ n9) (f23 : (hLe T0 H1 H2 ∧ hFr s_251.2.2.2.2 H1 H2 ∧ ((0 : Int) = 0 → H2.length = H1.length) ∧ hWt T0 H2) ∧ postb_251 n9 n0 n7 n8 H1 H2) (f24 : n9 ≠ 0) (f25 : n10 = 337) (f26 : n10 = hV H2 (n3).toNat 75) (f27 : n11 = 240) (f28 : n12 = w32 (n11 * n2)) (f29 : n13 = w32 (n12 + n1)) (f30 : hUpd H3 H2 n10 n13 n0) : preb_258 n3 n2 H3 := by
  unfold preb_260v at f7
  unfold postb_257v at f10
  unfold postb_251 at f23
  unfold preb_258
  have e0 : hV H1 329 = hV H0 329 := fRow f10.1.2.1 329 kR_257v_329
  have e1 : n6 = hV H0 329 (n2).toNat := (by rw [f13] at f17; exact f17 : n6 = hV H1 329 (n2).toNat).trans ((congrFun e0 _))
  have e3 : hV H1 285 64 = hV H0 285 64 := (f10.1.2.1.1 285 64 kF_257v_285_64)
  have e4 : hV H1 328 = hV H0 328 := fRow f10.1.2.1 328 kR_257v_328
  have e8 : hV H3 285 65 = hV H0 285 65 := ((uPlace f30 285 65 (iS (show n10 = ((337 : Nat) : Int) from f25) rfl))).trans (((f23.1.2.1.1 285 65 kF_251_285_65)).trans (f10.1.2.1.1 285 65 kF_257v_285_65))
  have e13 : hV H3 333 = hV H0 333 := (uRowNe f30 333 (iS (show n10 = ((337 : Nat) : Int) from f25) rfl)).trans ((fRow f23.1.2.1 333 kR_251_333).trans (fRow f10.1.2.1 333 kR_257v_333))
  have e18 : hV H3 334 = hV H0 334 := (uRowNe f30 334 (iS (show n10 = ((337 : Nat) : Int) from f25) rfl)).trans ((fRow f23.1.2.1 334 kR_251_334).trans (fRow f10.1.2.1 334 kR_257v_334))
  have e23 : hV H3 341 = hV H0 341 := (uRowNe f30 341 (iS (show n10 = ((337 : Nat) : Int) from f25) rfl)).trans ((fRow f23.1.2.1 341 kR_251_341).trans (fRow f10.1.2.1 341 kR_257v_341))
  have e24 : (0 : Int) ≤ hV H0 285 65 ∧ hV H0 285 65 ≤ 2147483647 := f7.1 285 65 _ _ kW_285_65
  have e25 : (0 : Int) ≤ hV H0 285 64 ∧ hV H0 285 64 ≤ 20 := bTo e3 (f10.1.2.2.2 285 64 _ _ kW_285_64)
  try simp only [SS] at *
  try simp only [e3, e4, e0] at f10
  try simp only [e8, e13, e18, e23]
  have p0 := f7.2.1
  have p1 := f7.2.2.1
  have p2 := f7.2.2.2
  have r0_0 := f10.2
  have r1_0 := f23.2
  clear f14 f17 f26 e0 e3 e4 e8 e13 e18 e23
  subst e1
  rw [f27] at f28
  first
  | (have ix0 : n12 = 240 * n2 := Eq.trans f28 (w32_id (by omega) (by omega)); subst ix0; clear f28)
  | (unfold w32 at f28; have ix0 : n12 = 240 * n2 := (by omega); subst ix0)
  | skip
  first
  | (have ix1 : n13 = (240 * n2) + n1 := Eq.trans f29 (w32_id (by omega) (by omega)); subst ix1; clear f29)
  | (unfold w32 at f29; have ix1 : n13 = (240 * n2) + n1 := (by omega); subst ix1)
  | skip
  try unfold w32 at f28
  try unfold w32 at f29

  first
  | exact ⟨by omega, SSp_le y0 (by omega)⟩
  | exact ⟨by omega, SSp_le y1 (by omega)⟩
  | exact ⟨by omega, SSp_le y2 (by omega)⟩
  | exact ⟨by omega, SSp_le y3 (by omega)⟩
  | exact ⟨by omega, SSp_le y4 (by omega)⟩
  | exact ⟨by omega, SSp_le y5 (by omega)⟩
  | exact ⟨by omega, SSp_le y6 (by omega)⟩
  | exact ⟨by omega, SSp_le y7 (by omega)⟩
  | exact ⟨by omega, SSp_le p0 (by omega)⟩
  | exact ⟨by omega, SSp_le p1 (by omega)⟩
  | exact ⟨by omega, SSp_le p2 (by omega)⟩
  | exact ⟨by omega, SSp_le p3 (by omega)⟩
  | omega
def g_260v_s_7 : vG := ([(80, [10, 13, 3], [3, 2], 0), (1, [13, 12, 2], [], 0), (3, [12, 11, 1], [], 0), (0, [11], [], 240), (20, [10, 0], [2], 75), (0, [10], [], 337), (31, [9], [], 0), (1251, [9, 3, 7, 8], [1, 2], 0), (90, [9], [], 0), (91, [9], [], 1), (0, [8], [], 9999), (0, [7], [], -9999), (42, [2, 6], [], 0), (22, [6, 5, 1], [1], 0), (90, [6], [], -1), (91, [6], [], 240), (20, [5, 0], [1], 67), (0, [5], [], 329), (33, [2], [], 0), (31, [4], [], 0), (1257, [4, 0, 1], [0, 1], 0), (90, [4], [], 0), (91, [4], [], 1), (6000, [0, 1, 2, 3], [0], 0), (0, [0], [], 285), (90, [1], [], -2147483648), (91, [1], [], 2147483647), (90, [2], [], -2147483648), (91, [2], [], 2147483647), (90, [3], [], -2147483648), (91, [3], [], 2147483647)], (2258, [0, 1], [3], 0))
theorem c_260v_s_7 : vOkm T0 (eP e_260v L_260v A_260v mu_260v none) 4 g_260v_s_7 := vOk_inI fun ρ η f0 f1 f2 f3 f4 f5 f6 f7 f8 f9 f10 f11 f12 f13 f14 f15 f16 f17 f18 f19 f20 f21 f22 f23 f24 f25 f26 f27 f28 f29 f30 => q_260v_7 (n0 := ρ 3) (n1 := ρ 2) (n2 := ρ 1) (n3 := ρ 0) (n4 := ρ 4) (n5 := ρ 5) (n6 := ρ 6) (n7 := ρ 7) (n8 := ρ 8) (n9 := ρ 9) (n10 := ρ 10) (n11 := ρ 11) (n12 := ρ 12) (n13 := ρ 13) (H0 := η 0) (H1 := η 1) (H2 := η 2) (H3 := η 3) f30 f29 f28 f27 f26 f25 f24 f23 f22 f21 f20 f19 f18 f17 f16 f15 f14 f13 f12 f11 f10 f9 f8 f7 f6 f5 f4 f3 f2 f1 f0
theorem q_260v_8 {n0 n1 n2 n3 n4 n5 n6 n7 n8 n9 n10 n11 n12 n13 n14 : Int} {H0 H1 H2 H3 H4 : gH} (f0 : n0 ≤ 2147483647) (f1 : (-2147483648) ≤ n0) (f2 : n1 ≤ 2147483647) (f3 : (-2147483648) ≤ n1) (f4 : n2 ≤ 2147483647) (f5 : (-2147483648) ≤ n2) (f6 : n3 = 285) (f7 : hWt T0 H0 ∧ preb_260v n3 n2 n1 n0 H0) (f8 : n4 ≤ 1) (f9 : 0 ≤ n4) (f10 : (hLe T0 H0 H1 ∧ hFr s_257v.2.2.2.2 H0 H1 ∧ ((0 : Int) = 0 → H1.length = H0.length) ∧ hWt T0 H1) ∧ postb_257v n4 n3 n2 H0 H1) (f11 : n4 ≠ 0) (f12 : 0 ≤ n1) (f13 : n5 = 329) (f14 : n5 = hV H1 (n3).toNat 67) (f15 : n6 ≤ 240) (f16 : (-1) ≤ n6) (f17 : n6 = hV H1 (n5).toNat (n2).toNat) (f18 : n1 < n6) (f19 : n7 = (-9999)) (f20 : n8 = 9999) (f21 : n9 ≤ 1) (f22 : 0 ≤ n9) (f23 : (hLe T0 H1 H2 ∧ hFr s_251.2.2.2.2 H1 H2 ∧ ((0 : Int) = 0 → H2.length = H1.length) ∧ hWt T0 H2) ∧ postb_251 n9 n0 n7 n8 H1 H2) (f24 : n9 ≠ 0) (f25 : n10 = 337) (f26 : n10 = hV H2 (n3).toNat 75) (f27 : n11 = 240) (f28 : n12 = w32 (n11 * n2)) (f29 : n13 = w32 (n12 + n1)) (f30 : hUpd H3 H2 n10 n13 n0) (f31 : (hLe T0 H3 H4 ∧ hFr s_258.2.2.2.2 H3 H4 ∧ ((0 : Int) = 0 → H4.length = H3.length) ∧ hWt T0 H4) ∧ postb_258 n3 n2 H3 H4) (f32 : n14 = 1) : postb_260v n14 n3 n2 n1 n0 H0 H4 := by
  unfold preb_260v at f7
  unfold postb_257v at f10
  unfold postb_251 at f23
  unfold postb_258 at f31
  unfold postb_260v
  have e0 : hV H1 329 = hV H0 329 := fRow f10.1.2.1 329 kR_257v_329
  have e1 : n6 = hV H0 329 (n2).toNat := (by rw [f13] at f17; exact f17 : n6 = hV H1 329 (n2).toNat).trans ((congrFun e0 _))
  have e3 : hV H1 285 64 = hV H0 285 64 := (f10.1.2.1.1 285 64 kF_257v_285_64)
  have e4 : hV H1 328 = hV H0 328 := fRow f10.1.2.1 328 kR_257v_328
  have e8 : hV H3 285 65 = hV H0 285 65 := ((uPlace f30 285 65 (iS (show n10 = ((337 : Nat) : Int) from f25) rfl))).trans (((f23.1.2.1.1 285 65 kF_251_285_65)).trans (f10.1.2.1.1 285 65 kF_257v_285_65))
  have e13 : hV H3 333 = hV H0 333 := (uRowNe f30 333 (iS (show n10 = ((337 : Nat) : Int) from f25) rfl)).trans ((fRow f23.1.2.1 333 kR_251_333).trans (fRow f10.1.2.1 333 kR_257v_333))
  have e14 : SO H1 = SO H0 := SO_fr f10.1.2.1 (by decide +kernel)
  have e15 : SO H2 = SO H1 := SO_fr f23.1.2.1 (by decide +kernel)
  have e16 : SO H2 = SO H0 := e15.trans e14
  have e17 : SO H3 = SO H2 := SO_upR f30 (show n10 = ((337 : Nat) : Int) from f25) (by decide)
  have e18 : SO H3 = SO H0 := e17.trans e16
  have e19 : SO H4 = SO H3 := SO_fr f31.1.2.1 (by decide +kernel)
  have e20 : SO H4 = SO H0 := e19.trans e18
  have e21 : (0 : Int) ≤ hV H0 285 64 ∧ hV H0 285 64 ≤ 20 := f7.1 285 64 _ _ kW_285_64
  have e22 : (0 : Int) ≤ hV H0 285 65 ∧ hV H0 285 65 ≤ 2147483647 := f7.1 285 65 _ _ kW_285_65
  have e24 : (0 : Int) ≤ hV H4 285 65 ∧ hV H4 285 65 ≤ 2147483647 := f31.1.2.2.2 285 65 _ _ kW_285_65
  try simp only [e3, e4, e0] at f10
  try simp only [e8, e13] at f31
  try simp only [e20]
  have p0 := f7.2.1
  have p1 := f7.2.2.1
  have p2 := f7.2.2.2
  have r0_0 := f10.2
  have r1_0 := f23.2
  have r2_0 := f31.2.1
  have r2_1 := f31.2.2.1
  have r2_2 := f31.2.2.2
  clear f14 f17 f26 e0 e3 e4 e8 e13 e14 e15 e16 e17 e18 e19 e20
  subst e1
  rw [f27] at f28
  first
  | (have ix0 : n12 = 240 * n2 := Eq.trans f28 (w32_id (by omega) (by omega)); subst ix0; clear f28)
  | (unfold w32 at f28; have ix0 : n12 = 240 * n2 := (by omega); subst ix0)
  | skip
  first
  | (have ix1 : n13 = (240 * n2) + n1 := Eq.trans f29 (w32_id (by omega) (by omega)); subst ix1; clear f29)
  | (unfold w32 at f29; have ix1 : n13 = (240 * n2) + n1 := (by omega); subst ix1)
  | skip
  try unfold w32 at f28
  try unfold w32 at f29
  refine ⟨?_, ?_, ?_, ?_⟩ <;> first | assumption | omega | trivial
def g_260v_s_8 : vG := ([(0, [14], [], 1), (1258, [0, 1], [3, 4], 0), (80, [10, 13, 3], [3, 2], 0), (1, [13, 12, 2], [], 0), (3, [12, 11, 1], [], 0), (0, [11], [], 240), (20, [10, 0], [2], 75), (0, [10], [], 337), (31, [9], [], 0), (1251, [9, 3, 7, 8], [1, 2], 0), (90, [9], [], 0), (91, [9], [], 1), (0, [8], [], 9999), (0, [7], [], -9999), (42, [2, 6], [], 0), (22, [6, 5, 1], [1], 0), (90, [6], [], -1), (91, [6], [], 240), (20, [5, 0], [1], 67), (0, [5], [], 329), (33, [2], [], 0), (31, [4], [], 0), (1257, [4, 0, 1], [0, 1], 0), (90, [4], [], 0), (91, [4], [], 1), (6000, [0, 1, 2, 3], [0], 0), (0, [0], [], 285), (90, [1], [], -2147483648), (91, [1], [], 2147483647), (90, [2], [], -2147483648), (91, [2], [], 2147483647), (90, [3], [], -2147483648), (91, [3], [], 2147483647)], (3000, [14], [4], 56))
theorem c_260v_s_8 : vOkm T0 (eP e_260v L_260v A_260v mu_260v none) 4 g_260v_s_8 := vOk_inI fun ρ η f0 f1 f2 f3 f4 f5 f6 f7 f8 f9 f10 f11 f12 f13 f14 f15 f16 f17 f18 f19 f20 f21 f22 f23 f24 f25 f26 f27 f28 f29 f30 f31 f32 => q_260v_8 (n0 := ρ 3) (n1 := ρ 2) (n2 := ρ 1) (n3 := ρ 0) (n4 := ρ 4) (n5 := ρ 5) (n6 := ρ 6) (n7 := ρ 7) (n8 := ρ 8) (n9 := ρ 9) (n10 := ρ 10) (n11 := ρ 11) (n12 := ρ 12) (n13 := ρ 13) (n14 := ρ 14) (H0 := η 0) (H1 := η 1) (H2 := η 2) (H3 := η 3) (H4 := η 4) f32 f31 f30 f29 f28 f27 f26 f25 f24 f23 f22 f21 f20 f19 f18 f17 f16 f15 f14 f13 f12 f11 f10 f9 f8 f7 f6 f5 f4 f3 f2 f1 f0
theorem q_260v_9 {n0 n1 n2 n3 n4 n5 n6 n7 n8 n9 n10 : Int} {H0 H1 H2 : gH} (f0 : n0 ≤ 2147483647) (f1 : (-2147483648) ≤ n0) (f2 : n1 ≤ 2147483647) (f3 : (-2147483648) ≤ n1) (f4 : n2 ≤ 2147483647) (f5 : (-2147483648) ≤ n2) (f6 : n3 = 285) (f7 : hWt T0 H0 ∧ preb_260v n3 n2 n1 n0 H0) (f8 : n4 ≤ 1) (f9 : 0 ≤ n4) (f10 : (hLe T0 H0 H1 ∧ hFr s_257v.2.2.2.2 H0 H1 ∧ ((0 : Int) = 0 → H1.length = H0.length) ∧ hWt T0 H1) ∧ postb_257v n4 n3 n2 H0 H1) (f11 : n4 ≠ 0) (f12 : 0 ≤ n1) (f13 : n5 = 329) (f14 : n5 = hV H1 (n3).toNat 67) (f15 : n6 ≤ 240) (f16 : (-1) ≤ n6) (f17 : n6 = hV H1 (n5).toNat (n2).toNat) (f18 : n1 < n6) (f19 : n7 = (-9999)) (f20 : n8 = 9999) (f21 : n9 ≤ 1) (f22 : 0 ≤ n9) (f23 : (hLe T0 H1 H2 ∧ hFr s_251.2.2.2.2 H1 H2 ∧ ((0 : Int) = 0 → H2.length = H1.length) ∧ hWt T0 H2) ∧ postb_251 n9 n0 n7 n8 H1 H2) (f24 : n9 = 0) (f25 : n10 = 0) : postb_260v n10 n3 n2 n1 n0 H0 H2 := by
  unfold preb_260v at f7
  unfold postb_257v at f10
  unfold postb_251 at f23
  unfold postb_260v
  have e0 : hV H1 329 = hV H0 329 := fRow f10.1.2.1 329 kR_257v_329
  have e1 : n6 = hV H0 329 (n2).toNat := (by rw [f13] at f17; exact f17 : n6 = hV H1 329 (n2).toNat).trans ((congrFun e0 _))
  have e3 : hV H1 285 64 = hV H0 285 64 := (f10.1.2.1.1 285 64 kF_257v_285_64)
  have e4 : hV H1 328 = hV H0 328 := fRow f10.1.2.1 328 kR_257v_328
  have e7 : hV H2 285 65 = hV H0 285 65 := ((f23.1.2.1.1 285 65 kF_251_285_65)).trans (f10.1.2.1.1 285 65 kF_257v_285_65)
  have e8 : SO H1 = SO H0 := SO_fr f10.1.2.1 (by decide +kernel)
  have e9 : SO H2 = SO H1 := SO_fr f23.1.2.1 (by decide +kernel)
  have e10 : SO H2 = SO H0 := e9.trans e8
  have e11 : SS H1 = SS H0 := SS_fr f10.1.2.1 (by decide +kernel)
  have e12 : SS H2 = SS H1 := SS_fr f23.1.2.1 (by decide +kernel)
  have e13 : SS H2 = SS H0 := e12.trans e11
  have e14 : (0 : Int) ≤ hV H0 285 64 ∧ hV H0 285 64 ≤ 20 := f7.1 285 64 _ _ kW_285_64
  have e15 : (0 : Int) ≤ hV H0 285 65 ∧ hV H0 285 65 ≤ 2147483647 := f7.1 285 65 _ _ kW_285_65
  try simp only [e3, e4, e0] at f10
  try simp only [e7, e10, e13]
  have p0 := f7.2.1
  have p1 := f7.2.2.1
  have p2 := f7.2.2.2
  have r0_0 := f10.2
  have r1_0 := f23.2
  clear f14 f17 e0 e3 e4 e7 e8 e9 e10 e11 e12 e13
  subst e1
  refine ⟨?_, ?_, ?_, ?_⟩ <;> first | assumption | omega | trivial
def g_260v_s_9 : vG := ([(0, [10], [], 0), (30, [9], [], 0), (1251, [9, 3, 7, 8], [1, 2], 0), (90, [9], [], 0), (91, [9], [], 1), (0, [8], [], 9999), (0, [7], [], -9999), (42, [2, 6], [], 0), (22, [6, 5, 1], [1], 0), (90, [6], [], -1), (91, [6], [], 240), (20, [5, 0], [1], 67), (0, [5], [], 329), (33, [2], [], 0), (31, [4], [], 0), (1257, [4, 0, 1], [0, 1], 0), (90, [4], [], 0), (91, [4], [], 1), (6000, [0, 1, 2, 3], [0], 0), (0, [0], [], 285), (90, [1], [], -2147483648), (91, [1], [], 2147483647), (90, [2], [], -2147483648), (91, [2], [], 2147483647), (90, [3], [], -2147483648), (91, [3], [], 2147483647)], (3000, [10], [2], 36))
theorem c_260v_s_9 : vOkm T0 (eP e_260v L_260v A_260v mu_260v none) 4 g_260v_s_9 := vOk_inI fun ρ η f0 f1 f2 f3 f4 f5 f6 f7 f8 f9 f10 f11 f12 f13 f14 f15 f16 f17 f18 f19 f20 f21 f22 f23 f24 f25 => q_260v_9 (n0 := ρ 3) (n1 := ρ 2) (n2 := ρ 1) (n3 := ρ 0) (n4 := ρ 4) (n5 := ρ 5) (n6 := ρ 6) (n7 := ρ 7) (n8 := ρ 8) (n9 := ρ 9) (n10 := ρ 10) (H0 := η 0) (H1 := η 1) (H2 := η 2) f25 f24 f23 f22 f21 f20 f19 f18 f17 f16 f15 f14 f13 f12 f11 f10 f9 f8 f7 f6 f5 f4 f3 f2 f1 f0
def p_260v_s : List vG := [g_260v_s_0,
  g_260v_s_1,
  g_260v_s_2,
  g_260v_s_3,
  g_260v_s_4,
  g_260v_s_5,
  g_260v_s_6,
  g_260v_s_7,
  g_260v_s_8,
  g_260v_s_9]
theorem r_260v_s : vCovO false (eR0 e_260v L_260v cs_260v 2000) p_260v_s = true := by decide +kernel
theorem m_260v (d : Nat) : eC e_260v (d + 3) := eC_ok (e := e_260v) (L := L_260v) (cs := cs_260v) (n := 2000) (d := d + 2) (A := A_260v) (μ := mu_260v) (tp := false) (p0 := p_260v_s) rfl ⟨m_251 (d + 1), ⟨m_257v d, ⟨m_258 (d + 1), trivial⟩⟩⟩ rfl (.inl rfl) (by decide +kernel) (fun z => nomatch z) r_260v_s (allC c_260v_s_0 (allC c_260v_s_1 (allC c_260v_s_2 (allC c_260v_s_3 (allC c_260v_s_4 (allC c_260v_s_5 (allC c_260v_s_6 (allC c_260v_s_7 (allC c_260v_s_8 (allC c_260v_s_9 allN)))))))))) allN
/- MixStageModel.wave (IIIII)Z -/
noncomputable def s_259v : vM := ([(3, 12, 285, 0), (0, -2147483648, 2147483647, 0), (0, -2147483648, 2147483647, 0), (0, -2147483648, 2147483647, 0), (0, -2147483648, 2147483647, 0), (0, -2147483648, 2147483647, 0)], (0, 0, 1, 0), 1, 0, [(12, 65), (492, 0), (524, 0)])
def preb_259v (a0 a1 a2 a3 a4 a5 : Int) (h : gH) : Prop := hV h 285 65 ≤ 20000 ∧ SO h ∧ SS h
def pre_259v : List Int → gH → Prop := fun xs h => match xs with
  | [a0, a1, a2, a3, a4, a5] => preb_259v a0 a1 a2 a3 a4 a5 h
  | _ => False
def postb_259v (r a0 a1 a2 a3 a4 a5 : Int) (h0 h : gH) : Prop := SO h ∧ SS h ∧ hV h 285 65 ≤ hV h0 285 65 + 1
def post_259v : List Int → gH → gH → Prop := fun xs h0 h => match xs with
  | [r, a0, a1, a2, a3, a4, a5] => postb_259v r a0 a1 a2 a3 a4 a5 h0 h
  | _ => True
noncomputable def e_259v : vE := (259, s_259v, pre_259v, post_259v)
noncomputable def L_259v : List vE := [e_251, e_257v, e_258]
def cs_259v : List vC := [(83, [(0, (3, 12, 285, 0)), (1, (0, -2147483648, 2147483647, 0)), (2, (0, -2147483648, 2147483647, 0)), (3, (0, -2147483648, 2147483647, 0)), (4, (0, -2147483648, 2147483647, 0)), (5, (0, -2147483648, 2147483647, 0)), (6, (1, 0, 0, 0)), (8, (0, -2147483648, 2147483647, 0))])]
def Ab_259v_83 (a0 a1 a2 a3 a4 a5 x0 x1 x2 x3 x4 x5 x6 x8 : Int) (h0 h : gH) : Prop := x1 = a1 ∧ x2 = a2 ∧ x3 = a3 ∧ x4 = a4 ∧ x5 = a5 ∧ 0 ≤ a1 ∧ a1 ≤ 19 ∧ a3 ≤ 240 ∧ 0 ≤ x8 ∧ hV h 285 65 ≤ hV h0 285 65 ∧ SS h
def mub_259v_83 (a0 a1 a2 a3 a4 a5 x0 x1 x2 x3 x4 x5 x6 x8 : Int) (h0 h : gH) : Nat := (2147483648 - x8).toNat
def A_259v : Int → List Int → gH → gH → Prop := fun c xs h0 h => match c.toNat with
  | 83 => (match xs with
    | [a0, a1, a2, a3, a4, a5, x0, x1, x2, x3, x4, x5, x6, x8] => Ab_259v_83 a0 a1 a2 a3 a4 a5 x0 x1 x2 x3 x4 x5 x6 x8 h0 h
    | _ => False)
  | _ => True
def mu_259v : Int → List Int → gH → gH → Nat := fun c xs h0 h => match c.toNat with
  | 83 => (match xs with
    | [a0, a1, a2, a3, a4, a5, x0, x1, x2, x3, x4, x5, x6, x8] => mub_259v_83 a0 a1 a2 a3 a4 a5 x0 x1 x2 x3 x4 x5 x6 x8 h0 h
    | _ => 0)
  | _ => 0
theorem q_259v_0 {n0 n1 n2 n3 n4 n5 n6 n7 : Int} {H0 H1 : gH} (f0 : n0 ≤ 2147483647) (f1 : (-2147483648) ≤ n0) (f2 : n1 ≤ 2147483647) (f3 : (-2147483648) ≤ n1) (f4 : n2 ≤ 2147483647) (f5 : (-2147483648) ≤ n2) (f6 : n3 ≤ 2147483647) (f7 : (-2147483648) ≤ n3) (f8 : n4 ≤ 2147483647) (f9 : (-2147483648) ≤ n4) (f10 : n5 = 285) (f11 : hWt T0 H0 ∧ preb_259v n5 n4 n3 n2 n1 n0 H0) (f12 : n6 ≤ 1) (f13 : 0 ≤ n6) (f14 : (hLe T0 H0 H1 ∧ hFr s_257v.2.2.2.2 H0 H1 ∧ ((0 : Int) = 0 → H1.length = H0.length) ∧ hWt T0 H1) ∧ postb_257v n6 n5 n4 H0 H1) (f15 : n6 = 0) (f16 : n7 = 0) : postb_259v n7 n5 n4 n3 n2 n1 n0 H0 H1 := by
  unfold preb_259v at f11
  unfold postb_257v at f14
  unfold postb_259v
  have e1 : hV H1 285 64 = hV H0 285 64 := (f14.1.2.1.1 285 64 kF_257v_285_64)
  have e3 : hV H1 285 65 = hV H0 285 65 := (f14.1.2.1.1 285 65 kF_257v_285_65)
  have e4 : hV H1 328 = hV H0 328 := fRow f14.1.2.1 328 kR_257v_328
  have e5 : hV H1 329 = hV H0 329 := fRow f14.1.2.1 329 kR_257v_329
  have e6 : SO H1 = SO H0 := SO_fr f14.1.2.1 (by decide +kernel)
  have e7 : SS H1 = SS H0 := SS_fr f14.1.2.1 (by decide +kernel)
  have e8 : (0 : Int) ≤ hV H0 285 65 ∧ hV H0 285 65 ≤ 2147483647 := f11.1 285 65 _ _ kW_285_65
  have e9 : (0 : Int) ≤ hV H0 285 64 ∧ hV H0 285 64 ≤ 20 := bTo e1 (f14.1.2.2.2 285 64 _ _ kW_285_64)
  try simp only [e1, e4, e5] at f14
  try simp only [e3, e6, e7]
  have p0 := f11.2.1
  have p1 := f11.2.2.1
  have p2 := f11.2.2.2
  have r0_0 := f14.2
  clear e1 e3 e4 e5 e6 e7
  refine ⟨?_, ?_, ?_⟩ <;> first | assumption | omega | trivial
def g_259v_s_0 : vG := ([(0, [7], [], 0), (30, [6], [], 0), (1257, [6, 0, 1], [0, 1], 0), (90, [6], [], 0), (91, [6], [], 1), (6000, [0, 1, 2, 3, 4, 5], [0], 0), (0, [0], [], 285), (90, [1], [], -2147483648), (91, [1], [], 2147483647), (90, [2], [], -2147483648), (91, [2], [], 2147483647), (90, [3], [], -2147483648), (91, [3], [], 2147483647), (90, [4], [], -2147483648), (91, [4], [], 2147483647), (90, [5], [], -2147483648), (91, [5], [], 2147483647)], (3000, [7], [1], 28))
theorem c_259v_s_0 : vOkm T0 (eP e_259v L_259v A_259v mu_259v none) 6 g_259v_s_0 := vOk_inI fun ρ η f0 f1 f2 f3 f4 f5 f6 f7 f8 f9 f10 f11 f12 f13 f14 f15 f16 => q_259v_0 (n0 := ρ 5) (n1 := ρ 4) (n2 := ρ 3) (n3 := ρ 2) (n4 := ρ 1) (n5 := ρ 0) (n6 := ρ 6) (n7 := ρ 7) (H0 := η 0) (H1 := η 1) f16 f15 f14 f13 f12 f11 f10 f9 f8 f7 f6 f5 f4 f3 f2 f1 f0
theorem q_259v_1 {n0 n1 n2 n3 n4 n5 n6 n7 : Int} {H0 H1 : gH} (f0 : n0 ≤ 2147483647) (f1 : (-2147483648) ≤ n0) (f2 : n1 ≤ 2147483647) (f3 : (-2147483648) ≤ n1) (f4 : n2 ≤ 2147483647) (f5 : (-2147483648) ≤ n2) (f6 : n3 ≤ 2147483647) (f7 : (-2147483648) ≤ n3) (f8 : n4 ≤ 2147483647) (f9 : (-2147483648) ≤ n4) (f10 : n5 = 285) (f11 : hWt T0 H0 ∧ preb_259v n5 n4 n3 n2 n1 n0 H0) (f12 : n6 ≤ 1) (f13 : 0 ≤ n6) (f14 : (hLe T0 H0 H1 ∧ hFr s_257v.2.2.2.2 H0 H1 ∧ ((0 : Int) = 0 → H1.length = H0.length) ∧ hWt T0 H1) ∧ postb_257v n6 n5 n4 H0 H1) (f15 : n6 ≠ 0) (f16 : n3 < 0) (f17 : n7 = 0) : postb_259v n7 n5 n4 n3 n2 n1 n0 H0 H1 := by
  unfold preb_259v at f11
  unfold postb_257v at f14
  unfold postb_259v
  have e1 : hV H1 285 64 = hV H0 285 64 := (f14.1.2.1.1 285 64 kF_257v_285_64)
  have e3 : hV H1 285 65 = hV H0 285 65 := (f14.1.2.1.1 285 65 kF_257v_285_65)
  have e4 : hV H1 328 = hV H0 328 := fRow f14.1.2.1 328 kR_257v_328
  have e5 : hV H1 329 = hV H0 329 := fRow f14.1.2.1 329 kR_257v_329
  have e6 : SO H1 = SO H0 := SO_fr f14.1.2.1 (by decide +kernel)
  have e7 : SS H1 = SS H0 := SS_fr f14.1.2.1 (by decide +kernel)
  have e8 : (0 : Int) ≤ hV H0 285 65 ∧ hV H0 285 65 ≤ 2147483647 := f11.1 285 65 _ _ kW_285_65
  have e9 : (0 : Int) ≤ hV H0 285 64 ∧ hV H0 285 64 ≤ 20 := bTo e1 (f14.1.2.2.2 285 64 _ _ kW_285_64)
  try simp only [e1, e4, e5] at f14
  try simp only [e3, e6, e7]
  have p0 := f11.2.1
  have p1 := f11.2.2.1
  have p2 := f11.2.2.2
  have r0_0 := f14.2
  clear e1 e3 e4 e5 e6 e7
  refine ⟨?_, ?_, ?_⟩ <;> first | assumption | omega | trivial
def g_259v_s_1 : vG := ([(0, [7], [], 0), (32, [2], [], 0), (31, [6], [], 0), (1257, [6, 0, 1], [0, 1], 0), (90, [6], [], 0), (91, [6], [], 1), (6000, [0, 1, 2, 3, 4, 5], [0], 0), (0, [0], [], 285), (90, [1], [], -2147483648), (91, [1], [], 2147483647), (90, [2], [], -2147483648), (91, [2], [], 2147483647), (90, [3], [], -2147483648), (91, [3], [], 2147483647), (90, [4], [], -2147483648), (91, [4], [], 2147483647), (90, [5], [], -2147483648), (91, [5], [], 2147483647)], (3000, [7], [1], 28))
theorem c_259v_s_1 : vOkm T0 (eP e_259v L_259v A_259v mu_259v none) 6 g_259v_s_1 := vOk_inI fun ρ η f0 f1 f2 f3 f4 f5 f6 f7 f8 f9 f10 f11 f12 f13 f14 f15 f16 f17 => q_259v_1 (n0 := ρ 5) (n1 := ρ 4) (n2 := ρ 3) (n3 := ρ 2) (n4 := ρ 1) (n5 := ρ 0) (n6 := ρ 6) (n7 := ρ 7) (H0 := η 0) (H1 := η 1) f17 f16 f15 f14 f13 f12 f11 f10 f9 f8 f7 f6 f5 f4 f3 f2 f1 f0
theorem q_259v_2 {n0 n1 n2 n3 n4 n5 n6 n7 : Int} {H0 H1 : gH} (f0 : n0 ≤ 2147483647) (f1 : (-2147483648) ≤ n0) (f2 : n1 ≤ 2147483647) (f3 : (-2147483648) ≤ n1) (f4 : n2 ≤ 2147483647) (f5 : (-2147483648) ≤ n2) (f6 : n3 ≤ 2147483647) (f7 : (-2147483648) ≤ n3) (f8 : n4 ≤ 2147483647) (f9 : (-2147483648) ≤ n4) (f10 : n5 = 285) (f11 : hWt T0 H0 ∧ preb_259v n5 n4 n3 n2 n1 n0 H0) (f12 : n6 ≤ 1) (f13 : 0 ≤ n6) (f14 : (hLe T0 H0 H1 ∧ hFr s_257v.2.2.2.2 H0 H1 ∧ ((0 : Int) = 0 → H1.length = H0.length) ∧ hWt T0 H1) ∧ postb_257v n6 n5 n4 H0 H1) (f15 : n6 ≠ 0) (f16 : 0 ≤ n3) (f17 : n2 ≤ n3) (f18 : n7 = 0) : postb_259v n7 n5 n4 n3 n2 n1 n0 H0 H1 := by
  unfold preb_259v at f11
  unfold postb_257v at f14
  unfold postb_259v
  have e1 : hV H1 285 64 = hV H0 285 64 := (f14.1.2.1.1 285 64 kF_257v_285_64)
  have e3 : hV H1 285 65 = hV H0 285 65 := (f14.1.2.1.1 285 65 kF_257v_285_65)
  have e4 : hV H1 328 = hV H0 328 := fRow f14.1.2.1 328 kR_257v_328
  have e5 : hV H1 329 = hV H0 329 := fRow f14.1.2.1 329 kR_257v_329
  have e6 : SO H1 = SO H0 := SO_fr f14.1.2.1 (by decide +kernel)
  have e7 : SS H1 = SS H0 := SS_fr f14.1.2.1 (by decide +kernel)
  have e8 : (0 : Int) ≤ hV H0 285 65 ∧ hV H0 285 65 ≤ 2147483647 := f11.1 285 65 _ _ kW_285_65
  have e9 : (0 : Int) ≤ hV H0 285 64 ∧ hV H0 285 64 ≤ 20 := bTo e1 (f14.1.2.2.2 285 64 _ _ kW_285_64)
  try simp only [e1, e4, e5] at f14
  try simp only [e3, e6, e7]
  have p0 := f11.2.1
  have p1 := f11.2.2.1
  have p2 := f11.2.2.2
  have r0_0 := f14.2
  clear e1 e3 e4 e5 e6 e7
  refine ⟨?_, ?_, ?_⟩ <;> first | assumption | omega | trivial
def g_259v_s_2 : vG := ([(0, [7], [], 0), (43, [2, 3], [], 0), (33, [2], [], 0), (31, [6], [], 0), (1257, [6, 0, 1], [0, 1], 0), (90, [6], [], 0), (91, [6], [], 1), (6000, [0, 1, 2, 3, 4, 5], [0], 0), (0, [0], [], 285), (90, [1], [], -2147483648), (91, [1], [], 2147483647), (90, [2], [], -2147483648), (91, [2], [], 2147483647), (90, [3], [], -2147483648), (91, [3], [], 2147483647), (90, [4], [], -2147483648), (91, [4], [], 2147483647), (90, [5], [], -2147483648), (91, [5], [], 2147483647)], (3000, [7], [1], 28))
theorem c_259v_s_2 : vOkm T0 (eP e_259v L_259v A_259v mu_259v none) 6 g_259v_s_2 := vOk_inI fun ρ η f0 f1 f2 f3 f4 f5 f6 f7 f8 f9 f10 f11 f12 f13 f14 f15 f16 f17 f18 => q_259v_2 (n0 := ρ 5) (n1 := ρ 4) (n2 := ρ 3) (n3 := ρ 2) (n4 := ρ 1) (n5 := ρ 0) (n6 := ρ 6) (n7 := ρ 7) (H0 := η 0) (H1 := η 1) f18 f17 f16 f15 f14 f13 f12 f11 f10 f9 f8 f7 f6 f5 f4 f3 f2 f1 f0
theorem q_259v_3 {n0 n1 n2 n3 n4 n5 n6 : Int} {H0 H1 : gH} (f0 : n0 ≤ 2147483647) (f1 : (-2147483648) ≤ n0) (f2 : n1 ≤ 2147483647) (f3 : (-2147483648) ≤ n1) (f4 : n2 ≤ 2147483647) (f5 : (-2147483648) ≤ n2) (f6 : n3 ≤ 2147483647) (f7 : (-2147483648) ≤ n3) (f8 : n4 ≤ 2147483647) (f9 : (-2147483648) ≤ n4) (f10 : n5 = 285) (f11 : hWt T0 H0 ∧ preb_259v n5 n4 n3 n2 n1 n0 H0) (f12 : n6 ≤ 1) (f13 : 0 ≤ n6) (f14 : (hLe T0 H0 H1 ∧ hFr s_257v.2.2.2.2 H0 H1 ∧ ((0 : Int) = 0 → H1.length = H0.length) ∧ hWt T0 H1) ∧ postb_257v n6 n5 n4 H0 H1) (f15 : n6 ≠ 0) (f16 : 0 ≤ n3) (f17 : n3 < n2) : 0 ≤ n4 ∧ n4 < 20 := by
  unfold preb_259v at f11
  unfold postb_257v at f14
  have e1 : hV H1 285 64 = hV H0 285 64 := (f14.1.2.1.1 285 64 kF_257v_285_64)
  have e2 : hV H1 328 = hV H0 328 := fRow f14.1.2.1 328 kR_257v_328
  have e3 : hV H1 329 = hV H0 329 := fRow f14.1.2.1 329 kR_257v_329
  have e4 : (0 : Int) ≤ hV H0 285 65 ∧ hV H0 285 65 ≤ 2147483647 := f11.1 285 65 _ _ kW_285_65
  have e5 : (0 : Int) ≤ hV H0 285 64 ∧ hV H0 285 64 ≤ 20 := bTo e1 (f14.1.2.2.2 285 64 _ _ kW_285_64)
  try simp only [e1, e2, e3] at f14
  have p0 := f11.2.1
  have p1 := f11.2.2.1
  have p2 := f11.2.2.2
  have r0_0 := f14.2
  clear e1 e2 e3
  omega
def g_259v_s_3 : vG := ([(42, [2, 3], [], 0), (33, [2], [], 0), (31, [6], [], 0), (1257, [6, 0, 1], [0, 1], 0), (90, [6], [], 0), (91, [6], [], 1), (6000, [0, 1, 2, 3, 4, 5], [0], 0), (0, [0], [], 285), (90, [1], [], -2147483648), (91, [1], [], 2147483647), (90, [2], [], -2147483648), (91, [2], [], 2147483647), (90, [3], [], -2147483648), (91, [3], [], 2147483647), (90, [4], [], -2147483648), (91, [4], [], 2147483647), (90, [5], [], -2147483648), (91, [5], [], 2147483647)], (70, [1], [], 20))
theorem c_259v_s_3 : vOkm T0 (eP e_259v L_259v A_259v mu_259v none) 6 g_259v_s_3 := vOk_inI fun ρ η f0 f1 f2 f3 f4 f5 f6 f7 f8 f9 f10 f11 f12 f13 f14 f15 f16 f17 => q_259v_3 (n0 := ρ 5) (n1 := ρ 4) (n2 := ρ 3) (n3 := ρ 2) (n4 := ρ 1) (n5 := ρ 0) (n6 := ρ 6) (H0 := η 0) (H1 := η 1) f17 f16 f15 f14 f13 f12 f11 f10 f9 f8 f7 f6 f5 f4 f3 f2 f1 f0
theorem q_259v_4 {n0 n1 n2 n3 n4 n5 n6 n7 n8 n9 n10 n11 n12 n13 n14 n15 n16 : Int} {H0 H1 H2 : gH} (f0 : n0 ≤ 2147483647) (f1 : (-2147483648) ≤ n0) (f2 : n1 ≤ 2147483647) (f3 : (-2147483648) ≤ n1) (f4 : n2 ≤ 2147483647) (f5 : (-2147483648) ≤ n2) (f6 : n3 ≤ 2147483647) (f7 : (-2147483648) ≤ n3) (f8 : n4 ≤ 2147483647) (f9 : (-2147483648) ≤ n4) (f10 : n5 = 285) (f11 : hWt T0 H0 ∧ preb_259v n5 n4 n3 n2 n1 n0 H0) (f12 : n6 ≤ 1) (f13 : 0 ≤ n6) (f14 : (hLe T0 H0 H1 ∧ hFr s_257v.2.2.2.2 H0 H1 ∧ ((0 : Int) = 0 → H1.length = H0.length) ∧ hWt T0 H1) ∧ postb_257v n6 n5 n4 H0 H1) (f15 : n6 ≠ 0) (f16 : 0 ≤ n3) (f17 : n3 < n2) (f18 : n7 = 329) (f19 : n7 = hV H1 (n5).toNat 67) (f20 : n8 ≤ 240) (f21 : (-1) ≤ n8) (f22 : n8 = hV H1 (n7).toNat (n4).toNat) (f23 : n2 ≤ n8) (f24 : n9 = n1) (f25 : n10 = n2) (f26 : n11 = n3) (f27 : n12 = n0) (f28 : n13 = (-9999)) (f29 : n14 = 9999) (f30 : n15 ≤ 1) (f31 : 0 ≤ n15) (f32 : (hLe T0 H1 H2 ∧ hFr s_251.2.2.2.2 H1 H2 ∧ ((0 : Int) = 0 → H2.length = H1.length) ∧ hWt T0 H2) ∧ postb_251 n15 n1 n13 n14 H1 H2) (f33 : n15 = 0) (f34 : n16 = 0) : postb_259v n16 n5 n4 n3 n2 n1 n0 H0 H2 := by
  unfold preb_259v at f11
  unfold postb_257v at f14
  unfold postb_251 at f32
  unfold postb_259v
  have e0 : hV H1 329 = hV H0 329 := fRow f14.1.2.1 329 kR_257v_329
  have e1 : n8 = hV H0 329 (n4).toNat := (by rw [f18] at f22; exact f22 : n8 = hV H1 329 (n4).toNat).trans ((congrFun e0 _))
  have e3 : hV H1 285 64 = hV H0 285 64 := (f14.1.2.1.1 285 64 kF_257v_285_64)
  have e4 : hV H1 328 = hV H0 328 := fRow f14.1.2.1 328 kR_257v_328
  have e7 : hV H2 285 65 = hV H0 285 65 := ((f32.1.2.1.1 285 65 kF_251_285_65)).trans (f14.1.2.1.1 285 65 kF_257v_285_65)
  have e8 : SO H1 = SO H0 := SO_fr f14.1.2.1 (by decide +kernel)
  have e9 : SO H2 = SO H1 := SO_fr f32.1.2.1 (by decide +kernel)
  have e10 : SO H2 = SO H0 := e9.trans e8
  have e11 : SS H1 = SS H0 := SS_fr f14.1.2.1 (by decide +kernel)
  have e12 : SS H2 = SS H1 := SS_fr f32.1.2.1 (by decide +kernel)
  have e13 : SS H2 = SS H0 := e12.trans e11
  have e14 : (0 : Int) ≤ hV H0 285 65 ∧ hV H0 285 65 ≤ 2147483647 := f11.1 285 65 _ _ kW_285_65
  have e15 : (0 : Int) ≤ hV H0 285 64 ∧ hV H0 285 64 ≤ 20 := bTo e3 (f14.1.2.2.2 285 64 _ _ kW_285_64)
  try simp only [e3, e4, e0] at f14
  try simp only [e7, e10, e13]
  have p0 := f11.2.1
  have p1 := f11.2.2.1
  have p2 := f11.2.2.2
  have r0_0 := f14.2
  have r1_0 := f32.2
  clear f19 f22 e0 e3 e4 e7 e8 e9 e10 e11 e12 e13
  subst e1
  refine ⟨?_, ?_, ?_⟩ <;> first | assumption | omega | trivial
def g_259v_s_4 : vG := ([(0, [21], [], 0), (30, [20], [], 0), (1251, [20, 4, 18, 19], [1, 2], 0), (90, [20], [], 0), (91, [20], [], 1), (0, [19], [], 9999), (0, [18], [], -9999), (17, [15, 5], [], 0), (17, [13, 2], [], 0), (17, [10, 3], [], 0), (17, [9, 4], [], 0), (45, [3, 8], [], 0), (22, [8, 7, 1], [1], 0), (90, [8], [], -1), (91, [8], [], 240), (20, [7, 0], [1], 67), (0, [7], [], 329), (42, [2, 3], [], 0), (33, [2], [], 0), (31, [6], [], 0), (1257, [6, 0, 1], [0, 1], 0), (90, [6], [], 0), (91, [6], [], 1), (6000, [0, 1, 2, 3, 4, 5], [0], 0), (0, [0], [], 285), (90, [1], [], -2147483648), (91, [1], [], 2147483647), (90, [2], [], -2147483648), (91, [2], [], 2147483647), (90, [3], [], -2147483648), (91, [3], [], 2147483647), (90, [4], [], -2147483648), (91, [4], [], 2147483647), (90, [5], [], -2147483648), (91, [5], [], 2147483647)], (3000, [21], [2], 79))
theorem c_259v_s_4 : vOkm T0 (eP e_259v L_259v A_259v mu_259v none) 6 g_259v_s_4 := vOk_inI fun ρ η f0 f1 f2 f3 f4 f5 f6 f7 f8 f9 f10 f11 f12 f13 f14 f15 f16 f17 f18 f19 f20 f21 f22 f23 f24 f25 f26 f27 f28 f29 f30 f31 f32 f33 f34 => q_259v_4 (n0 := ρ 5) (n1 := ρ 4) (n2 := ρ 3) (n3 := ρ 2) (n4 := ρ 1) (n5 := ρ 0) (n6 := ρ 6) (n7 := ρ 7) (n8 := ρ 8) (n9 := ρ 9) (n10 := ρ 10) (n11 := ρ 13) (n12 := ρ 15) (n13 := ρ 18) (n14 := ρ 19) (n15 := ρ 20) (n16 := ρ 21) (H0 := η 0) (H1 := η 1) (H2 := η 2) f34 f33 f32 f31 f30 f29 f28 f27 f26 f25 f24 f23 f22 f21 f20 f19 f18 f17 f16 f15 f14 f13 f12 f11 f10 f9 f8 f7 f6 f5 f4 f3 f2 f1 f0
theorem q_259v_5 {n0 n1 n2 n3 n4 n5 n6 n7 n8 n9 n10 n11 n12 n13 n14 n15 n16 : Int} {H0 H1 H2 : gH} (f0 : n0 ≤ 2147483647) (f1 : (-2147483648) ≤ n0) (f2 : n1 ≤ 2147483647) (f3 : (-2147483648) ≤ n1) (f4 : n2 ≤ 2147483647) (f5 : (-2147483648) ≤ n2) (f6 : n3 ≤ 2147483647) (f7 : (-2147483648) ≤ n3) (f8 : n4 ≤ 2147483647) (f9 : (-2147483648) ≤ n4) (f10 : n5 = 285) (f11 : hWt T0 H0 ∧ preb_259v n5 n4 n3 n2 n1 n0 H0) (f12 : n6 ≤ 1) (f13 : 0 ≤ n6) (f14 : (hLe T0 H0 H1 ∧ hFr s_257v.2.2.2.2 H0 H1 ∧ ((0 : Int) = 0 → H1.length = H0.length) ∧ hWt T0 H1) ∧ postb_257v n6 n5 n4 H0 H1) (f15 : n6 ≠ 0) (f16 : 0 ≤ n3) (f17 : n3 < n2) (f18 : n7 = 329) (f19 : n7 = hV H1 (n5).toNat 67) (f20 : n8 ≤ 240) (f21 : (-1) ≤ n8) (f22 : n8 = hV H1 (n7).toNat (n4).toNat) (f23 : n2 ≤ n8) (f24 : n9 = n1) (f25 : n10 = n2) (f26 : n11 = n3) (f27 : n12 = n0) (f28 : n13 = (-9999)) (f29 : n14 = 9999) (f30 : n15 ≤ 1) (f31 : 0 ≤ n15) (f32 : (hLe T0 H1 H2 ∧ hFr s_251.2.2.2.2 H1 H2 ∧ ((0 : Int) = 0 → H2.length = H1.length) ∧ hWt T0 H2) ∧ postb_251 n15 n1 n13 n14 H1 H2) (f33 : n15 ≠ 0) (f34 : n16 = 0) : postb_259v n16 n5 n4 n3 n2 n1 n0 H0 H2 := by
  unfold preb_259v at f11
  unfold postb_257v at f14
  unfold postb_251 at f32
  unfold postb_259v
  have e0 : hV H1 329 = hV H0 329 := fRow f14.1.2.1 329 kR_257v_329
  have e1 : n8 = hV H0 329 (n4).toNat := (by rw [f18] at f22; exact f22 : n8 = hV H1 329 (n4).toNat).trans ((congrFun e0 _))
  have e3 : hV H1 285 64 = hV H0 285 64 := (f14.1.2.1.1 285 64 kF_257v_285_64)
  have e4 : hV H1 328 = hV H0 328 := fRow f14.1.2.1 328 kR_257v_328
  have e7 : hV H2 285 65 = hV H0 285 65 := ((f32.1.2.1.1 285 65 kF_251_285_65)).trans (f14.1.2.1.1 285 65 kF_257v_285_65)
  have e8 : SO H1 = SO H0 := SO_fr f14.1.2.1 (by decide +kernel)
  have e9 : SO H2 = SO H1 := SO_fr f32.1.2.1 (by decide +kernel)
  have e10 : SO H2 = SO H0 := e9.trans e8
  have e11 : SS H1 = SS H0 := SS_fr f14.1.2.1 (by decide +kernel)
  have e12 : SS H2 = SS H1 := SS_fr f32.1.2.1 (by decide +kernel)
  have e13 : SS H2 = SS H0 := e12.trans e11
  have e14 : (0 : Int) ≤ hV H0 285 65 ∧ hV H0 285 65 ≤ 2147483647 := f11.1 285 65 _ _ kW_285_65
  have e15 : (0 : Int) ≤ hV H0 285 64 ∧ hV H0 285 64 ≤ 20 := bTo e3 (f14.1.2.2.2 285 64 _ _ kW_285_64)
  try simp only [e3, e4, e0] at f14
  try simp only [e7, e10, e13]
  have p0 := f11.2.1
  have p1 := f11.2.2.1
  have p2 := f11.2.2.2
  have r0_0 := f14.2
  have r1_0 := f32.2
  clear f19 f22 e0 e3 e4 e7 e8 e9 e10 e11 e12 e13
  subst e1
  refine ⟨?_, ?_, ?_⟩ <;> first | assumption | omega | trivial
def g_259v_s_5 : vG := ([(0, [23], [], 0), (31, [20], [], 0), (1251, [20, 4, 18, 19], [1, 2], 0), (90, [20], [], 0), (91, [20], [], 1), (0, [19], [], 9999), (0, [18], [], -9999), (17, [15, 5], [], 0), (17, [13, 2], [], 0), (17, [10, 3], [], 0), (17, [9, 4], [], 0), (45, [3, 8], [], 0), (22, [8, 7, 1], [1], 0), (90, [8], [], -1), (91, [8], [], 240), (20, [7, 0], [1], 67), (0, [7], [], 329), (42, [2, 3], [], 0), (33, [2], [], 0), (31, [6], [], 0), (1257, [6, 0, 1], [0, 1], 0), (90, [6], [], 0), (91, [6], [], 1), (6000, [0, 1, 2, 3, 4, 5], [0], 0), (0, [0], [], 285), (90, [1], [], -2147483648), (91, [1], [], 2147483647), (90, [2], [], -2147483648), (91, [2], [], 2147483647), (90, [3], [], -2147483648), (91, [3], [], 2147483647), (90, [4], [], -2147483648), (91, [4], [], 2147483647), (90, [5], [], -2147483648), (91, [5], [], 2147483647)], (3000, [23], [2], 79))
theorem c_259v_s_5 : vOkm T0 (eP e_259v L_259v A_259v mu_259v none) 6 g_259v_s_5 := vOk_inI fun ρ η f0 f1 f2 f3 f4 f5 f6 f7 f8 f9 f10 f11 f12 f13 f14 f15 f16 f17 f18 f19 f20 f21 f22 f23 f24 f25 f26 f27 f28 f29 f30 f31 f32 f33 f34 => q_259v_5 (n0 := ρ 5) (n1 := ρ 4) (n2 := ρ 3) (n3 := ρ 2) (n4 := ρ 1) (n5 := ρ 0) (n6 := ρ 6) (n7 := ρ 7) (n8 := ρ 8) (n9 := ρ 9) (n10 := ρ 10) (n11 := ρ 13) (n12 := ρ 15) (n13 := ρ 18) (n14 := ρ 19) (n15 := ρ 20) (n16 := ρ 23) (H0 := η 0) (H1 := η 1) (H2 := η 2) f34 f33 f32 f31 f30 f29 f28 f27 f26 f25 f24 f23 f22 f21 f20 f19 f18 f17 f16 f15 f14 f13 f12 f11 f10 f9 f8 f7 f6 f5 f4 f3 f2 f1 f0
theorem q_259v_6 {n0 n1 n2 n3 n4 n5 n6 n7 n8 n9 n10 n11 n12 n13 n14 n15 n16 n17 n18 n19 n20 : Int} {H0 H1 H2 : gH} (f0 : n0 ≤ 2147483647) (f1 : (-2147483648) ≤ n0) (f2 : n1 ≤ 2147483647) (f3 : (-2147483648) ≤ n1) (f4 : n2 ≤ 2147483647) (f5 : (-2147483648) ≤ n2) (f6 : n3 ≤ 2147483647) (f7 : (-2147483648) ≤ n3) (f8 : n4 ≤ 2147483647) (f9 : (-2147483648) ≤ n4) (f10 : n5 = 285) (f11 : hWt T0 H0 ∧ preb_259v n5 n4 n3 n2 n1 n0 H0) (f12 : n6 ≤ 1) (f13 : 0 ≤ n6) (f14 : (hLe T0 H0 H1 ∧ hFr s_257v.2.2.2.2 H0 H1 ∧ ((0 : Int) = 0 → H1.length = H0.length) ∧ hWt T0 H1) ∧ postb_257v n6 n5 n4 H0 H1) (f15 : n6 ≠ 0) (f16 : 0 ≤ n3) (f17 : n3 < n2) (f18 : n7 = 329) (f19 : n7 = hV H1 (n5).toNat 67) (f20 : n8 ≤ 240) (f21 : (-1) ≤ n8) (f22 : n8 = hV H1 (n7).toNat (n4).toNat) (f23 : n2 ≤ n8) (f24 : n9 = n1) (f25 : n10 = n2) (f26 : n11 = 1) (f27 : n12 = o64 (fun x y => x - y) n10 n11) (f28 : n13 = n3) (f29 : n14 = o64 (fun x y => x - y) n12 n13) (f30 : n15 = n0) (f31 : n16 = o64 (fun x y => x * y) n14 n15) (f32 : n17 = o64 (fun x y => x + y) n9 n16) (f33 : n18 = (-9999)) (f34 : n19 = 9999) (f35 : n20 ≤ 1) (f36 : 0 ≤ n20) (f37 : (hLe T0 H1 H2 ∧ hFr s_251.2.2.2.2 H1 H2 ∧ ((0 : Int) = 0 → H2.length = H1.length) ∧ hWt T0 H2) ∧ postb_251 n20 n1 n18 n19 H1 H2) (f38 : n20 ≠ 0) : Ab_259v_83 n5 n4 n3 n2 n1 n0 n5 n4 n3 n2 n1 n0 n17 n3 H0 H2 ∧ ∀ q, none = some q → mub_259v_83 n5 n4 n3 n2 n1 n0 n5 n4 n3 n2 n1 n0 n17 n3 H0 H2 < q := by
  unfold preb_259v at f11
  unfold postb_257v at f14
  unfold postb_251 at f37
  unfold Ab_259v_83
  have e0 : hV H1 329 = hV H0 329 := fRow f14.1.2.1 329 kR_257v_329
  have e1 : n8 = hV H0 329 (n4).toNat := (by rw [f18] at f22; exact f22 : n8 = hV H1 329 (n4).toNat).trans ((congrFun e0 _))
  have e3 : hV H1 285 64 = hV H0 285 64 := (f14.1.2.1.1 285 64 kF_257v_285_64)
  have e4 : hV H1 328 = hV H0 328 := fRow f14.1.2.1 328 kR_257v_328
  have e7 : hV H2 285 65 = hV H0 285 65 := ((f37.1.2.1.1 285 65 kF_251_285_65)).trans (f14.1.2.1.1 285 65 kF_257v_285_65)
  have e8 : SS H1 = SS H0 := SS_fr f14.1.2.1 (by decide +kernel)
  have e9 : SS H2 = SS H1 := SS_fr f37.1.2.1 (by decide +kernel)
  have e10 : SS H2 = SS H0 := e9.trans e8
  have e11 : (0 : Int) ≤ hV H0 285 65 ∧ hV H0 285 65 ≤ 2147483647 := f11.1 285 65 _ _ kW_285_65
  have e12 : (0 : Int) ≤ hV H0 285 64 ∧ hV H0 285 64 ≤ 20 := bTo e3 (f14.1.2.2.2 285 64 _ _ kW_285_64)
  try simp only [e3, e4, e0] at f14
  try simp only [e7, e10]
  have p0 := f11.2.1
  have p1 := f11.2.2.1
  have p2 := f11.2.2.2
  have r0_0 := f14.2
  have r1_0 := f37.2
  clear f19 f22 e0 e3 e4 e7 e8 e9 e10
  subst e1
  refine ⟨?_, fun q hq => ?_⟩
  · refine ⟨?_, ?_, ?_, ?_, ?_, ?_, ?_, ?_, ?_, ?_, ?_⟩ <;> first | assumption | omega | trivial
  · exact nomatch hq
def g_259v_s_6 : vG := ([(31, [20], [], 0), (1251, [20, 4, 18, 19], [1, 2], 0), (90, [20], [], 0), (91, [20], [], 1), (0, [19], [], 9999), (0, [18], [], -9999), (61, [17, 9, 16], [], 0), (63, [16, 14, 15], [], 0), (17, [15, 5], [], 0), (62, [14, 12, 13], [], 0), (17, [13, 2], [], 0), (62, [12, 10, 11], [], 0), (0, [11], [], 1), (17, [10, 3], [], 0), (17, [9, 4], [], 0), (45, [3, 8], [], 0), (22, [8, 7, 1], [1], 0), (90, [8], [], -1), (91, [8], [], 240), (20, [7, 0], [1], 67), (0, [7], [], 329), (42, [2, 3], [], 0), (33, [2], [], 0), (31, [6], [], 0), (1257, [6, 0, 1], [0, 1], 0), (90, [6], [], 0), (91, [6], [], 1), (6000, [0, 1, 2, 3, 4, 5], [0], 0), (0, [0], [], 285), (90, [1], [], -2147483648), (91, [1], [], 2147483647), (90, [2], [], -2147483648), (91, [2], [], 2147483647), (90, [3], [], -2147483648), (91, [3], [], 2147483647), (90, [4], [], -2147483648), (91, [4], [], 2147483647), (90, [5], [], -2147483648), (91, [5], [], 2147483647)], (4000, [0, 1, 2, 3, 4, 5, 17, 2], [2], 83))
theorem c_259v_s_6 : vOkm T0 (eP e_259v L_259v A_259v mu_259v none) 6 g_259v_s_6 := vOk_inI fun ρ η f0 f1 f2 f3 f4 f5 f6 f7 f8 f9 f10 f11 f12 f13 f14 f15 f16 f17 f18 f19 f20 f21 f22 f23 f24 f25 f26 f27 f28 f29 f30 f31 f32 f33 f34 f35 f36 f37 f38 => q_259v_6 (n0 := ρ 5) (n1 := ρ 4) (n2 := ρ 3) (n3 := ρ 2) (n4 := ρ 1) (n5 := ρ 0) (n6 := ρ 6) (n7 := ρ 7) (n8 := ρ 8) (n9 := ρ 9) (n10 := ρ 10) (n11 := ρ 11) (n12 := ρ 12) (n13 := ρ 13) (n14 := ρ 14) (n15 := ρ 15) (n16 := ρ 16) (n17 := ρ 17) (n18 := ρ 18) (n19 := ρ 19) (n20 := ρ 20) (H0 := η 0) (H1 := η 1) (H2 := η 2) f38 f37 f36 f35 f34 f33 f32 f31 f30 f29 f28 f27 f26 f25 f24 f23 f22 f21 f20 f19 f18 f17 f16 f15 f14 f13 f12 f11 f10 f9 f8 f7 f6 f5 f4 f3 f2 f1 f0
def g_259v_s_7 : vG := ([(0, [25], [], 0), (31, [20], [], 0), (1251, [20, 4, 18, 19], [1, 2], 0), (90, [20], [], 0), (91, [20], [], 1), (0, [19], [], 9999), (0, [18], [], -9999), (17, [15, 5], [], 0), (17, [13, 2], [], 0), (17, [10, 3], [], 0), (17, [9, 4], [], 0), (45, [3, 8], [], 0), (22, [8, 7, 1], [1], 0), (90, [8], [], -1), (91, [8], [], 240), (20, [7, 0], [1], 67), (0, [7], [], 329), (42, [2, 3], [], 0), (33, [2], [], 0), (31, [6], [], 0), (1257, [6, 0, 1], [0, 1], 0), (90, [6], [], 0), (91, [6], [], 1), (6000, [0, 1, 2, 3, 4, 5], [0], 0), (0, [0], [], 285), (90, [1], [], -2147483648), (91, [1], [], 2147483647), (90, [2], [], -2147483648), (91, [2], [], 2147483647), (90, [3], [], -2147483648), (91, [3], [], 2147483647), (90, [4], [], -2147483648), (91, [4], [], 2147483647), (90, [5], [], -2147483648), (91, [5], [], 2147483647)], (3000, [25], [2], 79))
theorem c_259v_s_7 : vOkm T0 (eP e_259v L_259v A_259v mu_259v none) 6 g_259v_s_7 := vOk_inI fun ρ η f0 f1 f2 f3 f4 f5 f6 f7 f8 f9 f10 f11 f12 f13 f14 f15 f16 f17 f18 f19 f20 f21 f22 f23 f24 f25 f26 f27 f28 f29 f30 f31 f32 f33 f34 => q_259v_5 (n0 := ρ 5) (n1 := ρ 4) (n2 := ρ 3) (n3 := ρ 2) (n4 := ρ 1) (n5 := ρ 0) (n6 := ρ 6) (n7 := ρ 7) (n8 := ρ 8) (n9 := ρ 9) (n10 := ρ 10) (n11 := ρ 13) (n12 := ρ 15) (n13 := ρ 18) (n14 := ρ 19) (n15 := ρ 20) (n16 := ρ 25) (H0 := η 0) (H1 := η 1) (H2 := η 2) f34 f33 f32 f31 f30 f29 f28 f27 f26 f25 f24 f23 f22 f21 f20 f19 f18 f17 f16 f15 f14 f13 f12 f11 f10 f9 f8 f7 f6 f5 f4 f3 f2 f1 f0
theorem q_259v_7 {n0 n1 n2 n3 n4 n5 n6 n7 n8 n9 : Int} {H0 H1 : gH} (f0 : n0 ≤ 2147483647) (f1 : (-2147483648) ≤ n0) (f2 : n1 ≤ 2147483647) (f3 : (-2147483648) ≤ n1) (f4 : n2 ≤ 2147483647) (f5 : (-2147483648) ≤ n2) (f6 : n3 ≤ 2147483647) (f7 : (-2147483648) ≤ n3) (f8 : n4 ≤ 2147483647) (f9 : (-2147483648) ≤ n4) (f10 : n5 = 285) (f11 : hWt T0 H0 ∧ preb_259v n5 n4 n3 n2 n1 n0 H0) (f12 : n6 ≤ 1) (f13 : 0 ≤ n6) (f14 : (hLe T0 H0 H1 ∧ hFr s_257v.2.2.2.2 H0 H1 ∧ ((0 : Int) = 0 → H1.length = H0.length) ∧ hWt T0 H1) ∧ postb_257v n6 n5 n4 H0 H1) (f15 : n6 ≠ 0) (f16 : 0 ≤ n3) (f17 : n3 < n2) (f18 : n7 = 329) (f19 : n7 = hV H1 (n5).toNat 67) (f20 : n8 ≤ 240) (f21 : (-1) ≤ n8) (f22 : n8 = hV H1 (n7).toNat (n4).toNat) (f23 : n8 < n2) (f24 : n9 = 0) : postb_259v n9 n5 n4 n3 n2 n1 n0 H0 H1 := by
  unfold preb_259v at f11
  unfold postb_257v at f14
  unfold postb_259v
  have e0 : hV H1 329 = hV H0 329 := fRow f14.1.2.1 329 kR_257v_329
  have e1 : n8 = hV H0 329 (n4).toNat := (by rw [f18] at f22; exact f22 : n8 = hV H1 329 (n4).toNat).trans ((congrFun e0 _))
  have e3 : hV H1 285 64 = hV H0 285 64 := (f14.1.2.1.1 285 64 kF_257v_285_64)
  have e5 : hV H1 285 65 = hV H0 285 65 := (f14.1.2.1.1 285 65 kF_257v_285_65)
  have e6 : hV H1 328 = hV H0 328 := fRow f14.1.2.1 328 kR_257v_328
  have e7 : SO H1 = SO H0 := SO_fr f14.1.2.1 (by decide +kernel)
  have e8 : SS H1 = SS H0 := SS_fr f14.1.2.1 (by decide +kernel)
  have e9 : (0 : Int) ≤ hV H0 285 65 ∧ hV H0 285 65 ≤ 2147483647 := f11.1 285 65 _ _ kW_285_65
  have e10 : (0 : Int) ≤ hV H0 285 64 ∧ hV H0 285 64 ≤ 20 := bTo e3 (f14.1.2.2.2 285 64 _ _ kW_285_64)
  try simp only [e3, e6, e0] at f14
  try simp only [e5, e7, e8]
  have p0 := f11.2.1
  have p1 := f11.2.2.1
  have p2 := f11.2.2.2
  have r0_0 := f14.2
  clear f19 f22 e0 e3 e5 e6 e7 e8
  subst e1
  refine ⟨?_, ?_, ?_⟩ <;> first | assumption | omega | trivial
def g_259v_s_8 : vG := ([(0, [9], [], 0), (44, [3, 8], [], 0), (22, [8, 7, 1], [1], 0), (90, [8], [], -1), (91, [8], [], 240), (20, [7, 0], [1], 67), (0, [7], [], 329), (42, [2, 3], [], 0), (33, [2], [], 0), (31, [6], [], 0), (1257, [6, 0, 1], [0, 1], 0), (90, [6], [], 0), (91, [6], [], 1), (6000, [0, 1, 2, 3, 4, 5], [0], 0), (0, [0], [], 285), (90, [1], [], -2147483648), (91, [1], [], 2147483647), (90, [2], [], -2147483648), (91, [2], [], 2147483647), (90, [3], [], -2147483648), (91, [3], [], 2147483647), (90, [4], [], -2147483648), (91, [4], [], 2147483647), (90, [5], [], -2147483648), (91, [5], [], 2147483647)], (3000, [9], [1], 28))
theorem c_259v_s_8 : vOkm T0 (eP e_259v L_259v A_259v mu_259v none) 6 g_259v_s_8 := vOk_inI fun ρ η f0 f1 f2 f3 f4 f5 f6 f7 f8 f9 f10 f11 f12 f13 f14 f15 f16 f17 f18 f19 f20 f21 f22 f23 f24 => q_259v_7 (n0 := ρ 5) (n1 := ρ 4) (n2 := ρ 3) (n3 := ρ 2) (n4 := ρ 1) (n5 := ρ 0) (n6 := ρ 6) (n7 := ρ 7) (n8 := ρ 8) (n9 := ρ 9) (H0 := η 0) (H1 := η 1) f24 f23 f22 f21 f20 f19 f18 f17 f16 f15 f14 f13 f12 f11 f10 f9 f8 f7 f6 f5 f4 f3 f2 f1 f0
def p_259v_s : List vG := [g_259v_s_0,
  g_259v_s_1,
  g_259v_s_2,
  g_259v_s_3,
  g_259v_s_4,
  g_259v_s_5,
  g_259v_s_6,
  g_259v_s_7,
  g_259v_s_8]
theorem r_259v_s : vCovO false (eR0 e_259v L_259v cs_259v 2000) p_259v_s = true := by decide +kernel
theorem q_259v_8 {q0 : Nat} {n0 n1 n2 n3 n4 n5 n6 n7 n8 n9 n10 n11 n12 n13 : Int} {H0 H1 : gH} (f0 : n0 ≤ 2147483647) (f1 : (-2147483648) ≤ n0) (f2 : n1 ≤ 2147483647) (f3 : (-2147483648) ≤ n1) (f4 : n2 ≤ 2147483647) (f5 : (-2147483648) ≤ n2) (f6 : n3 ≤ 2147483647) (f7 : (-2147483648) ≤ n3) (f8 : n4 ≤ 2147483647) (f9 : (-2147483648) ≤ n4) (f10 : n5 ≤ 2147483647) (f11 : (-2147483648) ≤ n5) (f12 : n6 = 285) (f13 : n7 ≤ 2147483647) (f14 : (-2147483648) ≤ n7) (f15 : n8 ≤ 2147483647) (f16 : (-2147483648) ≤ n8) (f17 : n9 ≤ 2147483647) (f18 : (-2147483648) ≤ n9) (f19 : n10 ≤ 2147483647) (f20 : (-2147483648) ≤ n10) (f21 : n11 ≤ 2147483647) (f22 : (-2147483648) ≤ n11) (f23 : n12 = 285) (f24 : (hLe T0 H0 H1 ∧ hFr s_259v.2.2.2.2 H0 H1 ∧ hWt T0 H1) ∧ (Ab_259v_83 n12 n11 n10 n9 n8 n7 n6 n5 n4 n3 n2 n1 n13 n0 H0 H1 ∧ preb_259v n12 n11 n10 n9 n8 n7 H0) ∧ some q0 = some (mub_259v_83 n12 n11 n10 n9 n8 n7 n6 n5 n4 n3 n2 n1 n13 n0 H0 H1)) (f25 : n3 ≤ n0) : 0 ≤ n5 := by
  have g4 := f24.2.1.1
  unfold Ab_259v_83 at g4
  have g3 := f24.2.1.2
  unfold preb_259v at g3
  have e0 : (0 : Int) ≤ hV H1 285 65 ∧ hV H1 285 65 ≤ 2147483647 := f24.1.2.2 285 65 _ _ kW_285_65
  have k0 := g4.1
  have k1 := g4.2.1
  have k2 := g4.2.2.1
  have k3 := g4.2.2.2.1
  have k4 := g4.2.2.2.2.1
  have y0 := g4.2.2.2.2.2.1
  have y1 := g4.2.2.2.2.2.2.1
  have y2 := g4.2.2.2.2.2.2.2.1
  have y3 := g4.2.2.2.2.2.2.2.2.1
  have y4 := g4.2.2.2.2.2.2.2.2.2.1
  have y5 := g4.2.2.2.2.2.2.2.2.2.2
  have p0 := g3.1
  have p1 := g3.2.1
  have p2 := g3.2.2
  clear g3
  clear g4
  try subst k4
  try subst k3
  try subst k2
  try subst k1
  try subst k0
  omega
def g_259v_83_0 : vG := ([(43, [13, 9], [], 0), (5000, [0, 1, 2, 3, 4, 5, 6, 7, 8, 9, 10, 11, 12, 13], [0, 1], 83), (0, [0], [], 285), (90, [1], [], -2147483648), (91, [1], [], 2147483647), (90, [2], [], -2147483648), (91, [2], [], 2147483647), (90, [3], [], -2147483648), (91, [3], [], 2147483647), (90, [4], [], -2147483648), (91, [4], [], 2147483647), (90, [5], [], -2147483648), (91, [5], [], 2147483647), (0, [6], [], 285), (90, [7], [], -2147483648), (91, [7], [], 2147483647), (90, [8], [], -2147483648), (91, [8], [], 2147483647), (90, [9], [], -2147483648), (91, [9], [], 2147483647), (90, [10], [], -2147483648), (91, [10], [], 2147483647), (90, [11], [], -2147483648), (91, [11], [], 2147483647), (90, [13], [], -2147483648), (91, [13], [], 2147483647)], (90, [7], [], 0))
theorem c_259v_83_0 {q0 : Nat} : vOkm T0 (eP e_259v L_259v A_259v mu_259v (some q0)) 6 g_259v_83_0 := vOk_inI fun ρ η f0 f1 f2 f3 f4 f5 f6 f7 f8 f9 f10 f11 f12 f13 f14 f15 f16 f17 f18 f19 f20 f21 f22 f23 f24 f25 => q_259v_8 (q0 := q0) (n0 := ρ 13) (n1 := ρ 11) (n2 := ρ 10) (n3 := ρ 9) (n4 := ρ 8) (n5 := ρ 7) (n6 := ρ 6) (n7 := ρ 5) (n8 := ρ 4) (n9 := ρ 3) (n10 := ρ 2) (n11 := ρ 1) (n12 := ρ 0) (n13 := ρ 12) (H0 := η 0) (H1 := η 1) f25 f24 f23 f22 f21 f20 f19 f18 f17 f16 f15 f14 f13 f12 f11 f10 f9 f8 f7 f6 f5 f4 f3 f2 f1 f0
theorem q_259v_9 {q0 : Nat} {n0 n1 n2 n3 n4 n5 n6 n7 n8 n9 n10 n11 n12 n13 : Int} {H0 H1 : gH} (f0 : n0 ≤ 2147483647) (f1 : (-2147483648) ≤ n0) (f2 : n1 ≤ 2147483647) (f3 : (-2147483648) ≤ n1) (f4 : n2 ≤ 2147483647) (f5 : (-2147483648) ≤ n2) (f6 : n3 ≤ 2147483647) (f7 : (-2147483648) ≤ n3) (f8 : n4 ≤ 2147483647) (f9 : (-2147483648) ≤ n4) (f10 : n5 ≤ 2147483647) (f11 : (-2147483648) ≤ n5) (f12 : n6 = 285) (f13 : n7 ≤ 2147483647) (f14 : (-2147483648) ≤ n7) (f15 : n8 ≤ 2147483647) (f16 : (-2147483648) ≤ n8) (f17 : n9 ≤ 2147483647) (f18 : (-2147483648) ≤ n9) (f19 : n10 ≤ 2147483647) (f20 : (-2147483648) ≤ n10) (f21 : n11 ≤ 2147483647) (f22 : (-2147483648) ≤ n11) (f23 : n12 = 285) (f24 : (hLe T0 H0 H1 ∧ hFr s_259v.2.2.2.2 H0 H1 ∧ hWt T0 H1) ∧ (Ab_259v_83 n12 n11 n10 n9 n8 n7 n6 n5 n4 n3 n2 n1 n13 n0 H0 H1 ∧ preb_259v n12 n11 n10 n9 n8 n7 H0) ∧ some q0 = some (mub_259v_83 n12 n11 n10 n9 n8 n7 n6 n5 n4 n3 n2 n1 n13 n0 H0 H1)) (f25 : n3 ≤ n0) : n5 ≤ 19 := by
  have g4 := f24.2.1.1
  unfold Ab_259v_83 at g4
  have g3 := f24.2.1.2
  unfold preb_259v at g3
  have e0 : (0 : Int) ≤ hV H1 285 65 ∧ hV H1 285 65 ≤ 2147483647 := f24.1.2.2 285 65 _ _ kW_285_65
  have k0 := g4.1
  have k1 := g4.2.1
  have k2 := g4.2.2.1
  have k3 := g4.2.2.2.1
  have k4 := g4.2.2.2.2.1
  have y0 := g4.2.2.2.2.2.1
  have y1 := g4.2.2.2.2.2.2.1
  have y2 := g4.2.2.2.2.2.2.2.1
  have y3 := g4.2.2.2.2.2.2.2.2.1
  have y4 := g4.2.2.2.2.2.2.2.2.2.1
  have y5 := g4.2.2.2.2.2.2.2.2.2.2
  have p0 := g3.1
  have p1 := g3.2.1
  have p2 := g3.2.2
  clear g3
  clear g4
  try subst k4
  try subst k3
  try subst k2
  try subst k1
  try subst k0
  omega
def g_259v_83_1 : vG := ([(43, [13, 9], [], 0), (5000, [0, 1, 2, 3, 4, 5, 6, 7, 8, 9, 10, 11, 12, 13], [0, 1], 83), (0, [0], [], 285), (90, [1], [], -2147483648), (91, [1], [], 2147483647), (90, [2], [], -2147483648), (91, [2], [], 2147483647), (90, [3], [], -2147483648), (91, [3], [], 2147483647), (90, [4], [], -2147483648), (91, [4], [], 2147483647), (90, [5], [], -2147483648), (91, [5], [], 2147483647), (0, [6], [], 285), (90, [7], [], -2147483648), (91, [7], [], 2147483647), (90, [8], [], -2147483648), (91, [8], [], 2147483647), (90, [9], [], -2147483648), (91, [9], [], 2147483647), (90, [10], [], -2147483648), (91, [10], [], 2147483647), (90, [11], [], -2147483648), (91, [11], [], 2147483647), (90, [13], [], -2147483648), (91, [13], [], 2147483647)], (91, [7], [], 19))
theorem c_259v_83_1 {q0 : Nat} : vOkm T0 (eP e_259v L_259v A_259v mu_259v (some q0)) 6 g_259v_83_1 := vOk_inI fun ρ η f0 f1 f2 f3 f4 f5 f6 f7 f8 f9 f10 f11 f12 f13 f14 f15 f16 f17 f18 f19 f20 f21 f22 f23 f24 f25 => q_259v_9 (q0 := q0) (n0 := ρ 13) (n1 := ρ 11) (n2 := ρ 10) (n3 := ρ 9) (n4 := ρ 8) (n5 := ρ 7) (n6 := ρ 6) (n7 := ρ 5) (n8 := ρ 4) (n9 := ρ 3) (n10 := ρ 2) (n11 := ρ 1) (n12 := ρ 0) (n13 := ρ 12) (H0 := η 0) (H1 := η 1) f25 f24 f23 f22 f21 f20 f19 f18 f17 f16 f15 f14 f13 f12 f11 f10 f9 f8 f7 f6 f5 f4 f3 f2 f1 f0
theorem kR_259v_334 : vFreeR s_259v.2.2.2.2 334 = true := by decide +kernel
theorem kR_259v_341 : vFreeR s_259v.2.2.2.2 341 = true := by decide +kernel
theorem q_259v_10 {q0 : Nat} {n0 n1 n2 n3 n4 n5 n6 n7 n8 n9 n10 n11 n12 n13 : Int} {H0 H1 : gH} (f0 : n0 ≤ 2147483647) (f1 : (-2147483648) ≤ n0) (f2 : n1 ≤ 2147483647) (f3 : (-2147483648) ≤ n1) (f4 : n2 ≤ 2147483647) (f5 : (-2147483648) ≤ n2) (f6 : n3 ≤ 2147483647) (f7 : (-2147483648) ≤ n3) (f8 : n4 ≤ 2147483647) (f9 : (-2147483648) ≤ n4) (f10 : n5 ≤ 2147483647) (f11 : (-2147483648) ≤ n5) (f12 : n6 = 285) (f13 : n7 ≤ 2147483647) (f14 : (-2147483648) ≤ n7) (f15 : n8 ≤ 2147483647) (f16 : (-2147483648) ≤ n8) (f17 : n9 ≤ 2147483647) (f18 : (-2147483648) ≤ n9) (f19 : n10 ≤ 2147483647) (f20 : (-2147483648) ≤ n10) (f21 : n11 ≤ 2147483647) (f22 : (-2147483648) ≤ n11) (f23 : n12 = 285) (f24 : (hLe T0 H0 H1 ∧ hFr s_259v.2.2.2.2 H0 H1 ∧ hWt T0 H1) ∧ (Ab_259v_83 n12 n11 n10 n9 n8 n7 n6 n5 n4 n3 n2 n1 n13 n0 H0 H1 ∧ preb_259v n12 n11 n10 n9 n8 n7 H0) ∧ some q0 = some (mub_259v_83 n12 n11 n10 n9 n8 n7 n6 n5 n4 n3 n2 n1 n13 n0 H0 H1)) (f25 : n3 ≤ n0) : preb_258 n6 n5 H1 := by
  have g4 := f24.2.1.1
  unfold Ab_259v_83 at g4
  have g3 := f24.2.1.2
  unfold preb_259v at g3
  unfold preb_258
  have e0 : hV H1 334 = hV H0 334 := fRow f24.1.2.1 334 kR_259v_334
  have e1 : hV H1 341 = hV H0 341 := fRow f24.1.2.1 341 kR_259v_341
  have e2 : (0 : Int) ≤ hV H1 285 65 ∧ hV H1 285 65 ≤ 2147483647 := f24.1.2.2 285 65 _ _ kW_285_65
  try simp only [SS] at *
  try simp only [e0, e1] at g4
  try simp only [e0, e1]
  have k0 := g4.1
  have k1 := g4.2.1
  have k2 := g4.2.2.1
  have k3 := g4.2.2.2.1
  have k4 := g4.2.2.2.2.1
  have y0 := g4.2.2.2.2.2.1
  have y1 := g4.2.2.2.2.2.2.1
  have y2 := g4.2.2.2.2.2.2.2.1
  have y3 := g4.2.2.2.2.2.2.2.2.1
  have y4 := g4.2.2.2.2.2.2.2.2.2.1
  have y5 := g4.2.2.2.2.2.2.2.2.2.2
  have p0 := g3.1
  have p1 := g3.2.1
  have p2 := g3.2.2
  clear g3
  clear g4
  clear e0 e1

  first
  | exact ⟨by omega, SSp_le y0 (by omega)⟩
  | exact ⟨by omega, SSp_le y1 (by omega)⟩
  | exact ⟨by omega, SSp_le y2 (by omega)⟩
  | exact ⟨by omega, SSp_le y3 (by omega)⟩
  | exact ⟨by omega, SSp_le y4 (by omega)⟩
  | exact ⟨by omega, SSp_le y5 (by omega)⟩
  | exact ⟨by omega, SSp_le y6 (by omega)⟩
  | exact ⟨by omega, SSp_le y7 (by omega)⟩
  | exact ⟨by omega, SSp_le p0 (by omega)⟩
  | exact ⟨by omega, SSp_le p1 (by omega)⟩
  | exact ⟨by omega, SSp_le p2 (by omega)⟩
  | exact ⟨by omega, SSp_le p3 (by omega)⟩
  | omega
def g_259v_83_2 : vG := ([(43, [13, 9], [], 0), (5000, [0, 1, 2, 3, 4, 5, 6, 7, 8, 9, 10, 11, 12, 13], [0, 1], 83), (0, [0], [], 285), (90, [1], [], -2147483648), (91, [1], [], 2147483647), (90, [2], [], -2147483648), (91, [2], [], 2147483647), (90, [3], [], -2147483648), (91, [3], [], 2147483647), (90, [4], [], -2147483648), (91, [4], [], 2147483647), (90, [5], [], -2147483648), (91, [5], [], 2147483647), (0, [6], [], 285), (90, [7], [], -2147483648), (91, [7], [], 2147483647), (90, [8], [], -2147483648), (91, [8], [], 2147483647), (90, [9], [], -2147483648), (91, [9], [], 2147483647), (90, [10], [], -2147483648), (91, [10], [], 2147483647), (90, [11], [], -2147483648), (91, [11], [], 2147483647), (90, [13], [], -2147483648), (91, [13], [], 2147483647)], (2258, [6, 7], [1], 0))
theorem c_259v_83_2 {q0 : Nat} : vOkm T0 (eP e_259v L_259v A_259v mu_259v (some q0)) 6 g_259v_83_2 := vOk_inI fun ρ η f0 f1 f2 f3 f4 f5 f6 f7 f8 f9 f10 f11 f12 f13 f14 f15 f16 f17 f18 f19 f20 f21 f22 f23 f24 f25 => q_259v_10 (q0 := q0) (n0 := ρ 13) (n1 := ρ 11) (n2 := ρ 10) (n3 := ρ 9) (n4 := ρ 8) (n5 := ρ 7) (n6 := ρ 6) (n7 := ρ 5) (n8 := ρ 4) (n9 := ρ 3) (n10 := ρ 2) (n11 := ρ 1) (n12 := ρ 0) (n13 := ρ 12) (H0 := η 0) (H1 := η 1) f25 f24 f23 f22 f21 f20 f19 f18 f17 f16 f15 f14 f13 f12 f11 f10 f9 f8 f7 f6 f5 f4 f3 f2 f1 f0
theorem q_259v_11 {q0 : Nat} {n0 n1 n2 n3 n4 n5 n6 n7 n8 n9 n10 n11 n12 n13 n14 : Int} {H0 H1 H2 : gH} (f0 : n0 ≤ 2147483647) (f1 : (-2147483648) ≤ n0) (f2 : n1 ≤ 2147483647) (f3 : (-2147483648) ≤ n1) (f4 : n2 ≤ 2147483647) (f5 : (-2147483648) ≤ n2) (f6 : n3 ≤ 2147483647) (f7 : (-2147483648) ≤ n3) (f8 : n4 ≤ 2147483647) (f9 : (-2147483648) ≤ n4) (f10 : n5 ≤ 2147483647) (f11 : (-2147483648) ≤ n5) (f12 : n6 = 285) (f13 : n7 ≤ 2147483647) (f14 : (-2147483648) ≤ n7) (f15 : n8 ≤ 2147483647) (f16 : (-2147483648) ≤ n8) (f17 : n9 ≤ 2147483647) (f18 : (-2147483648) ≤ n9) (f19 : n10 ≤ 2147483647) (f20 : (-2147483648) ≤ n10) (f21 : n11 ≤ 2147483647) (f22 : (-2147483648) ≤ n11) (f23 : n12 = 285) (f24 : (hLe T0 H0 H1 ∧ hFr s_259v.2.2.2.2 H0 H1 ∧ hWt T0 H1) ∧ (Ab_259v_83 n12 n11 n10 n9 n8 n7 n6 n5 n4 n3 n2 n1 n13 n0 H0 H1 ∧ preb_259v n12 n11 n10 n9 n8 n7 H0) ∧ some q0 = some (mub_259v_83 n12 n11 n10 n9 n8 n7 n6 n5 n4 n3 n2 n1 n13 n0 H0 H1)) (f25 : n3 ≤ n0) (f26 : (hLe T0 H1 H2 ∧ hFr s_258.2.2.2.2 H1 H2 ∧ ((0 : Int) = 0 → H2.length = H1.length) ∧ hWt T0 H2) ∧ postb_258 n6 n5 H1 H2) (f27 : n14 = 1) : postb_259v n14 n12 n11 n10 n9 n8 n7 H0 H2 := by
  have g4 := f24.2.1.1
  unfold Ab_259v_83 at g4
  have g3 := f24.2.1.2
  unfold preb_259v at g3
  unfold postb_258 at f26
  unfold postb_259v
  have e0 : SO H1 = SO H0 := SO_fr f24.1.2.1 (by decide +kernel)
  have e1 : SO H2 = SO H1 := SO_fr f26.1.2.1 (by decide +kernel)
  have e2 : SO H2 = SO H0 := e1.trans e0
  have e3 : (0 : Int) ≤ hV H1 285 65 ∧ hV H1 285 65 ≤ 2147483647 := f24.1.2.2 285 65 _ _ kW_285_65
  have e4 : (0 : Int) ≤ hV H2 285 65 ∧ hV H2 285 65 ≤ 2147483647 := f26.1.2.2.2 285 65 _ _ kW_285_65
  try simp only [e2]
  have k0 := g4.1
  have k1 := g4.2.1
  have k2 := g4.2.2.1
  have k3 := g4.2.2.2.1
  have k4 := g4.2.2.2.2.1
  have y0 := g4.2.2.2.2.2.1
  have y1 := g4.2.2.2.2.2.2.1
  have y2 := g4.2.2.2.2.2.2.2.1
  have y3 := g4.2.2.2.2.2.2.2.2.1
  have y4 := g4.2.2.2.2.2.2.2.2.2.1
  have y5 := g4.2.2.2.2.2.2.2.2.2.2
  have p0 := g3.1
  have p1 := g3.2.1
  have p2 := g3.2.2
  have r0_0 := f26.2.1
  have r0_1 := f26.2.2.1
  have r0_2 := f26.2.2.2
  clear g3
  clear g4
  clear e0 e1 e2
  try subst k4
  try subst k3
  try subst k2
  try subst k1
  try subst k0
  refine ⟨?_, ?_, ?_⟩ <;> first | assumption | omega | trivial
def g_259v_83_3 : vG := ([(0, [14], [], 1), (1258, [6, 7], [1, 2], 0), (43, [13, 9], [], 0), (5000, [0, 1, 2, 3, 4, 5, 6, 7, 8, 9, 10, 11, 12, 13], [0, 1], 83), (0, [0], [], 285), (90, [1], [], -2147483648), (91, [1], [], 2147483647), (90, [2], [], -2147483648), (91, [2], [], 2147483647), (90, [3], [], -2147483648), (91, [3], [], 2147483647), (90, [4], [], -2147483648), (91, [4], [], 2147483647), (90, [5], [], -2147483648), (91, [5], [], 2147483647), (0, [6], [], 285), (90, [7], [], -2147483648), (91, [7], [], 2147483647), (90, [8], [], -2147483648), (91, [8], [], 2147483647), (90, [9], [], -2147483648), (91, [9], [], 2147483647), (90, [10], [], -2147483648), (91, [10], [], 2147483647), (90, [11], [], -2147483648), (91, [11], [], 2147483647), (90, [13], [], -2147483648), (91, [13], [], 2147483647)], (3000, [14], [2], 124))
theorem c_259v_83_3 {q0 : Nat} : vOkm T0 (eP e_259v L_259v A_259v mu_259v (some q0)) 6 g_259v_83_3 := vOk_inI fun ρ η f0 f1 f2 f3 f4 f5 f6 f7 f8 f9 f10 f11 f12 f13 f14 f15 f16 f17 f18 f19 f20 f21 f22 f23 f24 f25 f26 f27 => q_259v_11 (q0 := q0) (n0 := ρ 13) (n1 := ρ 11) (n2 := ρ 10) (n3 := ρ 9) (n4 := ρ 8) (n5 := ρ 7) (n6 := ρ 6) (n7 := ρ 5) (n8 := ρ 4) (n9 := ρ 3) (n10 := ρ 2) (n11 := ρ 1) (n12 := ρ 0) (n13 := ρ 12) (n14 := ρ 14) (H0 := η 0) (H1 := η 1) (H2 := η 2) f27 f26 f25 f24 f23 f22 f21 f20 f19 f18 f17 f16 f15 f14 f13 f12 f11 f10 f9 f8 f7 f6 f5 f4 f3 f2 f1 f0
theorem q_259v_12 {q0 : Nat} {n0 n1 n2 n3 n4 n5 n6 n7 n8 n9 n10 n11 n12 n13 n14 n15 n16 n17 n18 n19 : Int} {H0 H1 : gH} (f0 : n0 ≤ 2147483647) (f1 : (-2147483648) ≤ n0) (f2 : n1 ≤ 2147483647) (f3 : (-2147483648) ≤ n1) (f4 : n2 ≤ 2147483647) (f5 : (-2147483648) ≤ n2) (f6 : n3 ≤ 2147483647) (f7 : (-2147483648) ≤ n3) (f8 : n4 ≤ 2147483647) (f9 : (-2147483648) ≤ n4) (f10 : n5 ≤ 2147483647) (f11 : (-2147483648) ≤ n5) (f12 : n6 = 285) (f13 : n7 ≤ 2147483647) (f14 : (-2147483648) ≤ n7) (f15 : n8 ≤ 2147483647) (f16 : (-2147483648) ≤ n8) (f17 : n9 ≤ 2147483647) (f18 : (-2147483648) ≤ n9) (f19 : n10 ≤ 2147483647) (f20 : (-2147483648) ≤ n10) (f21 : n11 ≤ 2147483647) (f22 : (-2147483648) ≤ n11) (f23 : n12 = 285) (f24 : (hLe T0 H0 H1 ∧ hFr s_259v.2.2.2.2 H0 H1 ∧ hWt T0 H1) ∧ (Ab_259v_83 n12 n11 n10 n9 n8 n7 n6 n5 n4 n3 n2 n1 n13 n0 H0 H1 ∧ preb_259v n12 n11 n10 n9 n8 n7 H0) ∧ some q0 = some (mub_259v_83 n12 n11 n10 n9 n8 n7 n6 n5 n4 n3 n2 n1 n13 n0 H0 H1)) (f25 : n0 < n3) (f26 : n14 = 240) (f27 : n15 = w32 (n14 * n5)) (f28 : n16 = w32 (n15 + n0)) (f29 : n17 = w32 (n0 - n4)) (f30 : n18 = w32 (n17 * n1)) (f31 : n19 = w32 (n2 + n18)) : 0 ≤ n16 ∧ n16 < 4800 := by
  have g4 := f24.2.1.1
  unfold Ab_259v_83 at g4
  have g3 := f24.2.1.2
  unfold preb_259v at g3
  have e0 : (0 : Int) ≤ hV H1 285 65 ∧ hV H1 285 65 ≤ 2147483647 := f24.1.2.2 285 65 _ _ kW_285_65
  have k0 := g4.1
  have k1 := g4.2.1
  have k2 := g4.2.2.1
  have k3 := g4.2.2.2.1
  have k4 := g4.2.2.2.2.1
  have y0 := g4.2.2.2.2.2.1
  have y1 := g4.2.2.2.2.2.2.1
  have y2 := g4.2.2.2.2.2.2.2.1
  have y3 := g4.2.2.2.2.2.2.2.2.1
  have y4 := g4.2.2.2.2.2.2.2.2.2.1
  have y5 := g4.2.2.2.2.2.2.2.2.2.2
  have p0 := g3.1
  have p1 := g3.2.1
  have p2 := g3.2.2
  clear g3
  clear g4
  rw [f26] at f27
  first
  | (have ix0 : n15 = 240 * n5 := Eq.trans f27 (w32_id (by omega) (by omega)); subst ix0; clear f27)
  | (unfold w32 at f27; have ix0 : n15 = 240 * n5 := (by omega); subst ix0)
  | skip
  first
  | (have ix1 : n16 = (240 * n5) + n0 := Eq.trans f28 (w32_id (by omega) (by omega)); subst ix1; clear f28)
  | (unfold w32 at f28; have ix1 : n16 = (240 * n5) + n0 := (by omega); subst ix1)
  | skip
  try unfold w32 at f27
  try unfold w32 at f28
  try unfold w32 at f29
  try unfold w32 at f30
  try unfold w32 at f31
  try subst k4
  try subst k3
  try subst k2
  try subst k1
  try subst k0
  omega
def g_259v_83_4 : vG := ([(1, [20, 10, 19], [], 0), (3, [19, 18, 11], [], 0), (2, [18, 13, 8], [], 0), (1, [17, 16, 13], [], 0), (3, [16, 15, 7], [], 0), (0, [15], [], 240), (42, [13, 9], [], 0), (5000, [0, 1, 2, 3, 4, 5, 6, 7, 8, 9, 10, 11, 12, 13], [0, 1], 83), (0, [0], [], 285), (90, [1], [], -2147483648), (91, [1], [], 2147483647), (90, [2], [], -2147483648), (91, [2], [], 2147483647), (90, [3], [], -2147483648), (91, [3], [], 2147483647), (90, [4], [], -2147483648), (91, [4], [], 2147483647), (90, [5], [], -2147483648), (91, [5], [], 2147483647), (0, [6], [], 285), (90, [7], [], -2147483648), (91, [7], [], 2147483647), (90, [8], [], -2147483648), (91, [8], [], 2147483647), (90, [9], [], -2147483648), (91, [9], [], 2147483647), (90, [10], [], -2147483648), (91, [10], [], 2147483647), (90, [11], [], -2147483648), (91, [11], [], 2147483647), (90, [13], [], -2147483648), (91, [13], [], 2147483647)], (70, [17], [], 4800))
theorem c_259v_83_4 {q0 : Nat} : vOkm T0 (eP e_259v L_259v A_259v mu_259v (some q0)) 6 g_259v_83_4 := vOk_inI fun ρ η f0 f1 f2 f3 f4 f5 f6 f7 f8 f9 f10 f11 f12 f13 f14 f15 f16 f17 f18 f19 f20 f21 f22 f23 f24 f25 f26 f27 f28 f29 f30 f31 => q_259v_12 (q0 := q0) (n0 := ρ 13) (n1 := ρ 11) (n2 := ρ 10) (n3 := ρ 9) (n4 := ρ 8) (n5 := ρ 7) (n6 := ρ 6) (n7 := ρ 5) (n8 := ρ 4) (n9 := ρ 3) (n10 := ρ 2) (n11 := ρ 1) (n12 := ρ 0) (n13 := ρ 12) (n14 := ρ 15) (n15 := ρ 16) (n16 := ρ 17) (n17 := ρ 18) (n18 := ρ 19) (n19 := ρ 20) (H0 := η 0) (H1 := η 1) f31 f30 f29 f28 f27 f26 f25 f24 f23 f22 f21 f20 f19 f18 f17 f16 f15 f14 f13 f12 f11 f10 f9 f8 f7 f6 f5 f4 f3 f2 f1 f0
theorem q_259v_13 {q0 : Nat} {n0 n1 n2 n3 n4 n5 n6 n7 n8 n9 n10 n11 n12 n13 n14 n15 n16 n17 n18 n19 n20 n21 : Int} {H0 H1 H2 : gH} (f0 : n0 ≤ 2147483647) (f1 : (-2147483648) ≤ n0) (f2 : n1 ≤ 2147483647) (f3 : (-2147483648) ≤ n1) (f4 : n2 ≤ 2147483647) (f5 : (-2147483648) ≤ n2) (f6 : n3 ≤ 2147483647) (f7 : (-2147483648) ≤ n3) (f8 : n4 ≤ 2147483647) (f9 : (-2147483648) ≤ n4) (f10 : n5 ≤ 2147483647) (f11 : (-2147483648) ≤ n5) (f12 : n6 = 285) (f13 : n7 ≤ 2147483647) (f14 : (-2147483648) ≤ n7) (f15 : n8 ≤ 2147483647) (f16 : (-2147483648) ≤ n8) (f17 : n9 ≤ 2147483647) (f18 : (-2147483648) ≤ n9) (f19 : n10 ≤ 2147483647) (f20 : (-2147483648) ≤ n10) (f21 : n11 ≤ 2147483647) (f22 : (-2147483648) ≤ n11) (f23 : n12 = 285) (f24 : (hLe T0 H0 H1 ∧ hFr s_259v.2.2.2.2 H0 H1 ∧ hWt T0 H1) ∧ (Ab_259v_83 n12 n11 n10 n9 n8 n7 n6 n5 n4 n3 n2 n1 n13 n0 H0 H1 ∧ preb_259v n12 n11 n10 n9 n8 n7 H0) ∧ some q0 = some (mub_259v_83 n12 n11 n10 n9 n8 n7 n6 n5 n4 n3 n2 n1 n13 n0 H0 H1)) (f25 : n0 < n3) (f26 : n14 = 337) (f27 : n14 = hV H1 (n6).toNat 75) (f28 : n15 = 240) (f29 : n16 = w32 (n15 * n5)) (f30 : n17 = w32 (n16 + n0)) (f31 : n18 = w32 (n0 - n4)) (f32 : n19 = w32 (n18 * n1)) (f33 : n20 = w32 (n2 + n19)) (f34 : hUpd H2 H1 n14 n17 n20) (f35 : n21 = w32 (n0 + 1)) : Ab_259v_83 n12 n11 n10 n9 n8 n7 n6 n5 n4 n3 n2 n1 n13 n21 H0 H2 ∧ ∀ q, some q0 = some q → mub_259v_83 n12 n11 n10 n9 n8 n7 n6 n5 n4 n3 n2 n1 n13 n21 H0 H2 < q := by
  have g4 := f24.2.1.1
  unfold Ab_259v_83 at g4
  have g3 := f24.2.1.2
  unfold preb_259v at g3
  have g5 := Option.some.inj f24.2.2
  unfold mub_259v_83 at g5
  unfold Ab_259v_83
  unfold mub_259v_83
  have e1 : hV H2 285 65 = hV H1 285 65 := (uPlace f34 285 65 (iS (show n14 = ((337 : Nat) : Int) from f26) rfl))
  have e2 : SS H2 = SS H1 := SS_upR f34 (show n14 = ((337 : Nat) : Int) from f26) (by decide)
  have e3 : (0 : Int) ≤ hV H1 285 65 ∧ hV H1 285 65 ≤ 2147483647 := f24.1.2.2 285 65 _ _ kW_285_65
  try simp only [e1, e2]
  have k0 := g4.1
  have k1 := g4.2.1
  have k2 := g4.2.2.1
  have k3 := g4.2.2.2.1
  have k4 := g4.2.2.2.2.1
  have y0 := g4.2.2.2.2.2.1
  have y1 := g4.2.2.2.2.2.2.1
  have y2 := g4.2.2.2.2.2.2.2.1
  have y3 := g4.2.2.2.2.2.2.2.2.1
  have y4 := g4.2.2.2.2.2.2.2.2.2.1
  have y5 := g4.2.2.2.2.2.2.2.2.2.2
  have p0 := g3.1
  have p1 := g3.2.1
  have p2 := g3.2.2
  clear g3
  clear g4
  clear f27 e1 e2
  rw [f28] at f29
  first
  | (have ix0 : n16 = 240 * n5 := Eq.trans f29 (w32_id (by omega) (by omega)); subst ix0; clear f29)
  | (unfold w32 at f29; have ix0 : n16 = 240 * n5 := (by omega); subst ix0)
  | skip
  first
  | (have ix1 : n17 = (240 * n5) + n0 := Eq.trans f30 (w32_id (by omega) (by omega)); subst ix1; clear f30)
  | (unfold w32 at f30; have ix1 : n17 = (240 * n5) + n0 := (by omega); subst ix1)
  | skip
  first
  | (have ix2 : n18 = n0 - n4 := Eq.trans f31 (w32_id (by omega) (by omega)); subst ix2; clear f31)
  | (unfold w32 at f31; have ix2 : n18 = n0 - n4 := (by omega); subst ix2)
  | skip
  first
  | (have ix3 : n20 = n2 + n19 := Eq.trans f33 (w32_id (by omega) (by omega)); subst ix3; clear f33)
  | (unfold w32 at f33; have ix3 : n20 = n2 + n19 := (by omega); subst ix3)
  | skip
  first
  | (have ix4 : n21 = n0 + 1 := Eq.trans f35 (w32_id (by omega) (by omega)); subst ix4; clear f35)
  | (unfold w32 at f35; have ix4 : n21 = n0 + 1 := (by omega); subst ix4)
  | skip
  try unfold w32 at f29
  try unfold w32 at f30
  try unfold w32 at f31
  try unfold w32 at f32
  try unfold w32 at f33
  try unfold w32 at f35
  try subst k4
  try subst k3
  try subst k2
  try subst k1
  try subst k0
  refine ⟨?_, fun q hq => ?_⟩
  · refine ⟨?_, ?_, ?_, ?_, ?_, ?_, ?_, ?_, ?_, ?_, ?_⟩ <;> first | assumption | omega | trivial
  · have g6 := Option.some.inj hq
    subst g6
    omega
def g_259v_83_5 : vG := ([(10, [21, 13], [], 1), (80, [14, 17, 20], [2, 1], 0), (1, [20, 10, 19], [], 0), (3, [19, 18, 11], [], 0), (2, [18, 13, 8], [], 0), (1, [17, 16, 13], [], 0), (3, [16, 15, 7], [], 0), (0, [15], [], 240), (20, [14, 6], [1], 75), (0, [14], [], 337), (42, [13, 9], [], 0), (5000, [0, 1, 2, 3, 4, 5, 6, 7, 8, 9, 10, 11, 12, 13], [0, 1], 83), (0, [0], [], 285), (90, [1], [], -2147483648), (91, [1], [], 2147483647), (90, [2], [], -2147483648), (91, [2], [], 2147483647), (90, [3], [], -2147483648), (91, [3], [], 2147483647), (90, [4], [], -2147483648), (91, [4], [], 2147483647), (90, [5], [], -2147483648), (91, [5], [], 2147483647), (0, [6], [], 285), (90, [7], [], -2147483648), (91, [7], [], 2147483647), (90, [8], [], -2147483648), (91, [8], [], 2147483647), (90, [9], [], -2147483648), (91, [9], [], 2147483647), (90, [10], [], -2147483648), (91, [10], [], 2147483647), (90, [11], [], -2147483648), (91, [11], [], 2147483647), (90, [13], [], -2147483648), (91, [13], [], 2147483647)], (4000, [6, 7, 8, 9, 10, 11, 12, 21], [2], 83))
theorem c_259v_83_5 {q0 : Nat} : vOkm T0 (eP e_259v L_259v A_259v mu_259v (some q0)) 6 g_259v_83_5 := vOk_inI fun ρ η f0 f1 f2 f3 f4 f5 f6 f7 f8 f9 f10 f11 f12 f13 f14 f15 f16 f17 f18 f19 f20 f21 f22 f23 f24 f25 f26 f27 f28 f29 f30 f31 f32 f33 f34 f35 => q_259v_13 (q0 := q0) (n0 := ρ 13) (n1 := ρ 11) (n2 := ρ 10) (n3 := ρ 9) (n4 := ρ 8) (n5 := ρ 7) (n6 := ρ 6) (n7 := ρ 5) (n8 := ρ 4) (n9 := ρ 3) (n10 := ρ 2) (n11 := ρ 1) (n12 := ρ 0) (n13 := ρ 12) (n14 := ρ 14) (n15 := ρ 15) (n16 := ρ 16) (n17 := ρ 17) (n18 := ρ 18) (n19 := ρ 19) (n20 := ρ 20) (n21 := ρ 21) (H0 := η 0) (H1 := η 1) (H2 := η 2) f35 f34 f33 f32 f31 f30 f29 f28 f27 f26 f25 f24 f23 f22 f21 f20 f19 f18 f17 f16 f15 f14 f13 f12 f11 f10 f9 f8 f7 f6 f5 f4 f3 f2 f1 f0
def p_259v_83 : List vG := [g_259v_83_0,
  g_259v_83_1,
  g_259v_83_2,
  g_259v_83_3,
  g_259v_83_4,
  g_259v_83_5]
theorem r_259v_83 : vCovO false (eRc e_259v L_259v cs_259v 2000 (83, [(0, (3, 12, 285, 0)), (1, (0, -2147483648, 2147483647, 0)), (2, (0, -2147483648, 2147483647, 0)), (3, (0, -2147483648, 2147483647, 0)), (4, (0, -2147483648, 2147483647, 0)), (5, (0, -2147483648, 2147483647, 0)), (6, (1, 0, 0, 0)), (8, (0, -2147483648, 2147483647, 0))])) p_259v_83 = true := by decide +kernel
theorem m_259v (d : Nat) : eC e_259v (d + 3) := eC_ok (e := e_259v) (L := L_259v) (cs := cs_259v) (n := 2000) (d := d + 2) (A := A_259v) (μ := mu_259v) (tp := false) (p0 := p_259v_s) rfl ⟨m_251 (d + 1), ⟨m_257v d, ⟨m_258 (d + 1), trivial⟩⟩⟩ rfl (.inl rfl) (by decide +kernel) (fun z => nomatch z) r_259v_s (allC c_259v_s_0 (allC c_259v_s_1 (allC c_259v_s_2 (allC c_259v_s_3 (allC c_259v_s_4 (allC c_259v_s_5 (allC c_259v_s_6 (allC c_259v_s_7 (allC c_259v_s_8 allN))))))))) (allC (.inl ⟨p_259v_83, r_259v_83, fun q0 => (allC c_259v_83_0 (allC c_259v_83_1 (allC c_259v_83_2 (allC c_259v_83_3 (allC c_259v_83_4 (allC c_259v_83_5 allN))))))⟩) allN)
/- MixStageModel.makes (III)I -/
noncomputable def s_283v : vM := ([(3, 12, 285, 0), (0, 0, 19, 0), (0, 0, 7, 0), (0, 0, 5, 0)], (0, -2147483648, 2147483647, 0), 1, 0, [(12, 65), (12, 82), (12, 88), (12, 93), (460, 0), (492, 0), (500, 0), (508, 0), (516, 0), (524, 0), (572, 0), (580, 0), (588, 0), (596, 0), (604, 0), (612, 0), (621, 0), (631, 0), (637, 0), (644, 0)])
def preb_283v (a0 a1 a2 a3 : Int) (h : gH) : Prop := a1 < hV h 285 64 ∧ hV h 328 ((a1).toNat) = 6 ∧ a2 < hV h 285 18 ∧ PG h ∧ SO h ∧ SS h ∧ hV h 285 65 ≤ 20020
def pre_283v : List Int → gH → Prop := fun xs h => match xs with
  | [a0, a1, a2, a3] => preb_283v a0 a1 a2 a3 h
  | _ => False
def postb_283v (r a0 a1 a2 a3 : Int) (h0 h : gH) : Prop := SO h ∧ SS h ∧ hV h 285 65 = hV h0 285 65 + 1 ∧ (hV h 333) = uF (hV h0 333) a1 (hV h 285 65) ∧ (hV h 335) = uF (hV h0 335) a1 a2 ∧ KMp (hV h0 329) (hV h 329) a1
def post_283v : List Int → gH → gH → Prop := fun xs h0 h => match xs with
  | [r, a0, a1, a2, a3] => postb_283v r a0 a1 a2 a3 h0 h
  | _ => True
noncomputable def e_283v : vE := (283, s_283v, pre_283v, post_283v)
noncomputable def L_283v : List vE := [e_248, e_258, e_274]
def cs_283v : List vC := [(11, [(0, (3, 12, 285, 0)), (1, (0, 0, 19, 0)), (2, (0, 0, 7, 0)), (3, (0, 0, 5, 0)), (4, (0, 0, 2147483647, 0)), (5, (0, 0, 40, 0))]), (85, [(0, (3, 12, 285, 0)), (1, (0, 0, 19, 0)), (2, (0, 0, 7, 0)), (3, (0, 0, 5, 0)), (4, (0, 0, 2147483647, 0)), (5, (0, 0, 60, 0))]), (114, [(0, (3, 12, 285, 0)), (1, (0, 0, 19, 0)), (2, (0, 0, 7, 0)), (3, (0, 0, 5, 0)), (4, (0, 0, 2147483647, 0)), (5, (0, 0, 59, 0)), (6, (0, -1, 59, 0)), (7, (0, 0, 4, 0))])]
def Ab_283v_11 (a0 a1 a2 a3 x0 x1 x2 x3 x4 x5 : Int) (h0 h : gH) : Prop := x1 = a1 ∧ x2 = a2 ∧ x3 = a3 ∧ XQ h ∧ SO h ∧ SS h ∧ (hV h 333) = (hV h0 333) ∧ (hV h 335) = (hV h0 335) ∧ hV h 285 65 = hV h0 285 65 ∧ x4 ≤ hV h 285 65 ∧ (hV h 329) = (hV h0 329)
def mub_283v_11 (a0 a1 a2 a3 x0 x1 x2 x3 x4 x5 : Int) (h0 h : gH) : Nat := (17179869184 + (2147483648 - x5).toNat) * 1099511627776 + 1099511627775
def Ab_283v_85 (a0 a1 a2 a3 x0 x1 x2 x3 x4 x5 : Int) (h0 h : gH) : Prop := x1 = a1 ∧ x2 = a2 ∧ x3 = a3 ∧ XQ h ∧ SO h ∧ SS h ∧ (hV h 333) = (hV h0 333) ∧ (hV h 335) = (hV h0 335) ∧ hV h 285 65 = hV h0 285 65 ∧ x4 ≤ hV h 285 65 ∧ (hV h 329) = (hV h0 329)
def mub_283v_85 (a0 a1 a2 a3 x0 x1 x2 x3 x4 x5 : Int) (h0 h : gH) : Nat := (8589934592 + (2147483648 - x5).toNat) * 1099511627776 + 1099511627775
def Ab_283v_114 (a0 a1 a2 a3 x0 x1 x2 x3 x4 x5 x6 x7 : Int) (h0 h : gH) : Prop := x1 = a1 ∧ x2 = a2 ∧ x3 = a3 ∧ XQ h ∧ SO h ∧ SS h ∧ (hV h 333) = (hV h0 333) ∧ (hV h 335) = (hV h0 335) ∧ hV h 285 65 = hV h0 285 65 ∧ x4 ≤ hV h 285 65 ∧ (hV h 329) = (hV h0 329)
def mub_283v_114 (a0 a1 a2 a3 x0 x1 x2 x3 x4 x5 x6 x7 : Int) (h0 h : gH) : Nat := (8589934592 + (2147483648 - x5).toNat) * 1099511627776 + (8589934592 + (2147483648 - x7).toNat) * 1
def A_283v : Int → List Int → gH → gH → Prop := fun c xs h0 h => match c.toNat with
  | 11 => (match xs with
    | [a0, a1, a2, a3, x0, x1, x2, x3, x4, x5] => Ab_283v_11 a0 a1 a2 a3 x0 x1 x2 x3 x4 x5 h0 h
    | _ => False)
  | 85 => (match xs with
    | [a0, a1, a2, a3, x0, x1, x2, x3, x4, x5] => Ab_283v_85 a0 a1 a2 a3 x0 x1 x2 x3 x4 x5 h0 h
    | _ => False)
  | 114 => (match xs with
    | [a0, a1, a2, a3, x0, x1, x2, x3, x4, x5, x6, x7] => Ab_283v_114 a0 a1 a2 a3 x0 x1 x2 x3 x4 x5 x6 x7 h0 h
    | _ => False)
  | _ => True
def mu_283v : Int → List Int → gH → gH → Nat := fun c xs h0 h => match c.toNat with
  | 11 => (match xs with
    | [a0, a1, a2, a3, x0, x1, x2, x3, x4, x5] => mub_283v_11 a0 a1 a2 a3 x0 x1 x2 x3 x4 x5 h0 h
    | _ => 0)
  | 85 => (match xs with
    | [a0, a1, a2, a3, x0, x1, x2, x3, x4, x5] => mub_283v_85 a0 a1 a2 a3 x0 x1 x2 x3 x4 x5 h0 h
    | _ => 0)
  | 114 => (match xs with
    | [a0, a1, a2, a3, x0, x1, x2, x3, x4, x5, x6, x7] => mub_283v_114 a0 a1 a2 a3 x0 x1 x2 x3 x4 x5 x6 x7 h0 h
    | _ => 0)
  | _ => 0
theorem q_283v_0 {n0 n1 n2 n3 : Int} {H0 : gH} (f0 : n0 ≤ 5) (f1 : 0 ≤ n0) (f2 : n1 ≤ 7) (f3 : 0 ≤ n1) (f4 : n2 ≤ 19) (f5 : 0 ≤ n2) (f6 : n3 = 285) (f7 : hWt T0 H0 ∧ preb_283v n3 n2 n1 n0 H0) : preb_274 n3 n1 H0 := by
  unfold preb_283v at f7
  unfold preb_274
  have e0 : (0 : Int) ≤ hV H0 285 18 ∧ hV H0 285 18 ≤ 8 := f7.1 285 18 _ _ kW_285_18
  have e1 : (0 : Int) ≤ hV H0 285 64 ∧ hV H0 285 64 ≤ 20 := f7.1 285 64 _ _ kW_285_64
  have e2 : (0 : Int) ≤ hV H0 285 65 ∧ hV H0 285 65 ≤ 2147483647 := f7.1 285 65 _ _ kW_285_65
  try simp only [SO, SS, XQ]
  have p0 := f7.2.1
  have p1 := f7.2.2.1
  have p2 := f7.2.2.2.1
  have p3 := f7.2.2.2.2.1
  have p4 := f7.2.2.2.2.2.1
  have p5 := f7.2.2.2.2.2.2.1
  have p6 := f7.2.2.2.2.2.2.2
  try simp only [SO] at p4
  try simp only [SS] at p5
  clear f7
  refine ⟨?_, ?_, ?_⟩ <;> first | assumption | omega | trivial
def g_283v_s_0 : vG := ([(6000, [0, 1, 2, 3], [0], 0), (0, [0], [], 285), (90, [1], [], 0), (91, [1], [], 19), (90, [2], [], 0), (91, [2], [], 7), (90, [3], [], 0), (91, [3], [], 5)], (2274, [0, 2], [0], 0))
theorem c_283v_s_0 : vOkm T0 (eP e_283v L_283v A_283v mu_283v none) 4 g_283v_s_0 := vOk_inI fun ρ η f0 f1 f2 f3 f4 f5 f6 f7 => q_283v_0 (n0 := ρ 3) (n1 := ρ 2) (n2 := ρ 1) (n3 := ρ 0) (H0 := η 0) f7 f6 f5 f4 f3 f2 f1 f0
theorem kR_274_329 : vFreeR s_274.2.2.2.2 329 = true := by decide +kernel
theorem q_283v_1 {n0 n1 n2 n3 n4 n5 : Int} {H0 H1 : gH} (f0 : n0 ≤ 5) (f1 : 0 ≤ n0) (f2 : n1 ≤ 7) (f3 : 0 ≤ n1) (f4 : n2 ≤ 19) (f5 : 0 ≤ n2) (f6 : n3 = 285) (f7 : hWt T0 H0 ∧ preb_283v n3 n2 n1 n0 H0) (f8 : (hLe T0 H0 H1 ∧ hFr s_274.2.2.2.2 H0 H1 ∧ ((0 : Int) = 0 → H1.length = H0.length) ∧ hWt T0 H1) ∧ postb_274 n3 n1 H0 H1) (f9 : n4 = 0) (f10 : n5 = 0) : Ab_283v_11 n3 n2 n1 n0 n3 n2 n1 n0 n4 n5 H0 H1 ∧ ∀ q, none = some q → mub_283v_11 n3 n2 n1 n0 n3 n2 n1 n0 n4 n5 H0 H1 < q := by
  unfold preb_283v at f7
  unfold postb_274 at f8
  unfold Ab_283v_11
  have e1 : hV H1 285 18 = hV H0 285 18 := (f8.1.2.1.1 285 18 kF_274_285_18)
  have e3 : hV H1 285 64 = hV H0 285 64 := (f8.1.2.1.1 285 64 kF_274_285_64)
  have e5 : hV H1 285 65 = hV H0 285 65 := (f8.1.2.1.1 285 65 kF_274_285_65)
  have e6 : hV H1 298 = hV H0 298 := fRow f8.1.2.1 298 kR_274_298
  have e7 : hV H1 300 = hV H0 300 := fRow f8.1.2.1 300 kR_274_300
  have e8 : hV H1 301 = hV H0 301 := fRow f8.1.2.1 301 kR_274_301
  have e9 : hV H1 302 = hV H0 302 := fRow f8.1.2.1 302 kR_274_302
  have e10 : hV H1 303 = hV H0 303 := fRow f8.1.2.1 303 kR_274_303
  have e11 : hV H1 305 = hV H0 305 := fRow f8.1.2.1 305 kR_274_305
  have e12 : hV H1 328 = hV H0 328 := fRow f8.1.2.1 328 kR_274_328
  have e13 : hV H1 329 = hV H0 329 := fRow f8.1.2.1 329 kR_274_329
  have e14 : hV H1 330 = hV H0 330 := fRow f8.1.2.1 330 kR_274_330
  have e15 : hV H1 331 = hV H0 331 := fRow f8.1.2.1 331 kR_274_331
  have e16 : hV H1 332 = hV H0 332 := fRow f8.1.2.1 332 kR_274_332
  have e17 : hV H1 333 = hV H0 333 := fRow f8.1.2.1 333 kR_274_333
  have e18 : hV H1 334 = hV H0 334 := fRow f8.1.2.1 334 kR_274_334
  have e19 : hV H1 335 = hV H0 335 := fRow f8.1.2.1 335 kR_274_335
  have e20 : hV H1 336 = hV H0 336 := fRow f8.1.2.1 336 kR_274_336
  have e21 : hV H1 341 = hV H0 341 := fRow f8.1.2.1 341 kR_274_341
  have e22 : (0 : Int) ≤ hV H0 285 18 ∧ hV H0 285 18 ≤ 8 := f7.1 285 18 _ _ kW_285_18
  have e23 : (0 : Int) ≤ hV H0 285 64 ∧ hV H0 285 64 ≤ 20 := f7.1 285 64 _ _ kW_285_64
  have e24 : (0 : Int) ≤ hV H0 285 65 ∧ hV H0 285 65 ≤ 2147483647 := f7.1 285 65 _ _ kW_285_65
  have e28 : (0 : Int) ≤ hV H1 285 82 ∧ hV H1 285 82 ≤ 40 := f8.1.2.2.2 285 82 _ _ kW_285_82
  try simp only [SO, SS, XQ]
  try simp only [e1, e3, e5, e6, e7, e8, e9, e10, e11, e12, e13, e14, e15, e16, e17, e18, e19, e20, e21]
  have p0 := f7.2.1
  have p1 := f7.2.2.1
  have p2 := f7.2.2.2.1
  have p3 := f7.2.2.2.2.1
  have p4 := f7.2.2.2.2.2.1
  have p5 := f7.2.2.2.2.2.2.1
  have p6 := f7.2.2.2.2.2.2.2
  have r0_0 := f8.2
  try simp only [SO] at p4
  try simp only [SS] at p5
  try simp only [XQ] at r0_0
  try simp only [e6, e7, e8, e9, e10, e11] at r0_0
  clear e1 e3 e5 e6 e7 e8 e9 e10 e11 e12 e13 e14 e15 e16 e17 e18 e19 e20 e21
  clear f7 f8

  refine ⟨?_, fun q hq => ?_⟩
  · exact ⟨by first | omega | trivial, by first | omega | trivial, by first | omega | trivial, r0_0, p4, p5, (by first | rfl | trivial), (by first | rfl | trivial), (by first | omega | trivial), by omega, (by first | rfl | trivial)⟩
  · exact nomatch hq
def g_283v_s_1 : vG := ([(0, [5], [], 0), (0, [4], [], 0), (1274, [0, 2], [0, 1], 0), (6000, [0, 1, 2, 3], [0], 0), (0, [0], [], 285), (90, [1], [], 0), (91, [1], [], 19), (90, [2], [], 0), (91, [2], [], 7), (90, [3], [], 0), (91, [3], [], 5)], (4000, [0, 1, 2, 3, 4, 5], [1], 11))
theorem c_283v_s_1 : vOkm T0 (eP e_283v L_283v A_283v mu_283v none) 4 g_283v_s_1 := vOk_inI fun ρ η f0 f1 f2 f3 f4 f5 f6 f7 f8 f9 f10 => q_283v_1 (n0 := ρ 3) (n1 := ρ 2) (n2 := ρ 1) (n3 := ρ 0) (n4 := ρ 4) (n5 := ρ 5) (H0 := η 0) (H1 := η 1) f10 f9 f8 f7 f6 f5 f4 f3 f2 f1 f0
def p_283v_s : List vG := [g_283v_s_0,
  g_283v_s_1]
theorem r_283v_s : vCovO false (eR0 e_283v L_283v cs_283v 2000) p_283v_s = true := by decide +kernel
theorem kR_283v_298 : vFreeR s_283v.2.2.2.2 298 = true := by decide +kernel
theorem kR_283v_300 : vFreeR s_283v.2.2.2.2 300 = true := by decide +kernel
theorem kR_283v_301 : vFreeR s_283v.2.2.2.2 301 = true := by decide +kernel
theorem kR_283v_302 : vFreeR s_283v.2.2.2.2 302 = true := by decide +kernel
theorem kR_283v_303 : vFreeR s_283v.2.2.2.2 303 = true := by decide +kernel
theorem kR_283v_305 : vFreeR s_283v.2.2.2.2 305 = true := by decide +kernel
theorem kR_283v_328 : vFreeR s_283v.2.2.2.2 328 = true := by decide +kernel
theorem kR_283v_330 : vFreeR s_283v.2.2.2.2 330 = true := by decide +kernel
theorem kR_283v_331 : vFreeR s_283v.2.2.2.2 331 = true := by decide +kernel
theorem kR_283v_332 : vFreeR s_283v.2.2.2.2 332 = true := by decide +kernel
theorem kR_283v_341 : vFreeR s_283v.2.2.2.2 341 = true := by decide +kernel
theorem kF_283v_285_18 : vFree s_283v.2.2.2.2 285 18 = true := by decide +kernel
theorem kF_283v_285_64 : vFree s_283v.2.2.2.2 285 64 = true := by decide +kernel
theorem q_283v_2 {q0 : Nat} {n0 n1 n2 n3 n4 n5 n6 n7 n8 n9 n10 n11 : Int} {H0 H1 : gH} (f0 : n0 ≤ 40) (f1 : 0 ≤ n0) (f2 : n1 ≤ 2147483647) (f3 : 0 ≤ n1) (f4 : n2 ≤ 5) (f5 : 0 ≤ n2) (f6 : n3 ≤ 7) (f7 : 0 ≤ n3) (f8 : n4 ≤ 19) (f9 : 0 ≤ n4) (f10 : n5 = 285) (f11 : n6 ≤ 5) (f12 : 0 ≤ n6) (f13 : n7 ≤ 7) (f14 : 0 ≤ n7) (f15 : n8 ≤ 19) (f16 : 0 ≤ n8) (f17 : n9 = 285) (f18 : (hLe T0 H0 H1 ∧ hFr s_283v.2.2.2.2 H0 H1 ∧ hWt T0 H1) ∧ (Ab_283v_11 n9 n8 n7 n6 n5 n4 n3 n2 n1 n0 H0 H1 ∧ preb_283v n9 n8 n7 n6 H0) ∧ some q0 = some (mub_283v_11 n9 n8 n7 n6 n5 n4 n3 n2 n1 n0 H0 H1)) (f19 : n10 ≤ 40) (f20 : 0 ≤ n10) (f21 : n10 = hV H1 (n5).toNat 82) (f22 : n10 ≤ n0) (f23 : n11 = 0) : Ab_283v_85 n9 n8 n7 n6 n5 n4 n3 n2 n1 n11 H0 H1 ∧ ∀ q, some q0 = some q → mub_283v_85 n9 n8 n7 n6 n5 n4 n3 n2 n1 n11 H0 H1 < q := by
  have g4 := f18.2.1.1
  unfold Ab_283v_11 at g4
  have g3 := f18.2.1.2
  unfold preb_283v at g3
  have g5 := Option.some.inj f18.2.2
  unfold mub_283v_11 at g5
  unfold Ab_283v_85
  unfold mub_283v_85
  have e0 : n10 = hV H1 285 82 := (by rw [f10] at f21; exact f21 : n10 = hV H1 285 82)
  have e2 : hV H1 285 18 = hV H0 285 18 := (f18.1.2.1.1 285 18 kF_283v_285_18)
  have e4 : hV H1 285 64 = hV H0 285 64 := (f18.1.2.1.1 285 64 kF_283v_285_64)
  have e5 : hV H1 298 = hV H0 298 := fRow f18.1.2.1 298 kR_283v_298
  have e6 : hV H1 300 = hV H0 300 := fRow f18.1.2.1 300 kR_283v_300
  have e7 : hV H1 301 = hV H0 301 := fRow f18.1.2.1 301 kR_283v_301
  have e8 : hV H1 302 = hV H0 302 := fRow f18.1.2.1 302 kR_283v_302
  have e9 : hV H1 303 = hV H0 303 := fRow f18.1.2.1 303 kR_283v_303
  have e10 : hV H1 305 = hV H0 305 := fRow f18.1.2.1 305 kR_283v_305
  have e11 : hV H1 328 = hV H0 328 := fRow f18.1.2.1 328 kR_283v_328
  have e12 : hV H1 330 = hV H0 330 := fRow f18.1.2.1 330 kR_283v_330
  have e13 : hV H1 331 = hV H0 331 := fRow f18.1.2.1 331 kR_283v_331
  have e14 : hV H1 332 = hV H0 332 := fRow f18.1.2.1 332 kR_283v_332
  have e15 : hV H1 341 = hV H0 341 := fRow f18.1.2.1 341 kR_283v_341
  have e16 : (0 : Int) ≤ hV H0 285 18 ∧ hV H0 285 18 ≤ 8 := bTo e2 (f18.1.2.2 285 18 _ _ kW_285_18)
  have e17 : (0 : Int) ≤ hV H0 285 64 ∧ hV H0 285 64 ≤ 20 := bTo e4 (f18.1.2.2 285 64 _ _ kW_285_64)
  have e18 : (0 : Int) ≤ hV H1 285 65 ∧ hV H1 285 65 ≤ 2147483647 := f18.1.2.2 285 65 _ _ kW_285_65
  have e19 : (0 : Int) ≤ hV H1 285 82 ∧ hV H1 285 82 ≤ 40 := f18.1.2.2 285 82 _ _ kW_285_82
  try simp only [SO, SS, XQ]
  try simp only [e2, e4, e5, e6, e7, e8, e9, e10, e11, e12, e13, e14, e15]
  have k0 := g4.1
  have k1 := g4.2.1
  have k2 := g4.2.2.1
  have y0 := g4.2.2.2.1
  have y1 := g4.2.2.2.2.1
  have y2 := g4.2.2.2.2.2.1
  have y3 := g4.2.2.2.2.2.2.1
  have y4 := g4.2.2.2.2.2.2.2.1
  have y5 := g4.2.2.2.2.2.2.2.2.1
  have y6 := g4.2.2.2.2.2.2.2.2.2.1
  have y7 := g4.2.2.2.2.2.2.2.2.2.2
  have p0 := g3.1
  have p1 := g3.2.1
  have p2 := g3.2.2.1
  have p3 := g3.2.2.2.1
  have p4 := g3.2.2.2.2.1
  have p5 := g3.2.2.2.2.2.1
  have p6 := g3.2.2.2.2.2.2
  try simp only [XQ] at y0
  try simp only [SO] at y1
  try simp only [SS] at y2
  try simp only [SO] at p4
  try simp only [SS] at p5
  try simp only [e5, e6, e7, e8, e9, e10] at y0
  try simp only [e2, e4, e11, e12, e13, e14] at y1
  try simp only [e15] at y2
  clear g3
  clear g4
  clear f21 e2 e4 e5 e6 e7 e8 e9 e10 e11 e12 e13 e14 e15
  clear f18
  subst e0
  try have xg := XQp_g y0 (s := (n0).toNat) (by omega) (by omega)
  try have sg := SS_gen y2 (hV H0 300 (hV H1 344 (n0).toNat).toNat) (by omega) (by omega)

  refine ⟨?_, fun q hq => ?_⟩
  · exact ⟨by first | omega | trivial, by first | omega | trivial, by first | omega | trivial, y0, y1, y2, y3, y4, by omega, by omega, y7⟩
  · have g6 := Option.some.inj hq
    subst g6
    omega
def g_283v_11_0 : vG := ([(0, [11], [], 0), (43, [9, 10], [], 0), (20, [10, 4], [1], 82), (90, [10], [], 0), (91, [10], [], 40), (5000, [0, 1, 2, 3, 4, 5, 6, 7, 8, 9], [0, 1], 11), (0, [0], [], 285), (90, [1], [], 0), (91, [1], [], 19), (90, [2], [], 0), (91, [2], [], 7), (90, [3], [], 0), (91, [3], [], 5), (0, [4], [], 285), (90, [5], [], 0), (91, [5], [], 19), (90, [6], [], 0), (91, [6], [], 7), (90, [7], [], 0), (91, [7], [], 5), (90, [8], [], 0), (91, [8], [], 2147483647), (90, [9], [], 0), (91, [9], [], 40)], (4000, [4, 5, 6, 7, 8, 11], [1], 85))
theorem c_283v_11_0 {q0 : Nat} : vOkm T0 (eP e_283v L_283v A_283v mu_283v (some q0)) 4 g_283v_11_0 := vOk_inI fun ρ η f0 f1 f2 f3 f4 f5 f6 f7 f8 f9 f10 f11 f12 f13 f14 f15 f16 f17 f18 f19 f20 f21 f22 f23 => q_283v_2 (q0 := q0) (n0 := ρ 9) (n1 := ρ 8) (n2 := ρ 7) (n3 := ρ 6) (n4 := ρ 5) (n5 := ρ 4) (n6 := ρ 3) (n7 := ρ 2) (n8 := ρ 1) (n9 := ρ 0) (n10 := ρ 10) (n11 := ρ 11) (H0 := η 0) (H1 := η 1) f23 f22 f21 f20 f19 f18 f17 f16 f15 f14 f13 f12 f11 f10 f9 f8 f7 f6 f5 f4 f3 f2 f1 f0
theorem q_283v_3 {q0 : Nat} {n0 n1 n2 n3 n4 n5 n6 n7 n8 n9 n10 : Int} {H0 H1 : gH} (f0 : n0 ≤ 40) (f1 : 0 ≤ n0) (f2 : n1 ≤ 2147483647) (f3 : 0 ≤ n1) (f4 : n2 ≤ 5) (f5 : 0 ≤ n2) (f6 : n3 ≤ 7) (f7 : 0 ≤ n3) (f8 : n4 ≤ 19) (f9 : 0 ≤ n4) (f10 : n5 = 285) (f11 : n6 ≤ 5) (f12 : 0 ≤ n6) (f13 : n7 ≤ 7) (f14 : 0 ≤ n7) (f15 : n8 ≤ 19) (f16 : 0 ≤ n8) (f17 : n9 = 285) (f18 : (hLe T0 H0 H1 ∧ hFr s_283v.2.2.2.2 H0 H1 ∧ hWt T0 H1) ∧ (Ab_283v_11 n9 n8 n7 n6 n5 n4 n3 n2 n1 n0 H0 H1 ∧ preb_283v n9 n8 n7 n6 H0) ∧ some q0 = some (mub_283v_11 n9 n8 n7 n6 n5 n4 n3 n2 n1 n0 H0 H1)) (f19 : n10 ≤ 40) (f20 : 0 ≤ n10) (f21 : n10 = hV H1 (n5).toNat 82) (f22 : n0 < n10) : 0 ≤ n0 ∧ n0 < 40 := by
  have g4 := f18.2.1.1
  unfold Ab_283v_11 at g4
  have g3 := f18.2.1.2
  unfold preb_283v at g3
  have e0 : n10 = hV H1 285 82 := (by rw [f10] at f21; exact f21 : n10 = hV H1 285 82)
  have e2 : hV H1 285 18 = hV H0 285 18 := (f18.1.2.1.1 285 18 kF_283v_285_18)
  have e4 : hV H1 285 64 = hV H0 285 64 := (f18.1.2.1.1 285 64 kF_283v_285_64)
  have e5 : hV H1 298 = hV H0 298 := fRow f18.1.2.1 298 kR_283v_298
  have e6 : hV H1 300 = hV H0 300 := fRow f18.1.2.1 300 kR_283v_300
  have e7 : hV H1 301 = hV H0 301 := fRow f18.1.2.1 301 kR_283v_301
  have e8 : hV H1 302 = hV H0 302 := fRow f18.1.2.1 302 kR_283v_302
  have e9 : hV H1 303 = hV H0 303 := fRow f18.1.2.1 303 kR_283v_303
  have e10 : hV H1 305 = hV H0 305 := fRow f18.1.2.1 305 kR_283v_305
  have e11 : hV H1 328 = hV H0 328 := fRow f18.1.2.1 328 kR_283v_328
  have e12 : hV H1 330 = hV H0 330 := fRow f18.1.2.1 330 kR_283v_330
  have e13 : hV H1 331 = hV H0 331 := fRow f18.1.2.1 331 kR_283v_331
  have e14 : hV H1 332 = hV H0 332 := fRow f18.1.2.1 332 kR_283v_332
  have e15 : hV H1 341 = hV H0 341 := fRow f18.1.2.1 341 kR_283v_341
  have e16 : (0 : Int) ≤ hV H0 285 18 ∧ hV H0 285 18 ≤ 8 := bTo e2 (f18.1.2.2 285 18 _ _ kW_285_18)
  have e17 : (0 : Int) ≤ hV H0 285 64 ∧ hV H0 285 64 ≤ 20 := bTo e4 (f18.1.2.2 285 64 _ _ kW_285_64)
  have e18 : (0 : Int) ≤ hV H1 285 65 ∧ hV H1 285 65 ≤ 2147483647 := f18.1.2.2 285 65 _ _ kW_285_65
  have e19 : (0 : Int) ≤ hV H1 285 82 ∧ hV H1 285 82 ≤ 40 := f18.1.2.2 285 82 _ _ kW_285_82
  try simp only [SO, SS, XQ]
  have k0 := g4.1
  have k1 := g4.2.1
  have k2 := g4.2.2.1
  have y0 := g4.2.2.2.1
  have y1 := g4.2.2.2.2.1
  have y2 := g4.2.2.2.2.2.1
  have y3 := g4.2.2.2.2.2.2.1
  have y4 := g4.2.2.2.2.2.2.2.1
  have y5 := g4.2.2.2.2.2.2.2.2.1
  have y6 := g4.2.2.2.2.2.2.2.2.2.1
  have y7 := g4.2.2.2.2.2.2.2.2.2.2
  have p0 := g3.1
  have p1 := g3.2.1
  have p2 := g3.2.2.1
  have p3 := g3.2.2.2.1
  have p4 := g3.2.2.2.2.1
  have p5 := g3.2.2.2.2.2.1
  have p6 := g3.2.2.2.2.2.2
  try simp only [XQ] at y0
  try simp only [SO] at y1
  try simp only [SS] at y2
  try simp only [SO] at p4
  try simp only [SS] at p5
  try simp only [e5, e6, e7, e8, e9, e10] at y0
  try simp only [e2, e4, e11, e12, e13, e14] at y1
  try simp only [e15] at y2
  clear g3
  clear g4
  clear f21 e2 e4 e5 e6 e7 e8 e9 e10 e11 e12 e13 e14 e15
  clear f18
  subst e0
  try have xg := XQp_g y0 (s := (n0).toNat) (by omega) (by omega)
  try have sg := SS_gen y2 (hV H0 300 (hV H1 344 (n0).toNat).toNat) (by omega) (by omega)
  try subst k2
  try subst k1
  try subst k0
  omega
def g_283v_11_1 : vG := ([(42, [9, 10], [], 0), (20, [10, 4], [1], 82), (90, [10], [], 0), (91, [10], [], 40), (5000, [0, 1, 2, 3, 4, 5, 6, 7, 8, 9], [0, 1], 11), (0, [0], [], 285), (90, [1], [], 0), (91, [1], [], 19), (90, [2], [], 0), (91, [2], [], 7), (90, [3], [], 0), (91, [3], [], 5), (0, [4], [], 285), (90, [5], [], 0), (91, [5], [], 19), (90, [6], [], 0), (91, [6], [], 7), (90, [7], [], 0), (91, [7], [], 5), (90, [8], [], 0), (91, [8], [], 2147483647), (90, [9], [], 0), (91, [9], [], 40)], (70, [9], [], 40))
theorem c_283v_11_1 {q0 : Nat} : vOkm T0 (eP e_283v L_283v A_283v mu_283v (some q0)) 4 g_283v_11_1 := vOk_inI fun ρ η f0 f1 f2 f3 f4 f5 f6 f7 f8 f9 f10 f11 f12 f13 f14 f15 f16 f17 f18 f19 f20 f21 f22 => q_283v_3 (q0 := q0) (n0 := ρ 9) (n1 := ρ 8) (n2 := ρ 7) (n3 := ρ 6) (n4 := ρ 5) (n5 := ρ 4) (n6 := ρ 3) (n7 := ρ 2) (n8 := ρ 1) (n9 := ρ 0) (n10 := ρ 10) (H0 := η 0) (H1 := η 1) f22 f21 f20 f19 f18 f17 f16 f15 f14 f13 f12 f11 f10 f9 f8 f7 f6 f5 f4 f3 f2 f1 f0
theorem q_283v_4 {q0 : Nat} {n0 n1 n2 n3 n4 n5 n6 n7 n8 n9 n10 n11 n12 n13 n14 n15 : Int} {H0 H1 : gH} (f0 : n0 ≤ 40) (f1 : 0 ≤ n0) (f2 : n1 ≤ 2147483647) (f3 : 0 ≤ n1) (f4 : n2 ≤ 5) (f5 : 0 ≤ n2) (f6 : n3 ≤ 7) (f7 : 0 ≤ n3) (f8 : n4 ≤ 19) (f9 : 0 ≤ n4) (f10 : n5 = 285) (f11 : n6 ≤ 5) (f12 : 0 ≤ n6) (f13 : n7 ≤ 7) (f14 : 0 ≤ n7) (f15 : n8 ≤ 19) (f16 : 0 ≤ n8) (f17 : n9 = 285) (f18 : (hLe T0 H0 H1 ∧ hFr s_283v.2.2.2.2 H0 H1 ∧ hWt T0 H1) ∧ (Ab_283v_11 n9 n8 n7 n6 n5 n4 n3 n2 n1 n0 H0 H1 ∧ preb_283v n9 n8 n7 n6 H0) ∧ some q0 = some (mub_283v_11 n9 n8 n7 n6 n5 n4 n3 n2 n1 n0 H0 H1)) (f19 : n10 ≤ 40) (f20 : 0 ≤ n10) (f21 : n10 = hV H1 (n5).toNat 82) (f22 : n0 < n10) (f23 : n11 = 298) (f24 : n11 = hV H1 (n5).toNat 24) (f25 : n12 = 344) (f26 : n12 = hV H1 (n5).toNat 83) (f27 : n13 ≤ 1007) (f28 : 0 ≤ n13) (f29 : n13 = hV H1 (n12).toNat (n0).toNat) (f30 : n14 ≤ 5) (f31 : 0 ≤ n14) (f32 : n14 = hV H1 (n11).toNat (n13).toNat) (f33 : n14 ≠ 0) (f34 : n15 = w32 (n0 + 1)) : 0 ≤ n15 := by
  have g4 := f18.2.1.1
  unfold Ab_283v_11 at g4
  have g3 := f18.2.1.2
  unfold preb_283v at g3
  have e0 : n10 = hV H1 285 82 := (by rw [f10] at f21; exact f21 : n10 = hV H1 285 82)
  have e1 : n13 = hV H1 344 (n0).toNat := (by rw [f25] at f29; exact f29 : n13 = hV H1 344 (n0).toNat)
  have e2 : hV H1 298 = hV H0 298 := fRow f18.1.2.1 298 kR_283v_298
  have e3 : n14 = hV H0 298 (n13).toNat := (by rw [f23] at f32; exact f32 : n14 = hV H1 298 (n13).toNat).trans ((congrFun e2 _))
  have e5 : hV H1 285 18 = hV H0 285 18 := (f18.1.2.1.1 285 18 kF_283v_285_18)
  have e7 : hV H1 285 64 = hV H0 285 64 := (f18.1.2.1.1 285 64 kF_283v_285_64)
  have e8 : hV H1 300 = hV H0 300 := fRow f18.1.2.1 300 kR_283v_300
  have e9 : hV H1 301 = hV H0 301 := fRow f18.1.2.1 301 kR_283v_301
  have e10 : hV H1 302 = hV H0 302 := fRow f18.1.2.1 302 kR_283v_302
  have e11 : hV H1 303 = hV H0 303 := fRow f18.1.2.1 303 kR_283v_303
  have e12 : hV H1 305 = hV H0 305 := fRow f18.1.2.1 305 kR_283v_305
  have e13 : hV H1 328 = hV H0 328 := fRow f18.1.2.1 328 kR_283v_328
  have e14 : hV H1 330 = hV H0 330 := fRow f18.1.2.1 330 kR_283v_330
  have e15 : hV H1 331 = hV H0 331 := fRow f18.1.2.1 331 kR_283v_331
  have e16 : hV H1 332 = hV H0 332 := fRow f18.1.2.1 332 kR_283v_332
  have e17 : hV H1 341 = hV H0 341 := fRow f18.1.2.1 341 kR_283v_341
  have e18 : (0 : Int) ≤ hV H0 285 18 ∧ hV H0 285 18 ≤ 8 := bTo e5 (f18.1.2.2 285 18 _ _ kW_285_18)
  have e19 : (0 : Int) ≤ hV H0 285 64 ∧ hV H0 285 64 ≤ 20 := bTo e7 (f18.1.2.2 285 64 _ _ kW_285_64)
  have e20 : (0 : Int) ≤ hV H1 285 65 ∧ hV H1 285 65 ≤ 2147483647 := f18.1.2.2 285 65 _ _ kW_285_65
  have e21 : (0 : Int) ≤ hV H1 285 82 ∧ hV H1 285 82 ≤ 40 := f18.1.2.2 285 82 _ _ kW_285_82
  try simp only [SO, SS, XQ]
  have k0 := g4.1
  have k1 := g4.2.1
  have k2 := g4.2.2.1
  have y0 := g4.2.2.2.1
  have y1 := g4.2.2.2.2.1
  have y2 := g4.2.2.2.2.2.1
  have y3 := g4.2.2.2.2.2.2.1
  have y4 := g4.2.2.2.2.2.2.2.1
  have y5 := g4.2.2.2.2.2.2.2.2.1
  have y6 := g4.2.2.2.2.2.2.2.2.2.1
  have y7 := g4.2.2.2.2.2.2.2.2.2.2
  have p0 := g3.1
  have p1 := g3.2.1
  have p2 := g3.2.2.1
  have p3 := g3.2.2.2.1
  have p4 := g3.2.2.2.2.1
  have p5 := g3.2.2.2.2.2.1
  have p6 := g3.2.2.2.2.2.2
  try simp only [XQ] at y0
  try simp only [SO] at y1
  try simp only [SS] at y2
  try simp only [SO] at p4
  try simp only [SS] at p5
  try simp only [e2, e8, e9, e10, e11, e12] at y0
  try simp only [e5, e7, e13, e14, e15, e16] at y1
  try simp only [e17] at y2
  clear g3
  clear g4
  clear f21 f24 f26 f29 f32 e2 e5 e7 e8 e9 e10 e11 e12 e13 e14 e15 e16 e17
  clear f18
  subst e0
  subst e1
  subst e3
  try have xg := XQp_g y0 (s := (n0).toNat) (by omega) (by omega)
  try have sg := SS_gen y2 (hV H0 300 (hV H1 344 (n0).toNat).toNat) (by omega) (by omega)
  first
  | (have ix0 : n15 = n0 + 1 := Eq.trans f34 (w32_iv (Iad (Iat f1 f0) (IC 1)) (by decide)); subst ix0; clear f34)
  | (have ix0 : n15 = n0 + 1 := Eq.trans f34 (w32_id (by omega) (by omega)); subst ix0; clear f34)
  | (unfold w32 at f34; have ix0 : n15 = n0 + 1 := (by omega); subst ix0)
  | skip
  try unfold w32 at f34
  try subst k2
  try subst k1
  try subst k0
  omega
def g_283v_11_2 : vG := ([(10, [15, 9], [], 1), (31, [14], [], 0), (22, [14, 11, 13], [1], 0), (90, [14], [], 0), (91, [14], [], 5), (22, [13, 12, 9], [1], 0), (90, [13], [], 0), (91, [13], [], 1007), (20, [12, 4], [1], 83), (0, [12], [], 344), (20, [11, 4], [1], 24), (0, [11], [], 298), (42, [9, 10], [], 0), (20, [10, 4], [1], 82), (90, [10], [], 0), (91, [10], [], 40), (5000, [0, 1, 2, 3, 4, 5, 6, 7, 8, 9], [0, 1], 11), (0, [0], [], 285), (90, [1], [], 0), (91, [1], [], 19), (90, [2], [], 0), (91, [2], [], 7), (90, [3], [], 0), (91, [3], [], 5), (0, [4], [], 285), (90, [5], [], 0), (91, [5], [], 19), (90, [6], [], 0), (91, [6], [], 7), (90, [7], [], 0), (91, [7], [], 5), (90, [8], [], 0), (91, [8], [], 2147483647), (90, [9], [], 0), (91, [9], [], 40)], (90, [15], [], 0))
theorem c_283v_11_2 {q0 : Nat} : vOkm T0 (eP e_283v L_283v A_283v mu_283v (some q0)) 4 g_283v_11_2 := vOk_inI fun ρ η f0 f1 f2 f3 f4 f5 f6 f7 f8 f9 f10 f11 f12 f13 f14 f15 f16 f17 f18 f19 f20 f21 f22 f23 f24 f25 f26 f27 f28 f29 f30 f31 f32 f33 f34 => q_283v_4 (q0 := q0) (n0 := ρ 9) (n1 := ρ 8) (n2 := ρ 7) (n3 := ρ 6) (n4 := ρ 5) (n5 := ρ 4) (n6 := ρ 3) (n7 := ρ 2) (n8 := ρ 1) (n9 := ρ 0) (n10 := ρ 10) (n11 := ρ 11) (n12 := ρ 12) (n13 := ρ 13) (n14 := ρ 14) (n15 := ρ 15) (H0 := η 0) (H1 := η 1) f34 f33 f32 f31 f30 f29 f28 f27 f26 f25 f24 f23 f22 f21 f20 f19 f18 f17 f16 f15 f14 f13 f12 f11 f10 f9 f8 f7 f6 f5 f4 f3 f2 f1 f0
theorem q_283v_5 {q0 : Nat} {n0 n1 n2 n3 n4 n5 n6 n7 n8 n9 n10 n11 n12 n13 n14 n15 : Int} {H0 H1 : gH} (f0 : n0 ≤ 40) (f1 : 0 ≤ n0) (f2 : n1 ≤ 2147483647) (f3 : 0 ≤ n1) (f4 : n2 ≤ 5) (f5 : 0 ≤ n2) (f6 : n3 ≤ 7) (f7 : 0 ≤ n3) (f8 : n4 ≤ 19) (f9 : 0 ≤ n4) (f10 : n5 = 285) (f11 : n6 ≤ 5) (f12 : 0 ≤ n6) (f13 : n7 ≤ 7) (f14 : 0 ≤ n7) (f15 : n8 ≤ 19) (f16 : 0 ≤ n8) (f17 : n9 = 285) (f18 : (hLe T0 H0 H1 ∧ hFr s_283v.2.2.2.2 H0 H1 ∧ hWt T0 H1) ∧ (Ab_283v_11 n9 n8 n7 n6 n5 n4 n3 n2 n1 n0 H0 H1 ∧ preb_283v n9 n8 n7 n6 H0) ∧ some q0 = some (mub_283v_11 n9 n8 n7 n6 n5 n4 n3 n2 n1 n0 H0 H1)) (f19 : n10 ≤ 40) (f20 : 0 ≤ n10) (f21 : n10 = hV H1 (n5).toNat 82) (f22 : n0 < n10) (f23 : n11 = 298) (f24 : n11 = hV H1 (n5).toNat 24) (f25 : n12 = 344) (f26 : n12 = hV H1 (n5).toNat 83) (f27 : n13 ≤ 1007) (f28 : 0 ≤ n13) (f29 : n13 = hV H1 (n12).toNat (n0).toNat) (f30 : n14 ≤ 5) (f31 : 0 ≤ n14) (f32 : n14 = hV H1 (n11).toNat (n13).toNat) (f33 : n14 ≠ 0) (f34 : n15 = w32 (n0 + 1)) : n15 ≤ 40 := by
  have g4 := f18.2.1.1
  unfold Ab_283v_11 at g4
  have g3 := f18.2.1.2
  unfold preb_283v at g3
  have e0 : n10 = hV H1 285 82 := (by rw [f10] at f21; exact f21 : n10 = hV H1 285 82)
  have e1 : n13 = hV H1 344 (n0).toNat := (by rw [f25] at f29; exact f29 : n13 = hV H1 344 (n0).toNat)
  have e2 : hV H1 298 = hV H0 298 := fRow f18.1.2.1 298 kR_283v_298
  have e3 : n14 = hV H0 298 (n13).toNat := (by rw [f23] at f32; exact f32 : n14 = hV H1 298 (n13).toNat).trans ((congrFun e2 _))
  have e5 : hV H1 285 18 = hV H0 285 18 := (f18.1.2.1.1 285 18 kF_283v_285_18)
  have e7 : hV H1 285 64 = hV H0 285 64 := (f18.1.2.1.1 285 64 kF_283v_285_64)
  have e8 : hV H1 300 = hV H0 300 := fRow f18.1.2.1 300 kR_283v_300
  have e9 : hV H1 301 = hV H0 301 := fRow f18.1.2.1 301 kR_283v_301
  have e10 : hV H1 302 = hV H0 302 := fRow f18.1.2.1 302 kR_283v_302
  have e11 : hV H1 303 = hV H0 303 := fRow f18.1.2.1 303 kR_283v_303
  have e12 : hV H1 305 = hV H0 305 := fRow f18.1.2.1 305 kR_283v_305
  have e13 : hV H1 328 = hV H0 328 := fRow f18.1.2.1 328 kR_283v_328
  have e14 : hV H1 330 = hV H0 330 := fRow f18.1.2.1 330 kR_283v_330
  have e15 : hV H1 331 = hV H0 331 := fRow f18.1.2.1 331 kR_283v_331
  have e16 : hV H1 332 = hV H0 332 := fRow f18.1.2.1 332 kR_283v_332
  have e17 : hV H1 341 = hV H0 341 := fRow f18.1.2.1 341 kR_283v_341
  have e18 : (0 : Int) ≤ hV H0 285 18 ∧ hV H0 285 18 ≤ 8 := bTo e5 (f18.1.2.2 285 18 _ _ kW_285_18)
  have e19 : (0 : Int) ≤ hV H0 285 64 ∧ hV H0 285 64 ≤ 20 := bTo e7 (f18.1.2.2 285 64 _ _ kW_285_64)
  have e20 : (0 : Int) ≤ hV H1 285 65 ∧ hV H1 285 65 ≤ 2147483647 := f18.1.2.2 285 65 _ _ kW_285_65
  have e21 : (0 : Int) ≤ hV H1 285 82 ∧ hV H1 285 82 ≤ 40 := f18.1.2.2 285 82 _ _ kW_285_82
  try simp only [SO, SS, XQ]
  have k0 := g4.1
  have k1 := g4.2.1
  have k2 := g4.2.2.1
  have y0 := g4.2.2.2.1
  have y1 := g4.2.2.2.2.1
  have y2 := g4.2.2.2.2.2.1
  have y3 := g4.2.2.2.2.2.2.1
  have y4 := g4.2.2.2.2.2.2.2.1
  have y5 := g4.2.2.2.2.2.2.2.2.1
  have y6 := g4.2.2.2.2.2.2.2.2.2.1
  have y7 := g4.2.2.2.2.2.2.2.2.2.2
  have p0 := g3.1
  have p1 := g3.2.1
  have p2 := g3.2.2.1
  have p3 := g3.2.2.2.1
  have p4 := g3.2.2.2.2.1
  have p5 := g3.2.2.2.2.2.1
  have p6 := g3.2.2.2.2.2.2
  try simp only [XQ] at y0
  try simp only [SO] at y1
  try simp only [SS] at y2
  try simp only [SO] at p4
  try simp only [SS] at p5
  try simp only [e2, e8, e9, e10, e11, e12] at y0
  try simp only [e5, e7, e13, e14, e15, e16] at y1
  try simp only [e17] at y2
  clear g3
  clear g4
  clear f21 f24 f26 f29 f32 e2 e5 e7 e8 e9 e10 e11 e12 e13 e14 e15 e16 e17
  clear f18
  subst e0
  subst e1
  subst e3
  try have xg := XQp_g y0 (s := (n0).toNat) (by omega) (by omega)
  try have sg := SS_gen y2 (hV H0 300 (hV H1 344 (n0).toNat).toNat) (by omega) (by omega)
  first
  | (have ix0 : n15 = n0 + 1 := Eq.trans f34 (w32_iv (Iad (Iat f1 f0) (IC 1)) (by decide)); subst ix0; clear f34)
  | (have ix0 : n15 = n0 + 1 := Eq.trans f34 (w32_id (by omega) (by omega)); subst ix0; clear f34)
  | (unfold w32 at f34; have ix0 : n15 = n0 + 1 := (by omega); subst ix0)
  | skip
  try unfold w32 at f34
  try subst k2
  try subst k1
  try subst k0
  omega
def g_283v_11_3 : vG := ([(10, [15, 9], [], 1), (31, [14], [], 0), (22, [14, 11, 13], [1], 0), (90, [14], [], 0), (91, [14], [], 5), (22, [13, 12, 9], [1], 0), (90, [13], [], 0), (91, [13], [], 1007), (20, [12, 4], [1], 83), (0, [12], [], 344), (20, [11, 4], [1], 24), (0, [11], [], 298), (42, [9, 10], [], 0), (20, [10, 4], [1], 82), (90, [10], [], 0), (91, [10], [], 40), (5000, [0, 1, 2, 3, 4, 5, 6, 7, 8, 9], [0, 1], 11), (0, [0], [], 285), (90, [1], [], 0), (91, [1], [], 19), (90, [2], [], 0), (91, [2], [], 7), (90, [3], [], 0), (91, [3], [], 5), (0, [4], [], 285), (90, [5], [], 0), (91, [5], [], 19), (90, [6], [], 0), (91, [6], [], 7), (90, [7], [], 0), (91, [7], [], 5), (90, [8], [], 0), (91, [8], [], 2147483647), (90, [9], [], 0), (91, [9], [], 40)], (91, [15], [], 40))
theorem c_283v_11_3 {q0 : Nat} : vOkm T0 (eP e_283v L_283v A_283v mu_283v (some q0)) 4 g_283v_11_3 := vOk_inI fun ρ η f0 f1 f2 f3 f4 f5 f6 f7 f8 f9 f10 f11 f12 f13 f14 f15 f16 f17 f18 f19 f20 f21 f22 f23 f24 f25 f26 f27 f28 f29 f30 f31 f32 f33 f34 => q_283v_5 (q0 := q0) (n0 := ρ 9) (n1 := ρ 8) (n2 := ρ 7) (n3 := ρ 6) (n4 := ρ 5) (n5 := ρ 4) (n6 := ρ 3) (n7 := ρ 2) (n8 := ρ 1) (n9 := ρ 0) (n10 := ρ 10) (n11 := ρ 11) (n12 := ρ 12) (n13 := ρ 13) (n14 := ρ 14) (n15 := ρ 15) (H0 := η 0) (H1 := η 1) f34 f33 f32 f31 f30 f29 f28 f27 f26 f25 f24 f23 f22 f21 f20 f19 f18 f17 f16 f15 f14 f13 f12 f11 f10 f9 f8 f7 f6 f5 f4 f3 f2 f1 f0
theorem q_283v_6 {q0 : Nat} {n0 n1 n2 n3 n4 n5 n6 n7 n8 n9 n10 n11 n12 n13 n14 n15 : Int} {H0 H1 : gH} (f0 : n0 ≤ 40) (f1 : 0 ≤ n0) (f2 : n1 ≤ 2147483647) (f3 : 0 ≤ n1) (f4 : n2 ≤ 5) (f5 : 0 ≤ n2) (f6 : n3 ≤ 7) (f7 : 0 ≤ n3) (f8 : n4 ≤ 19) (f9 : 0 ≤ n4) (f10 : n5 = 285) (f11 : n6 ≤ 5) (f12 : 0 ≤ n6) (f13 : n7 ≤ 7) (f14 : 0 ≤ n7) (f15 : n8 ≤ 19) (f16 : 0 ≤ n8) (f17 : n9 = 285) (f18 : (hLe T0 H0 H1 ∧ hFr s_283v.2.2.2.2 H0 H1 ∧ hWt T0 H1) ∧ (Ab_283v_11 n9 n8 n7 n6 n5 n4 n3 n2 n1 n0 H0 H1 ∧ preb_283v n9 n8 n7 n6 H0) ∧ some q0 = some (mub_283v_11 n9 n8 n7 n6 n5 n4 n3 n2 n1 n0 H0 H1)) (f19 : n10 ≤ 40) (f20 : 0 ≤ n10) (f21 : n10 = hV H1 (n5).toNat 82) (f22 : n0 < n10) (f23 : n11 = 298) (f24 : n11 = hV H1 (n5).toNat 24) (f25 : n12 = 344) (f26 : n12 = hV H1 (n5).toNat 83) (f27 : n13 ≤ 1007) (f28 : 0 ≤ n13) (f29 : n13 = hV H1 (n12).toNat (n0).toNat) (f30 : n14 ≤ 5) (f31 : 0 ≤ n14) (f32 : n14 = hV H1 (n11).toNat (n13).toNat) (f33 : n14 ≠ 0) (f34 : n15 = w32 (n0 + 1)) : Ab_283v_11 n9 n8 n7 n6 n5 n4 n3 n2 n1 n15 H0 H1 ∧ ∀ q, some q0 = some q → mub_283v_11 n9 n8 n7 n6 n5 n4 n3 n2 n1 n15 H0 H1 < q := by
  have g4 := f18.2.1.1
  unfold Ab_283v_11 at g4
  have g3 := f18.2.1.2
  unfold preb_283v at g3
  have g5 := Option.some.inj f18.2.2
  unfold mub_283v_11 at g5
  unfold Ab_283v_11
  unfold mub_283v_11
  have e0 : n10 = hV H1 285 82 := (by rw [f10] at f21; exact f21 : n10 = hV H1 285 82)
  have e1 : n13 = hV H1 344 (n0).toNat := (by rw [f25] at f29; exact f29 : n13 = hV H1 344 (n0).toNat)
  have e2 : hV H1 298 = hV H0 298 := fRow f18.1.2.1 298 kR_283v_298
  have e3 : n14 = hV H0 298 (n13).toNat := (by rw [f23] at f32; exact f32 : n14 = hV H1 298 (n13).toNat).trans ((congrFun e2 _))
  have e5 : hV H1 285 18 = hV H0 285 18 := (f18.1.2.1.1 285 18 kF_283v_285_18)
  have e7 : hV H1 285 64 = hV H0 285 64 := (f18.1.2.1.1 285 64 kF_283v_285_64)
  have e8 : hV H1 300 = hV H0 300 := fRow f18.1.2.1 300 kR_283v_300
  have e9 : hV H1 301 = hV H0 301 := fRow f18.1.2.1 301 kR_283v_301
  have e10 : hV H1 302 = hV H0 302 := fRow f18.1.2.1 302 kR_283v_302
  have e11 : hV H1 303 = hV H0 303 := fRow f18.1.2.1 303 kR_283v_303
  have e12 : hV H1 305 = hV H0 305 := fRow f18.1.2.1 305 kR_283v_305
  have e13 : hV H1 328 = hV H0 328 := fRow f18.1.2.1 328 kR_283v_328
  have e14 : hV H1 330 = hV H0 330 := fRow f18.1.2.1 330 kR_283v_330
  have e15 : hV H1 331 = hV H0 331 := fRow f18.1.2.1 331 kR_283v_331
  have e16 : hV H1 332 = hV H0 332 := fRow f18.1.2.1 332 kR_283v_332
  have e17 : hV H1 341 = hV H0 341 := fRow f18.1.2.1 341 kR_283v_341
  have e18 : (0 : Int) ≤ hV H0 285 18 ∧ hV H0 285 18 ≤ 8 := bTo e5 (f18.1.2.2 285 18 _ _ kW_285_18)
  have e19 : (0 : Int) ≤ hV H0 285 64 ∧ hV H0 285 64 ≤ 20 := bTo e7 (f18.1.2.2 285 64 _ _ kW_285_64)
  have e20 : (0 : Int) ≤ hV H1 285 65 ∧ hV H1 285 65 ≤ 2147483647 := f18.1.2.2 285 65 _ _ kW_285_65
  have e21 : (0 : Int) ≤ hV H1 285 82 ∧ hV H1 285 82 ≤ 40 := f18.1.2.2 285 82 _ _ kW_285_82
  try simp only [SO, SS, XQ]
  try simp only [e5, e7, e2, e8, e9, e10, e11, e12, e13, e14, e15, e16, e17]
  have k0 := g4.1
  have k1 := g4.2.1
  have k2 := g4.2.2.1
  have y0 := g4.2.2.2.1
  have y1 := g4.2.2.2.2.1
  have y2 := g4.2.2.2.2.2.1
  have y3 := g4.2.2.2.2.2.2.1
  have y4 := g4.2.2.2.2.2.2.2.1
  have y5 := g4.2.2.2.2.2.2.2.2.1
  have y6 := g4.2.2.2.2.2.2.2.2.2.1
  have y7 := g4.2.2.2.2.2.2.2.2.2.2
  have p0 := g3.1
  have p1 := g3.2.1
  have p2 := g3.2.2.1
  have p3 := g3.2.2.2.1
  have p4 := g3.2.2.2.2.1
  have p5 := g3.2.2.2.2.2.1
  have p6 := g3.2.2.2.2.2.2
  try simp only [XQ] at y0
  try simp only [SO] at y1
  try simp only [SS] at y2
  try simp only [SO] at p4
  try simp only [SS] at p5
  try simp only [e2, e8, e9, e10, e11, e12] at y0
  try simp only [e5, e7, e13, e14, e15, e16] at y1
  try simp only [e17] at y2
  clear g3
  clear g4
  clear f21 f24 f26 f29 f32 e2 e5 e7 e8 e9 e10 e11 e12 e13 e14 e15 e16 e17
  clear f18
  subst e0
  subst e1
  subst e3
  try have xg := XQp_g y0 (s := (n0).toNat) (by omega) (by omega)
  try have sg := SS_gen y2 (hV H0 300 (hV H1 344 (n0).toNat).toNat) (by omega) (by omega)
  first
  | (have ix0 : n15 = n0 + 1 := Eq.trans f34 (w32_iv (Iad (Iat f1 f0) (IC 1)) (by decide)); subst ix0; clear f34)
  | (have ix0 : n15 = n0 + 1 := Eq.trans f34 (w32_id (by omega) (by omega)); subst ix0; clear f34)
  | (unfold w32 at f34; have ix0 : n15 = n0 + 1 := (by omega); subst ix0)
  | skip
  try unfold w32 at f34

  refine ⟨?_, fun q hq => ?_⟩
  · exact ⟨by first | omega | trivial, by first | omega | trivial, by first | omega | trivial, y0, y1, y2, y3, y4, by omega, by omega, y7⟩
  · have g6 := Option.some.inj hq
    subst g6
    omega
def g_283v_11_4 : vG := ([(10, [15, 9], [], 1), (31, [14], [], 0), (22, [14, 11, 13], [1], 0), (90, [14], [], 0), (91, [14], [], 5), (22, [13, 12, 9], [1], 0), (90, [13], [], 0), (91, [13], [], 1007), (20, [12, 4], [1], 83), (0, [12], [], 344), (20, [11, 4], [1], 24), (0, [11], [], 298), (42, [9, 10], [], 0), (20, [10, 4], [1], 82), (90, [10], [], 0), (91, [10], [], 40), (5000, [0, 1, 2, 3, 4, 5, 6, 7, 8, 9], [0, 1], 11), (0, [0], [], 285), (90, [1], [], 0), (91, [1], [], 19), (90, [2], [], 0), (91, [2], [], 7), (90, [3], [], 0), (91, [3], [], 5), (0, [4], [], 285), (90, [5], [], 0), (91, [5], [], 19), (90, [6], [], 0), (91, [6], [], 7), (90, [7], [], 0), (91, [7], [], 5), (90, [8], [], 0), (91, [8], [], 2147483647), (90, [9], [], 0), (91, [9], [], 40)], (4000, [4, 5, 6, 7, 8, 15], [1], 11))
theorem c_283v_11_4 {q0 : Nat} : vOkm T0 (eP e_283v L_283v A_283v mu_283v (some q0)) 4 g_283v_11_4 := vOk_inI fun ρ η f0 f1 f2 f3 f4 f5 f6 f7 f8 f9 f10 f11 f12 f13 f14 f15 f16 f17 f18 f19 f20 f21 f22 f23 f24 f25 f26 f27 f28 f29 f30 f31 f32 f33 f34 => q_283v_6 (q0 := q0) (n0 := ρ 9) (n1 := ρ 8) (n2 := ρ 7) (n3 := ρ 6) (n4 := ρ 5) (n5 := ρ 4) (n6 := ρ 3) (n7 := ρ 2) (n8 := ρ 1) (n9 := ρ 0) (n10 := ρ 10) (n11 := ρ 11) (n12 := ρ 12) (n13 := ρ 13) (n14 := ρ 14) (n15 := ρ 15) (H0 := η 0) (H1 := η 1) f34 f33 f32 f31 f30 f29 f28 f27 f26 f25 f24 f23 f22 f21 f20 f19 f18 f17 f16 f15 f14 f13 f12 f11 f10 f9 f8 f7 f6 f5 f4 f3 f2 f1 f0
theorem q_283v_7 {q0 : Nat} {n0 n1 n2 n3 n4 n5 n6 n7 n8 n9 n10 n11 n12 n13 n14 n15 : Int} {H0 H1 : gH} (f0 : n0 ≤ 40) (f1 : 0 ≤ n0) (f2 : n1 ≤ 2147483647) (f3 : 0 ≤ n1) (f4 : n2 ≤ 5) (f5 : 0 ≤ n2) (f6 : n3 ≤ 7) (f7 : 0 ≤ n3) (f8 : n4 ≤ 19) (f9 : 0 ≤ n4) (f10 : n5 = 285) (f11 : n6 ≤ 5) (f12 : 0 ≤ n6) (f13 : n7 ≤ 7) (f14 : 0 ≤ n7) (f15 : n8 ≤ 19) (f16 : 0 ≤ n8) (f17 : n9 = 285) (f18 : (hLe T0 H0 H1 ∧ hFr s_283v.2.2.2.2 H0 H1 ∧ hWt T0 H1) ∧ (Ab_283v_11 n9 n8 n7 n6 n5 n4 n3 n2 n1 n0 H0 H1 ∧ preb_283v n9 n8 n7 n6 H0) ∧ some q0 = some (mub_283v_11 n9 n8 n7 n6 n5 n4 n3 n2 n1 n0 H0 H1)) (f19 : n10 ≤ 40) (f20 : 0 ≤ n10) (f21 : n10 = hV H1 (n5).toNat 82) (f22 : n0 < n10) (f23 : n11 = 298) (f24 : n11 = hV H1 (n5).toNat 24) (f25 : n12 = 344) (f26 : n12 = hV H1 (n5).toNat 83) (f27 : n13 ≤ 1007) (f28 : 0 ≤ n13) (f29 : n13 = hV H1 (n12).toNat (n0).toNat) (f30 : n14 ≤ 5) (f31 : 0 ≤ n14) (f32 : n14 = hV H1 (n11).toNat (n13).toNat) (f33 : n14 = 0) (f34 : n15 = 344) (f35 : n15 = hV H1 (n5).toNat 83) : 0 ≤ n0 ∧ n0 < 40 := by
  have g4 := f18.2.1.1
  unfold Ab_283v_11 at g4
  have g3 := f18.2.1.2
  unfold preb_283v at g3
  have e0 : n10 = hV H1 285 82 := (by rw [f10] at f21; exact f21 : n10 = hV H1 285 82)
  have e1 : n13 = hV H1 344 (n0).toNat := (by rw [f25] at f29; exact f29 : n13 = hV H1 344 (n0).toNat)
  have e2 : hV H1 298 = hV H0 298 := fRow f18.1.2.1 298 kR_283v_298
  have e3 : n14 = hV H0 298 (n13).toNat := (by rw [f23] at f32; exact f32 : n14 = hV H1 298 (n13).toNat).trans ((congrFun e2 _))
  have e5 : hV H1 285 18 = hV H0 285 18 := (f18.1.2.1.1 285 18 kF_283v_285_18)
  have e7 : hV H1 285 64 = hV H0 285 64 := (f18.1.2.1.1 285 64 kF_283v_285_64)
  have e8 : hV H1 300 = hV H0 300 := fRow f18.1.2.1 300 kR_283v_300
  have e9 : hV H1 301 = hV H0 301 := fRow f18.1.2.1 301 kR_283v_301
  have e10 : hV H1 302 = hV H0 302 := fRow f18.1.2.1 302 kR_283v_302
  have e11 : hV H1 303 = hV H0 303 := fRow f18.1.2.1 303 kR_283v_303
  have e12 : hV H1 305 = hV H0 305 := fRow f18.1.2.1 305 kR_283v_305
  have e13 : hV H1 328 = hV H0 328 := fRow f18.1.2.1 328 kR_283v_328
  have e14 : hV H1 330 = hV H0 330 := fRow f18.1.2.1 330 kR_283v_330
  have e15 : hV H1 331 = hV H0 331 := fRow f18.1.2.1 331 kR_283v_331
  have e16 : hV H1 332 = hV H0 332 := fRow f18.1.2.1 332 kR_283v_332
  have e17 : hV H1 341 = hV H0 341 := fRow f18.1.2.1 341 kR_283v_341
  have e18 : (0 : Int) ≤ hV H0 285 18 ∧ hV H0 285 18 ≤ 8 := bTo e5 (f18.1.2.2 285 18 _ _ kW_285_18)
  have e19 : (0 : Int) ≤ hV H0 285 64 ∧ hV H0 285 64 ≤ 20 := bTo e7 (f18.1.2.2 285 64 _ _ kW_285_64)
  have e20 : (0 : Int) ≤ hV H1 285 65 ∧ hV H1 285 65 ≤ 2147483647 := f18.1.2.2 285 65 _ _ kW_285_65
  have e21 : (0 : Int) ≤ hV H1 285 82 ∧ hV H1 285 82 ≤ 40 := f18.1.2.2 285 82 _ _ kW_285_82
  try simp only [SO, SS, XQ]
  have k0 := g4.1
  have k1 := g4.2.1
  have k2 := g4.2.2.1
  have y0 := g4.2.2.2.1
  have y1 := g4.2.2.2.2.1
  have y2 := g4.2.2.2.2.2.1
  have y3 := g4.2.2.2.2.2.2.1
  have y4 := g4.2.2.2.2.2.2.2.1
  have y5 := g4.2.2.2.2.2.2.2.2.1
  have y6 := g4.2.2.2.2.2.2.2.2.2.1
  have y7 := g4.2.2.2.2.2.2.2.2.2.2
  have p0 := g3.1
  have p1 := g3.2.1
  have p2 := g3.2.2.1
  have p3 := g3.2.2.2.1
  have p4 := g3.2.2.2.2.1
  have p5 := g3.2.2.2.2.2.1
  have p6 := g3.2.2.2.2.2.2
  try simp only [XQ] at y0
  try simp only [SO] at y1
  try simp only [SS] at y2
  try simp only [SO] at p4
  try simp only [SS] at p5
  try simp only [e2, e8, e9, e10, e11, e12] at y0
  try simp only [e5, e7, e13, e14, e15, e16] at y1
  try simp only [e17] at y2
  clear g3
  clear g4
  clear f21 f24 f26 f29 f32 f35 e2 e5 e7 e8 e9 e10 e11 e12 e13 e14 e15 e16 e17
  clear f18
  subst e0
  subst e1
  subst e3
  try have xg := XQp_g y0 (s := (n0).toNat) (by omega) (by omega)
  try have sg := SS_gen y2 (hV H0 300 (hV H1 344 (n0).toNat).toNat) (by omega) (by omega)
  try subst k2
  try subst k1
  try subst k0
  omega
def g_283v_11_5 : vG := ([(20, [17, 4], [1], 83), (0, [17], [], 344), (30, [14], [], 0), (22, [14, 11, 13], [1], 0), (90, [14], [], 0), (91, [14], [], 5), (22, [13, 12, 9], [1], 0), (90, [13], [], 0), (91, [13], [], 1007), (20, [12, 4], [1], 83), (0, [12], [], 344), (20, [11, 4], [1], 24), (0, [11], [], 298), (42, [9, 10], [], 0), (20, [10, 4], [1], 82), (90, [10], [], 0), (91, [10], [], 40), (5000, [0, 1, 2, 3, 4, 5, 6, 7, 8, 9], [0, 1], 11), (0, [0], [], 285), (90, [1], [], 0), (91, [1], [], 19), (90, [2], [], 0), (91, [2], [], 7), (90, [3], [], 0), (91, [3], [], 5), (0, [4], [], 285), (90, [5], [], 0), (91, [5], [], 19), (90, [6], [], 0), (91, [6], [], 7), (90, [7], [], 0), (91, [7], [], 5), (90, [8], [], 0), (91, [8], [], 2147483647), (90, [9], [], 0), (91, [9], [], 40)], (70, [9], [], 40))
theorem c_283v_11_5 {q0 : Nat} : vOkm T0 (eP e_283v L_283v A_283v mu_283v (some q0)) 4 g_283v_11_5 := vOk_inI fun ρ η f0 f1 f2 f3 f4 f5 f6 f7 f8 f9 f10 f11 f12 f13 f14 f15 f16 f17 f18 f19 f20 f21 f22 f23 f24 f25 f26 f27 f28 f29 f30 f31 f32 f33 f34 f35 => q_283v_7 (q0 := q0) (n0 := ρ 9) (n1 := ρ 8) (n2 := ρ 7) (n3 := ρ 6) (n4 := ρ 5) (n5 := ρ 4) (n6 := ρ 3) (n7 := ρ 2) (n8 := ρ 1) (n9 := ρ 0) (n10 := ρ 10) (n11 := ρ 11) (n12 := ρ 12) (n13 := ρ 13) (n14 := ρ 14) (n15 := ρ 17) (H0 := η 0) (H1 := η 1) f35 f34 f33 f32 f31 f30 f29 f28 f27 f26 f25 f24 f23 f22 f21 f20 f19 f18 f17 f16 f15 f14 f13 f12 f11 f10 f9 f8 f7 f6 f5 f4 f3 f2 f1 f0
theorem q_283v_8 {q0 : Nat} {n0 n1 n2 n3 n4 n5 n6 n7 n8 n9 n10 n11 n12 n13 n14 n15 n16 n17 n18 : Int} {H0 H1 : gH} (f0 : n0 ≤ 40) (f1 : 0 ≤ n0) (f2 : n1 ≤ 2147483647) (f3 : 0 ≤ n1) (f4 : n2 ≤ 5) (f5 : 0 ≤ n2) (f6 : n3 ≤ 7) (f7 : 0 ≤ n3) (f8 : n4 ≤ 19) (f9 : 0 ≤ n4) (f10 : n5 = 285) (f11 : n6 ≤ 5) (f12 : 0 ≤ n6) (f13 : n7 ≤ 7) (f14 : 0 ≤ n7) (f15 : n8 ≤ 19) (f16 : 0 ≤ n8) (f17 : n9 = 285) (f18 : (hLe T0 H0 H1 ∧ hFr s_283v.2.2.2.2 H0 H1 ∧ hWt T0 H1) ∧ (Ab_283v_11 n9 n8 n7 n6 n5 n4 n3 n2 n1 n0 H0 H1 ∧ preb_283v n9 n8 n7 n6 H0) ∧ some q0 = some (mub_283v_11 n9 n8 n7 n6 n5 n4 n3 n2 n1 n0 H0 H1)) (f19 : n10 ≤ 40) (f20 : 0 ≤ n10) (f21 : n10 = hV H1 (n5).toNat 82) (f22 : n0 < n10) (f23 : n11 = 298) (f24 : n11 = hV H1 (n5).toNat 24) (f25 : n12 = 344) (f26 : n12 = hV H1 (n5).toNat 83) (f27 : n13 ≤ 1007) (f28 : 0 ≤ n13) (f29 : n13 = hV H1 (n12).toNat (n0).toNat) (f30 : n14 ≤ 5) (f31 : 0 ≤ n14) (f32 : n14 = hV H1 (n11).toNat (n13).toNat) (f33 : n14 = 0) (f34 : n15 = 300) (f35 : n15 = hV H1 (n5).toNat 26) (f36 : n16 = 344) (f37 : n16 = hV H1 (n5).toNat 83) (f38 : n17 ≤ 1007) (f39 : 0 ≤ n17) (f40 : n17 = hV H1 (n16).toNat (n0).toNat) (f41 : n18 ≤ 9999) (f42 : (-1) ≤ n18) (f43 : n18 = hV H1 (n15).toNat (n17).toNat) : 0 ≤ n18 ∧ n18 < 20 := by
  have g4 := f18.2.1.1
  unfold Ab_283v_11 at g4
  have g3 := f18.2.1.2
  unfold preb_283v at g3
  have e0 : n10 = hV H1 285 82 := (by rw [f10] at f21; exact f21 : n10 = hV H1 285 82)
  have e1 : n13 = hV H1 344 (n0).toNat := (by rw [f25] at f29; exact f29 : n13 = hV H1 344 (n0).toNat)
  have e2 : hV H1 298 = hV H0 298 := fRow f18.1.2.1 298 kR_283v_298
  have e3 : n14 = hV H0 298 (n13).toNat := (by rw [f23] at f32; exact f32 : n14 = hV H1 298 (n13).toNat).trans ((congrFun e2 _))
  have e4 : n17 = hV H1 344 (n0).toNat := (by rw [f36] at f40; exact f40 : n17 = hV H1 344 (n0).toNat)
  have e5 : hV H1 300 = hV H0 300 := fRow f18.1.2.1 300 kR_283v_300
  have e6 : n18 = hV H0 300 (n17).toNat := (by rw [f34] at f43; exact f43 : n18 = hV H1 300 (n17).toNat).trans ((congrFun e5 _))
  have e8 : hV H1 285 18 = hV H0 285 18 := (f18.1.2.1.1 285 18 kF_283v_285_18)
  have e10 : hV H1 285 64 = hV H0 285 64 := (f18.1.2.1.1 285 64 kF_283v_285_64)
  have e11 : hV H1 301 = hV H0 301 := fRow f18.1.2.1 301 kR_283v_301
  have e12 : hV H1 302 = hV H0 302 := fRow f18.1.2.1 302 kR_283v_302
  have e13 : hV H1 303 = hV H0 303 := fRow f18.1.2.1 303 kR_283v_303
  have e14 : hV H1 305 = hV H0 305 := fRow f18.1.2.1 305 kR_283v_305
  have e15 : hV H1 328 = hV H0 328 := fRow f18.1.2.1 328 kR_283v_328
  have e16 : hV H1 330 = hV H0 330 := fRow f18.1.2.1 330 kR_283v_330
  have e17 : hV H1 331 = hV H0 331 := fRow f18.1.2.1 331 kR_283v_331
  have e18 : hV H1 332 = hV H0 332 := fRow f18.1.2.1 332 kR_283v_332
  have e19 : hV H1 341 = hV H0 341 := fRow f18.1.2.1 341 kR_283v_341
  have e20 : (0 : Int) ≤ hV H0 285 18 ∧ hV H0 285 18 ≤ 8 := bTo e8 (f18.1.2.2 285 18 _ _ kW_285_18)
  have e21 : (0 : Int) ≤ hV H0 285 64 ∧ hV H0 285 64 ≤ 20 := bTo e10 (f18.1.2.2 285 64 _ _ kW_285_64)
  have e22 : (0 : Int) ≤ hV H1 285 65 ∧ hV H1 285 65 ≤ 2147483647 := f18.1.2.2 285 65 _ _ kW_285_65
  have e23 : (0 : Int) ≤ hV H1 285 82 ∧ hV H1 285 82 ≤ 40 := f18.1.2.2 285 82 _ _ kW_285_82
  try simp only [SO, SS, XQ]
  have k0 := g4.1
  have k1 := g4.2.1
  have k2 := g4.2.2.1
  have y0 := g4.2.2.2.1
  have y1 := g4.2.2.2.2.1
  have y2 := g4.2.2.2.2.2.1
  have y3 := g4.2.2.2.2.2.2.1
  have y4 := g4.2.2.2.2.2.2.2.1
  have y5 := g4.2.2.2.2.2.2.2.2.1
  have y6 := g4.2.2.2.2.2.2.2.2.2.1
  have y7 := g4.2.2.2.2.2.2.2.2.2.2
  have p0 := g3.1
  have p1 := g3.2.1
  have p2 := g3.2.2.1
  have p3 := g3.2.2.2.1
  have p4 := g3.2.2.2.2.1
  have p5 := g3.2.2.2.2.2.1
  have p6 := g3.2.2.2.2.2.2
  try simp only [XQ] at y0
  try simp only [SO] at y1
  try simp only [SS] at y2
  try simp only [SO] at p4
  try simp only [SS] at p5
  try simp only [e2, e5, e11, e12, e13, e14] at y0
  try simp only [e8, e10, e15, e16, e17, e18] at y1
  try simp only [e19] at y2
  clear g3
  clear g4
  clear f21 f24 f26 f29 f32 f35 f37 f40 f43 e2 e5 e8 e10 e11 e12 e13 e14 e15 e16 e17 e18 e19
  clear f18
  subst e0
  subst e1
  subst e3
  subst e4
  subst e6
  try have xg := XQp_g y0 (s := (n0).toNat) (by omega) (by omega)
  try have sg := SS_gen y2 (hV H0 300 (hV H1 344 (n0).toNat).toNat) (by omega) (by omega)
  try subst k2
  try subst k1
  try subst k0
  omega
def g_283v_11_6 : vG := ([(22, [19, 16, 18], [1], 0), (90, [19], [], -1), (91, [19], [], 9999), (22, [18, 17, 9], [1], 0), (90, [18], [], 0), (91, [18], [], 1007), (20, [17, 4], [1], 83), (0, [17], [], 344), (20, [16, 4], [1], 26), (0, [16], [], 300), (30, [14], [], 0), (22, [14, 11, 13], [1], 0), (90, [14], [], 0), (91, [14], [], 5), (22, [13, 12, 9], [1], 0), (90, [13], [], 0), (91, [13], [], 1007), (20, [12, 4], [1], 83), (0, [12], [], 344), (20, [11, 4], [1], 24), (0, [11], [], 298), (42, [9, 10], [], 0), (20, [10, 4], [1], 82), (90, [10], [], 0), (91, [10], [], 40), (5000, [0, 1, 2, 3, 4, 5, 6, 7, 8, 9], [0, 1], 11), (0, [0], [], 285), (90, [1], [], 0), (91, [1], [], 19), (90, [2], [], 0), (91, [2], [], 7), (90, [3], [], 0), (91, [3], [], 5), (0, [4], [], 285), (90, [5], [], 0), (91, [5], [], 19), (90, [6], [], 0), (91, [6], [], 7), (90, [7], [], 0), (91, [7], [], 5), (90, [8], [], 0), (91, [8], [], 2147483647), (90, [9], [], 0), (91, [9], [], 40)], (70, [19], [], 20))
theorem c_283v_11_6 {q0 : Nat} : vOkm T0 (eP e_283v L_283v A_283v mu_283v (some q0)) 4 g_283v_11_6 := vOk_inI fun ρ η f0 f1 f2 f3 f4 f5 f6 f7 f8 f9 f10 f11 f12 f13 f14 f15 f16 f17 f18 f19 f20 f21 f22 f23 f24 f25 f26 f27 f28 f29 f30 f31 f32 f33 f34 f35 f36 f37 f38 f39 f40 f41 f42 f43 => q_283v_8 (q0 := q0) (n0 := ρ 9) (n1 := ρ 8) (n2 := ρ 7) (n3 := ρ 6) (n4 := ρ 5) (n5 := ρ 4) (n6 := ρ 3) (n7 := ρ 2) (n8 := ρ 1) (n9 := ρ 0) (n10 := ρ 10) (n11 := ρ 11) (n12 := ρ 12) (n13 := ρ 13) (n14 := ρ 14) (n15 := ρ 16) (n16 := ρ 17) (n17 := ρ 18) (n18 := ρ 19) (H0 := η 0) (H1 := η 1) f43 f42 f41 f40 f39 f38 f37 f36 f35 f34 f33 f32 f31 f30 f29 f28 f27 f26 f25 f24 f23 f22 f21 f20 f19 f18 f17 f16 f15 f14 f13 f12 f11 f10 f9 f8 f7 f6 f5 f4 f3 f2 f1 f0
theorem q_283v_9 {q0 : Nat} {n0 n1 n2 n3 n4 n5 n6 n7 n8 n9 n10 n11 n12 n13 n14 n15 n16 n17 n18 n19 n20 n21 : Int} {H0 H1 : gH} (f0 : n0 ≤ 40) (f1 : 0 ≤ n0) (f2 : n1 ≤ 2147483647) (f3 : 0 ≤ n1) (f4 : n2 ≤ 5) (f5 : 0 ≤ n2) (f6 : n3 ≤ 7) (f7 : 0 ≤ n3) (f8 : n4 ≤ 19) (f9 : 0 ≤ n4) (f10 : n5 = 285) (f11 : n6 ≤ 5) (f12 : 0 ≤ n6) (f13 : n7 ≤ 7) (f14 : 0 ≤ n7) (f15 : n8 ≤ 19) (f16 : 0 ≤ n8) (f17 : n9 = 285) (f18 : (hLe T0 H0 H1 ∧ hFr s_283v.2.2.2.2 H0 H1 ∧ hWt T0 H1) ∧ (Ab_283v_11 n9 n8 n7 n6 n5 n4 n3 n2 n1 n0 H0 H1 ∧ preb_283v n9 n8 n7 n6 H0) ∧ some q0 = some (mub_283v_11 n9 n8 n7 n6 n5 n4 n3 n2 n1 n0 H0 H1)) (f19 : n10 ≤ 40) (f20 : 0 ≤ n10) (f21 : n10 = hV H1 (n5).toNat 82) (f22 : n0 < n10) (f23 : n11 = 298) (f24 : n11 = hV H1 (n5).toNat 24) (f25 : n12 = 344) (f26 : n12 = hV H1 (n5).toNat 83) (f27 : n13 ≤ 1007) (f28 : 0 ≤ n13) (f29 : n13 = hV H1 (n12).toNat (n0).toNat) (f30 : n14 ≤ 5) (f31 : 0 ≤ n14) (f32 : n14 = hV H1 (n11).toNat (n13).toNat) (f33 : n14 = 0) (f34 : n15 = 334) (f35 : n15 = hV H1 (n5).toNat 72) (f36 : n16 = 300) (f37 : n16 = hV H1 (n5).toNat 26) (f38 : n17 = 344) (f39 : n17 = hV H1 (n5).toNat 83) (f40 : n18 ≤ 1007) (f41 : 0 ≤ n18) (f42 : n18 = hV H1 (n17).toNat (n0).toNat) (f43 : n19 ≤ 9999) (f44 : (-1) ≤ n19) (f45 : n19 = hV H1 (n16).toNat (n18).toNat) (f46 : n20 ≤ 2147483647) (f47 : 0 ≤ n20) (f48 : n20 = hV H1 (n15).toNat (n19).toNat) (f49 : n20 ≤ n1) (f50 : n21 = w32 (n0 + 1)) : 0 ≤ n21 := by
  have g4 := f18.2.1.1
  unfold Ab_283v_11 at g4
  have g3 := f18.2.1.2
  unfold preb_283v at g3
  have e0 : n10 = hV H1 285 82 := (by rw [f10] at f21; exact f21 : n10 = hV H1 285 82)
  have e1 : n13 = hV H1 344 (n0).toNat := (by rw [f25] at f29; exact f29 : n13 = hV H1 344 (n0).toNat)
  have e2 : hV H1 298 = hV H0 298 := fRow f18.1.2.1 298 kR_283v_298
  have e3 : n14 = hV H0 298 (n13).toNat := (by rw [f23] at f32; exact f32 : n14 = hV H1 298 (n13).toNat).trans ((congrFun e2 _))
  have e4 : n18 = hV H1 344 (n0).toNat := (by rw [f38] at f42; exact f42 : n18 = hV H1 344 (n0).toNat)
  have e5 : hV H1 300 = hV H0 300 := fRow f18.1.2.1 300 kR_283v_300
  have e6 : n19 = hV H0 300 (n18).toNat := (by rw [f36] at f45; exact f45 : n19 = hV H1 300 (n18).toNat).trans ((congrFun e5 _))
  have e7 : n20 = hV H1 334 (n19).toNat := (by rw [f34] at f48; exact f48 : n20 = hV H1 334 (n19).toNat)
  have e9 : hV H1 285 18 = hV H0 285 18 := (f18.1.2.1.1 285 18 kF_283v_285_18)
  have e11 : hV H1 285 64 = hV H0 285 64 := (f18.1.2.1.1 285 64 kF_283v_285_64)
  have e12 : hV H1 301 = hV H0 301 := fRow f18.1.2.1 301 kR_283v_301
  have e13 : hV H1 302 = hV H0 302 := fRow f18.1.2.1 302 kR_283v_302
  have e14 : hV H1 303 = hV H0 303 := fRow f18.1.2.1 303 kR_283v_303
  have e15 : hV H1 305 = hV H0 305 := fRow f18.1.2.1 305 kR_283v_305
  have e16 : hV H1 328 = hV H0 328 := fRow f18.1.2.1 328 kR_283v_328
  have e17 : hV H1 330 = hV H0 330 := fRow f18.1.2.1 330 kR_283v_330
  have e18 : hV H1 331 = hV H0 331 := fRow f18.1.2.1 331 kR_283v_331
  have e19 : hV H1 332 = hV H0 332 := fRow f18.1.2.1 332 kR_283v_332
  have e20 : hV H1 341 = hV H0 341 := fRow f18.1.2.1 341 kR_283v_341
  have e21 : (0 : Int) ≤ hV H0 285 18 ∧ hV H0 285 18 ≤ 8 := bTo e9 (f18.1.2.2 285 18 _ _ kW_285_18)
  have e22 : (0 : Int) ≤ hV H0 285 64 ∧ hV H0 285 64 ≤ 20 := bTo e11 (f18.1.2.2 285 64 _ _ kW_285_64)
  have e23 : (0 : Int) ≤ hV H1 285 65 ∧ hV H1 285 65 ≤ 2147483647 := f18.1.2.2 285 65 _ _ kW_285_65
  have e24 : (0 : Int) ≤ hV H1 285 82 ∧ hV H1 285 82 ≤ 40 := f18.1.2.2 285 82 _ _ kW_285_82
  try simp only [SO, SS, XQ]
  have k0 := g4.1
  have k1 := g4.2.1
  have k2 := g4.2.2.1
  have y0 := g4.2.2.2.1
  have y1 := g4.2.2.2.2.1
  have y2 := g4.2.2.2.2.2.1
  have y3 := g4.2.2.2.2.2.2.1
  have y4 := g4.2.2.2.2.2.2.2.1
  have y5 := g4.2.2.2.2.2.2.2.2.1
  have y6 := g4.2.2.2.2.2.2.2.2.2.1
  have y7 := g4.2.2.2.2.2.2.2.2.2.2
  have p0 := g3.1
  have p1 := g3.2.1
  have p2 := g3.2.2.1
  have p3 := g3.2.2.2.1
  have p4 := g3.2.2.2.2.1
  have p5 := g3.2.2.2.2.2.1
  have p6 := g3.2.2.2.2.2.2
  try simp only [XQ] at y0
  try simp only [SO] at y1
  try simp only [SS] at y2
  try simp only [SO] at p4
  try simp only [SS] at p5
  try simp only [e2, e5, e12, e13, e14, e15] at y0
  try simp only [e9, e11, e16, e17, e18, e19] at y1
  try simp only [e20] at y2
  clear g3
  clear g4
  clear f21 f24 f26 f29 f32 f35 f37 f39 f42 f45 f48 e2 e5 e9 e11 e12 e13 e14 e15 e16 e17 e18 e19 e20
  clear f18
  subst e0
  subst e1
  subst e3
  subst e4
  subst e6
  subst e7
  try have xg := XQp_g y0 (s := (n0).toNat) (by omega) (by omega)
  try have sg := SS_gen y2 (hV H0 300 (hV H1 344 (n0).toNat).toNat) (by omega) (by omega)
  first
  | (have ix0 : n21 = n0 + 1 := Eq.trans f50 (w32_iv (Iad (Iat f1 f0) (IC 1)) (by decide)); subst ix0; clear f50)
  | (have ix0 : n21 = n0 + 1 := Eq.trans f50 (w32_id (by omega) (by omega)); subst ix0; clear f50)
  | (unfold w32 at f50; have ix0 : n21 = n0 + 1 := (by omega); subst ix0)
  | skip
  try unfold w32 at f50
  try subst k2
  try subst k1
  try subst k0
  omega
def g_283v_11_7 : vG := ([(10, [21, 9], [], 1), (45, [20, 8], [], 0), (22, [20, 15, 19], [1], 0), (90, [20], [], 0), (91, [20], [], 2147483647), (22, [19, 16, 18], [1], 0), (90, [19], [], -1), (91, [19], [], 9999), (22, [18, 17, 9], [1], 0), (90, [18], [], 0), (91, [18], [], 1007), (20, [17, 4], [1], 83), (0, [17], [], 344), (20, [16, 4], [1], 26), (0, [16], [], 300), (20, [15, 4], [1], 72), (0, [15], [], 334), (30, [14], [], 0), (22, [14, 11, 13], [1], 0), (90, [14], [], 0), (91, [14], [], 5), (22, [13, 12, 9], [1], 0), (90, [13], [], 0), (91, [13], [], 1007), (20, [12, 4], [1], 83), (0, [12], [], 344), (20, [11, 4], [1], 24), (0, [11], [], 298), (42, [9, 10], [], 0), (20, [10, 4], [1], 82), (90, [10], [], 0), (91, [10], [], 40), (5000, [0, 1, 2, 3, 4, 5, 6, 7, 8, 9], [0, 1], 11), (0, [0], [], 285), (90, [1], [], 0), (91, [1], [], 19), (90, [2], [], 0), (91, [2], [], 7), (90, [3], [], 0), (91, [3], [], 5), (0, [4], [], 285), (90, [5], [], 0), (91, [5], [], 19), (90, [6], [], 0), (91, [6], [], 7), (90, [7], [], 0), (91, [7], [], 5), (90, [8], [], 0), (91, [8], [], 2147483647), (90, [9], [], 0), (91, [9], [], 40)], (90, [21], [], 0))
theorem c_283v_11_7 {q0 : Nat} : vOkm T0 (eP e_283v L_283v A_283v mu_283v (some q0)) 4 g_283v_11_7 := vOk_inI fun ρ η f0 f1 f2 f3 f4 f5 f6 f7 f8 f9 f10 f11 f12 f13 f14 f15 f16 f17 f18 f19 f20 f21 f22 f23 f24 f25 f26 f27 f28 f29 f30 f31 f32 f33 f34 f35 f36 f37 f38 f39 f40 f41 f42 f43 f44 f45 f46 f47 f48 f49 f50 => q_283v_9 (q0 := q0) (n0 := ρ 9) (n1 := ρ 8) (n2 := ρ 7) (n3 := ρ 6) (n4 := ρ 5) (n5 := ρ 4) (n6 := ρ 3) (n7 := ρ 2) (n8 := ρ 1) (n9 := ρ 0) (n10 := ρ 10) (n11 := ρ 11) (n12 := ρ 12) (n13 := ρ 13) (n14 := ρ 14) (n15 := ρ 15) (n16 := ρ 16) (n17 := ρ 17) (n18 := ρ 18) (n19 := ρ 19) (n20 := ρ 20) (n21 := ρ 21) (H0 := η 0) (H1 := η 1) f50 f49 f48 f47 f46 f45 f44 f43 f42 f41 f40 f39 f38 f37 f36 f35 f34 f33 f32 f31 f30 f29 f28 f27 f26 f25 f24 f23 f22 f21 f20 f19 f18 f17 f16 f15 f14 f13 f12 f11 f10 f9 f8 f7 f6 f5 f4 f3 f2 f1 f0
theorem q_283v_10 {q0 : Nat} {n0 n1 n2 n3 n4 n5 n6 n7 n8 n9 n10 n11 n12 n13 n14 n15 n16 n17 n18 n19 n20 n21 : Int} {H0 H1 : gH} (f0 : n0 ≤ 40) (f1 : 0 ≤ n0) (f2 : n1 ≤ 2147483647) (f3 : 0 ≤ n1) (f4 : n2 ≤ 5) (f5 : 0 ≤ n2) (f6 : n3 ≤ 7) (f7 : 0 ≤ n3) (f8 : n4 ≤ 19) (f9 : 0 ≤ n4) (f10 : n5 = 285) (f11 : n6 ≤ 5) (f12 : 0 ≤ n6) (f13 : n7 ≤ 7) (f14 : 0 ≤ n7) (f15 : n8 ≤ 19) (f16 : 0 ≤ n8) (f17 : n9 = 285) (f18 : (hLe T0 H0 H1 ∧ hFr s_283v.2.2.2.2 H0 H1 ∧ hWt T0 H1) ∧ (Ab_283v_11 n9 n8 n7 n6 n5 n4 n3 n2 n1 n0 H0 H1 ∧ preb_283v n9 n8 n7 n6 H0) ∧ some q0 = some (mub_283v_11 n9 n8 n7 n6 n5 n4 n3 n2 n1 n0 H0 H1)) (f19 : n10 ≤ 40) (f20 : 0 ≤ n10) (f21 : n10 = hV H1 (n5).toNat 82) (f22 : n0 < n10) (f23 : n11 = 298) (f24 : n11 = hV H1 (n5).toNat 24) (f25 : n12 = 344) (f26 : n12 = hV H1 (n5).toNat 83) (f27 : n13 ≤ 1007) (f28 : 0 ≤ n13) (f29 : n13 = hV H1 (n12).toNat (n0).toNat) (f30 : n14 ≤ 5) (f31 : 0 ≤ n14) (f32 : n14 = hV H1 (n11).toNat (n13).toNat) (f33 : n14 = 0) (f34 : n15 = 334) (f35 : n15 = hV H1 (n5).toNat 72) (f36 : n16 = 300) (f37 : n16 = hV H1 (n5).toNat 26) (f38 : n17 = 344) (f39 : n17 = hV H1 (n5).toNat 83) (f40 : n18 ≤ 1007) (f41 : 0 ≤ n18) (f42 : n18 = hV H1 (n17).toNat (n0).toNat) (f43 : n19 ≤ 9999) (f44 : (-1) ≤ n19) (f45 : n19 = hV H1 (n16).toNat (n18).toNat) (f46 : n20 ≤ 2147483647) (f47 : 0 ≤ n20) (f48 : n20 = hV H1 (n15).toNat (n19).toNat) (f49 : n20 ≤ n1) (f50 : n21 = w32 (n0 + 1)) : n21 ≤ 40 := by
  have g4 := f18.2.1.1
  unfold Ab_283v_11 at g4
  have g3 := f18.2.1.2
  unfold preb_283v at g3
  have e0 : n10 = hV H1 285 82 := (by rw [f10] at f21; exact f21 : n10 = hV H1 285 82)
  have e1 : n13 = hV H1 344 (n0).toNat := (by rw [f25] at f29; exact f29 : n13 = hV H1 344 (n0).toNat)
  have e2 : hV H1 298 = hV H0 298 := fRow f18.1.2.1 298 kR_283v_298
  have e3 : n14 = hV H0 298 (n13).toNat := (by rw [f23] at f32; exact f32 : n14 = hV H1 298 (n13).toNat).trans ((congrFun e2 _))
  have e4 : n18 = hV H1 344 (n0).toNat := (by rw [f38] at f42; exact f42 : n18 = hV H1 344 (n0).toNat)
  have e5 : hV H1 300 = hV H0 300 := fRow f18.1.2.1 300 kR_283v_300
  have e6 : n19 = hV H0 300 (n18).toNat := (by rw [f36] at f45; exact f45 : n19 = hV H1 300 (n18).toNat).trans ((congrFun e5 _))
  have e7 : n20 = hV H1 334 (n19).toNat := (by rw [f34] at f48; exact f48 : n20 = hV H1 334 (n19).toNat)
  have e9 : hV H1 285 18 = hV H0 285 18 := (f18.1.2.1.1 285 18 kF_283v_285_18)
  have e11 : hV H1 285 64 = hV H0 285 64 := (f18.1.2.1.1 285 64 kF_283v_285_64)
  have e12 : hV H1 301 = hV H0 301 := fRow f18.1.2.1 301 kR_283v_301
  have e13 : hV H1 302 = hV H0 302 := fRow f18.1.2.1 302 kR_283v_302
  have e14 : hV H1 303 = hV H0 303 := fRow f18.1.2.1 303 kR_283v_303
  have e15 : hV H1 305 = hV H0 305 := fRow f18.1.2.1 305 kR_283v_305
  have e16 : hV H1 328 = hV H0 328 := fRow f18.1.2.1 328 kR_283v_328
  have e17 : hV H1 330 = hV H0 330 := fRow f18.1.2.1 330 kR_283v_330
  have e18 : hV H1 331 = hV H0 331 := fRow f18.1.2.1 331 kR_283v_331
  have e19 : hV H1 332 = hV H0 332 := fRow f18.1.2.1 332 kR_283v_332
  have e20 : hV H1 341 = hV H0 341 := fRow f18.1.2.1 341 kR_283v_341
  have e21 : (0 : Int) ≤ hV H0 285 18 ∧ hV H0 285 18 ≤ 8 := bTo e9 (f18.1.2.2 285 18 _ _ kW_285_18)
  have e22 : (0 : Int) ≤ hV H0 285 64 ∧ hV H0 285 64 ≤ 20 := bTo e11 (f18.1.2.2 285 64 _ _ kW_285_64)
  have e23 : (0 : Int) ≤ hV H1 285 65 ∧ hV H1 285 65 ≤ 2147483647 := f18.1.2.2 285 65 _ _ kW_285_65
  have e24 : (0 : Int) ≤ hV H1 285 82 ∧ hV H1 285 82 ≤ 40 := f18.1.2.2 285 82 _ _ kW_285_82
  try simp only [SO, SS, XQ]
  have k0 := g4.1
  have k1 := g4.2.1
  have k2 := g4.2.2.1
  have y0 := g4.2.2.2.1
  have y1 := g4.2.2.2.2.1
  have y2 := g4.2.2.2.2.2.1
  have y3 := g4.2.2.2.2.2.2.1
  have y4 := g4.2.2.2.2.2.2.2.1
  have y5 := g4.2.2.2.2.2.2.2.2.1
  have y6 := g4.2.2.2.2.2.2.2.2.2.1
  have y7 := g4.2.2.2.2.2.2.2.2.2.2
  have p0 := g3.1
  have p1 := g3.2.1
  have p2 := g3.2.2.1
  have p3 := g3.2.2.2.1
  have p4 := g3.2.2.2.2.1
  have p5 := g3.2.2.2.2.2.1
  have p6 := g3.2.2.2.2.2.2
  try simp only [XQ] at y0
  try simp only [SO] at y1
  try simp only [SS] at y2
  try simp only [SO] at p4
  try simp only [SS] at p5
  try simp only [e2, e5, e12, e13, e14, e15] at y0
  try simp only [e9, e11, e16, e17, e18, e19] at y1
  try simp only [e20] at y2
  clear g3
  clear g4
  clear f21 f24 f26 f29 f32 f35 f37 f39 f42 f45 f48 e2 e5 e9 e11 e12 e13 e14 e15 e16 e17 e18 e19 e20
  clear f18
  subst e0
  subst e1
  subst e3
  subst e4
  subst e6
  subst e7
  try have xg := XQp_g y0 (s := (n0).toNat) (by omega) (by omega)
  try have sg := SS_gen y2 (hV H0 300 (hV H1 344 (n0).toNat).toNat) (by omega) (by omega)
  first
  | (have ix0 : n21 = n0 + 1 := Eq.trans f50 (w32_iv (Iad (Iat f1 f0) (IC 1)) (by decide)); subst ix0; clear f50)
  | (have ix0 : n21 = n0 + 1 := Eq.trans f50 (w32_id (by omega) (by omega)); subst ix0; clear f50)
  | (unfold w32 at f50; have ix0 : n21 = n0 + 1 := (by omega); subst ix0)
  | skip
  try unfold w32 at f50
  try subst k2
  try subst k1
  try subst k0
  omega
def g_283v_11_8 : vG := ([(10, [21, 9], [], 1), (45, [20, 8], [], 0), (22, [20, 15, 19], [1], 0), (90, [20], [], 0), (91, [20], [], 2147483647), (22, [19, 16, 18], [1], 0), (90, [19], [], -1), (91, [19], [], 9999), (22, [18, 17, 9], [1], 0), (90, [18], [], 0), (91, [18], [], 1007), (20, [17, 4], [1], 83), (0, [17], [], 344), (20, [16, 4], [1], 26), (0, [16], [], 300), (20, [15, 4], [1], 72), (0, [15], [], 334), (30, [14], [], 0), (22, [14, 11, 13], [1], 0), (90, [14], [], 0), (91, [14], [], 5), (22, [13, 12, 9], [1], 0), (90, [13], [], 0), (91, [13], [], 1007), (20, [12, 4], [1], 83), (0, [12], [], 344), (20, [11, 4], [1], 24), (0, [11], [], 298), (42, [9, 10], [], 0), (20, [10, 4], [1], 82), (90, [10], [], 0), (91, [10], [], 40), (5000, [0, 1, 2, 3, 4, 5, 6, 7, 8, 9], [0, 1], 11), (0, [0], [], 285), (90, [1], [], 0), (91, [1], [], 19), (90, [2], [], 0), (91, [2], [], 7), (90, [3], [], 0), (91, [3], [], 5), (0, [4], [], 285), (90, [5], [], 0), (91, [5], [], 19), (90, [6], [], 0), (91, [6], [], 7), (90, [7], [], 0), (91, [7], [], 5), (90, [8], [], 0), (91, [8], [], 2147483647), (90, [9], [], 0), (91, [9], [], 40)], (91, [21], [], 40))
theorem c_283v_11_8 {q0 : Nat} : vOkm T0 (eP e_283v L_283v A_283v mu_283v (some q0)) 4 g_283v_11_8 := vOk_inI fun ρ η f0 f1 f2 f3 f4 f5 f6 f7 f8 f9 f10 f11 f12 f13 f14 f15 f16 f17 f18 f19 f20 f21 f22 f23 f24 f25 f26 f27 f28 f29 f30 f31 f32 f33 f34 f35 f36 f37 f38 f39 f40 f41 f42 f43 f44 f45 f46 f47 f48 f49 f50 => q_283v_10 (q0 := q0) (n0 := ρ 9) (n1 := ρ 8) (n2 := ρ 7) (n3 := ρ 6) (n4 := ρ 5) (n5 := ρ 4) (n6 := ρ 3) (n7 := ρ 2) (n8 := ρ 1) (n9 := ρ 0) (n10 := ρ 10) (n11 := ρ 11) (n12 := ρ 12) (n13 := ρ 13) (n14 := ρ 14) (n15 := ρ 15) (n16 := ρ 16) (n17 := ρ 17) (n18 := ρ 18) (n19 := ρ 19) (n20 := ρ 20) (n21 := ρ 21) (H0 := η 0) (H1 := η 1) f50 f49 f48 f47 f46 f45 f44 f43 f42 f41 f40 f39 f38 f37 f36 f35 f34 f33 f32 f31 f30 f29 f28 f27 f26 f25 f24 f23 f22 f21 f20 f19 f18 f17 f16 f15 f14 f13 f12 f11 f10 f9 f8 f7 f6 f5 f4 f3 f2 f1 f0
theorem q_283v_11 {q0 : Nat} {n0 n1 n2 n3 n4 n5 n6 n7 n8 n9 n10 n11 n12 n13 n14 n15 n16 n17 n18 n19 n20 n21 : Int} {H0 H1 : gH} (f0 : n0 ≤ 40) (f1 : 0 ≤ n0) (f2 : n1 ≤ 2147483647) (f3 : 0 ≤ n1) (f4 : n2 ≤ 5) (f5 : 0 ≤ n2) (f6 : n3 ≤ 7) (f7 : 0 ≤ n3) (f8 : n4 ≤ 19) (f9 : 0 ≤ n4) (f10 : n5 = 285) (f11 : n6 ≤ 5) (f12 : 0 ≤ n6) (f13 : n7 ≤ 7) (f14 : 0 ≤ n7) (f15 : n8 ≤ 19) (f16 : 0 ≤ n8) (f17 : n9 = 285) (f18 : (hLe T0 H0 H1 ∧ hFr s_283v.2.2.2.2 H0 H1 ∧ hWt T0 H1) ∧ (Ab_283v_11 n9 n8 n7 n6 n5 n4 n3 n2 n1 n0 H0 H1 ∧ preb_283v n9 n8 n7 n6 H0) ∧ some q0 = some (mub_283v_11 n9 n8 n7 n6 n5 n4 n3 n2 n1 n0 H0 H1)) (f19 : n10 ≤ 40) (f20 : 0 ≤ n10) (f21 : n10 = hV H1 (n5).toNat 82) (f22 : n0 < n10) (f23 : n11 = 298) (f24 : n11 = hV H1 (n5).toNat 24) (f25 : n12 = 344) (f26 : n12 = hV H1 (n5).toNat 83) (f27 : n13 ≤ 1007) (f28 : 0 ≤ n13) (f29 : n13 = hV H1 (n12).toNat (n0).toNat) (f30 : n14 ≤ 5) (f31 : 0 ≤ n14) (f32 : n14 = hV H1 (n11).toNat (n13).toNat) (f33 : n14 = 0) (f34 : n15 = 334) (f35 : n15 = hV H1 (n5).toNat 72) (f36 : n16 = 300) (f37 : n16 = hV H1 (n5).toNat 26) (f38 : n17 = 344) (f39 : n17 = hV H1 (n5).toNat 83) (f40 : n18 ≤ 1007) (f41 : 0 ≤ n18) (f42 : n18 = hV H1 (n17).toNat (n0).toNat) (f43 : n19 ≤ 9999) (f44 : (-1) ≤ n19) (f45 : n19 = hV H1 (n16).toNat (n18).toNat) (f46 : n20 ≤ 2147483647) (f47 : 0 ≤ n20) (f48 : n20 = hV H1 (n15).toNat (n19).toNat) (f49 : n20 ≤ n1) (f50 : n21 = w32 (n0 + 1)) : Ab_283v_11 n9 n8 n7 n6 n5 n4 n3 n2 n1 n21 H0 H1 ∧ ∀ q, some q0 = some q → mub_283v_11 n9 n8 n7 n6 n5 n4 n3 n2 n1 n21 H0 H1 < q := by
  have g4 := f18.2.1.1
  unfold Ab_283v_11 at g4
  have g3 := f18.2.1.2
  unfold preb_283v at g3
  have g5 := Option.some.inj f18.2.2
  unfold mub_283v_11 at g5
  unfold Ab_283v_11
  unfold mub_283v_11
  have e0 : n10 = hV H1 285 82 := (by rw [f10] at f21; exact f21 : n10 = hV H1 285 82)
  have e1 : n13 = hV H1 344 (n0).toNat := (by rw [f25] at f29; exact f29 : n13 = hV H1 344 (n0).toNat)
  have e2 : hV H1 298 = hV H0 298 := fRow f18.1.2.1 298 kR_283v_298
  have e3 : n14 = hV H0 298 (n13).toNat := (by rw [f23] at f32; exact f32 : n14 = hV H1 298 (n13).toNat).trans ((congrFun e2 _))
  have e4 : n18 = hV H1 344 (n0).toNat := (by rw [f38] at f42; exact f42 : n18 = hV H1 344 (n0).toNat)
  have e5 : hV H1 300 = hV H0 300 := fRow f18.1.2.1 300 kR_283v_300
  have e6 : n19 = hV H0 300 (n18).toNat := (by rw [f36] at f45; exact f45 : n19 = hV H1 300 (n18).toNat).trans ((congrFun e5 _))
  have e7 : n20 = hV H1 334 (n19).toNat := (by rw [f34] at f48; exact f48 : n20 = hV H1 334 (n19).toNat)
  have e9 : hV H1 285 18 = hV H0 285 18 := (f18.1.2.1.1 285 18 kF_283v_285_18)
  have e11 : hV H1 285 64 = hV H0 285 64 := (f18.1.2.1.1 285 64 kF_283v_285_64)
  have e12 : hV H1 301 = hV H0 301 := fRow f18.1.2.1 301 kR_283v_301
  have e13 : hV H1 302 = hV H0 302 := fRow f18.1.2.1 302 kR_283v_302
  have e14 : hV H1 303 = hV H0 303 := fRow f18.1.2.1 303 kR_283v_303
  have e15 : hV H1 305 = hV H0 305 := fRow f18.1.2.1 305 kR_283v_305
  have e16 : hV H1 328 = hV H0 328 := fRow f18.1.2.1 328 kR_283v_328
  have e17 : hV H1 330 = hV H0 330 := fRow f18.1.2.1 330 kR_283v_330
  have e18 : hV H1 331 = hV H0 331 := fRow f18.1.2.1 331 kR_283v_331
  have e19 : hV H1 332 = hV H0 332 := fRow f18.1.2.1 332 kR_283v_332
  have e20 : hV H1 341 = hV H0 341 := fRow f18.1.2.1 341 kR_283v_341
  have e21 : (0 : Int) ≤ hV H0 285 18 ∧ hV H0 285 18 ≤ 8 := bTo e9 (f18.1.2.2 285 18 _ _ kW_285_18)
  have e22 : (0 : Int) ≤ hV H0 285 64 ∧ hV H0 285 64 ≤ 20 := bTo e11 (f18.1.2.2 285 64 _ _ kW_285_64)
  have e23 : (0 : Int) ≤ hV H1 285 65 ∧ hV H1 285 65 ≤ 2147483647 := f18.1.2.2 285 65 _ _ kW_285_65
  have e24 : (0 : Int) ≤ hV H1 285 82 ∧ hV H1 285 82 ≤ 40 := f18.1.2.2 285 82 _ _ kW_285_82
  try simp only [SO, SS, XQ]
  try simp only [e9, e11, e2, e5, e12, e13, e14, e15, e16, e17, e18, e19, e20]
  have k0 := g4.1
  have k1 := g4.2.1
  have k2 := g4.2.2.1
  have y0 := g4.2.2.2.1
  have y1 := g4.2.2.2.2.1
  have y2 := g4.2.2.2.2.2.1
  have y3 := g4.2.2.2.2.2.2.1
  have y4 := g4.2.2.2.2.2.2.2.1
  have y5 := g4.2.2.2.2.2.2.2.2.1
  have y6 := g4.2.2.2.2.2.2.2.2.2.1
  have y7 := g4.2.2.2.2.2.2.2.2.2.2
  have p0 := g3.1
  have p1 := g3.2.1
  have p2 := g3.2.2.1
  have p3 := g3.2.2.2.1
  have p4 := g3.2.2.2.2.1
  have p5 := g3.2.2.2.2.2.1
  have p6 := g3.2.2.2.2.2.2
  try simp only [XQ] at y0
  try simp only [SO] at y1
  try simp only [SS] at y2
  try simp only [SO] at p4
  try simp only [SS] at p5
  try simp only [e2, e5, e12, e13, e14, e15] at y0
  try simp only [e9, e11, e16, e17, e18, e19] at y1
  try simp only [e20] at y2
  clear g3
  clear g4
  clear f21 f24 f26 f29 f32 f35 f37 f39 f42 f45 f48 e2 e5 e9 e11 e12 e13 e14 e15 e16 e17 e18 e19 e20
  clear f18
  subst e0
  subst e1
  subst e3
  subst e4
  subst e6
  subst e7
  try have xg := XQp_g y0 (s := (n0).toNat) (by omega) (by omega)
  try have sg := SS_gen y2 (hV H0 300 (hV H1 344 (n0).toNat).toNat) (by omega) (by omega)
  first
  | (have ix0 : n21 = n0 + 1 := Eq.trans f50 (w32_iv (Iad (Iat f1 f0) (IC 1)) (by decide)); subst ix0; clear f50)
  | (have ix0 : n21 = n0 + 1 := Eq.trans f50 (w32_id (by omega) (by omega)); subst ix0; clear f50)
  | (unfold w32 at f50; have ix0 : n21 = n0 + 1 := (by omega); subst ix0)
  | skip
  try unfold w32 at f50

  refine ⟨?_, fun q hq => ?_⟩
  · exact ⟨by first | omega | trivial, by first | omega | trivial, by first | omega | trivial, y0, y1, y2, y3, y4, by omega, by omega, y7⟩
  · have g6 := Option.some.inj hq
    subst g6
    omega
def g_283v_11_9 : vG := ([(10, [21, 9], [], 1), (45, [20, 8], [], 0), (22, [20, 15, 19], [1], 0), (90, [20], [], 0), (91, [20], [], 2147483647), (22, [19, 16, 18], [1], 0), (90, [19], [], -1), (91, [19], [], 9999), (22, [18, 17, 9], [1], 0), (90, [18], [], 0), (91, [18], [], 1007), (20, [17, 4], [1], 83), (0, [17], [], 344), (20, [16, 4], [1], 26), (0, [16], [], 300), (20, [15, 4], [1], 72), (0, [15], [], 334), (30, [14], [], 0), (22, [14, 11, 13], [1], 0), (90, [14], [], 0), (91, [14], [], 5), (22, [13, 12, 9], [1], 0), (90, [13], [], 0), (91, [13], [], 1007), (20, [12, 4], [1], 83), (0, [12], [], 344), (20, [11, 4], [1], 24), (0, [11], [], 298), (42, [9, 10], [], 0), (20, [10, 4], [1], 82), (90, [10], [], 0), (91, [10], [], 40), (5000, [0, 1, 2, 3, 4, 5, 6, 7, 8, 9], [0, 1], 11), (0, [0], [], 285), (90, [1], [], 0), (91, [1], [], 19), (90, [2], [], 0), (91, [2], [], 7), (90, [3], [], 0), (91, [3], [], 5), (0, [4], [], 285), (90, [5], [], 0), (91, [5], [], 19), (90, [6], [], 0), (91, [6], [], 7), (90, [7], [], 0), (91, [7], [], 5), (90, [8], [], 0), (91, [8], [], 2147483647), (90, [9], [], 0), (91, [9], [], 40)], (4000, [4, 5, 6, 7, 8, 21], [1], 11))
theorem c_283v_11_9 {q0 : Nat} : vOkm T0 (eP e_283v L_283v A_283v mu_283v (some q0)) 4 g_283v_11_9 := vOk_inI fun ρ η f0 f1 f2 f3 f4 f5 f6 f7 f8 f9 f10 f11 f12 f13 f14 f15 f16 f17 f18 f19 f20 f21 f22 f23 f24 f25 f26 f27 f28 f29 f30 f31 f32 f33 f34 f35 f36 f37 f38 f39 f40 f41 f42 f43 f44 f45 f46 f47 f48 f49 f50 => q_283v_11 (q0 := q0) (n0 := ρ 9) (n1 := ρ 8) (n2 := ρ 7) (n3 := ρ 6) (n4 := ρ 5) (n5 := ρ 4) (n6 := ρ 3) (n7 := ρ 2) (n8 := ρ 1) (n9 := ρ 0) (n10 := ρ 10) (n11 := ρ 11) (n12 := ρ 12) (n13 := ρ 13) (n14 := ρ 14) (n15 := ρ 15) (n16 := ρ 16) (n17 := ρ 17) (n18 := ρ 18) (n19 := ρ 19) (n20 := ρ 20) (n21 := ρ 21) (H0 := η 0) (H1 := η 1) f50 f49 f48 f47 f46 f45 f44 f43 f42 f41 f40 f39 f38 f37 f36 f35 f34 f33 f32 f31 f30 f29 f28 f27 f26 f25 f24 f23 f22 f21 f20 f19 f18 f17 f16 f15 f14 f13 f12 f11 f10 f9 f8 f7 f6 f5 f4 f3 f2 f1 f0
theorem q_283v_12 {q0 : Nat} {n0 n1 n2 n3 n4 n5 n6 n7 n8 n9 n10 n11 n12 n13 n14 n15 n16 n17 n18 n19 n20 n21 n22 n23 : Int} {H0 H1 : gH} (f0 : n0 ≤ 40) (f1 : 0 ≤ n0) (f2 : n1 ≤ 2147483647) (f3 : 0 ≤ n1) (f4 : n2 ≤ 5) (f5 : 0 ≤ n2) (f6 : n3 ≤ 7) (f7 : 0 ≤ n3) (f8 : n4 ≤ 19) (f9 : 0 ≤ n4) (f10 : n5 = 285) (f11 : n6 ≤ 5) (f12 : 0 ≤ n6) (f13 : n7 ≤ 7) (f14 : 0 ≤ n7) (f15 : n8 ≤ 19) (f16 : 0 ≤ n8) (f17 : n9 = 285) (f18 : (hLe T0 H0 H1 ∧ hFr s_283v.2.2.2.2 H0 H1 ∧ hWt T0 H1) ∧ (Ab_283v_11 n9 n8 n7 n6 n5 n4 n3 n2 n1 n0 H0 H1 ∧ preb_283v n9 n8 n7 n6 H0) ∧ some q0 = some (mub_283v_11 n9 n8 n7 n6 n5 n4 n3 n2 n1 n0 H0 H1)) (f19 : n10 ≤ 40) (f20 : 0 ≤ n10) (f21 : n10 = hV H1 (n5).toNat 82) (f22 : n0 < n10) (f23 : n11 = 298) (f24 : n11 = hV H1 (n5).toNat 24) (f25 : n12 = 344) (f26 : n12 = hV H1 (n5).toNat 83) (f27 : n13 ≤ 1007) (f28 : 0 ≤ n13) (f29 : n13 = hV H1 (n12).toNat (n0).toNat) (f30 : n14 ≤ 5) (f31 : 0 ≤ n14) (f32 : n14 = hV H1 (n11).toNat (n13).toNat) (f33 : n14 = 0) (f34 : n15 = 334) (f35 : n15 = hV H1 (n5).toNat 72) (f36 : n16 = 300) (f37 : n16 = hV H1 (n5).toNat 26) (f38 : n17 = 344) (f39 : n17 = hV H1 (n5).toNat 83) (f40 : n18 ≤ 1007) (f41 : 0 ≤ n18) (f42 : n18 = hV H1 (n17).toNat (n0).toNat) (f43 : n19 ≤ 9999) (f44 : (-1) ≤ n19) (f45 : n19 = hV H1 (n16).toNat (n18).toNat) (f46 : n20 ≤ 2147483647) (f47 : 0 ≤ n20) (f48 : n20 = hV H1 (n15).toNat (n19).toNat) (f49 : n1 < n20) (f50 : n21 = 334) (f51 : n21 = hV H1 (n5).toNat 72) (f52 : n22 = 300) (f53 : n22 = hV H1 (n5).toNat 26) (f54 : n23 = 344) (f55 : n23 = hV H1 (n5).toNat 83) : 0 ≤ n0 ∧ n0 < 40 := by
  have g4 := f18.2.1.1
  unfold Ab_283v_11 at g4
  have g3 := f18.2.1.2
  unfold preb_283v at g3
  have e0 : n10 = hV H1 285 82 := (by rw [f10] at f21; exact f21 : n10 = hV H1 285 82)
  have e1 : n13 = hV H1 344 (n0).toNat := (by rw [f25] at f29; exact f29 : n13 = hV H1 344 (n0).toNat)
  have e2 : hV H1 298 = hV H0 298 := fRow f18.1.2.1 298 kR_283v_298
  have e3 : n14 = hV H0 298 (n13).toNat := (by rw [f23] at f32; exact f32 : n14 = hV H1 298 (n13).toNat).trans ((congrFun e2 _))
  have e4 : n18 = hV H1 344 (n0).toNat := (by rw [f38] at f42; exact f42 : n18 = hV H1 344 (n0).toNat)
  have e5 : hV H1 300 = hV H0 300 := fRow f18.1.2.1 300 kR_283v_300
  have e6 : n19 = hV H0 300 (n18).toNat := (by rw [f36] at f45; exact f45 : n19 = hV H1 300 (n18).toNat).trans ((congrFun e5 _))
  have e7 : n20 = hV H1 334 (n19).toNat := (by rw [f34] at f48; exact f48 : n20 = hV H1 334 (n19).toNat)
  have e9 : hV H1 285 18 = hV H0 285 18 := (f18.1.2.1.1 285 18 kF_283v_285_18)
  have e11 : hV H1 285 64 = hV H0 285 64 := (f18.1.2.1.1 285 64 kF_283v_285_64)
  have e12 : hV H1 301 = hV H0 301 := fRow f18.1.2.1 301 kR_283v_301
  have e13 : hV H1 302 = hV H0 302 := fRow f18.1.2.1 302 kR_283v_302
  have e14 : hV H1 303 = hV H0 303 := fRow f18.1.2.1 303 kR_283v_303
  have e15 : hV H1 305 = hV H0 305 := fRow f18.1.2.1 305 kR_283v_305
  have e16 : hV H1 328 = hV H0 328 := fRow f18.1.2.1 328 kR_283v_328
  have e17 : hV H1 330 = hV H0 330 := fRow f18.1.2.1 330 kR_283v_330
  have e18 : hV H1 331 = hV H0 331 := fRow f18.1.2.1 331 kR_283v_331
  have e19 : hV H1 332 = hV H0 332 := fRow f18.1.2.1 332 kR_283v_332
  have e20 : hV H1 341 = hV H0 341 := fRow f18.1.2.1 341 kR_283v_341
  have e21 : (0 : Int) ≤ hV H0 285 18 ∧ hV H0 285 18 ≤ 8 := bTo e9 (f18.1.2.2 285 18 _ _ kW_285_18)
  have e22 : (0 : Int) ≤ hV H0 285 64 ∧ hV H0 285 64 ≤ 20 := bTo e11 (f18.1.2.2 285 64 _ _ kW_285_64)
  have e23 : (0 : Int) ≤ hV H1 285 65 ∧ hV H1 285 65 ≤ 2147483647 := f18.1.2.2 285 65 _ _ kW_285_65
  have e24 : (0 : Int) ≤ hV H1 285 82 ∧ hV H1 285 82 ≤ 40 := f18.1.2.2 285 82 _ _ kW_285_82
  try simp only [SO, SS, XQ]
  have k0 := g4.1
  have k1 := g4.2.1
  have k2 := g4.2.2.1
  have y0 := g4.2.2.2.1
  have y1 := g4.2.2.2.2.1
  have y2 := g4.2.2.2.2.2.1
  have y3 := g4.2.2.2.2.2.2.1
  have y4 := g4.2.2.2.2.2.2.2.1
  have y5 := g4.2.2.2.2.2.2.2.2.1
  have y6 := g4.2.2.2.2.2.2.2.2.2.1
  have y7 := g4.2.2.2.2.2.2.2.2.2.2
  have p0 := g3.1
  have p1 := g3.2.1
  have p2 := g3.2.2.1
  have p3 := g3.2.2.2.1
  have p4 := g3.2.2.2.2.1
  have p5 := g3.2.2.2.2.2.1
  have p6 := g3.2.2.2.2.2.2
  try simp only [XQ] at y0
  try simp only [SO] at y1
  try simp only [SS] at y2
  try simp only [SO] at p4
  try simp only [SS] at p5
  try simp only [e2, e5, e12, e13, e14, e15] at y0
  try simp only [e9, e11, e16, e17, e18, e19] at y1
  try simp only [e20] at y2
  clear g3
  clear g4
  clear f21 f24 f26 f29 f32 f35 f37 f39 f42 f45 f48 f51 f53 f55 e2 e5 e9 e11 e12 e13 e14 e15 e16 e17 e18 e19 e20
  clear f18
  subst e0
  subst e1
  subst e3
  subst e4
  subst e6
  subst e7
  try have xg := XQp_g y0 (s := (n0).toNat) (by omega) (by omega)
  try have sg := SS_gen y2 (hV H0 300 (hV H1 344 (n0).toNat).toNat) (by omega) (by omega)
  try subst k2
  try subst k1
  try subst k0
  omega
def g_283v_11_10 : vG := ([(20, [23, 4], [1], 83), (0, [23], [], 344), (20, [22, 4], [1], 26), (0, [22], [], 300), (20, [21, 4], [1], 72), (0, [21], [], 334), (44, [20, 8], [], 0), (22, [20, 15, 19], [1], 0), (90, [20], [], 0), (91, [20], [], 2147483647), (22, [19, 16, 18], [1], 0), (90, [19], [], -1), (91, [19], [], 9999), (22, [18, 17, 9], [1], 0), (90, [18], [], 0), (91, [18], [], 1007), (20, [17, 4], [1], 83), (0, [17], [], 344), (20, [16, 4], [1], 26), (0, [16], [], 300), (20, [15, 4], [1], 72), (0, [15], [], 334), (30, [14], [], 0), (22, [14, 11, 13], [1], 0), (90, [14], [], 0), (91, [14], [], 5), (22, [13, 12, 9], [1], 0), (90, [13], [], 0), (91, [13], [], 1007), (20, [12, 4], [1], 83), (0, [12], [], 344), (20, [11, 4], [1], 24), (0, [11], [], 298), (42, [9, 10], [], 0), (20, [10, 4], [1], 82), (90, [10], [], 0), (91, [10], [], 40), (5000, [0, 1, 2, 3, 4, 5, 6, 7, 8, 9], [0, 1], 11), (0, [0], [], 285), (90, [1], [], 0), (91, [1], [], 19), (90, [2], [], 0), (91, [2], [], 7), (90, [3], [], 0), (91, [3], [], 5), (0, [4], [], 285), (90, [5], [], 0), (91, [5], [], 19), (90, [6], [], 0), (91, [6], [], 7), (90, [7], [], 0), (91, [7], [], 5), (90, [8], [], 0), (91, [8], [], 2147483647), (90, [9], [], 0), (91, [9], [], 40)], (70, [9], [], 40))
theorem c_283v_11_10 {q0 : Nat} : vOkm T0 (eP e_283v L_283v A_283v mu_283v (some q0)) 4 g_283v_11_10 := vOk_inI fun ρ η f0 f1 f2 f3 f4 f5 f6 f7 f8 f9 f10 f11 f12 f13 f14 f15 f16 f17 f18 f19 f20 f21 f22 f23 f24 f25 f26 f27 f28 f29 f30 f31 f32 f33 f34 f35 f36 f37 f38 f39 f40 f41 f42 f43 f44 f45 f46 f47 f48 f49 f50 f51 f52 f53 f54 f55 => q_283v_12 (q0 := q0) (n0 := ρ 9) (n1 := ρ 8) (n2 := ρ 7) (n3 := ρ 6) (n4 := ρ 5) (n5 := ρ 4) (n6 := ρ 3) (n7 := ρ 2) (n8 := ρ 1) (n9 := ρ 0) (n10 := ρ 10) (n11 := ρ 11) (n12 := ρ 12) (n13 := ρ 13) (n14 := ρ 14) (n15 := ρ 15) (n16 := ρ 16) (n17 := ρ 17) (n18 := ρ 18) (n19 := ρ 19) (n20 := ρ 20) (n21 := ρ 21) (n22 := ρ 22) (n23 := ρ 23) (H0 := η 0) (H1 := η 1) f55 f54 f53 f52 f51 f50 f49 f48 f47 f46 f45 f44 f43 f42 f41 f40 f39 f38 f37 f36 f35 f34 f33 f32 f31 f30 f29 f28 f27 f26 f25 f24 f23 f22 f21 f20 f19 f18 f17 f16 f15 f14 f13 f12 f11 f10 f9 f8 f7 f6 f5 f4 f3 f2 f1 f0
theorem q_283v_13 {q0 : Nat} {n0 n1 n2 n3 n4 n5 n6 n7 n8 n9 n10 n11 n12 n13 n14 n15 n16 n17 n18 n19 n20 n21 n22 n23 n24 n25 : Int} {H0 H1 : gH} (f0 : n0 ≤ 40) (f1 : 0 ≤ n0) (f2 : n1 ≤ 2147483647) (f3 : 0 ≤ n1) (f4 : n2 ≤ 5) (f5 : 0 ≤ n2) (f6 : n3 ≤ 7) (f7 : 0 ≤ n3) (f8 : n4 ≤ 19) (f9 : 0 ≤ n4) (f10 : n5 = 285) (f11 : n6 ≤ 5) (f12 : 0 ≤ n6) (f13 : n7 ≤ 7) (f14 : 0 ≤ n7) (f15 : n8 ≤ 19) (f16 : 0 ≤ n8) (f17 : n9 = 285) (f18 : (hLe T0 H0 H1 ∧ hFr s_283v.2.2.2.2 H0 H1 ∧ hWt T0 H1) ∧ (Ab_283v_11 n9 n8 n7 n6 n5 n4 n3 n2 n1 n0 H0 H1 ∧ preb_283v n9 n8 n7 n6 H0) ∧ some q0 = some (mub_283v_11 n9 n8 n7 n6 n5 n4 n3 n2 n1 n0 H0 H1)) (f19 : n10 ≤ 40) (f20 : 0 ≤ n10) (f21 : n10 = hV H1 (n5).toNat 82) (f22 : n0 < n10) (f23 : n11 = 298) (f24 : n11 = hV H1 (n5).toNat 24) (f25 : n12 = 344) (f26 : n12 = hV H1 (n5).toNat 83) (f27 : n13 ≤ 1007) (f28 : 0 ≤ n13) (f29 : n13 = hV H1 (n12).toNat (n0).toNat) (f30 : n14 ≤ 5) (f31 : 0 ≤ n14) (f32 : n14 = hV H1 (n11).toNat (n13).toNat) (f33 : n14 = 0) (f34 : n15 = 334) (f35 : n15 = hV H1 (n5).toNat 72) (f36 : n16 = 300) (f37 : n16 = hV H1 (n5).toNat 26) (f38 : n17 = 344) (f39 : n17 = hV H1 (n5).toNat 83) (f40 : n18 ≤ 1007) (f41 : 0 ≤ n18) (f42 : n18 = hV H1 (n17).toNat (n0).toNat) (f43 : n19 ≤ 9999) (f44 : (-1) ≤ n19) (f45 : n19 = hV H1 (n16).toNat (n18).toNat) (f46 : n20 ≤ 2147483647) (f47 : 0 ≤ n20) (f48 : n20 = hV H1 (n15).toNat (n19).toNat) (f49 : n1 < n20) (f50 : n21 = 334) (f51 : n21 = hV H1 (n5).toNat 72) (f52 : n22 = 300) (f53 : n22 = hV H1 (n5).toNat 26) (f54 : n23 = 344) (f55 : n23 = hV H1 (n5).toNat 83) (f56 : n24 ≤ 1007) (f57 : 0 ≤ n24) (f58 : n24 = hV H1 (n23).toNat (n0).toNat) (f59 : n25 ≤ 9999) (f60 : (-1) ≤ n25) (f61 : n25 = hV H1 (n22).toNat (n24).toNat) : 0 ≤ n25 ∧ n25 < 20 := by
  have g4 := f18.2.1.1
  unfold Ab_283v_11 at g4
  have g3 := f18.2.1.2
  unfold preb_283v at g3
  have e0 : n10 = hV H1 285 82 := (by rw [f10] at f21; exact f21 : n10 = hV H1 285 82)
  have e1 : n13 = hV H1 344 (n0).toNat := (by rw [f25] at f29; exact f29 : n13 = hV H1 344 (n0).toNat)
  have e2 : hV H1 298 = hV H0 298 := fRow f18.1.2.1 298 kR_283v_298
  have e3 : n14 = hV H0 298 (n13).toNat := (by rw [f23] at f32; exact f32 : n14 = hV H1 298 (n13).toNat).trans ((congrFun e2 _))
  have e4 : n18 = hV H1 344 (n0).toNat := (by rw [f38] at f42; exact f42 : n18 = hV H1 344 (n0).toNat)
  have e5 : hV H1 300 = hV H0 300 := fRow f18.1.2.1 300 kR_283v_300
  have e6 : n19 = hV H0 300 (n18).toNat := (by rw [f36] at f45; exact f45 : n19 = hV H1 300 (n18).toNat).trans ((congrFun e5 _))
  have e7 : n20 = hV H1 334 (n19).toNat := (by rw [f34] at f48; exact f48 : n20 = hV H1 334 (n19).toNat)
  have e8 : n24 = hV H1 344 (n0).toNat := (by rw [f54] at f58; exact f58 : n24 = hV H1 344 (n0).toNat)
  have e9 : n25 = hV H0 300 (n24).toNat := (by rw [f52] at f61; exact f61 : n25 = hV H1 300 (n24).toNat).trans ((congrFun e5 _))
  have e11 : hV H1 285 18 = hV H0 285 18 := (f18.1.2.1.1 285 18 kF_283v_285_18)
  have e13 : hV H1 285 64 = hV H0 285 64 := (f18.1.2.1.1 285 64 kF_283v_285_64)
  have e14 : hV H1 301 = hV H0 301 := fRow f18.1.2.1 301 kR_283v_301
  have e15 : hV H1 302 = hV H0 302 := fRow f18.1.2.1 302 kR_283v_302
  have e16 : hV H1 303 = hV H0 303 := fRow f18.1.2.1 303 kR_283v_303
  have e17 : hV H1 305 = hV H0 305 := fRow f18.1.2.1 305 kR_283v_305
  have e18 : hV H1 328 = hV H0 328 := fRow f18.1.2.1 328 kR_283v_328
  have e19 : hV H1 330 = hV H0 330 := fRow f18.1.2.1 330 kR_283v_330
  have e20 : hV H1 331 = hV H0 331 := fRow f18.1.2.1 331 kR_283v_331
  have e21 : hV H1 332 = hV H0 332 := fRow f18.1.2.1 332 kR_283v_332
  have e22 : hV H1 341 = hV H0 341 := fRow f18.1.2.1 341 kR_283v_341
  have e23 : (0 : Int) ≤ hV H0 285 18 ∧ hV H0 285 18 ≤ 8 := bTo e11 (f18.1.2.2 285 18 _ _ kW_285_18)
  have e24 : (0 : Int) ≤ hV H0 285 64 ∧ hV H0 285 64 ≤ 20 := bTo e13 (f18.1.2.2 285 64 _ _ kW_285_64)
  have e25 : (0 : Int) ≤ hV H1 285 65 ∧ hV H1 285 65 ≤ 2147483647 := f18.1.2.2 285 65 _ _ kW_285_65
  have e26 : (0 : Int) ≤ hV H1 285 82 ∧ hV H1 285 82 ≤ 40 := f18.1.2.2 285 82 _ _ kW_285_82
  try simp only [SO, SS, XQ]
  have k0 := g4.1
  have k1 := g4.2.1
  have k2 := g4.2.2.1
  have y0 := g4.2.2.2.1
  have y1 := g4.2.2.2.2.1
  have y2 := g4.2.2.2.2.2.1
  have y3 := g4.2.2.2.2.2.2.1
  have y4 := g4.2.2.2.2.2.2.2.1
  have y5 := g4.2.2.2.2.2.2.2.2.1
  have y6 := g4.2.2.2.2.2.2.2.2.2.1
  have y7 := g4.2.2.2.2.2.2.2.2.2.2
  have p0 := g3.1
  have p1 := g3.2.1
  have p2 := g3.2.2.1
  have p3 := g3.2.2.2.1
  have p4 := g3.2.2.2.2.1
  have p5 := g3.2.2.2.2.2.1
  have p6 := g3.2.2.2.2.2.2
  try simp only [XQ] at y0
  try simp only [SO] at y1
  try simp only [SS] at y2
  try simp only [SO] at p4
  try simp only [SS] at p5
  try simp only [e2, e5, e14, e15, e16, e17] at y0
  try simp only [e11, e13, e18, e19, e20, e21] at y1
  try simp only [e22] at y2
  clear g3
  clear g4
  clear f21 f24 f26 f29 f32 f35 f37 f39 f42 f45 f48 f51 f53 f55 f58 f61 e2 e5 e11 e13 e14 e15 e16 e17 e18 e19 e20 e21 e22
  clear f18
  subst e0
  subst e1
  subst e3
  subst e4
  subst e6
  subst e7
  subst e8
  subst e9
  try have xg := XQp_g y0 (s := (n0).toNat) (by omega) (by omega)
  try have sg := SS_gen y2 (hV H0 300 (hV H1 344 (n0).toNat).toNat) (by omega) (by omega)
  try subst k2
  try subst k1
  try subst k0
  omega
def g_283v_11_11 : vG := ([(22, [25, 22, 24], [1], 0), (90, [25], [], -1), (91, [25], [], 9999), (22, [24, 23, 9], [1], 0), (90, [24], [], 0), (91, [24], [], 1007), (20, [23, 4], [1], 83), (0, [23], [], 344), (20, [22, 4], [1], 26), (0, [22], [], 300), (20, [21, 4], [1], 72), (0, [21], [], 334), (44, [20, 8], [], 0), (22, [20, 15, 19], [1], 0), (90, [20], [], 0), (91, [20], [], 2147483647), (22, [19, 16, 18], [1], 0), (90, [19], [], -1), (91, [19], [], 9999), (22, [18, 17, 9], [1], 0), (90, [18], [], 0), (91, [18], [], 1007), (20, [17, 4], [1], 83), (0, [17], [], 344), (20, [16, 4], [1], 26), (0, [16], [], 300), (20, [15, 4], [1], 72), (0, [15], [], 334), (30, [14], [], 0), (22, [14, 11, 13], [1], 0), (90, [14], [], 0), (91, [14], [], 5), (22, [13, 12, 9], [1], 0), (90, [13], [], 0), (91, [13], [], 1007), (20, [12, 4], [1], 83), (0, [12], [], 344), (20, [11, 4], [1], 24), (0, [11], [], 298), (42, [9, 10], [], 0), (20, [10, 4], [1], 82), (90, [10], [], 0), (91, [10], [], 40), (5000, [0, 1, 2, 3, 4, 5, 6, 7, 8, 9], [0, 1], 11), (0, [0], [], 285), (90, [1], [], 0), (91, [1], [], 19), (90, [2], [], 0), (91, [2], [], 7), (90, [3], [], 0), (91, [3], [], 5), (0, [4], [], 285), (90, [5], [], 0), (91, [5], [], 19), (90, [6], [], 0), (91, [6], [], 7), (90, [7], [], 0), (91, [7], [], 5), (90, [8], [], 0), (91, [8], [], 2147483647), (90, [9], [], 0), (91, [9], [], 40)], (70, [25], [], 20))
theorem c_283v_11_11 {q0 : Nat} : vOkm T0 (eP e_283v L_283v A_283v mu_283v (some q0)) 4 g_283v_11_11 := vOk_inI fun ρ η f0 f1 f2 f3 f4 f5 f6 f7 f8 f9 f10 f11 f12 f13 f14 f15 f16 f17 f18 f19 f20 f21 f22 f23 f24 f25 f26 f27 f28 f29 f30 f31 f32 f33 f34 f35 f36 f37 f38 f39 f40 f41 f42 f43 f44 f45 f46 f47 f48 f49 f50 f51 f52 f53 f54 f55 f56 f57 f58 f59 f60 f61 => q_283v_13 (q0 := q0) (n0 := ρ 9) (n1 := ρ 8) (n2 := ρ 7) (n3 := ρ 6) (n4 := ρ 5) (n5 := ρ 4) (n6 := ρ 3) (n7 := ρ 2) (n8 := ρ 1) (n9 := ρ 0) (n10 := ρ 10) (n11 := ρ 11) (n12 := ρ 12) (n13 := ρ 13) (n14 := ρ 14) (n15 := ρ 15) (n16 := ρ 16) (n17 := ρ 17) (n18 := ρ 18) (n19 := ρ 19) (n20 := ρ 20) (n21 := ρ 21) (n22 := ρ 22) (n23 := ρ 23) (n24 := ρ 24) (n25 := ρ 25) (H0 := η 0) (H1 := η 1) f61 f60 f59 f58 f57 f56 f55 f54 f53 f52 f51 f50 f49 f48 f47 f46 f45 f44 f43 f42 f41 f40 f39 f38 f37 f36 f35 f34 f33 f32 f31 f30 f29 f28 f27 f26 f25 f24 f23 f22 f21 f20 f19 f18 f17 f16 f15 f14 f13 f12 f11 f10 f9 f8 f7 f6 f5 f4 f3 f2 f1 f0
theorem q_283v_14 {q0 : Nat} {n0 n1 n2 n3 n4 n5 n6 n7 n8 n9 n10 n11 n12 n13 n14 n15 n16 n17 n18 n19 n20 n21 n22 n23 n24 n25 n26 n27 : Int} {H0 H1 : gH} (f0 : n0 ≤ 40) (f1 : 0 ≤ n0) (f2 : n1 ≤ 2147483647) (f3 : 0 ≤ n1) (f4 : n2 ≤ 5) (f5 : 0 ≤ n2) (f6 : n3 ≤ 7) (f7 : 0 ≤ n3) (f8 : n4 ≤ 19) (f9 : 0 ≤ n4) (f10 : n5 = 285) (f11 : n6 ≤ 5) (f12 : 0 ≤ n6) (f13 : n7 ≤ 7) (f14 : 0 ≤ n7) (f15 : n8 ≤ 19) (f16 : 0 ≤ n8) (f17 : n9 = 285) (f18 : (hLe T0 H0 H1 ∧ hFr s_283v.2.2.2.2 H0 H1 ∧ hWt T0 H1) ∧ (Ab_283v_11 n9 n8 n7 n6 n5 n4 n3 n2 n1 n0 H0 H1 ∧ preb_283v n9 n8 n7 n6 H0) ∧ some q0 = some (mub_283v_11 n9 n8 n7 n6 n5 n4 n3 n2 n1 n0 H0 H1)) (f19 : n10 ≤ 40) (f20 : 0 ≤ n10) (f21 : n10 = hV H1 (n5).toNat 82) (f22 : n0 < n10) (f23 : n11 = 298) (f24 : n11 = hV H1 (n5).toNat 24) (f25 : n12 = 344) (f26 : n12 = hV H1 (n5).toNat 83) (f27 : n13 ≤ 1007) (f28 : 0 ≤ n13) (f29 : n13 = hV H1 (n12).toNat (n0).toNat) (f30 : n14 ≤ 5) (f31 : 0 ≤ n14) (f32 : n14 = hV H1 (n11).toNat (n13).toNat) (f33 : n14 = 0) (f34 : n15 = 334) (f35 : n15 = hV H1 (n5).toNat 72) (f36 : n16 = 300) (f37 : n16 = hV H1 (n5).toNat 26) (f38 : n17 = 344) (f39 : n17 = hV H1 (n5).toNat 83) (f40 : n18 ≤ 1007) (f41 : 0 ≤ n18) (f42 : n18 = hV H1 (n17).toNat (n0).toNat) (f43 : n19 ≤ 9999) (f44 : (-1) ≤ n19) (f45 : n19 = hV H1 (n16).toNat (n18).toNat) (f46 : n20 ≤ 2147483647) (f47 : 0 ≤ n20) (f48 : n20 = hV H1 (n15).toNat (n19).toNat) (f49 : n1 < n20) (f50 : n21 = 334) (f51 : n21 = hV H1 (n5).toNat 72) (f52 : n22 = 300) (f53 : n22 = hV H1 (n5).toNat 26) (f54 : n23 = 344) (f55 : n23 = hV H1 (n5).toNat 83) (f56 : n24 ≤ 1007) (f57 : 0 ≤ n24) (f58 : n24 = hV H1 (n23).toNat (n0).toNat) (f59 : n25 ≤ 9999) (f60 : (-1) ≤ n25) (f61 : n25 = hV H1 (n22).toNat (n24).toNat) (f62 : n26 ≤ 2147483647) (f63 : 0 ≤ n26) (f64 : n26 = hV H1 (n21).toNat (n25).toNat) (f65 : n27 = w32 (n0 + 1)) : 0 ≤ n27 := by
  have g4 := f18.2.1.1
  unfold Ab_283v_11 at g4
  have g3 := f18.2.1.2
  unfold preb_283v at g3
  have e0 : n10 = hV H1 285 82 := (by rw [f10] at f21; exact f21 : n10 = hV H1 285 82)
  have e1 : n13 = hV H1 344 (n0).toNat := (by rw [f25] at f29; exact f29 : n13 = hV H1 344 (n0).toNat)
  have e2 : hV H1 298 = hV H0 298 := fRow f18.1.2.1 298 kR_283v_298
  have e3 : n14 = hV H0 298 (n13).toNat := (by rw [f23] at f32; exact f32 : n14 = hV H1 298 (n13).toNat).trans ((congrFun e2 _))
  have e4 : n18 = hV H1 344 (n0).toNat := (by rw [f38] at f42; exact f42 : n18 = hV H1 344 (n0).toNat)
  have e5 : hV H1 300 = hV H0 300 := fRow f18.1.2.1 300 kR_283v_300
  have e6 : n19 = hV H0 300 (n18).toNat := (by rw [f36] at f45; exact f45 : n19 = hV H1 300 (n18).toNat).trans ((congrFun e5 _))
  have e7 : n20 = hV H1 334 (n19).toNat := (by rw [f34] at f48; exact f48 : n20 = hV H1 334 (n19).toNat)
  have e8 : n24 = hV H1 344 (n0).toNat := (by rw [f54] at f58; exact f58 : n24 = hV H1 344 (n0).toNat)
  have e9 : n25 = hV H0 300 (n24).toNat := (by rw [f52] at f61; exact f61 : n25 = hV H1 300 (n24).toNat).trans ((congrFun e5 _))
  have e10 : n26 = hV H1 334 (n25).toNat := (by rw [f50] at f64; exact f64 : n26 = hV H1 334 (n25).toNat)
  have e12 : hV H1 285 18 = hV H0 285 18 := (f18.1.2.1.1 285 18 kF_283v_285_18)
  have e14 : hV H1 285 64 = hV H0 285 64 := (f18.1.2.1.1 285 64 kF_283v_285_64)
  have e15 : hV H1 301 = hV H0 301 := fRow f18.1.2.1 301 kR_283v_301
  have e16 : hV H1 302 = hV H0 302 := fRow f18.1.2.1 302 kR_283v_302
  have e17 : hV H1 303 = hV H0 303 := fRow f18.1.2.1 303 kR_283v_303
  have e18 : hV H1 305 = hV H0 305 := fRow f18.1.2.1 305 kR_283v_305
  have e19 : hV H1 328 = hV H0 328 := fRow f18.1.2.1 328 kR_283v_328
  have e20 : hV H1 330 = hV H0 330 := fRow f18.1.2.1 330 kR_283v_330
  have e21 : hV H1 331 = hV H0 331 := fRow f18.1.2.1 331 kR_283v_331
  have e22 : hV H1 332 = hV H0 332 := fRow f18.1.2.1 332 kR_283v_332
  have e23 : hV H1 341 = hV H0 341 := fRow f18.1.2.1 341 kR_283v_341
  have e24 : (0 : Int) ≤ hV H0 285 18 ∧ hV H0 285 18 ≤ 8 := bTo e12 (f18.1.2.2 285 18 _ _ kW_285_18)
  have e25 : (0 : Int) ≤ hV H0 285 64 ∧ hV H0 285 64 ≤ 20 := bTo e14 (f18.1.2.2 285 64 _ _ kW_285_64)
  have e26 : (0 : Int) ≤ hV H1 285 65 ∧ hV H1 285 65 ≤ 2147483647 := f18.1.2.2 285 65 _ _ kW_285_65
  have e27 : (0 : Int) ≤ hV H1 285 82 ∧ hV H1 285 82 ≤ 40 := f18.1.2.2 285 82 _ _ kW_285_82
  try simp only [SO, SS, XQ]
  have k0 := g4.1
  have k1 := g4.2.1
  have k2 := g4.2.2.1
  have y0 := g4.2.2.2.1
  have y1 := g4.2.2.2.2.1
  have y2 := g4.2.2.2.2.2.1
  have y3 := g4.2.2.2.2.2.2.1
  have y4 := g4.2.2.2.2.2.2.2.1
  have y5 := g4.2.2.2.2.2.2.2.2.1
  have y6 := g4.2.2.2.2.2.2.2.2.2.1
  have y7 := g4.2.2.2.2.2.2.2.2.2.2
  have p0 := g3.1
  have p1 := g3.2.1
  have p2 := g3.2.2.1
  have p3 := g3.2.2.2.1
  have p4 := g3.2.2.2.2.1
  have p5 := g3.2.2.2.2.2.1
  have p6 := g3.2.2.2.2.2.2
  try simp only [XQ] at y0
  try simp only [SO] at y1
  try simp only [SS] at y2
  try simp only [SO] at p4
  try simp only [SS] at p5
  try simp only [e2, e5, e15, e16, e17, e18] at y0
  try simp only [e12, e14, e19, e20, e21, e22] at y1
  try simp only [e23] at y2
  clear g3
  clear g4
  clear f21 f24 f26 f29 f32 f35 f37 f39 f42 f45 f48 f51 f53 f55 f58 f61 f64 e2 e5 e12 e14 e15 e16 e17 e18 e19 e20 e21 e22 e23
  clear f18
  subst e0
  subst e1
  subst e3
  subst e4
  subst e6
  subst e7
  subst e8
  subst e9
  subst e10
  try have xg := XQp_g y0 (s := (n0).toNat) (by omega) (by omega)
  try have sg := SS_gen y2 (hV H0 300 (hV H1 344 (n0).toNat).toNat) (by omega) (by omega)
  first
  | (have ix0 : n27 = n0 + 1 := Eq.trans f65 (w32_iv (Iad (Iat f1 f0) (IC 1)) (by decide)); subst ix0; clear f65)
  | (have ix0 : n27 = n0 + 1 := Eq.trans f65 (w32_id (by omega) (by omega)); subst ix0; clear f65)
  | (unfold w32 at f65; have ix0 : n27 = n0 + 1 := (by omega); subst ix0)
  | skip
  try unfold w32 at f65
  try subst k2
  try subst k1
  try subst k0
  omega
def g_283v_11_12 : vG := ([(10, [27, 9], [], 1), (22, [26, 21, 25], [1], 0), (90, [26], [], 0), (91, [26], [], 2147483647), (22, [25, 22, 24], [1], 0), (90, [25], [], -1), (91, [25], [], 9999), (22, [24, 23, 9], [1], 0), (90, [24], [], 0), (91, [24], [], 1007), (20, [23, 4], [1], 83), (0, [23], [], 344), (20, [22, 4], [1], 26), (0, [22], [], 300), (20, [21, 4], [1], 72), (0, [21], [], 334), (44, [20, 8], [], 0), (22, [20, 15, 19], [1], 0), (90, [20], [], 0), (91, [20], [], 2147483647), (22, [19, 16, 18], [1], 0), (90, [19], [], -1), (91, [19], [], 9999), (22, [18, 17, 9], [1], 0), (90, [18], [], 0), (91, [18], [], 1007), (20, [17, 4], [1], 83), (0, [17], [], 344), (20, [16, 4], [1], 26), (0, [16], [], 300), (20, [15, 4], [1], 72), (0, [15], [], 334), (30, [14], [], 0), (22, [14, 11, 13], [1], 0), (90, [14], [], 0), (91, [14], [], 5), (22, [13, 12, 9], [1], 0), (90, [13], [], 0), (91, [13], [], 1007), (20, [12, 4], [1], 83), (0, [12], [], 344), (20, [11, 4], [1], 24), (0, [11], [], 298), (42, [9, 10], [], 0), (20, [10, 4], [1], 82), (90, [10], [], 0), (91, [10], [], 40), (5000, [0, 1, 2, 3, 4, 5, 6, 7, 8, 9], [0, 1], 11), (0, [0], [], 285), (90, [1], [], 0), (91, [1], [], 19), (90, [2], [], 0), (91, [2], [], 7), (90, [3], [], 0), (91, [3], [], 5), (0, [4], [], 285), (90, [5], [], 0), (91, [5], [], 19), (90, [6], [], 0), (91, [6], [], 7), (90, [7], [], 0), (91, [7], [], 5), (90, [8], [], 0), (91, [8], [], 2147483647), (90, [9], [], 0), (91, [9], [], 40)], (90, [27], [], 0))
theorem c_283v_11_12 {q0 : Nat} : vOkm T0 (eP e_283v L_283v A_283v mu_283v (some q0)) 4 g_283v_11_12 := vOk_inI fun ρ η f0 f1 f2 f3 f4 f5 f6 f7 f8 f9 f10 f11 f12 f13 f14 f15 f16 f17 f18 f19 f20 f21 f22 f23 f24 f25 f26 f27 f28 f29 f30 f31 f32 f33 f34 f35 f36 f37 f38 f39 f40 f41 f42 f43 f44 f45 f46 f47 f48 f49 f50 f51 f52 f53 f54 f55 f56 f57 f58 f59 f60 f61 f62 f63 f64 f65 => q_283v_14 (q0 := q0) (n0 := ρ 9) (n1 := ρ 8) (n2 := ρ 7) (n3 := ρ 6) (n4 := ρ 5) (n5 := ρ 4) (n6 := ρ 3) (n7 := ρ 2) (n8 := ρ 1) (n9 := ρ 0) (n10 := ρ 10) (n11 := ρ 11) (n12 := ρ 12) (n13 := ρ 13) (n14 := ρ 14) (n15 := ρ 15) (n16 := ρ 16) (n17 := ρ 17) (n18 := ρ 18) (n19 := ρ 19) (n20 := ρ 20) (n21 := ρ 21) (n22 := ρ 22) (n23 := ρ 23) (n24 := ρ 24) (n25 := ρ 25) (n26 := ρ 26) (n27 := ρ 27) (H0 := η 0) (H1 := η 1) f65 f64 f63 f62 f61 f60 f59 f58 f57 f56 f55 f54 f53 f52 f51 f50 f49 f48 f47 f46 f45 f44 f43 f42 f41 f40 f39 f38 f37 f36 f35 f34 f33 f32 f31 f30 f29 f28 f27 f26 f25 f24 f23 f22 f21 f20 f19 f18 f17 f16 f15 f14 f13 f12 f11 f10 f9 f8 f7 f6 f5 f4 f3 f2 f1 f0
theorem q_283v_15 {q0 : Nat} {n0 n1 n2 n3 n4 n5 n6 n7 n8 n9 n10 n11 n12 n13 n14 n15 n16 n17 n18 n19 n20 n21 n22 n23 n24 n25 n26 n27 : Int} {H0 H1 : gH} (f0 : n0 ≤ 40) (f1 : 0 ≤ n0) (f2 : n1 ≤ 2147483647) (f3 : 0 ≤ n1) (f4 : n2 ≤ 5) (f5 : 0 ≤ n2) (f6 : n3 ≤ 7) (f7 : 0 ≤ n3) (f8 : n4 ≤ 19) (f9 : 0 ≤ n4) (f10 : n5 = 285) (f11 : n6 ≤ 5) (f12 : 0 ≤ n6) (f13 : n7 ≤ 7) (f14 : 0 ≤ n7) (f15 : n8 ≤ 19) (f16 : 0 ≤ n8) (f17 : n9 = 285) (f18 : (hLe T0 H0 H1 ∧ hFr s_283v.2.2.2.2 H0 H1 ∧ hWt T0 H1) ∧ (Ab_283v_11 n9 n8 n7 n6 n5 n4 n3 n2 n1 n0 H0 H1 ∧ preb_283v n9 n8 n7 n6 H0) ∧ some q0 = some (mub_283v_11 n9 n8 n7 n6 n5 n4 n3 n2 n1 n0 H0 H1)) (f19 : n10 ≤ 40) (f20 : 0 ≤ n10) (f21 : n10 = hV H1 (n5).toNat 82) (f22 : n0 < n10) (f23 : n11 = 298) (f24 : n11 = hV H1 (n5).toNat 24) (f25 : n12 = 344) (f26 : n12 = hV H1 (n5).toNat 83) (f27 : n13 ≤ 1007) (f28 : 0 ≤ n13) (f29 : n13 = hV H1 (n12).toNat (n0).toNat) (f30 : n14 ≤ 5) (f31 : 0 ≤ n14) (f32 : n14 = hV H1 (n11).toNat (n13).toNat) (f33 : n14 = 0) (f34 : n15 = 334) (f35 : n15 = hV H1 (n5).toNat 72) (f36 : n16 = 300) (f37 : n16 = hV H1 (n5).toNat 26) (f38 : n17 = 344) (f39 : n17 = hV H1 (n5).toNat 83) (f40 : n18 ≤ 1007) (f41 : 0 ≤ n18) (f42 : n18 = hV H1 (n17).toNat (n0).toNat) (f43 : n19 ≤ 9999) (f44 : (-1) ≤ n19) (f45 : n19 = hV H1 (n16).toNat (n18).toNat) (f46 : n20 ≤ 2147483647) (f47 : 0 ≤ n20) (f48 : n20 = hV H1 (n15).toNat (n19).toNat) (f49 : n1 < n20) (f50 : n21 = 334) (f51 : n21 = hV H1 (n5).toNat 72) (f52 : n22 = 300) (f53 : n22 = hV H1 (n5).toNat 26) (f54 : n23 = 344) (f55 : n23 = hV H1 (n5).toNat 83) (f56 : n24 ≤ 1007) (f57 : 0 ≤ n24) (f58 : n24 = hV H1 (n23).toNat (n0).toNat) (f59 : n25 ≤ 9999) (f60 : (-1) ≤ n25) (f61 : n25 = hV H1 (n22).toNat (n24).toNat) (f62 : n26 ≤ 2147483647) (f63 : 0 ≤ n26) (f64 : n26 = hV H1 (n21).toNat (n25).toNat) (f65 : n27 = w32 (n0 + 1)) : n27 ≤ 40 := by
  have g4 := f18.2.1.1
  unfold Ab_283v_11 at g4
  have g3 := f18.2.1.2
  unfold preb_283v at g3
  have e0 : n10 = hV H1 285 82 := (by rw [f10] at f21; exact f21 : n10 = hV H1 285 82)
  have e1 : n13 = hV H1 344 (n0).toNat := (by rw [f25] at f29; exact f29 : n13 = hV H1 344 (n0).toNat)
  have e2 : hV H1 298 = hV H0 298 := fRow f18.1.2.1 298 kR_283v_298
  have e3 : n14 = hV H0 298 (n13).toNat := (by rw [f23] at f32; exact f32 : n14 = hV H1 298 (n13).toNat).trans ((congrFun e2 _))
  have e4 : n18 = hV H1 344 (n0).toNat := (by rw [f38] at f42; exact f42 : n18 = hV H1 344 (n0).toNat)
  have e5 : hV H1 300 = hV H0 300 := fRow f18.1.2.1 300 kR_283v_300
  have e6 : n19 = hV H0 300 (n18).toNat := (by rw [f36] at f45; exact f45 : n19 = hV H1 300 (n18).toNat).trans ((congrFun e5 _))
  have e7 : n20 = hV H1 334 (n19).toNat := (by rw [f34] at f48; exact f48 : n20 = hV H1 334 (n19).toNat)
  have e8 : n24 = hV H1 344 (n0).toNat := (by rw [f54] at f58; exact f58 : n24 = hV H1 344 (n0).toNat)
  have e9 : n25 = hV H0 300 (n24).toNat := (by rw [f52] at f61; exact f61 : n25 = hV H1 300 (n24).toNat).trans ((congrFun e5 _))
  have e10 : n26 = hV H1 334 (n25).toNat := (by rw [f50] at f64; exact f64 : n26 = hV H1 334 (n25).toNat)
  have e12 : hV H1 285 18 = hV H0 285 18 := (f18.1.2.1.1 285 18 kF_283v_285_18)
  have e14 : hV H1 285 64 = hV H0 285 64 := (f18.1.2.1.1 285 64 kF_283v_285_64)
  have e15 : hV H1 301 = hV H0 301 := fRow f18.1.2.1 301 kR_283v_301
  have e16 : hV H1 302 = hV H0 302 := fRow f18.1.2.1 302 kR_283v_302
  have e17 : hV H1 303 = hV H0 303 := fRow f18.1.2.1 303 kR_283v_303
  have e18 : hV H1 305 = hV H0 305 := fRow f18.1.2.1 305 kR_283v_305
  have e19 : hV H1 328 = hV H0 328 := fRow f18.1.2.1 328 kR_283v_328
  have e20 : hV H1 330 = hV H0 330 := fRow f18.1.2.1 330 kR_283v_330
  have e21 : hV H1 331 = hV H0 331 := fRow f18.1.2.1 331 kR_283v_331
  have e22 : hV H1 332 = hV H0 332 := fRow f18.1.2.1 332 kR_283v_332
  have e23 : hV H1 341 = hV H0 341 := fRow f18.1.2.1 341 kR_283v_341
  have e24 : (0 : Int) ≤ hV H0 285 18 ∧ hV H0 285 18 ≤ 8 := bTo e12 (f18.1.2.2 285 18 _ _ kW_285_18)
  have e25 : (0 : Int) ≤ hV H0 285 64 ∧ hV H0 285 64 ≤ 20 := bTo e14 (f18.1.2.2 285 64 _ _ kW_285_64)
  have e26 : (0 : Int) ≤ hV H1 285 65 ∧ hV H1 285 65 ≤ 2147483647 := f18.1.2.2 285 65 _ _ kW_285_65
  have e27 : (0 : Int) ≤ hV H1 285 82 ∧ hV H1 285 82 ≤ 40 := f18.1.2.2 285 82 _ _ kW_285_82
  try simp only [SO, SS, XQ]
  have k0 := g4.1
  have k1 := g4.2.1
  have k2 := g4.2.2.1
  have y0 := g4.2.2.2.1
  have y1 := g4.2.2.2.2.1
  have y2 := g4.2.2.2.2.2.1
  have y3 := g4.2.2.2.2.2.2.1
  have y4 := g4.2.2.2.2.2.2.2.1
  have y5 := g4.2.2.2.2.2.2.2.2.1
  have y6 := g4.2.2.2.2.2.2.2.2.2.1
  have y7 := g4.2.2.2.2.2.2.2.2.2.2
  have p0 := g3.1
  have p1 := g3.2.1
  have p2 := g3.2.2.1
  have p3 := g3.2.2.2.1
  have p4 := g3.2.2.2.2.1
  have p5 := g3.2.2.2.2.2.1
  have p6 := g3.2.2.2.2.2.2
  try simp only [XQ] at y0
  try simp only [SO] at y1
  try simp only [SS] at y2
  try simp only [SO] at p4
  try simp only [SS] at p5
  try simp only [e2, e5, e15, e16, e17, e18] at y0
  try simp only [e12, e14, e19, e20, e21, e22] at y1
  try simp only [e23] at y2
  clear g3
  clear g4
  clear f21 f24 f26 f29 f32 f35 f37 f39 f42 f45 f48 f51 f53 f55 f58 f61 f64 e2 e5 e12 e14 e15 e16 e17 e18 e19 e20 e21 e22 e23
  clear f18
  subst e0
  subst e1
  subst e3
  subst e4
  subst e6
  subst e7
  subst e8
  subst e9
  subst e10
  try have xg := XQp_g y0 (s := (n0).toNat) (by omega) (by omega)
  try have sg := SS_gen y2 (hV H0 300 (hV H1 344 (n0).toNat).toNat) (by omega) (by omega)
  first
  | (have ix0 : n27 = n0 + 1 := Eq.trans f65 (w32_iv (Iad (Iat f1 f0) (IC 1)) (by decide)); subst ix0; clear f65)
  | (have ix0 : n27 = n0 + 1 := Eq.trans f65 (w32_id (by omega) (by omega)); subst ix0; clear f65)
  | (unfold w32 at f65; have ix0 : n27 = n0 + 1 := (by omega); subst ix0)
  | skip
  try unfold w32 at f65
  try subst k2
  try subst k1
  try subst k0
  omega
def g_283v_11_13 : vG := ([(10, [27, 9], [], 1), (22, [26, 21, 25], [1], 0), (90, [26], [], 0), (91, [26], [], 2147483647), (22, [25, 22, 24], [1], 0), (90, [25], [], -1), (91, [25], [], 9999), (22, [24, 23, 9], [1], 0), (90, [24], [], 0), (91, [24], [], 1007), (20, [23, 4], [1], 83), (0, [23], [], 344), (20, [22, 4], [1], 26), (0, [22], [], 300), (20, [21, 4], [1], 72), (0, [21], [], 334), (44, [20, 8], [], 0), (22, [20, 15, 19], [1], 0), (90, [20], [], 0), (91, [20], [], 2147483647), (22, [19, 16, 18], [1], 0), (90, [19], [], -1), (91, [19], [], 9999), (22, [18, 17, 9], [1], 0), (90, [18], [], 0), (91, [18], [], 1007), (20, [17, 4], [1], 83), (0, [17], [], 344), (20, [16, 4], [1], 26), (0, [16], [], 300), (20, [15, 4], [1], 72), (0, [15], [], 334), (30, [14], [], 0), (22, [14, 11, 13], [1], 0), (90, [14], [], 0), (91, [14], [], 5), (22, [13, 12, 9], [1], 0), (90, [13], [], 0), (91, [13], [], 1007), (20, [12, 4], [1], 83), (0, [12], [], 344), (20, [11, 4], [1], 24), (0, [11], [], 298), (42, [9, 10], [], 0), (20, [10, 4], [1], 82), (90, [10], [], 0), (91, [10], [], 40), (5000, [0, 1, 2, 3, 4, 5, 6, 7, 8, 9], [0, 1], 11), (0, [0], [], 285), (90, [1], [], 0), (91, [1], [], 19), (90, [2], [], 0), (91, [2], [], 7), (90, [3], [], 0), (91, [3], [], 5), (0, [4], [], 285), (90, [5], [], 0), (91, [5], [], 19), (90, [6], [], 0), (91, [6], [], 7), (90, [7], [], 0), (91, [7], [], 5), (90, [8], [], 0), (91, [8], [], 2147483647), (90, [9], [], 0), (91, [9], [], 40)], (91, [27], [], 40))
theorem c_283v_11_13 {q0 : Nat} : vOkm T0 (eP e_283v L_283v A_283v mu_283v (some q0)) 4 g_283v_11_13 := vOk_inI fun ρ η f0 f1 f2 f3 f4 f5 f6 f7 f8 f9 f10 f11 f12 f13 f14 f15 f16 f17 f18 f19 f20 f21 f22 f23 f24 f25 f26 f27 f28 f29 f30 f31 f32 f33 f34 f35 f36 f37 f38 f39 f40 f41 f42 f43 f44 f45 f46 f47 f48 f49 f50 f51 f52 f53 f54 f55 f56 f57 f58 f59 f60 f61 f62 f63 f64 f65 => q_283v_15 (q0 := q0) (n0 := ρ 9) (n1 := ρ 8) (n2 := ρ 7) (n3 := ρ 6) (n4 := ρ 5) (n5 := ρ 4) (n6 := ρ 3) (n7 := ρ 2) (n8 := ρ 1) (n9 := ρ 0) (n10 := ρ 10) (n11 := ρ 11) (n12 := ρ 12) (n13 := ρ 13) (n14 := ρ 14) (n15 := ρ 15) (n16 := ρ 16) (n17 := ρ 17) (n18 := ρ 18) (n19 := ρ 19) (n20 := ρ 20) (n21 := ρ 21) (n22 := ρ 22) (n23 := ρ 23) (n24 := ρ 24) (n25 := ρ 25) (n26 := ρ 26) (n27 := ρ 27) (H0 := η 0) (H1 := η 1) f65 f64 f63 f62 f61 f60 f59 f58 f57 f56 f55 f54 f53 f52 f51 f50 f49 f48 f47 f46 f45 f44 f43 f42 f41 f40 f39 f38 f37 f36 f35 f34 f33 f32 f31 f30 f29 f28 f27 f26 f25 f24 f23 f22 f21 f20 f19 f18 f17 f16 f15 f14 f13 f12 f11 f10 f9 f8 f7 f6 f5 f4 f3 f2 f1 f0
theorem q_283v_16 {q0 : Nat} {n0 n1 n2 n3 n4 n5 n6 n7 n8 n9 n10 n11 n12 n13 n14 n15 n16 n17 n18 n19 n20 n21 n22 n23 n24 n25 n26 n27 : Int} {H0 H1 : gH} (f0 : n0 ≤ 40) (f1 : 0 ≤ n0) (f2 : n1 ≤ 2147483647) (f3 : 0 ≤ n1) (f4 : n2 ≤ 5) (f5 : 0 ≤ n2) (f6 : n3 ≤ 7) (f7 : 0 ≤ n3) (f8 : n4 ≤ 19) (f9 : 0 ≤ n4) (f10 : n5 = 285) (f11 : n6 ≤ 5) (f12 : 0 ≤ n6) (f13 : n7 ≤ 7) (f14 : 0 ≤ n7) (f15 : n8 ≤ 19) (f16 : 0 ≤ n8) (f17 : n9 = 285) (f18 : (hLe T0 H0 H1 ∧ hFr s_283v.2.2.2.2 H0 H1 ∧ hWt T0 H1) ∧ (Ab_283v_11 n9 n8 n7 n6 n5 n4 n3 n2 n1 n0 H0 H1 ∧ preb_283v n9 n8 n7 n6 H0) ∧ some q0 = some (mub_283v_11 n9 n8 n7 n6 n5 n4 n3 n2 n1 n0 H0 H1)) (f19 : n10 ≤ 40) (f20 : 0 ≤ n10) (f21 : n10 = hV H1 (n5).toNat 82) (f22 : n0 < n10) (f23 : n11 = 298) (f24 : n11 = hV H1 (n5).toNat 24) (f25 : n12 = 344) (f26 : n12 = hV H1 (n5).toNat 83) (f27 : n13 ≤ 1007) (f28 : 0 ≤ n13) (f29 : n13 = hV H1 (n12).toNat (n0).toNat) (f30 : n14 ≤ 5) (f31 : 0 ≤ n14) (f32 : n14 = hV H1 (n11).toNat (n13).toNat) (f33 : n14 = 0) (f34 : n15 = 334) (f35 : n15 = hV H1 (n5).toNat 72) (f36 : n16 = 300) (f37 : n16 = hV H1 (n5).toNat 26) (f38 : n17 = 344) (f39 : n17 = hV H1 (n5).toNat 83) (f40 : n18 ≤ 1007) (f41 : 0 ≤ n18) (f42 : n18 = hV H1 (n17).toNat (n0).toNat) (f43 : n19 ≤ 9999) (f44 : (-1) ≤ n19) (f45 : n19 = hV H1 (n16).toNat (n18).toNat) (f46 : n20 ≤ 2147483647) (f47 : 0 ≤ n20) (f48 : n20 = hV H1 (n15).toNat (n19).toNat) (f49 : n1 < n20) (f50 : n21 = 334) (f51 : n21 = hV H1 (n5).toNat 72) (f52 : n22 = 300) (f53 : n22 = hV H1 (n5).toNat 26) (f54 : n23 = 344) (f55 : n23 = hV H1 (n5).toNat 83) (f56 : n24 ≤ 1007) (f57 : 0 ≤ n24) (f58 : n24 = hV H1 (n23).toNat (n0).toNat) (f59 : n25 ≤ 9999) (f60 : (-1) ≤ n25) (f61 : n25 = hV H1 (n22).toNat (n24).toNat) (f62 : n26 ≤ 2147483647) (f63 : 0 ≤ n26) (f64 : n26 = hV H1 (n21).toNat (n25).toNat) (f65 : n27 = w32 (n0 + 1)) : Ab_283v_11 n9 n8 n7 n6 n5 n4 n3 n2 n26 n27 H0 H1 ∧ ∀ q, some q0 = some q → mub_283v_11 n9 n8 n7 n6 n5 n4 n3 n2 n26 n27 H0 H1 < q := by
  have g4 := f18.2.1.1
  unfold Ab_283v_11 at g4
  have g3 := f18.2.1.2
  unfold preb_283v at g3
  have g5 := Option.some.inj f18.2.2
  unfold mub_283v_11 at g5
  unfold Ab_283v_11
  unfold mub_283v_11
  have e0 : n10 = hV H1 285 82 := (by rw [f10] at f21; exact f21 : n10 = hV H1 285 82)
  have e1 : n13 = hV H1 344 (n0).toNat := (by rw [f25] at f29; exact f29 : n13 = hV H1 344 (n0).toNat)
  have e2 : hV H1 298 = hV H0 298 := fRow f18.1.2.1 298 kR_283v_298
  have e3 : n14 = hV H0 298 (n13).toNat := (by rw [f23] at f32; exact f32 : n14 = hV H1 298 (n13).toNat).trans ((congrFun e2 _))
  have e4 : n18 = hV H1 344 (n0).toNat := (by rw [f38] at f42; exact f42 : n18 = hV H1 344 (n0).toNat)
  have e5 : hV H1 300 = hV H0 300 := fRow f18.1.2.1 300 kR_283v_300
  have e6 : n19 = hV H0 300 (n18).toNat := (by rw [f36] at f45; exact f45 : n19 = hV H1 300 (n18).toNat).trans ((congrFun e5 _))
  have e7 : n20 = hV H1 334 (n19).toNat := (by rw [f34] at f48; exact f48 : n20 = hV H1 334 (n19).toNat)
  have e8 : n24 = hV H1 344 (n0).toNat := (by rw [f54] at f58; exact f58 : n24 = hV H1 344 (n0).toNat)
  have e9 : n25 = hV H0 300 (n24).toNat := (by rw [f52] at f61; exact f61 : n25 = hV H1 300 (n24).toNat).trans ((congrFun e5 _))
  have e10 : n26 = hV H1 334 (n25).toNat := (by rw [f50] at f64; exact f64 : n26 = hV H1 334 (n25).toNat)
  have e12 : hV H1 285 18 = hV H0 285 18 := (f18.1.2.1.1 285 18 kF_283v_285_18)
  have e14 : hV H1 285 64 = hV H0 285 64 := (f18.1.2.1.1 285 64 kF_283v_285_64)
  have e15 : hV H1 301 = hV H0 301 := fRow f18.1.2.1 301 kR_283v_301
  have e16 : hV H1 302 = hV H0 302 := fRow f18.1.2.1 302 kR_283v_302
  have e17 : hV H1 303 = hV H0 303 := fRow f18.1.2.1 303 kR_283v_303
  have e18 : hV H1 305 = hV H0 305 := fRow f18.1.2.1 305 kR_283v_305
  have e19 : hV H1 328 = hV H0 328 := fRow f18.1.2.1 328 kR_283v_328
  have e20 : hV H1 330 = hV H0 330 := fRow f18.1.2.1 330 kR_283v_330
  have e21 : hV H1 331 = hV H0 331 := fRow f18.1.2.1 331 kR_283v_331
  have e22 : hV H1 332 = hV H0 332 := fRow f18.1.2.1 332 kR_283v_332
  have e23 : hV H1 341 = hV H0 341 := fRow f18.1.2.1 341 kR_283v_341
  have e24 : (0 : Int) ≤ hV H0 285 18 ∧ hV H0 285 18 ≤ 8 := bTo e12 (f18.1.2.2 285 18 _ _ kW_285_18)
  have e25 : (0 : Int) ≤ hV H0 285 64 ∧ hV H0 285 64 ≤ 20 := bTo e14 (f18.1.2.2 285 64 _ _ kW_285_64)
  have e26 : (0 : Int) ≤ hV H1 285 65 ∧ hV H1 285 65 ≤ 2147483647 := f18.1.2.2 285 65 _ _ kW_285_65
  have e27 : (0 : Int) ≤ hV H1 285 82 ∧ hV H1 285 82 ≤ 40 := f18.1.2.2 285 82 _ _ kW_285_82
  try simp only [SO, SS, XQ]
  try simp only [e12, e14, e2, e5, e15, e16, e17, e18, e19, e20, e21, e22, e23]
  have k0 := g4.1
  have k1 := g4.2.1
  have k2 := g4.2.2.1
  have y0 := g4.2.2.2.1
  have y1 := g4.2.2.2.2.1
  have y2 := g4.2.2.2.2.2.1
  have y3 := g4.2.2.2.2.2.2.1
  have y4 := g4.2.2.2.2.2.2.2.1
  have y5 := g4.2.2.2.2.2.2.2.2.1
  have y6 := g4.2.2.2.2.2.2.2.2.2.1
  have y7 := g4.2.2.2.2.2.2.2.2.2.2
  have p0 := g3.1
  have p1 := g3.2.1
  have p2 := g3.2.2.1
  have p3 := g3.2.2.2.1
  have p4 := g3.2.2.2.2.1
  have p5 := g3.2.2.2.2.2.1
  have p6 := g3.2.2.2.2.2.2
  try simp only [XQ] at y0
  try simp only [SO] at y1
  try simp only [SS] at y2
  try simp only [SO] at p4
  try simp only [SS] at p5
  try simp only [e2, e5, e15, e16, e17, e18] at y0
  try simp only [e12, e14, e19, e20, e21, e22] at y1
  try simp only [e23] at y2
  clear g3
  clear g4
  clear f21 f24 f26 f29 f32 f35 f37 f39 f42 f45 f48 f51 f53 f55 f58 f61 f64 e2 e5 e12 e14 e15 e16 e17 e18 e19 e20 e21 e22 e23
  clear f18
  subst e0
  subst e1
  subst e3
  subst e4
  subst e6
  subst e7
  subst e8
  subst e9
  subst e10
  try have xg := XQp_g y0 (s := (n0).toNat) (by omega) (by omega)
  try have sg := SS_gen y2 (hV H0 300 (hV H1 344 (n0).toNat).toNat) (by omega) (by omega)
  first
  | (have ix0 : n27 = n0 + 1 := Eq.trans f65 (w32_iv (Iad (Iat f1 f0) (IC 1)) (by decide)); subst ix0; clear f65)
  | (have ix0 : n27 = n0 + 1 := Eq.trans f65 (w32_id (by omega) (by omega)); subst ix0; clear f65)
  | (unfold w32 at f65; have ix0 : n27 = n0 + 1 := (by omega); subst ix0)
  | skip
  try unfold w32 at f65

  refine ⟨?_, fun q hq => ?_⟩
  · exact ⟨by first | omega | trivial, by first | omega | trivial, by first | omega | trivial, y0, y1, y2, y3, y4, by omega, by omega, y7⟩
  · have g6 := Option.some.inj hq
    subst g6
    omega
def g_283v_11_14 : vG := ([(10, [27, 9], [], 1), (22, [26, 21, 25], [1], 0), (90, [26], [], 0), (91, [26], [], 2147483647), (22, [25, 22, 24], [1], 0), (90, [25], [], -1), (91, [25], [], 9999), (22, [24, 23, 9], [1], 0), (90, [24], [], 0), (91, [24], [], 1007), (20, [23, 4], [1], 83), (0, [23], [], 344), (20, [22, 4], [1], 26), (0, [22], [], 300), (20, [21, 4], [1], 72), (0, [21], [], 334), (44, [20, 8], [], 0), (22, [20, 15, 19], [1], 0), (90, [20], [], 0), (91, [20], [], 2147483647), (22, [19, 16, 18], [1], 0), (90, [19], [], -1), (91, [19], [], 9999), (22, [18, 17, 9], [1], 0), (90, [18], [], 0), (91, [18], [], 1007), (20, [17, 4], [1], 83), (0, [17], [], 344), (20, [16, 4], [1], 26), (0, [16], [], 300), (20, [15, 4], [1], 72), (0, [15], [], 334), (30, [14], [], 0), (22, [14, 11, 13], [1], 0), (90, [14], [], 0), (91, [14], [], 5), (22, [13, 12, 9], [1], 0), (90, [13], [], 0), (91, [13], [], 1007), (20, [12, 4], [1], 83), (0, [12], [], 344), (20, [11, 4], [1], 24), (0, [11], [], 298), (42, [9, 10], [], 0), (20, [10, 4], [1], 82), (90, [10], [], 0), (91, [10], [], 40), (5000, [0, 1, 2, 3, 4, 5, 6, 7, 8, 9], [0, 1], 11), (0, [0], [], 285), (90, [1], [], 0), (91, [1], [], 19), (90, [2], [], 0), (91, [2], [], 7), (90, [3], [], 0), (91, [3], [], 5), (0, [4], [], 285), (90, [5], [], 0), (91, [5], [], 19), (90, [6], [], 0), (91, [6], [], 7), (90, [7], [], 0), (91, [7], [], 5), (90, [8], [], 0), (91, [8], [], 2147483647), (90, [9], [], 0), (91, [9], [], 40)], (4000, [4, 5, 6, 7, 26, 27], [1], 11))
theorem c_283v_11_14 {q0 : Nat} : vOkm T0 (eP e_283v L_283v A_283v mu_283v (some q0)) 4 g_283v_11_14 := vOk_inI fun ρ η f0 f1 f2 f3 f4 f5 f6 f7 f8 f9 f10 f11 f12 f13 f14 f15 f16 f17 f18 f19 f20 f21 f22 f23 f24 f25 f26 f27 f28 f29 f30 f31 f32 f33 f34 f35 f36 f37 f38 f39 f40 f41 f42 f43 f44 f45 f46 f47 f48 f49 f50 f51 f52 f53 f54 f55 f56 f57 f58 f59 f60 f61 f62 f63 f64 f65 => q_283v_16 (q0 := q0) (n0 := ρ 9) (n1 := ρ 8) (n2 := ρ 7) (n3 := ρ 6) (n4 := ρ 5) (n5 := ρ 4) (n6 := ρ 3) (n7 := ρ 2) (n8 := ρ 1) (n9 := ρ 0) (n10 := ρ 10) (n11 := ρ 11) (n12 := ρ 12) (n13 := ρ 13) (n14 := ρ 14) (n15 := ρ 15) (n16 := ρ 16) (n17 := ρ 17) (n18 := ρ 18) (n19 := ρ 19) (n20 := ρ 20) (n21 := ρ 21) (n22 := ρ 22) (n23 := ρ 23) (n24 := ρ 24) (n25 := ρ 25) (n26 := ρ 26) (n27 := ρ 27) (H0 := η 0) (H1 := η 1) f65 f64 f63 f62 f61 f60 f59 f58 f57 f56 f55 f54 f53 f52 f51 f50 f49 f48 f47 f46 f45 f44 f43 f42 f41 f40 f39 f38 f37 f36 f35 f34 f33 f32 f31 f30 f29 f28 f27 f26 f25 f24 f23 f22 f21 f20 f19 f18 f17 f16 f15 f14 f13 f12 f11 f10 f9 f8 f7 f6 f5 f4 f3 f2 f1 f0
def p_283v_11 : List vG := [g_283v_11_0,
  g_283v_11_1,
  g_283v_11_2,
  g_283v_11_3,
  g_283v_11_4,
  g_283v_11_5,
  g_283v_11_6,
  g_283v_11_7,
  g_283v_11_8,
  g_283v_11_9,
  g_283v_11_10,
  g_283v_11_11,
  g_283v_11_12,
  g_283v_11_13,
  g_283v_11_14]
theorem r_283v_11 : vCovO false (eRc e_283v L_283v cs_283v 2000 (11, [(0, (3, 12, 285, 0)), (1, (0, 0, 19, 0)), (2, (0, 0, 7, 0)), (3, (0, 0, 5, 0)), (4, (0, 0, 2147483647, 0)), (5, (0, 0, 40, 0))])) p_283v_11 = true := by decide +kernel
theorem kR_283v_325 : vFreeR s_283v.2.2.2.2 325 = true := by decide +kernel
theorem q_283v_17 {q0 : Nat} {n0 n1 n2 n3 n4 n5 n6 n7 n8 n9 n10 n11 n12 n13 n14 n15 : Int} {H0 H1 : gH} (f0 : n0 ≤ 60) (f1 : 0 ≤ n0) (f2 : n1 ≤ 2147483647) (f3 : 0 ≤ n1) (f4 : n2 ≤ 5) (f5 : 0 ≤ n2) (f6 : n3 ≤ 7) (f7 : 0 ≤ n3) (f8 : n4 ≤ 19) (f9 : 0 ≤ n4) (f10 : n5 = 285) (f11 : n6 ≤ 5) (f12 : 0 ≤ n6) (f13 : n7 ≤ 7) (f14 : 0 ≤ n7) (f15 : n8 ≤ 19) (f16 : 0 ≤ n8) (f17 : n9 = 285) (f18 : (hLe T0 H0 H1 ∧ hFr s_283v.2.2.2.2 H0 H1 ∧ hWt T0 H1) ∧ (Ab_283v_85 n9 n8 n7 n6 n5 n4 n3 n2 n1 n0 H0 H1 ∧ preb_283v n9 n8 n7 n6 H0) ∧ some q0 = some (mub_283v_85 n9 n8 n7 n6 n5 n4 n3 n2 n1 n0 H0 H1)) (f19 : n10 = 325) (f20 : n10 = hV H1 (n5).toNat 61) (f21 : n11 ≤ 60) (f22 : 0 ≤ n11) (f23 : n11 = hV H1 (n10).toNat (n2).toNat) (f24 : n11 ≤ n0) (f25 : n12 = 4) (f26 : n13 = 325) (f27 : n13 = hV H1 (n5).toNat 61) (f28 : n14 ≤ 60) (f29 : 0 ≤ n14) (f30 : n14 = hV H1 (n13).toNat (n2).toNat) (f31 : n15 = w32 (n12 * n14)) : (-1) ≤ n15 := by
  have g4 := f18.2.1.1
  unfold Ab_283v_85 at g4
  have g3 := f18.2.1.2
  unfold preb_283v at g3
  have e1 : n11 = hV H0 325 (n2).toNat := (by rw [f19] at f23; exact f23 : n11 = hV H1 325 (n2).toNat).trans ((congrFun (fRow f18.1.2.1 325 kR_283v_325) _))
  have e2 : n14 = hV H0 325 (n2).toNat := (by rw [f26] at f30; exact f30 : n14 = hV H1 325 (n2).toNat).trans ((congrFun (fRow f18.1.2.1 325 kR_283v_325) _))
  have e4 : hV H1 285 18 = hV H0 285 18 := (f18.1.2.1.1 285 18 kF_283v_285_18)
  have e6 : hV H1 285 64 = hV H0 285 64 := (f18.1.2.1.1 285 64 kF_283v_285_64)
  have e7 : hV H1 298 = hV H0 298 := fRow f18.1.2.1 298 kR_283v_298
  have e8 : hV H1 300 = hV H0 300 := fRow f18.1.2.1 300 kR_283v_300
  have e9 : hV H1 301 = hV H0 301 := fRow f18.1.2.1 301 kR_283v_301
  have e10 : hV H1 302 = hV H0 302 := fRow f18.1.2.1 302 kR_283v_302
  have e11 : hV H1 303 = hV H0 303 := fRow f18.1.2.1 303 kR_283v_303
  have e12 : hV H1 305 = hV H0 305 := fRow f18.1.2.1 305 kR_283v_305
  have e13 : hV H1 328 = hV H0 328 := fRow f18.1.2.1 328 kR_283v_328
  have e14 : hV H1 330 = hV H0 330 := fRow f18.1.2.1 330 kR_283v_330
  have e15 : hV H1 331 = hV H0 331 := fRow f18.1.2.1 331 kR_283v_331
  have e16 : hV H1 332 = hV H0 332 := fRow f18.1.2.1 332 kR_283v_332
  have e17 : hV H1 341 = hV H0 341 := fRow f18.1.2.1 341 kR_283v_341
  have e18 : (0 : Int) ≤ hV H0 285 18 ∧ hV H0 285 18 ≤ 8 := bTo e4 (f18.1.2.2 285 18 _ _ kW_285_18)
  have e19 : (0 : Int) ≤ hV H0 285 64 ∧ hV H0 285 64 ≤ 20 := bTo e6 (f18.1.2.2 285 64 _ _ kW_285_64)
  have e20 : (0 : Int) ≤ hV H1 285 65 ∧ hV H1 285 65 ≤ 2147483647 := f18.1.2.2 285 65 _ _ kW_285_65
  have e21 : (0 : Int) ≤ hV H1 285 82 ∧ hV H1 285 82 ≤ 40 := f18.1.2.2 285 82 _ _ kW_285_82
  try simp only [SO, SS, XQ]
  have k0 := g4.1
  have k1 := g4.2.1
  have k2 := g4.2.2.1
  have y0 := g4.2.2.2.1
  have y1 := g4.2.2.2.2.1
  have y2 := g4.2.2.2.2.2.1
  have y3 := g4.2.2.2.2.2.2.1
  have y4 := g4.2.2.2.2.2.2.2.1
  have y5 := g4.2.2.2.2.2.2.2.2.1
  have y6 := g4.2.2.2.2.2.2.2.2.2.1
  have y7 := g4.2.2.2.2.2.2.2.2.2.2
  have p0 := g3.1
  have p1 := g3.2.1
  have p2 := g3.2.2.1
  have p3 := g3.2.2.2.1
  have p4 := g3.2.2.2.2.1
  have p5 := g3.2.2.2.2.2.1
  have p6 := g3.2.2.2.2.2.2
  try simp only [XQ] at y0
  try simp only [SO] at y1
  try simp only [SS] at y2
  try simp only [SO] at p4
  try simp only [SS] at p5
  try simp only [e7, e8, e9, e10, e11, e12] at y0
  try simp only [e4, e6, e13, e14, e15, e16] at y1
  try simp only [e17] at y2
  clear g3
  clear g4
  clear f20 f23 f27 f30 e4 e6 e7 e8 e9 e10 e11 e12 e13 e14 e15 e16 e17
  clear f18
  subst e1
  subst e2
  rw [f25] at f31
  first
  | (have ix0 : n15 = 4 * (hV H0 325 (n2).toNat) := Eq.trans f31 (w32_iv (Iml 4 rfl (Iat f22 f21)) (by decide)); subst ix0; clear f31)
  | (have ix0 : n15 = 4 * (hV H0 325 (n2).toNat) := Eq.trans f31 (w32_id (by omega) (by omega)); subst ix0; clear f31)
  | (unfold w32 at f31; have ix0 : n15 = 4 * (hV H0 325 (n2).toNat) := (by omega); subst ix0)
  | skip
  try unfold w32 at f31
  try subst k2
  try subst k1
  try subst k0
  omega
def g_283v_85_0 : vG := ([(3, [16, 13, 15], [], 0), (22, [15, 14, 7], [1], 0), (90, [15], [], 0), (91, [15], [], 60), (20, [14, 4], [1], 61), (0, [14], [], 325), (0, [13], [], 4), (43, [9, 11], [], 0), (22, [11, 10, 7], [1], 0), (90, [11], [], 0), (91, [11], [], 60), (20, [10, 4], [1], 61), (0, [10], [], 325), (5000, [0, 1, 2, 3, 4, 5, 6, 7, 8, 9], [0, 1], 85), (0, [0], [], 285), (90, [1], [], 0), (91, [1], [], 19), (90, [2], [], 0), (91, [2], [], 7), (90, [3], [], 0), (91, [3], [], 5), (0, [4], [], 285), (90, [5], [], 0), (91, [5], [], 19), (90, [6], [], 0), (91, [6], [], 7), (90, [7], [], 0), (91, [7], [], 5), (90, [8], [], 0), (91, [8], [], 2147483647), (90, [9], [], 0), (91, [9], [], 60)], (90, [16], [], -1))
theorem c_283v_85_0 {q0 : Nat} : vOkm T0 (eP e_283v L_283v A_283v mu_283v (some q0)) 4 g_283v_85_0 := vOk_inI fun ρ η f0 f1 f2 f3 f4 f5 f6 f7 f8 f9 f10 f11 f12 f13 f14 f15 f16 f17 f18 f19 f20 f21 f22 f23 f24 f25 f26 f27 f28 f29 f30 f31 => q_283v_17 (q0 := q0) (n0 := ρ 9) (n1 := ρ 8) (n2 := ρ 7) (n3 := ρ 6) (n4 := ρ 5) (n5 := ρ 4) (n6 := ρ 3) (n7 := ρ 2) (n8 := ρ 1) (n9 := ρ 0) (n10 := ρ 10) (n11 := ρ 11) (n12 := ρ 13) (n13 := ρ 14) (n14 := ρ 15) (n15 := ρ 16) (H0 := η 0) (H1 := η 1) f31 f30 f29 f28 f27 f26 f25 f24 f23 f22 f21 f20 f19 f18 f17 f16 f15 f14 f13 f12 f11 f10 f9 f8 f7 f6 f5 f4 f3 f2 f1 f0
theorem q_283v_18 {q0 : Nat} {n0 n1 n2 n3 n4 n5 n6 n7 n8 n9 n10 n11 n12 n13 n14 n15 : Int} {H0 H1 : gH} (f0 : n0 ≤ 60) (f1 : 0 ≤ n0) (f2 : n1 ≤ 2147483647) (f3 : 0 ≤ n1) (f4 : n2 ≤ 5) (f5 : 0 ≤ n2) (f6 : n3 ≤ 7) (f7 : 0 ≤ n3) (f8 : n4 ≤ 19) (f9 : 0 ≤ n4) (f10 : n5 = 285) (f11 : n6 ≤ 5) (f12 : 0 ≤ n6) (f13 : n7 ≤ 7) (f14 : 0 ≤ n7) (f15 : n8 ≤ 19) (f16 : 0 ≤ n8) (f17 : n9 = 285) (f18 : (hLe T0 H0 H1 ∧ hFr s_283v.2.2.2.2 H0 H1 ∧ hWt T0 H1) ∧ (Ab_283v_85 n9 n8 n7 n6 n5 n4 n3 n2 n1 n0 H0 H1 ∧ preb_283v n9 n8 n7 n6 H0) ∧ some q0 = some (mub_283v_85 n9 n8 n7 n6 n5 n4 n3 n2 n1 n0 H0 H1)) (f19 : n10 = 325) (f20 : n10 = hV H1 (n5).toNat 61) (f21 : n11 ≤ 60) (f22 : 0 ≤ n11) (f23 : n11 = hV H1 (n10).toNat (n2).toNat) (f24 : n11 ≤ n0) (f25 : n12 = 4) (f26 : n13 = 325) (f27 : n13 = hV H1 (n5).toNat 61) (f28 : n14 ≤ 60) (f29 : 0 ≤ n14) (f30 : n14 = hV H1 (n13).toNat (n2).toNat) (f31 : n15 = w32 (n12 * n14)) : n15 ≤ 240 := by
  have g4 := f18.2.1.1
  unfold Ab_283v_85 at g4
  have g3 := f18.2.1.2
  unfold preb_283v at g3
  have e1 : n11 = hV H0 325 (n2).toNat := (by rw [f19] at f23; exact f23 : n11 = hV H1 325 (n2).toNat).trans ((congrFun (fRow f18.1.2.1 325 kR_283v_325) _))
  have e2 : n14 = hV H0 325 (n2).toNat := (by rw [f26] at f30; exact f30 : n14 = hV H1 325 (n2).toNat).trans ((congrFun (fRow f18.1.2.1 325 kR_283v_325) _))
  have e4 : hV H1 285 18 = hV H0 285 18 := (f18.1.2.1.1 285 18 kF_283v_285_18)
  have e6 : hV H1 285 64 = hV H0 285 64 := (f18.1.2.1.1 285 64 kF_283v_285_64)
  have e7 : hV H1 298 = hV H0 298 := fRow f18.1.2.1 298 kR_283v_298
  have e8 : hV H1 300 = hV H0 300 := fRow f18.1.2.1 300 kR_283v_300
  have e9 : hV H1 301 = hV H0 301 := fRow f18.1.2.1 301 kR_283v_301
  have e10 : hV H1 302 = hV H0 302 := fRow f18.1.2.1 302 kR_283v_302
  have e11 : hV H1 303 = hV H0 303 := fRow f18.1.2.1 303 kR_283v_303
  have e12 : hV H1 305 = hV H0 305 := fRow f18.1.2.1 305 kR_283v_305
  have e13 : hV H1 328 = hV H0 328 := fRow f18.1.2.1 328 kR_283v_328
  have e14 : hV H1 330 = hV H0 330 := fRow f18.1.2.1 330 kR_283v_330
  have e15 : hV H1 331 = hV H0 331 := fRow f18.1.2.1 331 kR_283v_331
  have e16 : hV H1 332 = hV H0 332 := fRow f18.1.2.1 332 kR_283v_332
  have e17 : hV H1 341 = hV H0 341 := fRow f18.1.2.1 341 kR_283v_341
  have e18 : (0 : Int) ≤ hV H0 285 18 ∧ hV H0 285 18 ≤ 8 := bTo e4 (f18.1.2.2 285 18 _ _ kW_285_18)
  have e19 : (0 : Int) ≤ hV H0 285 64 ∧ hV H0 285 64 ≤ 20 := bTo e6 (f18.1.2.2 285 64 _ _ kW_285_64)
  have e20 : (0 : Int) ≤ hV H1 285 65 ∧ hV H1 285 65 ≤ 2147483647 := f18.1.2.2 285 65 _ _ kW_285_65
  have e21 : (0 : Int) ≤ hV H1 285 82 ∧ hV H1 285 82 ≤ 40 := f18.1.2.2 285 82 _ _ kW_285_82
  try simp only [SO, SS, XQ]
  have k0 := g4.1
  have k1 := g4.2.1
  have k2 := g4.2.2.1
  have y0 := g4.2.2.2.1
  have y1 := g4.2.2.2.2.1
  have y2 := g4.2.2.2.2.2.1
  have y3 := g4.2.2.2.2.2.2.1
  have y4 := g4.2.2.2.2.2.2.2.1
  have y5 := g4.2.2.2.2.2.2.2.2.1
  have y6 := g4.2.2.2.2.2.2.2.2.2.1
  have y7 := g4.2.2.2.2.2.2.2.2.2.2
  have p0 := g3.1
  have p1 := g3.2.1
  have p2 := g3.2.2.1
  have p3 := g3.2.2.2.1
  have p4 := g3.2.2.2.2.1
  have p5 := g3.2.2.2.2.2.1
  have p6 := g3.2.2.2.2.2.2
  try simp only [XQ] at y0
  try simp only [SO] at y1
  try simp only [SS] at y2
  try simp only [SO] at p4
  try simp only [SS] at p5
  try simp only [e7, e8, e9, e10, e11, e12] at y0
  try simp only [e4, e6, e13, e14, e15, e16] at y1
  try simp only [e17] at y2
  clear g3
  clear g4
  clear f20 f23 f27 f30 e4 e6 e7 e8 e9 e10 e11 e12 e13 e14 e15 e16 e17
  clear f18
  subst e1
  subst e2
  rw [f25] at f31
  first
  | (have ix0 : n15 = 4 * (hV H0 325 (n2).toNat) := Eq.trans f31 (w32_iv (Iml 4 rfl (Iat f22 f21)) (by decide)); subst ix0; clear f31)
  | (have ix0 : n15 = 4 * (hV H0 325 (n2).toNat) := Eq.trans f31 (w32_id (by omega) (by omega)); subst ix0; clear f31)
  | (unfold w32 at f31; have ix0 : n15 = 4 * (hV H0 325 (n2).toNat) := (by omega); subst ix0)
  | skip
  try unfold w32 at f31
  try subst k2
  try subst k1
  try subst k0
  omega
def g_283v_85_1 : vG := ([(3, [16, 13, 15], [], 0), (22, [15, 14, 7], [1], 0), (90, [15], [], 0), (91, [15], [], 60), (20, [14, 4], [1], 61), (0, [14], [], 325), (0, [13], [], 4), (43, [9, 11], [], 0), (22, [11, 10, 7], [1], 0), (90, [11], [], 0), (91, [11], [], 60), (20, [10, 4], [1], 61), (0, [10], [], 325), (5000, [0, 1, 2, 3, 4, 5, 6, 7, 8, 9], [0, 1], 85), (0, [0], [], 285), (90, [1], [], 0), (91, [1], [], 19), (90, [2], [], 0), (91, [2], [], 7), (90, [3], [], 0), (91, [3], [], 5), (0, [4], [], 285), (90, [5], [], 0), (91, [5], [], 19), (90, [6], [], 0), (91, [6], [], 7), (90, [7], [], 0), (91, [7], [], 5), (90, [8], [], 0), (91, [8], [], 2147483647), (90, [9], [], 0), (91, [9], [], 60)], (91, [16], [], 240))
theorem c_283v_85_1 {q0 : Nat} : vOkm T0 (eP e_283v L_283v A_283v mu_283v (some q0)) 4 g_283v_85_1 := vOk_inI fun ρ η f0 f1 f2 f3 f4 f5 f6 f7 f8 f9 f10 f11 f12 f13 f14 f15 f16 f17 f18 f19 f20 f21 f22 f23 f24 f25 f26 f27 f28 f29 f30 f31 => q_283v_18 (q0 := q0) (n0 := ρ 9) (n1 := ρ 8) (n2 := ρ 7) (n3 := ρ 6) (n4 := ρ 5) (n5 := ρ 4) (n6 := ρ 3) (n7 := ρ 2) (n8 := ρ 1) (n9 := ρ 0) (n10 := ρ 10) (n11 := ρ 11) (n12 := ρ 13) (n13 := ρ 14) (n14 := ρ 15) (n15 := ρ 16) (H0 := η 0) (H1 := η 1) f31 f30 f29 f28 f27 f26 f25 f24 f23 f22 f21 f20 f19 f18 f17 f16 f15 f14 f13 f12 f11 f10 f9 f8 f7 f6 f5 f4 f3 f2 f1 f0
theorem q_283v_19 {q0 : Nat} {n0 n1 n2 n3 n4 n5 n6 n7 n8 n9 n10 n11 n12 n13 n14 n15 n16 n17 : Int} {H0 H1 : gH} (f0 : n0 ≤ 60) (f1 : 0 ≤ n0) (f2 : n1 ≤ 2147483647) (f3 : 0 ≤ n1) (f4 : n2 ≤ 5) (f5 : 0 ≤ n2) (f6 : n3 ≤ 7) (f7 : 0 ≤ n3) (f8 : n4 ≤ 19) (f9 : 0 ≤ n4) (f10 : n5 = 285) (f11 : n6 ≤ 5) (f12 : 0 ≤ n6) (f13 : n7 ≤ 7) (f14 : 0 ≤ n7) (f15 : n8 ≤ 19) (f16 : 0 ≤ n8) (f17 : n9 = 285) (f18 : (hLe T0 H0 H1 ∧ hFr s_283v.2.2.2.2 H0 H1 ∧ hWt T0 H1) ∧ (Ab_283v_85 n9 n8 n7 n6 n5 n4 n3 n2 n1 n0 H0 H1 ∧ preb_283v n9 n8 n7 n6 H0) ∧ some q0 = some (mub_283v_85 n9 n8 n7 n6 n5 n4 n3 n2 n1 n0 H0 H1)) (f19 : n10 = 325) (f20 : n10 = hV H1 (n5).toNat 61) (f21 : n11 ≤ 60) (f22 : 0 ≤ n11) (f23 : n11 = hV H1 (n10).toNat (n2).toNat) (f24 : n11 ≤ n0) (f25 : n12 = 4) (f26 : n13 = 325) (f27 : n13 = hV H1 (n5).toNat 61) (f28 : n14 ≤ 60) (f29 : 0 ≤ n14) (f30 : n14 = hV H1 (n13).toNat (n2).toNat) (f31 : n15 = w32 (n12 * n14)) (f32 : n16 = 1) (f33 : n17 = w32 (n1 + n16)) : 0 ≤ n17 := by
  have g4 := f18.2.1.1
  unfold Ab_283v_85 at g4
  have g3 := f18.2.1.2
  unfold preb_283v at g3
  have e1 : n11 = hV H0 325 (n2).toNat := (by rw [f19] at f23; exact f23 : n11 = hV H1 325 (n2).toNat).trans ((congrFun (fRow f18.1.2.1 325 kR_283v_325) _))
  have e2 : n14 = hV H0 325 (n2).toNat := (by rw [f26] at f30; exact f30 : n14 = hV H1 325 (n2).toNat).trans ((congrFun (fRow f18.1.2.1 325 kR_283v_325) _))
  have e4 : hV H1 285 18 = hV H0 285 18 := (f18.1.2.1.1 285 18 kF_283v_285_18)
  have e6 : hV H1 285 64 = hV H0 285 64 := (f18.1.2.1.1 285 64 kF_283v_285_64)
  have e7 : hV H1 298 = hV H0 298 := fRow f18.1.2.1 298 kR_283v_298
  have e8 : hV H1 300 = hV H0 300 := fRow f18.1.2.1 300 kR_283v_300
  have e9 : hV H1 301 = hV H0 301 := fRow f18.1.2.1 301 kR_283v_301
  have e10 : hV H1 302 = hV H0 302 := fRow f18.1.2.1 302 kR_283v_302
  have e11 : hV H1 303 = hV H0 303 := fRow f18.1.2.1 303 kR_283v_303
  have e12 : hV H1 305 = hV H0 305 := fRow f18.1.2.1 305 kR_283v_305
  have e13 : hV H1 328 = hV H0 328 := fRow f18.1.2.1 328 kR_283v_328
  have e14 : hV H1 330 = hV H0 330 := fRow f18.1.2.1 330 kR_283v_330
  have e15 : hV H1 331 = hV H0 331 := fRow f18.1.2.1 331 kR_283v_331
  have e16 : hV H1 332 = hV H0 332 := fRow f18.1.2.1 332 kR_283v_332
  have e17 : hV H1 341 = hV H0 341 := fRow f18.1.2.1 341 kR_283v_341
  have e18 : (0 : Int) ≤ hV H0 285 18 ∧ hV H0 285 18 ≤ 8 := bTo e4 (f18.1.2.2 285 18 _ _ kW_285_18)
  have e19 : (0 : Int) ≤ hV H0 285 64 ∧ hV H0 285 64 ≤ 20 := bTo e6 (f18.1.2.2 285 64 _ _ kW_285_64)
  have e20 : (0 : Int) ≤ hV H1 285 65 ∧ hV H1 285 65 ≤ 2147483647 := f18.1.2.2 285 65 _ _ kW_285_65
  have e21 : (0 : Int) ≤ hV H1 285 82 ∧ hV H1 285 82 ≤ 40 := f18.1.2.2 285 82 _ _ kW_285_82
  try simp only [SO, SS, XQ]
  have k0 := g4.1
  have k1 := g4.2.1
  have k2 := g4.2.2.1
  have y0 := g4.2.2.2.1
  have y1 := g4.2.2.2.2.1
  have y2 := g4.2.2.2.2.2.1
  have y3 := g4.2.2.2.2.2.2.1
  have y4 := g4.2.2.2.2.2.2.2.1
  have y5 := g4.2.2.2.2.2.2.2.2.1
  have y6 := g4.2.2.2.2.2.2.2.2.2.1
  have y7 := g4.2.2.2.2.2.2.2.2.2.2
  have p0 := g3.1
  have p1 := g3.2.1
  have p2 := g3.2.2.1
  have p3 := g3.2.2.2.1
  have p4 := g3.2.2.2.2.1
  have p5 := g3.2.2.2.2.2.1
  have p6 := g3.2.2.2.2.2.2
  try simp only [XQ] at y0
  try simp only [SO] at y1
  try simp only [SS] at y2
  try simp only [SO] at p4
  try simp only [SS] at p5
  try simp only [e7, e8, e9, e10, e11, e12] at y0
  try simp only [e4, e6, e13, e14, e15, e16] at y1
  try simp only [e17] at y2
  clear g3
  clear g4
  clear f20 f23 f27 f30 e4 e6 e7 e8 e9 e10 e11 e12 e13 e14 e15 e16 e17
  clear f18
  subst e1
  subst e2
  rw [f25] at f31
  first
  | (have ix0 : n17 = n1 + 1 := Eq.trans f33 (w32_id (by omega) (by omega)); subst ix0; clear f33)
  | (unfold w32 at f33; have ix0 : n17 = n1 + 1 := (by omega); subst ix0)
  | skip
  try unfold w32 at f31
  try unfold w32 at f33
  try subst k2
  try subst k1
  try subst k0
  omega
def g_283v_85_2 : vG := ([(1, [19, 8, 18], [], 0), (0, [18], [], 1), (3, [16, 13, 15], [], 0), (22, [15, 14, 7], [1], 0), (90, [15], [], 0), (91, [15], [], 60), (20, [14, 4], [1], 61), (0, [14], [], 325), (0, [13], [], 4), (43, [9, 11], [], 0), (22, [11, 10, 7], [1], 0), (90, [11], [], 0), (91, [11], [], 60), (20, [10, 4], [1], 61), (0, [10], [], 325), (5000, [0, 1, 2, 3, 4, 5, 6, 7, 8, 9], [0, 1], 85), (0, [0], [], 285), (90, [1], [], 0), (91, [1], [], 19), (90, [2], [], 0), (91, [2], [], 7), (90, [3], [], 0), (91, [3], [], 5), (0, [4], [], 285), (90, [5], [], 0), (91, [5], [], 19), (90, [6], [], 0), (91, [6], [], 7), (90, [7], [], 0), (91, [7], [], 5), (90, [8], [], 0), (91, [8], [], 2147483647), (90, [9], [], 0), (91, [9], [], 60)], (90, [19], [], 0))
theorem c_283v_85_2 {q0 : Nat} : vOkm T0 (eP e_283v L_283v A_283v mu_283v (some q0)) 4 g_283v_85_2 := vOk_inI fun ρ η f0 f1 f2 f3 f4 f5 f6 f7 f8 f9 f10 f11 f12 f13 f14 f15 f16 f17 f18 f19 f20 f21 f22 f23 f24 f25 f26 f27 f28 f29 f30 f31 f32 f33 => q_283v_19 (q0 := q0) (n0 := ρ 9) (n1 := ρ 8) (n2 := ρ 7) (n3 := ρ 6) (n4 := ρ 5) (n5 := ρ 4) (n6 := ρ 3) (n7 := ρ 2) (n8 := ρ 1) (n9 := ρ 0) (n10 := ρ 10) (n11 := ρ 11) (n12 := ρ 13) (n13 := ρ 14) (n14 := ρ 15) (n15 := ρ 16) (n16 := ρ 18) (n17 := ρ 19) (H0 := η 0) (H1 := η 1) f33 f32 f31 f30 f29 f28 f27 f26 f25 f24 f23 f22 f21 f20 f19 f18 f17 f16 f15 f14 f13 f12 f11 f10 f9 f8 f7 f6 f5 f4 f3 f2 f1 f0
theorem q_283v_20 {q0 : Nat} {n0 n1 n2 n3 n4 n5 n6 n7 n8 n9 n10 n11 n12 n13 n14 n15 n16 n17 : Int} {H0 H1 : gH} (f0 : n0 ≤ 60) (f1 : 0 ≤ n0) (f2 : n1 ≤ 2147483647) (f3 : 0 ≤ n1) (f4 : n2 ≤ 5) (f5 : 0 ≤ n2) (f6 : n3 ≤ 7) (f7 : 0 ≤ n3) (f8 : n4 ≤ 19) (f9 : 0 ≤ n4) (f10 : n5 = 285) (f11 : n6 ≤ 5) (f12 : 0 ≤ n6) (f13 : n7 ≤ 7) (f14 : 0 ≤ n7) (f15 : n8 ≤ 19) (f16 : 0 ≤ n8) (f17 : n9 = 285) (f18 : (hLe T0 H0 H1 ∧ hFr s_283v.2.2.2.2 H0 H1 ∧ hWt T0 H1) ∧ (Ab_283v_85 n9 n8 n7 n6 n5 n4 n3 n2 n1 n0 H0 H1 ∧ preb_283v n9 n8 n7 n6 H0) ∧ some q0 = some (mub_283v_85 n9 n8 n7 n6 n5 n4 n3 n2 n1 n0 H0 H1)) (f19 : n10 = 325) (f20 : n10 = hV H1 (n5).toNat 61) (f21 : n11 ≤ 60) (f22 : 0 ≤ n11) (f23 : n11 = hV H1 (n10).toNat (n2).toNat) (f24 : n11 ≤ n0) (f25 : n12 = 4) (f26 : n13 = 325) (f27 : n13 = hV H1 (n5).toNat 61) (f28 : n14 ≤ 60) (f29 : 0 ≤ n14) (f30 : n14 = hV H1 (n13).toNat (n2).toNat) (f31 : n15 = w32 (n12 * n14)) (f32 : n16 = 1) (f33 : n17 = w32 (n1 + n16)) : n17 ≤ 2147483647 := by
  have g4 := f18.2.1.1
  unfold Ab_283v_85 at g4
  have g3 := f18.2.1.2
  unfold preb_283v at g3
  have e1 : n11 = hV H0 325 (n2).toNat := (by rw [f19] at f23; exact f23 : n11 = hV H1 325 (n2).toNat).trans ((congrFun (fRow f18.1.2.1 325 kR_283v_325) _))
  have e2 : n14 = hV H0 325 (n2).toNat := (by rw [f26] at f30; exact f30 : n14 = hV H1 325 (n2).toNat).trans ((congrFun (fRow f18.1.2.1 325 kR_283v_325) _))
  have e4 : hV H1 285 18 = hV H0 285 18 := (f18.1.2.1.1 285 18 kF_283v_285_18)
  have e6 : hV H1 285 64 = hV H0 285 64 := (f18.1.2.1.1 285 64 kF_283v_285_64)
  have e7 : hV H1 298 = hV H0 298 := fRow f18.1.2.1 298 kR_283v_298
  have e8 : hV H1 300 = hV H0 300 := fRow f18.1.2.1 300 kR_283v_300
  have e9 : hV H1 301 = hV H0 301 := fRow f18.1.2.1 301 kR_283v_301
  have e10 : hV H1 302 = hV H0 302 := fRow f18.1.2.1 302 kR_283v_302
  have e11 : hV H1 303 = hV H0 303 := fRow f18.1.2.1 303 kR_283v_303
  have e12 : hV H1 305 = hV H0 305 := fRow f18.1.2.1 305 kR_283v_305
  have e13 : hV H1 328 = hV H0 328 := fRow f18.1.2.1 328 kR_283v_328
  have e14 : hV H1 330 = hV H0 330 := fRow f18.1.2.1 330 kR_283v_330
  have e15 : hV H1 331 = hV H0 331 := fRow f18.1.2.1 331 kR_283v_331
  have e16 : hV H1 332 = hV H0 332 := fRow f18.1.2.1 332 kR_283v_332
  have e17 : hV H1 341 = hV H0 341 := fRow f18.1.2.1 341 kR_283v_341
  have e18 : (0 : Int) ≤ hV H0 285 18 ∧ hV H0 285 18 ≤ 8 := bTo e4 (f18.1.2.2 285 18 _ _ kW_285_18)
  have e19 : (0 : Int) ≤ hV H0 285 64 ∧ hV H0 285 64 ≤ 20 := bTo e6 (f18.1.2.2 285 64 _ _ kW_285_64)
  have e20 : (0 : Int) ≤ hV H1 285 65 ∧ hV H1 285 65 ≤ 2147483647 := f18.1.2.2 285 65 _ _ kW_285_65
  have e21 : (0 : Int) ≤ hV H1 285 82 ∧ hV H1 285 82 ≤ 40 := f18.1.2.2 285 82 _ _ kW_285_82
  try simp only [SO, SS, XQ]
  have k0 := g4.1
  have k1 := g4.2.1
  have k2 := g4.2.2.1
  have y0 := g4.2.2.2.1
  have y1 := g4.2.2.2.2.1
  have y2 := g4.2.2.2.2.2.1
  have y3 := g4.2.2.2.2.2.2.1
  have y4 := g4.2.2.2.2.2.2.2.1
  have y5 := g4.2.2.2.2.2.2.2.2.1
  have y6 := g4.2.2.2.2.2.2.2.2.2.1
  have y7 := g4.2.2.2.2.2.2.2.2.2.2
  have p0 := g3.1
  have p1 := g3.2.1
  have p2 := g3.2.2.1
  have p3 := g3.2.2.2.1
  have p4 := g3.2.2.2.2.1
  have p5 := g3.2.2.2.2.2.1
  have p6 := g3.2.2.2.2.2.2
  try simp only [XQ] at y0
  try simp only [SO] at y1
  try simp only [SS] at y2
  try simp only [SO] at p4
  try simp only [SS] at p5
  try simp only [e7, e8, e9, e10, e11, e12] at y0
  try simp only [e4, e6, e13, e14, e15, e16] at y1
  try simp only [e17] at y2
  clear g3
  clear g4
  clear f20 f23 f27 f30 e4 e6 e7 e8 e9 e10 e11 e12 e13 e14 e15 e16 e17
  clear f18
  subst e1
  subst e2
  rw [f25] at f31
  first
  | (have ix0 : n17 = n1 + 1 := Eq.trans f33 (w32_id (by omega) (by omega)); subst ix0; clear f33)
  | (unfold w32 at f33; have ix0 : n17 = n1 + 1 := (by omega); subst ix0)
  | skip
  try unfold w32 at f31
  try unfold w32 at f33
  try subst k2
  try subst k1
  try subst k0
  omega
def g_283v_85_3 : vG := ([(1, [19, 8, 18], [], 0), (0, [18], [], 1), (3, [16, 13, 15], [], 0), (22, [15, 14, 7], [1], 0), (90, [15], [], 0), (91, [15], [], 60), (20, [14, 4], [1], 61), (0, [14], [], 325), (0, [13], [], 4), (43, [9, 11], [], 0), (22, [11, 10, 7], [1], 0), (90, [11], [], 0), (91, [11], [], 60), (20, [10, 4], [1], 61), (0, [10], [], 325), (5000, [0, 1, 2, 3, 4, 5, 6, 7, 8, 9], [0, 1], 85), (0, [0], [], 285), (90, [1], [], 0), (91, [1], [], 19), (90, [2], [], 0), (91, [2], [], 7), (90, [3], [], 0), (91, [3], [], 5), (0, [4], [], 285), (90, [5], [], 0), (91, [5], [], 19), (90, [6], [], 0), (91, [6], [], 7), (90, [7], [], 0), (91, [7], [], 5), (90, [8], [], 0), (91, [8], [], 2147483647), (90, [9], [], 0), (91, [9], [], 60)], (91, [19], [], 2147483647))
theorem c_283v_85_3 {q0 : Nat} : vOkm T0 (eP e_283v L_283v A_283v mu_283v (some q0)) 4 g_283v_85_3 := vOk_inI fun ρ η f0 f1 f2 f3 f4 f5 f6 f7 f8 f9 f10 f11 f12 f13 f14 f15 f16 f17 f18 f19 f20 f21 f22 f23 f24 f25 f26 f27 f28 f29 f30 f31 f32 f33 => q_283v_20 (q0 := q0) (n0 := ρ 9) (n1 := ρ 8) (n2 := ρ 7) (n3 := ρ 6) (n4 := ρ 5) (n5 := ρ 4) (n6 := ρ 3) (n7 := ρ 2) (n8 := ρ 1) (n9 := ρ 0) (n10 := ρ 10) (n11 := ρ 11) (n12 := ρ 13) (n13 := ρ 14) (n14 := ρ 15) (n15 := ρ 16) (n16 := ρ 18) (n17 := ρ 19) (H0 := η 0) (H1 := η 1) f33 f32 f31 f30 f29 f28 f27 f26 f25 f24 f23 f22 f21 f20 f19 f18 f17 f16 f15 f14 f13 f12 f11 f10 f9 f8 f7 f6 f5 f4 f3 f2 f1 f0
theorem q_283v_21 {q0 : Nat} {n0 n1 n2 n3 n4 n5 n6 n7 n8 n9 n10 n11 n12 n13 n14 n15 n16 n17 n18 n19 n20 n21 : Int} {H0 H1 H2 H3 H4 H5 : gH} (f0 : n0 ≤ 60) (f1 : 0 ≤ n0) (f2 : n1 ≤ 2147483647) (f3 : 0 ≤ n1) (f4 : n2 ≤ 5) (f5 : 0 ≤ n2) (f6 : n3 ≤ 7) (f7 : 0 ≤ n3) (f8 : n4 ≤ 19) (f9 : 0 ≤ n4) (f10 : n5 = 285) (f11 : n6 ≤ 5) (f12 : 0 ≤ n6) (f13 : n7 ≤ 7) (f14 : 0 ≤ n7) (f15 : n8 ≤ 19) (f16 : 0 ≤ n8) (f17 : n9 = 285) (f18 : (hLe T0 H0 H1 ∧ hFr s_283v.2.2.2.2 H0 H1 ∧ hWt T0 H1) ∧ (Ab_283v_85 n9 n8 n7 n6 n5 n4 n3 n2 n1 n0 H0 H1 ∧ preb_283v n9 n8 n7 n6 H0) ∧ some q0 = some (mub_283v_85 n9 n8 n7 n6 n5 n4 n3 n2 n1 n0 H0 H1)) (f19 : n10 = 325) (f20 : n10 = hV H1 (n5).toNat 61) (f21 : n11 ≤ 60) (f22 : 0 ≤ n11) (f23 : n11 = hV H1 (n10).toNat (n2).toNat) (f24 : n11 ≤ n0) (f25 : n12 = 329) (f26 : n12 = hV H1 (n5).toNat 67) (f27 : n13 = 4) (f28 : n14 = 325) (f29 : n14 = hV H1 (n5).toNat 61) (f30 : n15 ≤ 60) (f31 : 0 ≤ n15) (f32 : n15 = hV H1 (n14).toNat (n2).toNat) (f33 : n16 = w32 (n13 * n15)) (f34 : hUpd H2 H1 n12 n4 n16) (f35 : n17 = 334) (f36 : n17 = hV H2 (n5).toNat 72) (f37 : n18 = 1) (f38 : n19 = w32 (n1 + n18)) (f39 : hUpd H3 H2 n17 n4 n19) (f40 : n20 = 335) (f41 : n20 = hV H3 (n5).toNat 73) (f42 : hUpd H4 H3 n20 n4 n3) (f43 : n21 = 336) (f44 : n21 = hV H4 (n5).toNat 74) (f45 : hUpd H5 H4 n21 n4 n2) : preb_258 n5 n4 H5 := by
  have g4 := f18.2.1.1
  unfold Ab_283v_85 at g4
  have g3 := f18.2.1.2
  unfold preb_283v at g3
  unfold preb_258
  have e1 : n11 = hV H0 325 (n2).toNat := (by rw [f19] at f23; exact f23 : n11 = hV H1 325 (n2).toNat).trans ((congrFun (fRow f18.1.2.1 325 kR_283v_325) _))
  have e2 : n15 = hV H0 325 (n2).toNat := (by rw [f28] at f32; exact f32 : n15 = hV H1 325 (n2).toNat).trans ((congrFun (fRow f18.1.2.1 325 kR_283v_325) _))
  have e4 : hV H1 285 18 = hV H0 285 18 := (f18.1.2.1.1 285 18 kF_283v_285_18)
  have e6 : hV H1 285 64 = hV H0 285 64 := (f18.1.2.1.1 285 64 kF_283v_285_64)
  have e7 : hV H1 298 = hV H0 298 := fRow f18.1.2.1 298 kR_283v_298
  have e8 : hV H1 300 = hV H0 300 := fRow f18.1.2.1 300 kR_283v_300
  have e9 : hV H1 301 = hV H0 301 := fRow f18.1.2.1 301 kR_283v_301
  have e10 : hV H1 302 = hV H0 302 := fRow f18.1.2.1 302 kR_283v_302
  have e11 : hV H1 303 = hV H0 303 := fRow f18.1.2.1 303 kR_283v_303
  have e12 : hV H1 305 = hV H0 305 := fRow f18.1.2.1 305 kR_283v_305
  have e13 : hV H1 328 = hV H0 328 := fRow f18.1.2.1 328 kR_283v_328
  have e14 : hV H1 330 = hV H0 330 := fRow f18.1.2.1 330 kR_283v_330
  have e15 : hV H1 331 = hV H0 331 := fRow f18.1.2.1 331 kR_283v_331
  have e16 : hV H1 332 = hV H0 332 := fRow f18.1.2.1 332 kR_283v_332
  have e17 : hV H1 341 = hV H0 341 := fRow f18.1.2.1 341 kR_283v_341
  have e22 : hV H5 285 65 = hV H1 285 65 := ((uPlace f45 285 65 (iS (show n21 = ((336 : Nat) : Int) from f43) rfl))).trans (((uPlace f42 285 65 (iS (show n20 = ((335 : Nat) : Int) from f40) rfl))).trans (((uPlace f39 285 65 (iS (show n17 = ((334 : Nat) : Int) from f35) rfl))).trans (uPlace f34 285 65 (iS (show n12 = ((329 : Nat) : Int) from f25) rfl))))
  have e29 : hV H5 333 = hV H1 333 := (uRowNe f45 333 (iS (show n21 = ((336 : Nat) : Int) from f43) rfl)).trans ((uRowNe f42 333 (iS (show n20 = ((335 : Nat) : Int) from f40) rfl)).trans ((uRowNe f39 333 (iS (show n17 = ((334 : Nat) : Int) from f35) rfl)).trans (uRowNe f34 333 (iS (show n12 = ((329 : Nat) : Int) from f25) rfl))))
  have e36 : hV H5 334 = (uF (hV H1 334) n4 n19) := (uRowNe f45 334 (iS (show n21 = ((336 : Nat) : Int) from f43) rfl)).trans ((uRowNe f42 334 (iS (show n20 = ((335 : Nat) : Int) from f40) rfl)).trans ((uRow f39 334 f35.symm).trans (congrArg (fun z => uF z n4 n19) (uRowNe f34 334 (iS (show n12 = ((329 : Nat) : Int) from f25) rfl)))))
  have e44 : hV H5 341 = hV H0 341 := (uRowNe f45 341 (iS (show n21 = ((336 : Nat) : Int) from f43) rfl)).trans ((uRowNe f42 341 (iS (show n20 = ((335 : Nat) : Int) from f40) rfl)).trans ((uRowNe f39 341 (iS (show n17 = ((334 : Nat) : Int) from f35) rfl)).trans ((uRowNe f34 341 (iS (show n12 = ((329 : Nat) : Int) from f25) rfl)).trans e17)))
  have e45 : (0 : Int) ≤ hV H0 285 18 ∧ hV H0 285 18 ≤ 8 := bTo e4 (f18.1.2.2 285 18 _ _ kW_285_18)
  have e46 : (0 : Int) ≤ hV H0 285 64 ∧ hV H0 285 64 ≤ 20 := bTo e6 (f18.1.2.2 285 64 _ _ kW_285_64)
  have e47 : (0 : Int) ≤ hV H1 285 65 ∧ hV H1 285 65 ≤ 2147483647 := f18.1.2.2 285 65 _ _ kW_285_65
  have e48 : (0 : Int) ≤ hV H1 285 82 ∧ hV H1 285 82 ≤ 40 := f18.1.2.2 285 82 _ _ kW_285_82
  try simp only [SO, SS, XQ]
  try simp only [e22, e29, e36, e44]
  have k0 := g4.1
  have k1 := g4.2.1
  have k2 := g4.2.2.1
  have y0 := g4.2.2.2.1
  have y1 := g4.2.2.2.2.1
  have y2 := g4.2.2.2.2.2.1
  have y3 := g4.2.2.2.2.2.2.1
  have y4 := g4.2.2.2.2.2.2.2.1
  have y5 := g4.2.2.2.2.2.2.2.2.1
  have y6 := g4.2.2.2.2.2.2.2.2.2.1
  have y7 := g4.2.2.2.2.2.2.2.2.2.2
  have p0 := g3.1
  have p1 := g3.2.1
  have p2 := g3.2.2.1
  have p3 := g3.2.2.2.1
  have p4 := g3.2.2.2.2.1
  have p5 := g3.2.2.2.2.2.1
  have p6 := g3.2.2.2.2.2.2
  try simp only [XQ] at y0
  try simp only [SO] at y1
  try simp only [SS] at y2
  try simp only [SO] at p4
  try simp only [SS] at p5
  try simp only [e7, e8, e9, e10, e11, e12] at y0
  try simp only [e4, e6, e13, e14, e15, e16] at y1
  try simp only [e17] at y2
  clear g3
  clear g4
  clear f20 f23 f26 f29 f32 f36 f41 f44 e4 e6 e7 e8 e9 e10 e11 e12 e13 e14 e15 e16 e17 e22 e29 e36 e44
  clear f18
  subst e1
  subst e2
  rw [f27] at f33
  first
  | (have ix0 : n16 = 4 * (hV H0 325 (n2).toNat) := Eq.trans f33 (w32_iv (Iml 4 rfl (Iat f22 f21)) (by decide)); subst ix0; clear f33)
  | (have ix0 : n16 = 4 * (hV H0 325 (n2).toNat) := Eq.trans f33 (w32_id (by omega) (by omega)); subst ix0; clear f33)
  | (unfold w32 at f33; have ix0 : n16 = 4 * (hV H0 325 (n2).toNat) := (by omega); subst ix0)
  | skip
  first
  | (have ix1 : n19 = n1 + 1 := Eq.trans f38 (w32_id (by omega) (by omega)); subst ix1; clear f38)
  | (unfold w32 at f38; have ix1 : n19 = n1 + 1 := (by omega); subst ix1)
  | skip
  try unfold w32 at f33
  try unfold w32 at f38

  exact ⟨by omega, SSp_gen y2 (by omega)⟩
def g_283v_85_4 : vG := ([(80, [21, 5, 7], [5, 4], 0), (20, [21, 4], [4], 74), (0, [21], [], 336), (80, [20, 5, 6], [4, 3], 0), (20, [20, 4], [3], 73), (0, [20], [], 335), (80, [17, 5, 19], [3, 2], 0), (1, [19, 8, 18], [], 0), (0, [18], [], 1), (20, [17, 4], [2], 72), (0, [17], [], 334), (80, [12, 5, 16], [2, 1], 0), (3, [16, 13, 15], [], 0), (22, [15, 14, 7], [1], 0), (90, [15], [], 0), (91, [15], [], 60), (20, [14, 4], [1], 61), (0, [14], [], 325), (0, [13], [], 4), (20, [12, 4], [1], 67), (0, [12], [], 329), (43, [9, 11], [], 0), (22, [11, 10, 7], [1], 0), (90, [11], [], 0), (91, [11], [], 60), (20, [10, 4], [1], 61), (0, [10], [], 325), (5000, [0, 1, 2, 3, 4, 5, 6, 7, 8, 9], [0, 1], 85), (0, [0], [], 285), (90, [1], [], 0), (91, [1], [], 19), (90, [2], [], 0), (91, [2], [], 7), (90, [3], [], 0), (91, [3], [], 5), (0, [4], [], 285), (90, [5], [], 0), (91, [5], [], 19), (90, [6], [], 0), (91, [6], [], 7), (90, [7], [], 0), (91, [7], [], 5), (90, [8], [], 0), (91, [8], [], 2147483647), (90, [9], [], 0), (91, [9], [], 60)], (2258, [4, 5], [5], 0))
theorem c_283v_85_4 {q0 : Nat} : vOkm T0 (eP e_283v L_283v A_283v mu_283v (some q0)) 4 g_283v_85_4 := vOk_inI fun ρ η f0 f1 f2 f3 f4 f5 f6 f7 f8 f9 f10 f11 f12 f13 f14 f15 f16 f17 f18 f19 f20 f21 f22 f23 f24 f25 f26 f27 f28 f29 f30 f31 f32 f33 f34 f35 f36 f37 f38 f39 f40 f41 f42 f43 f44 f45 => q_283v_21 (q0 := q0) (n0 := ρ 9) (n1 := ρ 8) (n2 := ρ 7) (n3 := ρ 6) (n4 := ρ 5) (n5 := ρ 4) (n6 := ρ 3) (n7 := ρ 2) (n8 := ρ 1) (n9 := ρ 0) (n10 := ρ 10) (n11 := ρ 11) (n12 := ρ 12) (n13 := ρ 13) (n14 := ρ 14) (n15 := ρ 15) (n16 := ρ 16) (n17 := ρ 17) (n18 := ρ 18) (n19 := ρ 19) (n20 := ρ 20) (n21 := ρ 21) (H0 := η 0) (H1 := η 1) (H2 := η 2) (H3 := η 3) (H4 := η 4) (H5 := η 5) f45 f44 f43 f42 f41 f40 f39 f38 f37 f36 f35 f34 f33 f32 f31 f30 f29 f28 f27 f26 f25 f24 f23 f22 f21 f20 f19 f18 f17 f16 f15 f14 f13 f12 f11 f10 f9 f8 f7 f6 f5 f4 f3 f2 f1 f0
theorem kR_258_329 : vFreeR s_258.2.2.2.2 329 = true := by decide +kernel
theorem q_283v_22 {q0 : Nat} {n0 n1 n2 n3 n4 n5 n6 n7 n8 n9 n10 n11 n12 n13 n14 n15 n16 n17 n18 n19 n20 n21 n22 n23 : Int} {H0 H1 H2 H3 H4 H5 H6 : gH} (f0 : n0 ≤ 60) (f1 : 0 ≤ n0) (f2 : n1 ≤ 2147483647) (f3 : 0 ≤ n1) (f4 : n2 ≤ 5) (f5 : 0 ≤ n2) (f6 : n3 ≤ 7) (f7 : 0 ≤ n3) (f8 : n4 ≤ 19) (f9 : 0 ≤ n4) (f10 : n5 = 285) (f11 : n6 ≤ 5) (f12 : 0 ≤ n6) (f13 : n7 ≤ 7) (f14 : 0 ≤ n7) (f15 : n8 ≤ 19) (f16 : 0 ≤ n8) (f17 : n9 = 285) (f18 : (hLe T0 H0 H1 ∧ hFr s_283v.2.2.2.2 H0 H1 ∧ hWt T0 H1) ∧ (Ab_283v_85 n9 n8 n7 n6 n5 n4 n3 n2 n1 n0 H0 H1 ∧ preb_283v n9 n8 n7 n6 H0) ∧ some q0 = some (mub_283v_85 n9 n8 n7 n6 n5 n4 n3 n2 n1 n0 H0 H1)) (f19 : n10 = 325) (f20 : n10 = hV H1 (n5).toNat 61) (f21 : n11 ≤ 60) (f22 : 0 ≤ n11) (f23 : n11 = hV H1 (n10).toNat (n2).toNat) (f24 : n11 ≤ n0) (f25 : n12 = 329) (f26 : n12 = hV H1 (n5).toNat 67) (f27 : n13 = 4) (f28 : n14 = 325) (f29 : n14 = hV H1 (n5).toNat 61) (f30 : n15 ≤ 60) (f31 : 0 ≤ n15) (f32 : n15 = hV H1 (n14).toNat (n2).toNat) (f33 : n16 = w32 (n13 * n15)) (f34 : hUpd H2 H1 n12 n4 n16) (f35 : n17 = 334) (f36 : n17 = hV H2 (n5).toNat 72) (f37 : n18 = 1) (f38 : n19 = w32 (n1 + n18)) (f39 : hUpd H3 H2 n17 n4 n19) (f40 : n20 = 335) (f41 : n20 = hV H3 (n5).toNat 73) (f42 : hUpd H4 H3 n20 n4 n3) (f43 : n21 = 336) (f44 : n21 = hV H4 (n5).toNat 74) (f45 : hUpd H5 H4 n21 n4 n2) (f46 : (hLe T0 H5 H6 ∧ hFr s_258.2.2.2.2 H5 H6 ∧ ((0 : Int) = 0 → H6.length = H5.length) ∧ hWt T0 H6) ∧ postb_258 n5 n4 H5 H6) (f47 : n22 = 333) (f48 : n22 = hV H6 (n5).toNat 71) (f49 : n23 ≤ 2147483647) (f50 : 0 ≤ n23) (f51 : n23 = hV H6 (n22).toNat (n4).toNat) : postb_283v n23 n9 n8 n7 n6 H0 H6 := by
  have g4 := f18.2.1.1
  unfold Ab_283v_85 at g4
  have g3 := f18.2.1.2
  unfold preb_283v at g3
  unfold postb_258 at f46
  unfold postb_283v
  have e1 : n11 = hV H0 325 (n2).toNat := (by rw [f19] at f23; exact f23 : n11 = hV H1 325 (n2).toNat).trans ((congrFun (fRow f18.1.2.1 325 kR_283v_325) _))
  have e2 : n15 = hV H0 325 (n2).toNat := (by rw [f28] at f32; exact f32 : n15 = hV H1 325 (n2).toNat).trans ((congrFun (fRow f18.1.2.1 325 kR_283v_325) _))
  have e3 : n23 = hV H6 333 (n4).toNat := (by rw [f47] at f51; exact f51 : n23 = hV H6 333 (n4).toNat)
  have e5 : hV H1 285 18 = hV H0 285 18 := (f18.1.2.1.1 285 18 kF_283v_285_18)
  have e7 : hV H1 285 64 = hV H0 285 64 := (f18.1.2.1.1 285 64 kF_283v_285_64)
  have e8 : hV H1 298 = hV H0 298 := fRow f18.1.2.1 298 kR_283v_298
  have e9 : hV H1 300 = hV H0 300 := fRow f18.1.2.1 300 kR_283v_300
  have e10 : hV H1 301 = hV H0 301 := fRow f18.1.2.1 301 kR_283v_301
  have e11 : hV H1 302 = hV H0 302 := fRow f18.1.2.1 302 kR_283v_302
  have e12 : hV H1 303 = hV H0 303 := fRow f18.1.2.1 303 kR_283v_303
  have e13 : hV H1 305 = hV H0 305 := fRow f18.1.2.1 305 kR_283v_305
  have e14 : hV H1 328 = hV H0 328 := fRow f18.1.2.1 328 kR_283v_328
  have e15 : hV H1 330 = hV H0 330 := fRow f18.1.2.1 330 kR_283v_330
  have e16 : hV H1 331 = hV H0 331 := fRow f18.1.2.1 331 kR_283v_331
  have e17 : hV H1 332 = hV H0 332 := fRow f18.1.2.1 332 kR_283v_332
  have e18 : hV H1 341 = hV H0 341 := fRow f18.1.2.1 341 kR_283v_341
  have e23 : hV H5 285 65 = hV H1 285 65 := ((uPlace f45 285 65 (iS (show n21 = ((336 : Nat) : Int) from f43) rfl))).trans (((uPlace f42 285 65 (iS (show n20 = ((335 : Nat) : Int) from f40) rfl))).trans (((uPlace f39 285 65 (iS (show n17 = ((334 : Nat) : Int) from f35) rfl))).trans (uPlace f34 285 65 (iS (show n12 = ((329 : Nat) : Int) from f25) rfl))))
  have e30 : hV H5 333 = hV H1 333 := (uRowNe f45 333 (iS (show n21 = ((336 : Nat) : Int) from f43) rfl)).trans ((uRowNe f42 333 (iS (show n20 = ((335 : Nat) : Int) from f40) rfl)).trans ((uRowNe f39 333 (iS (show n17 = ((334 : Nat) : Int) from f35) rfl)).trans (uRowNe f34 333 (iS (show n12 = ((329 : Nat) : Int) from f25) rfl))))
  have e36 : hV H6 285 18 = hV H0 285 18 := ((f46.1.2.1.1 285 18 kF_258_285_18)).trans (((uPlace f45 285 18 (iS (show n21 = ((336 : Nat) : Int) from f43) rfl))).trans (((uPlace f42 285 18 (iS (show n20 = ((335 : Nat) : Int) from f40) rfl))).trans (((uPlace f39 285 18 (iS (show n17 = ((334 : Nat) : Int) from f35) rfl))).trans (((uPlace f34 285 18 (iS (show n12 = ((329 : Nat) : Int) from f25) rfl))).trans (f18.1.2.1.1 285 18 kF_283v_285_18)))))
  have e42 : hV H6 285 64 = hV H0 285 64 := ((f46.1.2.1.1 285 64 kF_258_285_64)).trans (((uPlace f45 285 64 (iS (show n21 = ((336 : Nat) : Int) from f43) rfl))).trans (((uPlace f42 285 64 (iS (show n20 = ((335 : Nat) : Int) from f40) rfl))).trans (((uPlace f39 285 64 (iS (show n17 = ((334 : Nat) : Int) from f35) rfl))).trans (((uPlace f34 285 64 (iS (show n12 = ((329 : Nat) : Int) from f25) rfl))).trans (f18.1.2.1.1 285 64 kF_283v_285_64)))))
  have e52 : hV H6 328 = hV H0 328 := (fRow f46.1.2.1 328 kR_258_328).trans ((uRowNe f45 328 (iS (show n21 = ((336 : Nat) : Int) from f43) rfl)).trans ((uRowNe f42 328 (iS (show n20 = ((335 : Nat) : Int) from f40) rfl)).trans ((uRowNe f39 328 (iS (show n17 = ((334 : Nat) : Int) from f35) rfl)).trans ((uRowNe f34 328 (iS (show n12 = ((329 : Nat) : Int) from f25) rfl)).trans e14))))
  have e61 : hV H6 329 = (uF (hV H1 329) n4 n16) := (fRow f46.1.2.1 329 kR_258_329).trans ((uRowNe f45 329 (iS (show n21 = ((336 : Nat) : Int) from f43) rfl)).trans ((uRowNe f42 329 (iS (show n20 = ((335 : Nat) : Int) from f40) rfl)).trans ((uRowNe f39 329 (iS (show n17 = ((334 : Nat) : Int) from f35) rfl)).trans (uRow f34 329 f25.symm))))
  have e71 : hV H6 330 = hV H0 330 := (fRow f46.1.2.1 330 kR_258_330).trans ((uRowNe f45 330 (iS (show n21 = ((336 : Nat) : Int) from f43) rfl)).trans ((uRowNe f42 330 (iS (show n20 = ((335 : Nat) : Int) from f40) rfl)).trans ((uRowNe f39 330 (iS (show n17 = ((334 : Nat) : Int) from f35) rfl)).trans ((uRowNe f34 330 (iS (show n12 = ((329 : Nat) : Int) from f25) rfl)).trans e15))))
  have e81 : hV H6 331 = hV H0 331 := (fRow f46.1.2.1 331 kR_258_331).trans ((uRowNe f45 331 (iS (show n21 = ((336 : Nat) : Int) from f43) rfl)).trans ((uRowNe f42 331 (iS (show n20 = ((335 : Nat) : Int) from f40) rfl)).trans ((uRowNe f39 331 (iS (show n17 = ((334 : Nat) : Int) from f35) rfl)).trans ((uRowNe f34 331 (iS (show n12 = ((329 : Nat) : Int) from f25) rfl)).trans e16))))
  have e91 : hV H6 332 = hV H0 332 := (fRow f46.1.2.1 332 kR_258_332).trans ((uRowNe f45 332 (iS (show n21 = ((336 : Nat) : Int) from f43) rfl)).trans ((uRowNe f42 332 (iS (show n20 = ((335 : Nat) : Int) from f40) rfl)).trans ((uRowNe f39 332 (iS (show n17 = ((334 : Nat) : Int) from f35) rfl)).trans ((uRowNe f34 332 (iS (show n12 = ((329 : Nat) : Int) from f25) rfl)).trans e17))))
  have e100 : hV H6 334 = (uF (hV H1 334) n4 n19) := (fRow f46.1.2.1 334 kR_258_334).trans ((uRowNe f45 334 (iS (show n21 = ((336 : Nat) : Int) from f43) rfl)).trans ((uRowNe f42 334 (iS (show n20 = ((335 : Nat) : Int) from f40) rfl)).trans ((uRow f39 334 f35.symm).trans (congrArg (fun z => uF z n4 n19) (uRowNe f34 334 (iS (show n12 = ((329 : Nat) : Int) from f25) rfl))))))
  have e109 : hV H6 335 = (uF (hV H1 335) n4 n3) := (fRow f46.1.2.1 335 kR_258_335).trans ((uRowNe f45 335 (iS (show n21 = ((336 : Nat) : Int) from f43) rfl)).trans ((uRow f42 335 f40.symm).trans (congrArg (fun z => uF z n4 n3) ((uRowNe f39 335 (iS (show n17 = ((334 : Nat) : Int) from f35) rfl)).trans (uRowNe f34 335 (iS (show n12 = ((329 : Nat) : Int) from f25) rfl))))))
  have e118 : hV H6 336 = (uF (hV H1 336) n4 n2) := (fRow f46.1.2.1 336 kR_258_336).trans ((uRow f45 336 f43.symm).trans (congrArg (fun z => uF z n4 n2) ((uRowNe f42 336 (iS (show n20 = ((335 : Nat) : Int) from f40) rfl)).trans ((uRowNe f39 336 (iS (show n17 = ((334 : Nat) : Int) from f35) rfl)).trans (uRowNe f34 336 (iS (show n12 = ((329 : Nat) : Int) from f25) rfl))))))
  have e128 : hV H6 341 = hV H0 341 := (fRow f46.1.2.1 341 kR_258_341).trans ((uRowNe f45 341 (iS (show n21 = ((336 : Nat) : Int) from f43) rfl)).trans ((uRowNe f42 341 (iS (show n20 = ((335 : Nat) : Int) from f40) rfl)).trans ((uRowNe f39 341 (iS (show n17 = ((334 : Nat) : Int) from f35) rfl)).trans ((uRowNe f34 341 (iS (show n12 = ((329 : Nat) : Int) from f25) rfl)).trans e18))))
  have e129 : (0 : Int) ≤ hV H0 285 18 ∧ hV H0 285 18 ≤ 8 := bTo e5 (f18.1.2.2 285 18 _ _ kW_285_18)
  have e130 : (0 : Int) ≤ hV H0 285 64 ∧ hV H0 285 64 ≤ 20 := bTo e7 (f18.1.2.2 285 64 _ _ kW_285_64)
  have e131 : (0 : Int) ≤ hV H1 285 65 ∧ hV H1 285 65 ≤ 2147483647 := f18.1.2.2 285 65 _ _ kW_285_65
  have e132 : (0 : Int) ≤ hV H1 285 82 ∧ hV H1 285 82 ≤ 40 := f18.1.2.2 285 82 _ _ kW_285_82
  have e135 : (0 : Int) ≤ hV H6 285 65 ∧ hV H6 285 65 ≤ 2147483647 := f46.1.2.2.2 285 65 _ _ kW_285_65
  try simp only [SO, SS, XQ]
  try simp only [e36, e42, e52, e61, e71, e81, e91, e100, e109, e118, e128]
  have k0 := g4.1
  have k1 := g4.2.1
  have k2 := g4.2.2.1
  have y0 := g4.2.2.2.1
  have y1 := g4.2.2.2.2.1
  have y2 := g4.2.2.2.2.2.1
  have y3 := g4.2.2.2.2.2.2.1
  have y4 := g4.2.2.2.2.2.2.2.1
  have y5 := g4.2.2.2.2.2.2.2.2.1
  have y6 := g4.2.2.2.2.2.2.2.2.2.1
  have y7 := g4.2.2.2.2.2.2.2.2.2.2
  have p0 := g3.1
  have p1 := g3.2.1
  have p2 := g3.2.2.1
  have p3 := g3.2.2.2.1
  have p4 := g3.2.2.2.2.1
  have p5 := g3.2.2.2.2.2.1
  have p6 := g3.2.2.2.2.2.2
  have r0_0 := f46.2.1
  have r0_1 := f46.2.2.1
  have r0_2 := f46.2.2.2
  try simp only [XQ] at y0
  try simp only [SO] at y1
  try simp only [SS] at y2
  try simp only [SO] at p4
  try simp only [SS] at p5
  try simp only [SS] at r0_0
  try simp only [e8, e9, e10, e11, e12, e13] at y0
  try simp only [e5, e7, e14, e15, e16, e17] at y1
  try simp only [e18] at y2
  try simp only [e100, e128] at r0_0
  try simp only [e23] at r0_1
  try simp only [e30] at r0_2
  clear g3
  clear g4
  clear f20 f23 f26 f29 f32 f36 f41 f44 f48 f51 e5 e7 e8 e9 e10 e11 e12 e13 e14 e15 e16 e17 e18 e23 e30 e36 e42 e52 e61 e71 e81 e91 e100 e109 e118 e128
  clear f18 f46
  subst e1
  subst e2
  subst e3
  rw [f27] at f33
  first
  | (have ix0 : n16 = 4 * (hV H0 325 (n2).toNat) := Eq.trans f33 (w32_iv (Iml 4 rfl (Iat f22 f21)) (by decide)); subst ix0; clear f33)
  | (have ix0 : n16 = 4 * (hV H0 325 (n2).toNat) := Eq.trans f33 (w32_id (by omega) (by omega)); subst ix0; clear f33)
  | (unfold w32 at f33; have ix0 : n16 = 4 * (hV H0 325 (n2).toNat) := (by omega); subst ix0)
  | skip
  first
  | (have ix1 : n19 = n1 + 1 := Eq.trans f38 (w32_id (by omega) (by omega)); subst ix1; clear f38)
  | (unfold w32 at f38; have ix1 : n19 = n1 + 1 := (by omega); subst ix1)
  | skip
  try unfold w32 at f33
  try unfold w32 at f38

  try subst k2
  try subst k1
  try subst k0
  refine ⟨SOp_make y1 (by omega) (by omega) (by omega) (by omega), r0_0, by omega, ?_, ?_, ?_⟩
  · rw [r0_2, y3]
    try first | rfl | (congr 1; omega) | (congr 1 <;> omega)
  · first | (rw [y4]; done) | rfl | (rw [y4]) | (simp only [y4])
  · intro k hk
    try rw [uF_at, if_neg (by omega)]
    rw [y7]
def g_283v_85_5 : vG := ([(22, [23, 22, 5], [6], 0), (90, [23], [], 0), (91, [23], [], 2147483647), (20, [22, 4], [6], 71), (0, [22], [], 333), (1258, [4, 5], [5, 6], 0), (80, [21, 5, 7], [5, 4], 0), (20, [21, 4], [4], 74), (0, [21], [], 336), (80, [20, 5, 6], [4, 3], 0), (20, [20, 4], [3], 73), (0, [20], [], 335), (80, [17, 5, 19], [3, 2], 0), (1, [19, 8, 18], [], 0), (0, [18], [], 1), (20, [17, 4], [2], 72), (0, [17], [], 334), (80, [12, 5, 16], [2, 1], 0), (3, [16, 13, 15], [], 0), (22, [15, 14, 7], [1], 0), (90, [15], [], 0), (91, [15], [], 60), (20, [14, 4], [1], 61), (0, [14], [], 325), (0, [13], [], 4), (20, [12, 4], [1], 67), (0, [12], [], 329), (43, [9, 11], [], 0), (22, [11, 10, 7], [1], 0), (90, [11], [], 0), (91, [11], [], 60), (20, [10, 4], [1], 61), (0, [10], [], 325), (5000, [0, 1, 2, 3, 4, 5, 6, 7, 8, 9], [0, 1], 85), (0, [0], [], 285), (90, [1], [], 0), (91, [1], [], 19), (90, [2], [], 0), (91, [2], [], 7), (90, [3], [], 0), (91, [3], [], 5), (0, [4], [], 285), (90, [5], [], 0), (91, [5], [], 19), (90, [6], [], 0), (91, [6], [], 7), (90, [7], [], 0), (91, [7], [], 5), (90, [8], [], 0), (91, [8], [], 2147483647), (90, [9], [], 0), (91, [9], [], 60)], (3000, [23], [6], 221))
theorem c_283v_85_5 {q0 : Nat} : vOkm T0 (eP e_283v L_283v A_283v mu_283v (some q0)) 4 g_283v_85_5 := vOk_inI fun ρ η f0 f1 f2 f3 f4 f5 f6 f7 f8 f9 f10 f11 f12 f13 f14 f15 f16 f17 f18 f19 f20 f21 f22 f23 f24 f25 f26 f27 f28 f29 f30 f31 f32 f33 f34 f35 f36 f37 f38 f39 f40 f41 f42 f43 f44 f45 f46 f47 f48 f49 f50 f51 => q_283v_22 (q0 := q0) (n0 := ρ 9) (n1 := ρ 8) (n2 := ρ 7) (n3 := ρ 6) (n4 := ρ 5) (n5 := ρ 4) (n6 := ρ 3) (n7 := ρ 2) (n8 := ρ 1) (n9 := ρ 0) (n10 := ρ 10) (n11 := ρ 11) (n12 := ρ 12) (n13 := ρ 13) (n14 := ρ 14) (n15 := ρ 15) (n16 := ρ 16) (n17 := ρ 17) (n18 := ρ 18) (n19 := ρ 19) (n20 := ρ 20) (n21 := ρ 21) (n22 := ρ 22) (n23 := ρ 23) (H0 := η 0) (H1 := η 1) (H2 := η 2) (H3 := η 3) (H4 := η 4) (H5 := η 5) (H6 := η 6) f51 f50 f49 f48 f47 f46 f45 f44 f43 f42 f41 f40 f39 f38 f37 f36 f35 f34 f33 f32 f31 f30 f29 f28 f27 f26 f25 f24 f23 f22 f21 f20 f19 f18 f17 f16 f15 f14 f13 f12 f11 f10 f9 f8 f7 f6 f5 f4 f3 f2 f1 f0
theorem q_283v_23 {q0 : Nat} {n0 n1 n2 n3 n4 n5 n6 n7 n8 n9 n10 n11 : Int} {H0 H1 : gH} (f0 : n0 ≤ 60) (f1 : 0 ≤ n0) (f2 : n1 ≤ 2147483647) (f3 : 0 ≤ n1) (f4 : n2 ≤ 5) (f5 : 0 ≤ n2) (f6 : n3 ≤ 7) (f7 : 0 ≤ n3) (f8 : n4 ≤ 19) (f9 : 0 ≤ n4) (f10 : n5 = 285) (f11 : n6 ≤ 5) (f12 : 0 ≤ n6) (f13 : n7 ≤ 7) (f14 : 0 ≤ n7) (f15 : n8 ≤ 19) (f16 : 0 ≤ n8) (f17 : n9 = 285) (f18 : (hLe T0 H0 H1 ∧ hFr s_283v.2.2.2.2 H0 H1 ∧ hWt T0 H1) ∧ (Ab_283v_85 n9 n8 n7 n6 n5 n4 n3 n2 n1 n0 H0 H1 ∧ preb_283v n9 n8 n7 n6 H0) ∧ some q0 = some (mub_283v_85 n9 n8 n7 n6 n5 n4 n3 n2 n1 n0 H0 H1)) (f19 : n10 = 325) (f20 : n10 = hV H1 (n5).toNat 61) (f21 : n11 ≤ 60) (f22 : 0 ≤ n11) (f23 : n11 = hV H1 (n10).toNat (n2).toNat) (f24 : n0 < n11) : n0 ≤ 59 := by
  have g4 := f18.2.1.1
  unfold Ab_283v_85 at g4
  have g3 := f18.2.1.2
  unfold preb_283v at g3
  have e1 : n11 = hV H0 325 (n2).toNat := (by rw [f19] at f23; exact f23 : n11 = hV H1 325 (n2).toNat).trans ((congrFun (fRow f18.1.2.1 325 kR_283v_325) _))
  have e3 : hV H1 285 18 = hV H0 285 18 := (f18.1.2.1.1 285 18 kF_283v_285_18)
  have e5 : hV H1 285 64 = hV H0 285 64 := (f18.1.2.1.1 285 64 kF_283v_285_64)
  have e6 : hV H1 298 = hV H0 298 := fRow f18.1.2.1 298 kR_283v_298
  have e7 : hV H1 300 = hV H0 300 := fRow f18.1.2.1 300 kR_283v_300
  have e8 : hV H1 301 = hV H0 301 := fRow f18.1.2.1 301 kR_283v_301
  have e9 : hV H1 302 = hV H0 302 := fRow f18.1.2.1 302 kR_283v_302
  have e10 : hV H1 303 = hV H0 303 := fRow f18.1.2.1 303 kR_283v_303
  have e11 : hV H1 305 = hV H0 305 := fRow f18.1.2.1 305 kR_283v_305
  have e12 : hV H1 328 = hV H0 328 := fRow f18.1.2.1 328 kR_283v_328
  have e13 : hV H1 330 = hV H0 330 := fRow f18.1.2.1 330 kR_283v_330
  have e14 : hV H1 331 = hV H0 331 := fRow f18.1.2.1 331 kR_283v_331
  have e15 : hV H1 332 = hV H0 332 := fRow f18.1.2.1 332 kR_283v_332
  have e16 : hV H1 341 = hV H0 341 := fRow f18.1.2.1 341 kR_283v_341
  have e17 : (0 : Int) ≤ hV H0 285 18 ∧ hV H0 285 18 ≤ 8 := bTo e3 (f18.1.2.2 285 18 _ _ kW_285_18)
  have e18 : (0 : Int) ≤ hV H0 285 64 ∧ hV H0 285 64 ≤ 20 := bTo e5 (f18.1.2.2 285 64 _ _ kW_285_64)
  have e19 : (0 : Int) ≤ hV H1 285 65 ∧ hV H1 285 65 ≤ 2147483647 := f18.1.2.2 285 65 _ _ kW_285_65
  have e20 : (0 : Int) ≤ hV H1 285 82 ∧ hV H1 285 82 ≤ 40 := f18.1.2.2 285 82 _ _ kW_285_82
  try simp only [SO, SS, XQ]
  have k0 := g4.1
  have k1 := g4.2.1
  have k2 := g4.2.2.1
  have y0 := g4.2.2.2.1
  have y1 := g4.2.2.2.2.1
  have y2 := g4.2.2.2.2.2.1
  have y3 := g4.2.2.2.2.2.2.1
  have y4 := g4.2.2.2.2.2.2.2.1
  have y5 := g4.2.2.2.2.2.2.2.2.1
  have y6 := g4.2.2.2.2.2.2.2.2.2.1
  have y7 := g4.2.2.2.2.2.2.2.2.2.2
  have p0 := g3.1
  have p1 := g3.2.1
  have p2 := g3.2.2.1
  have p3 := g3.2.2.2.1
  have p4 := g3.2.2.2.2.1
  have p5 := g3.2.2.2.2.2.1
  have p6 := g3.2.2.2.2.2.2
  try simp only [XQ] at y0
  try simp only [SO] at y1
  try simp only [SS] at y2
  try simp only [SO] at p4
  try simp only [SS] at p5
  try simp only [e6, e7, e8, e9, e10, e11] at y0
  try simp only [e3, e5, e12, e13, e14, e15] at y1
  try simp only [e16] at y2
  clear g3
  clear g4
  clear f20 f23 e3 e5 e6 e7 e8 e9 e10 e11 e12 e13 e14 e15 e16
  clear f18
  subst e1
  try subst k2
  try subst k1
  try subst k0
  omega
def g_283v_85_6 : vG := ([(42, [9, 11], [], 0), (22, [11, 10, 7], [1], 0), (90, [11], [], 0), (91, [11], [], 60), (20, [10, 4], [1], 61), (0, [10], [], 325), (5000, [0, 1, 2, 3, 4, 5, 6, 7, 8, 9], [0, 1], 85), (0, [0], [], 285), (90, [1], [], 0), (91, [1], [], 19), (90, [2], [], 0), (91, [2], [], 7), (90, [3], [], 0), (91, [3], [], 5), (0, [4], [], 285), (90, [5], [], 0), (91, [5], [], 19), (90, [6], [], 0), (91, [6], [], 7), (90, [7], [], 0), (91, [7], [], 5), (90, [8], [], 0), (91, [8], [], 2147483647), (90, [9], [], 0), (91, [9], [], 60)], (91, [9], [], 59))
theorem c_283v_85_6 {q0 : Nat} : vOkm T0 (eP e_283v L_283v A_283v mu_283v (some q0)) 4 g_283v_85_6 := vOk_inI fun ρ η f0 f1 f2 f3 f4 f5 f6 f7 f8 f9 f10 f11 f12 f13 f14 f15 f16 f17 f18 f19 f20 f21 f22 f23 f24 => q_283v_23 (q0 := q0) (n0 := ρ 9) (n1 := ρ 8) (n2 := ρ 7) (n3 := ρ 6) (n4 := ρ 5) (n5 := ρ 4) (n6 := ρ 3) (n7 := ρ 2) (n8 := ρ 1) (n9 := ρ 0) (n10 := ρ 10) (n11 := ρ 11) (H0 := η 0) (H1 := η 1) f24 f23 f22 f21 f20 f19 f18 f17 f16 f15 f14 f13 f12 f11 f10 f9 f8 f7 f6 f5 f4 f3 f2 f1 f0
def g_283v_85_7 : vG := ([(42, [9, 11], [], 0), (22, [11, 10, 7], [1], 0), (90, [11], [], 0), (91, [11], [], 60), (20, [10, 4], [1], 61), (0, [10], [], 325), (5000, [0, 1, 2, 3, 4, 5, 6, 7, 8, 9], [0, 1], 85), (0, [0], [], 285), (90, [1], [], 0), (91, [1], [], 19), (90, [2], [], 0), (91, [2], [], 7), (90, [3], [], 0), (91, [3], [], 5), (0, [4], [], 285), (90, [5], [], 0), (91, [5], [], 19), (90, [6], [], 0), (91, [6], [], 7), (90, [7], [], 0), (91, [7], [], 5), (90, [8], [], 0), (91, [8], [], 2147483647), (90, [9], [], 0), (91, [9], [], 60)], (91, [9], [], 59))
theorem c_283v_85_7 {q0 : Nat} : vOkm T0 (eP e_283v L_283v A_283v mu_283v (some q0)) 4 g_283v_85_7 := vOk_inI fun ρ η f0 f1 f2 f3 f4 f5 f6 f7 f8 f9 f10 f11 f12 f13 f14 f15 f16 f17 f18 f19 f20 f21 f22 f23 f24 => q_283v_23 (q0 := q0) (n0 := ρ 9) (n1 := ρ 8) (n2 := ρ 7) (n3 := ρ 6) (n4 := ρ 5) (n5 := ρ 4) (n6 := ρ 3) (n7 := ρ 2) (n8 := ρ 1) (n9 := ρ 0) (n10 := ρ 10) (n11 := ρ 11) (H0 := η 0) (H1 := η 1) f24 f23 f22 f21 f20 f19 f18 f17 f16 f15 f14 f13 f12 f11 f10 f9 f8 f7 f6 f5 f4 f3 f2 f1 f0
theorem kR_283v_293 : vFreeR s_283v.2.2.2.2 293 = true := by decide +kernel
theorem kR_248_329 : vFreeR s_248.2.2.2.2 329 = true := by decide +kernel
theorem q_283v_24 {q0 : Nat} {n0 n1 n2 n3 n4 n5 n6 n7 n8 n9 n10 n11 n12 n13 n14 n15 : Int} {H0 H1 H2 : gH} (f0 : n0 ≤ 60) (f1 : 0 ≤ n0) (f2 : n1 ≤ 2147483647) (f3 : 0 ≤ n1) (f4 : n2 ≤ 5) (f5 : 0 ≤ n2) (f6 : n3 ≤ 7) (f7 : 0 ≤ n3) (f8 : n4 ≤ 19) (f9 : 0 ≤ n4) (f10 : n5 = 285) (f11 : n6 ≤ 5) (f12 : 0 ≤ n6) (f13 : n7 ≤ 7) (f14 : 0 ≤ n7) (f15 : n8 ≤ 19) (f16 : 0 ≤ n8) (f17 : n9 = 285) (f18 : (hLe T0 H0 H1 ∧ hFr s_283v.2.2.2.2 H0 H1 ∧ hWt T0 H1) ∧ (Ab_283v_85 n9 n8 n7 n6 n5 n4 n3 n2 n1 n0 H0 H1 ∧ preb_283v n9 n8 n7 n6 H0) ∧ some q0 = some (mub_283v_85 n9 n8 n7 n6 n5 n4 n3 n2 n1 n0 H0 H1)) (f19 : n10 = 325) (f20 : n10 = hV H1 (n5).toNat 61) (f21 : n11 ≤ 60) (f22 : 0 ≤ n11) (f23 : n11 = hV H1 (n10).toNat (n2).toNat) (f24 : n0 < n11) (f25 : n12 = 293) (f26 : n12 = hV H1 (n5).toNat 19) (f27 : n13 ≤ 5) (f28 : 0 ≤ n13) (f29 : n13 = hV H1 (n12).toNat (n3).toNat) (f30 : n14 ≤ 59) (f31 : (-1) ≤ n14) (f32 : (hLe T0 H1 H2 ∧ hFr s_248.2.2.2.2 H1 H2 ∧ ((0 : Int) = 0 → H2.length = H1.length) ∧ hWt T0 H2) ∧ True) (f33 : n15 = 0) : Ab_283v_114 n9 n8 n7 n6 n5 n4 n3 n2 n1 n0 n14 n15 H0 H2 ∧ ∀ q, some q0 = some q → mub_283v_114 n9 n8 n7 n6 n5 n4 n3 n2 n1 n0 n14 n15 H0 H2 < q := by
  have g4 := f18.2.1.1
  unfold Ab_283v_85 at g4
  have g3 := f18.2.1.2
  unfold preb_283v at g3
  have g5 := Option.some.inj f18.2.2
  unfold mub_283v_85 at g5
  unfold Ab_283v_114
  unfold mub_283v_114
  have e1 : n11 = hV H0 325 (n2).toNat := (by rw [f19] at f23; exact f23 : n11 = hV H1 325 (n2).toNat).trans ((congrFun (fRow f18.1.2.1 325 kR_283v_325) _))
  have e3 : n13 = hV H0 293 (n3).toNat := (by rw [f25] at f29; exact f29 : n13 = hV H1 293 (n3).toNat).trans ((congrFun (fRow f18.1.2.1 293 kR_283v_293) _))
  have e5 : hV H1 285 18 = hV H0 285 18 := (f18.1.2.1.1 285 18 kF_283v_285_18)
  have e7 : hV H1 285 64 = hV H0 285 64 := (f18.1.2.1.1 285 64 kF_283v_285_64)
  have e8 : hV H1 298 = hV H0 298 := fRow f18.1.2.1 298 kR_283v_298
  have e9 : hV H1 300 = hV H0 300 := fRow f18.1.2.1 300 kR_283v_300
  have e10 : hV H1 301 = hV H0 301 := fRow f18.1.2.1 301 kR_283v_301
  have e11 : hV H1 302 = hV H0 302 := fRow f18.1.2.1 302 kR_283v_302
  have e12 : hV H1 303 = hV H0 303 := fRow f18.1.2.1 303 kR_283v_303
  have e13 : hV H1 305 = hV H0 305 := fRow f18.1.2.1 305 kR_283v_305
  have e14 : hV H1 328 = hV H0 328 := fRow f18.1.2.1 328 kR_283v_328
  have e15 : hV H1 330 = hV H0 330 := fRow f18.1.2.1 330 kR_283v_330
  have e16 : hV H1 331 = hV H0 331 := fRow f18.1.2.1 331 kR_283v_331
  have e17 : hV H1 332 = hV H0 332 := fRow f18.1.2.1 332 kR_283v_332
  have e18 : hV H1 341 = hV H0 341 := fRow f18.1.2.1 341 kR_283v_341
  have e20 : hV H2 285 18 = hV H0 285 18 := ((f32.1.2.1.1 285 18 kF_248_285_18)).trans (f18.1.2.1.1 285 18 kF_283v_285_18)
  have e22 : hV H2 285 64 = hV H0 285 64 := ((f32.1.2.1.1 285 64 kF_248_285_64)).trans (f18.1.2.1.1 285 64 kF_283v_285_64)
  have e24 : hV H2 285 65 = hV H1 285 65 := (f32.1.2.1.1 285 65 kF_248_285_65)
  have e26 : hV H2 285 82 = hV H1 285 82 := (f32.1.2.1.1 285 82 kF_248_285_82)
  have e28 : hV H2 298 = hV H0 298 := (fRow f32.1.2.1 298 kR_248_298).trans e8
  have e30 : hV H2 300 = hV H0 300 := (fRow f32.1.2.1 300 kR_248_300).trans e9
  have e32 : hV H2 301 = hV H0 301 := (fRow f32.1.2.1 301 kR_248_301).trans e10
  have e34 : hV H2 302 = hV H0 302 := (fRow f32.1.2.1 302 kR_248_302).trans e11
  have e36 : hV H2 303 = hV H0 303 := (fRow f32.1.2.1 303 kR_248_303).trans e12
  have e38 : hV H2 305 = hV H0 305 := (fRow f32.1.2.1 305 kR_248_305).trans e13
  have e40 : hV H2 328 = hV H0 328 := (fRow f32.1.2.1 328 kR_248_328).trans e14
  have e41 : hV H2 329 = hV H1 329 := fRow f32.1.2.1 329 kR_248_329
  have e43 : hV H2 330 = hV H0 330 := (fRow f32.1.2.1 330 kR_248_330).trans e15
  have e45 : hV H2 331 = hV H0 331 := (fRow f32.1.2.1 331 kR_248_331).trans e16
  have e47 : hV H2 332 = hV H0 332 := (fRow f32.1.2.1 332 kR_248_332).trans e17
  have e48 : hV H2 333 = hV H1 333 := fRow f32.1.2.1 333 kR_248_333
  have e49 : hV H2 334 = hV H1 334 := fRow f32.1.2.1 334 kR_248_334
  have e50 : hV H2 335 = hV H1 335 := fRow f32.1.2.1 335 kR_248_335
  have e51 : hV H2 336 = hV H1 336 := fRow f32.1.2.1 336 kR_248_336
  have e53 : hV H2 341 = hV H0 341 := (fRow f32.1.2.1 341 kR_248_341).trans e18
  have e54 : hV H2 344 = hV H1 344 := fRow f32.1.2.1 344 kR_248_344
  have e55 : (0 : Int) ≤ hV H0 285 18 ∧ hV H0 285 18 ≤ 8 := bTo e5 (f18.1.2.2 285 18 _ _ kW_285_18)
  have e56 : (0 : Int) ≤ hV H0 285 64 ∧ hV H0 285 64 ≤ 20 := bTo e7 (f18.1.2.2 285 64 _ _ kW_285_64)
  have e57 : (0 : Int) ≤ hV H1 285 65 ∧ hV H1 285 65 ≤ 2147483647 := f18.1.2.2 285 65 _ _ kW_285_65
  have e58 : (0 : Int) ≤ hV H1 285 82 ∧ hV H1 285 82 ≤ 40 := f18.1.2.2 285 82 _ _ kW_285_82
  try simp only [SO, SS, XQ]
  try simp only [e20, e22, e24, e26, e28, e30, e32, e34, e36, e38, e40, e41, e43, e45, e47, e48, e49, e50, e51, e53, e54]
  have k0 := g4.1
  have k1 := g4.2.1
  have k2 := g4.2.2.1
  have y0 := g4.2.2.2.1
  have y1 := g4.2.2.2.2.1
  have y2 := g4.2.2.2.2.2.1
  have y3 := g4.2.2.2.2.2.2.1
  have y4 := g4.2.2.2.2.2.2.2.1
  have y5 := g4.2.2.2.2.2.2.2.2.1
  have y6 := g4.2.2.2.2.2.2.2.2.2.1
  have y7 := g4.2.2.2.2.2.2.2.2.2.2
  have p0 := g3.1
  have p1 := g3.2.1
  have p2 := g3.2.2.1
  have p3 := g3.2.2.2.1
  have p4 := g3.2.2.2.2.1
  have p5 := g3.2.2.2.2.2.1
  have p6 := g3.2.2.2.2.2.2
  try simp only [XQ] at y0
  try simp only [SO] at y1
  try simp only [SS] at y2
  try simp only [SO] at p4
  try simp only [SS] at p5
  try simp only [e8, e9, e10, e11, e12, e13] at y0
  try simp only [e5, e7, e14, e15, e16, e17] at y1
  try simp only [e18] at y2
  clear g3
  clear g4
  clear f20 f23 f26 f29 e5 e7 e8 e9 e10 e11 e12 e13 e14 e15 e16 e17 e18 e20 e22 e24 e26 e28 e30 e32 e34 e36 e38 e40 e41 e43 e45 e47 e48 e49 e50 e51 e53 e54
  clear f18 f32
  subst e1
  subst e3

  refine ⟨?_, fun q hq => ?_⟩
  · exact ⟨by first | omega | trivial, by first | omega | trivial, by first | omega | trivial, y0, y1, y2, y3, y4, by omega, by omega, y7⟩
  · have g6 := Option.some.inj hq
    subst g6
    omega
def g_283v_85_8 : vG := ([(0, [15], [], 0), (1248, [14, 4, 7, 9, 13], [1, 2], 0), (90, [14], [], -1), (91, [14], [], 59), (22, [13, 12, 6], [1], 0), (90, [13], [], 0), (91, [13], [], 5), (20, [12, 4], [1], 19), (0, [12], [], 293), (42, [9, 11], [], 0), (22, [11, 10, 7], [1], 0), (90, [11], [], 0), (91, [11], [], 60), (20, [10, 4], [1], 61), (0, [10], [], 325), (5000, [0, 1, 2, 3, 4, 5, 6, 7, 8, 9], [0, 1], 85), (0, [0], [], 285), (90, [1], [], 0), (91, [1], [], 19), (90, [2], [], 0), (91, [2], [], 7), (90, [3], [], 0), (91, [3], [], 5), (0, [4], [], 285), (90, [5], [], 0), (91, [5], [], 19), (90, [6], [], 0), (91, [6], [], 7), (90, [7], [], 0), (91, [7], [], 5), (90, [8], [], 0), (91, [8], [], 2147483647), (90, [9], [], 0), (91, [9], [], 60)], (4000, [4, 5, 6, 7, 8, 9, 14, 15], [2], 114))
theorem c_283v_85_8 {q0 : Nat} : vOkm T0 (eP e_283v L_283v A_283v mu_283v (some q0)) 4 g_283v_85_8 := vOk_inI fun ρ η f0 f1 f2 f3 f4 f5 f6 f7 f8 f9 f10 f11 f12 f13 f14 f15 f16 f17 f18 f19 f20 f21 f22 f23 f24 f25 f26 f27 f28 f29 f30 f31 f32 f33 => q_283v_24 (q0 := q0) (n0 := ρ 9) (n1 := ρ 8) (n2 := ρ 7) (n3 := ρ 6) (n4 := ρ 5) (n5 := ρ 4) (n6 := ρ 3) (n7 := ρ 2) (n8 := ρ 1) (n9 := ρ 0) (n10 := ρ 10) (n11 := ρ 11) (n12 := ρ 12) (n13 := ρ 13) (n14 := ρ 14) (n15 := ρ 15) (H0 := η 0) (H1 := η 1) (H2 := η 2) f33 f32 f31 f30 f29 f28 f27 f26 f25 f24 f23 f22 f21 f20 f19 f18 f17 f16 f15 f14 f13 f12 f11 f10 f9 f8 f7 f6 f5 f4 f3 f2 f1 f0
def p_283v_85 : List vG := [g_283v_85_0,
  g_283v_85_1,
  g_283v_85_2,
  g_283v_85_3,
  g_283v_85_4,
  g_283v_85_5,
  g_283v_85_6,
  g_283v_85_7,
  g_283v_85_8]
theorem r_283v_85 : vCovO false (eRc e_283v L_283v cs_283v 2000 (85, [(0, (3, 12, 285, 0)), (1, (0, 0, 19, 0)), (2, (0, 0, 7, 0)), (3, (0, 0, 5, 0)), (4, (0, 0, 2147483647, 0)), (5, (0, 0, 60, 0))])) p_283v_85 = true := by decide +kernel
theorem q_283v_25 {q0 : Nat} {n0 n1 n2 n3 n4 n5 n6 n7 n8 n9 n10 n11 n12 n13 : Int} {H0 H1 : gH} (f0 : n0 ≤ 4) (f1 : 0 ≤ n0) (f2 : n1 ≤ 59) (f3 : (-1) ≤ n1) (f4 : n2 ≤ 59) (f5 : 0 ≤ n2) (f6 : n3 ≤ 2147483647) (f7 : 0 ≤ n3) (f8 : n4 ≤ 5) (f9 : 0 ≤ n4) (f10 : n5 ≤ 7) (f11 : 0 ≤ n5) (f12 : n6 ≤ 19) (f13 : 0 ≤ n6) (f14 : n7 = 285) (f15 : n8 ≤ 5) (f16 : 0 ≤ n8) (f17 : n9 ≤ 7) (f18 : 0 ≤ n9) (f19 : n10 ≤ 19) (f20 : 0 ≤ n10) (f21 : n11 = 285) (f22 : (hLe T0 H0 H1 ∧ hFr s_283v.2.2.2.2 H0 H1 ∧ hWt T0 H1) ∧ (Ab_283v_114 n11 n10 n9 n8 n7 n6 n5 n4 n3 n2 n1 n0 H0 H1 ∧ preb_283v n11 n10 n9 n8 H0) ∧ some q0 = some (mub_283v_114 n11 n10 n9 n8 n7 n6 n5 n4 n3 n2 n1 n0 H0 H1)) (f23 : n12 = 4) (f24 : n12 ≤ n0) (f25 : n13 = w32 (n2 + 1)) : 0 ≤ n13 := by
  have g4 := f22.2.1.1
  unfold Ab_283v_114 at g4
  have g3 := f22.2.1.2
  unfold preb_283v at g3
  have e1 : hV H1 285 18 = hV H0 285 18 := (f22.1.2.1.1 285 18 kF_283v_285_18)
  have e3 : hV H1 285 64 = hV H0 285 64 := (f22.1.2.1.1 285 64 kF_283v_285_64)
  have e4 : hV H1 298 = hV H0 298 := fRow f22.1.2.1 298 kR_283v_298
  have e5 : hV H1 300 = hV H0 300 := fRow f22.1.2.1 300 kR_283v_300
  have e6 : hV H1 301 = hV H0 301 := fRow f22.1.2.1 301 kR_283v_301
  have e7 : hV H1 302 = hV H0 302 := fRow f22.1.2.1 302 kR_283v_302
  have e8 : hV H1 303 = hV H0 303 := fRow f22.1.2.1 303 kR_283v_303
  have e9 : hV H1 305 = hV H0 305 := fRow f22.1.2.1 305 kR_283v_305
  have e10 : hV H1 328 = hV H0 328 := fRow f22.1.2.1 328 kR_283v_328
  have e11 : hV H1 330 = hV H0 330 := fRow f22.1.2.1 330 kR_283v_330
  have e12 : hV H1 331 = hV H0 331 := fRow f22.1.2.1 331 kR_283v_331
  have e13 : hV H1 332 = hV H0 332 := fRow f22.1.2.1 332 kR_283v_332
  have e14 : hV H1 341 = hV H0 341 := fRow f22.1.2.1 341 kR_283v_341
  have e15 : (0 : Int) ≤ hV H0 285 18 ∧ hV H0 285 18 ≤ 8 := bTo e1 (f22.1.2.2 285 18 _ _ kW_285_18)
  have e16 : (0 : Int) ≤ hV H0 285 64 ∧ hV H0 285 64 ≤ 20 := bTo e3 (f22.1.2.2 285 64 _ _ kW_285_64)
  have e17 : (0 : Int) ≤ hV H1 285 65 ∧ hV H1 285 65 ≤ 2147483647 := f22.1.2.2 285 65 _ _ kW_285_65
  have e18 : (0 : Int) ≤ hV H1 285 82 ∧ hV H1 285 82 ≤ 40 := f22.1.2.2 285 82 _ _ kW_285_82
  try simp only [SO, SS, XQ]
  have k0 := g4.1
  have k1 := g4.2.1
  have k2 := g4.2.2.1
  have y0 := g4.2.2.2.1
  have y1 := g4.2.2.2.2.1
  have y2 := g4.2.2.2.2.2.1
  have y3 := g4.2.2.2.2.2.2.1
  have y4 := g4.2.2.2.2.2.2.2.1
  have y5 := g4.2.2.2.2.2.2.2.2.1
  have y6 := g4.2.2.2.2.2.2.2.2.2.1
  have y7 := g4.2.2.2.2.2.2.2.2.2.2
  have p0 := g3.1
  have p1 := g3.2.1
  have p2 := g3.2.2.1
  have p3 := g3.2.2.2.1
  have p4 := g3.2.2.2.2.1
  have p5 := g3.2.2.2.2.2.1
  have p6 := g3.2.2.2.2.2.2
  try simp only [XQ] at y0
  try simp only [SO] at y1
  try simp only [SS] at y2
  try simp only [SO] at p4
  try simp only [SS] at p5
  try simp only [e4, e5, e6, e7, e8, e9] at y0
  try simp only [e1, e3, e10, e11, e12, e13] at y1
  try simp only [e14] at y2
  clear g3
  clear g4
  clear e1 e3 e4 e5 e6 e7 e8 e9 e10 e11 e12 e13 e14
  clear f22
  first
  | (have ix0 : n13 = n2 + 1 := Eq.trans f25 (w32_iv (Iad (Iat f5 f4) (IC 1)) (by decide)); subst ix0; clear f25)
  | (have ix0 : n13 = n2 + 1 := Eq.trans f25 (w32_id (by omega) (by omega)); subst ix0; clear f25)
  | (unfold w32 at f25; have ix0 : n13 = n2 + 1 := (by omega); subst ix0)
  | skip
  try unfold w32 at f25
  try subst k2
  try subst k1
  try subst k0
  omega
def g_283v_114_0 : vG := ([(10, [13, 9], [], 1), (43, [11, 12], [], 0), (0, [12], [], 4), (5000, [0, 1, 2, 3, 4, 5, 6, 7, 8, 9, 10, 11], [0, 1], 114), (0, [0], [], 285), (90, [1], [], 0), (91, [1], [], 19), (90, [2], [], 0), (91, [2], [], 7), (90, [3], [], 0), (91, [3], [], 5), (0, [4], [], 285), (90, [5], [], 0), (91, [5], [], 19), (90, [6], [], 0), (91, [6], [], 7), (90, [7], [], 0), (91, [7], [], 5), (90, [8], [], 0), (91, [8], [], 2147483647), (90, [9], [], 0), (91, [9], [], 59), (90, [10], [], -1), (91, [10], [], 59), (90, [11], [], 0), (91, [11], [], 4)], (90, [13], [], 0))
theorem c_283v_114_0 {q0 : Nat} : vOkm T0 (eP e_283v L_283v A_283v mu_283v (some q0)) 4 g_283v_114_0 := vOk_inI fun ρ η f0 f1 f2 f3 f4 f5 f6 f7 f8 f9 f10 f11 f12 f13 f14 f15 f16 f17 f18 f19 f20 f21 f22 f23 f24 f25 => q_283v_25 (q0 := q0) (n0 := ρ 11) (n1 := ρ 10) (n2 := ρ 9) (n3 := ρ 8) (n4 := ρ 7) (n5 := ρ 6) (n6 := ρ 5) (n7 := ρ 4) (n8 := ρ 3) (n9 := ρ 2) (n10 := ρ 1) (n11 := ρ 0) (n12 := ρ 12) (n13 := ρ 13) (H0 := η 0) (H1 := η 1) f25 f24 f23 f22 f21 f20 f19 f18 f17 f16 f15 f14 f13 f12 f11 f10 f9 f8 f7 f6 f5 f4 f3 f2 f1 f0
theorem q_283v_26 {q0 : Nat} {n0 n1 n2 n3 n4 n5 n6 n7 n8 n9 n10 n11 n12 n13 : Int} {H0 H1 : gH} (f0 : n0 ≤ 4) (f1 : 0 ≤ n0) (f2 : n1 ≤ 59) (f3 : (-1) ≤ n1) (f4 : n2 ≤ 59) (f5 : 0 ≤ n2) (f6 : n3 ≤ 2147483647) (f7 : 0 ≤ n3) (f8 : n4 ≤ 5) (f9 : 0 ≤ n4) (f10 : n5 ≤ 7) (f11 : 0 ≤ n5) (f12 : n6 ≤ 19) (f13 : 0 ≤ n6) (f14 : n7 = 285) (f15 : n8 ≤ 5) (f16 : 0 ≤ n8) (f17 : n9 ≤ 7) (f18 : 0 ≤ n9) (f19 : n10 ≤ 19) (f20 : 0 ≤ n10) (f21 : n11 = 285) (f22 : (hLe T0 H0 H1 ∧ hFr s_283v.2.2.2.2 H0 H1 ∧ hWt T0 H1) ∧ (Ab_283v_114 n11 n10 n9 n8 n7 n6 n5 n4 n3 n2 n1 n0 H0 H1 ∧ preb_283v n11 n10 n9 n8 H0) ∧ some q0 = some (mub_283v_114 n11 n10 n9 n8 n7 n6 n5 n4 n3 n2 n1 n0 H0 H1)) (f23 : n12 = 4) (f24 : n12 ≤ n0) (f25 : n13 = w32 (n2 + 1)) : n13 ≤ 60 := by
  have g4 := f22.2.1.1
  unfold Ab_283v_114 at g4
  have g3 := f22.2.1.2
  unfold preb_283v at g3
  have e1 : hV H1 285 18 = hV H0 285 18 := (f22.1.2.1.1 285 18 kF_283v_285_18)
  have e3 : hV H1 285 64 = hV H0 285 64 := (f22.1.2.1.1 285 64 kF_283v_285_64)
  have e4 : hV H1 298 = hV H0 298 := fRow f22.1.2.1 298 kR_283v_298
  have e5 : hV H1 300 = hV H0 300 := fRow f22.1.2.1 300 kR_283v_300
  have e6 : hV H1 301 = hV H0 301 := fRow f22.1.2.1 301 kR_283v_301
  have e7 : hV H1 302 = hV H0 302 := fRow f22.1.2.1 302 kR_283v_302
  have e8 : hV H1 303 = hV H0 303 := fRow f22.1.2.1 303 kR_283v_303
  have e9 : hV H1 305 = hV H0 305 := fRow f22.1.2.1 305 kR_283v_305
  have e10 : hV H1 328 = hV H0 328 := fRow f22.1.2.1 328 kR_283v_328
  have e11 : hV H1 330 = hV H0 330 := fRow f22.1.2.1 330 kR_283v_330
  have e12 : hV H1 331 = hV H0 331 := fRow f22.1.2.1 331 kR_283v_331
  have e13 : hV H1 332 = hV H0 332 := fRow f22.1.2.1 332 kR_283v_332
  have e14 : hV H1 341 = hV H0 341 := fRow f22.1.2.1 341 kR_283v_341
  have e15 : (0 : Int) ≤ hV H0 285 18 ∧ hV H0 285 18 ≤ 8 := bTo e1 (f22.1.2.2 285 18 _ _ kW_285_18)
  have e16 : (0 : Int) ≤ hV H0 285 64 ∧ hV H0 285 64 ≤ 20 := bTo e3 (f22.1.2.2 285 64 _ _ kW_285_64)
  have e17 : (0 : Int) ≤ hV H1 285 65 ∧ hV H1 285 65 ≤ 2147483647 := f22.1.2.2 285 65 _ _ kW_285_65
  have e18 : (0 : Int) ≤ hV H1 285 82 ∧ hV H1 285 82 ≤ 40 := f22.1.2.2 285 82 _ _ kW_285_82
  try simp only [SO, SS, XQ]
  have k0 := g4.1
  have k1 := g4.2.1
  have k2 := g4.2.2.1
  have y0 := g4.2.2.2.1
  have y1 := g4.2.2.2.2.1
  have y2 := g4.2.2.2.2.2.1
  have y3 := g4.2.2.2.2.2.2.1
  have y4 := g4.2.2.2.2.2.2.2.1
  have y5 := g4.2.2.2.2.2.2.2.2.1
  have y6 := g4.2.2.2.2.2.2.2.2.2.1
  have y7 := g4.2.2.2.2.2.2.2.2.2.2
  have p0 := g3.1
  have p1 := g3.2.1
  have p2 := g3.2.2.1
  have p3 := g3.2.2.2.1
  have p4 := g3.2.2.2.2.1
  have p5 := g3.2.2.2.2.2.1
  have p6 := g3.2.2.2.2.2.2
  try simp only [XQ] at y0
  try simp only [SO] at y1
  try simp only [SS] at y2
  try simp only [SO] at p4
  try simp only [SS] at p5
  try simp only [e4, e5, e6, e7, e8, e9] at y0
  try simp only [e1, e3, e10, e11, e12, e13] at y1
  try simp only [e14] at y2
  clear g3
  clear g4
  clear e1 e3 e4 e5 e6 e7 e8 e9 e10 e11 e12 e13 e14
  clear f22
  first
  | (have ix0 : n13 = n2 + 1 := Eq.trans f25 (w32_iv (Iad (Iat f5 f4) (IC 1)) (by decide)); subst ix0; clear f25)
  | (have ix0 : n13 = n2 + 1 := Eq.trans f25 (w32_id (by omega) (by omega)); subst ix0; clear f25)
  | (unfold w32 at f25; have ix0 : n13 = n2 + 1 := (by omega); subst ix0)
  | skip
  try unfold w32 at f25
  try subst k2
  try subst k1
  try subst k0
  omega
def g_283v_114_1 : vG := ([(10, [13, 9], [], 1), (43, [11, 12], [], 0), (0, [12], [], 4), (5000, [0, 1, 2, 3, 4, 5, 6, 7, 8, 9, 10, 11], [0, 1], 114), (0, [0], [], 285), (90, [1], [], 0), (91, [1], [], 19), (90, [2], [], 0), (91, [2], [], 7), (90, [3], [], 0), (91, [3], [], 5), (0, [4], [], 285), (90, [5], [], 0), (91, [5], [], 19), (90, [6], [], 0), (91, [6], [], 7), (90, [7], [], 0), (91, [7], [], 5), (90, [8], [], 0), (91, [8], [], 2147483647), (90, [9], [], 0), (91, [9], [], 59), (90, [10], [], -1), (91, [10], [], 59), (90, [11], [], 0), (91, [11], [], 4)], (91, [13], [], 60))
theorem c_283v_114_1 {q0 : Nat} : vOkm T0 (eP e_283v L_283v A_283v mu_283v (some q0)) 4 g_283v_114_1 := vOk_inI fun ρ η f0 f1 f2 f3 f4 f5 f6 f7 f8 f9 f10 f11 f12 f13 f14 f15 f16 f17 f18 f19 f20 f21 f22 f23 f24 f25 => q_283v_26 (q0 := q0) (n0 := ρ 11) (n1 := ρ 10) (n2 := ρ 9) (n3 := ρ 8) (n4 := ρ 7) (n5 := ρ 6) (n6 := ρ 5) (n7 := ρ 4) (n8 := ρ 3) (n9 := ρ 2) (n10 := ρ 1) (n11 := ρ 0) (n12 := ρ 12) (n13 := ρ 13) (H0 := η 0) (H1 := η 1) f25 f24 f23 f22 f21 f20 f19 f18 f17 f16 f15 f14 f13 f12 f11 f10 f9 f8 f7 f6 f5 f4 f3 f2 f1 f0
theorem q_283v_27 {q0 : Nat} {n0 n1 n2 n3 n4 n5 n6 n7 n8 n9 n10 n11 n12 n13 : Int} {H0 H1 : gH} (f0 : n0 ≤ 4) (f1 : 0 ≤ n0) (f2 : n1 ≤ 59) (f3 : (-1) ≤ n1) (f4 : n2 ≤ 59) (f5 : 0 ≤ n2) (f6 : n3 ≤ 2147483647) (f7 : 0 ≤ n3) (f8 : n4 ≤ 5) (f9 : 0 ≤ n4) (f10 : n5 ≤ 7) (f11 : 0 ≤ n5) (f12 : n6 ≤ 19) (f13 : 0 ≤ n6) (f14 : n7 = 285) (f15 : n8 ≤ 5) (f16 : 0 ≤ n8) (f17 : n9 ≤ 7) (f18 : 0 ≤ n9) (f19 : n10 ≤ 19) (f20 : 0 ≤ n10) (f21 : n11 = 285) (f22 : (hLe T0 H0 H1 ∧ hFr s_283v.2.2.2.2 H0 H1 ∧ hWt T0 H1) ∧ (Ab_283v_114 n11 n10 n9 n8 n7 n6 n5 n4 n3 n2 n1 n0 H0 H1 ∧ preb_283v n11 n10 n9 n8 H0) ∧ some q0 = some (mub_283v_114 n11 n10 n9 n8 n7 n6 n5 n4 n3 n2 n1 n0 H0 H1)) (f23 : n12 = 4) (f24 : n12 ≤ n0) (f25 : n13 = w32 (n2 + 1)) : Ab_283v_85 n11 n10 n9 n8 n7 n6 n5 n4 n3 n13 H0 H1 ∧ ∀ q, some q0 = some q → mub_283v_85 n11 n10 n9 n8 n7 n6 n5 n4 n3 n13 H0 H1 < q := by
  have g4 := f22.2.1.1
  unfold Ab_283v_114 at g4
  have g3 := f22.2.1.2
  unfold preb_283v at g3
  have g5 := Option.some.inj f22.2.2
  unfold mub_283v_114 at g5
  unfold Ab_283v_85
  unfold mub_283v_85
  have e1 : hV H1 285 18 = hV H0 285 18 := (f22.1.2.1.1 285 18 kF_283v_285_18)
  have e3 : hV H1 285 64 = hV H0 285 64 := (f22.1.2.1.1 285 64 kF_283v_285_64)
  have e4 : hV H1 298 = hV H0 298 := fRow f22.1.2.1 298 kR_283v_298
  have e5 : hV H1 300 = hV H0 300 := fRow f22.1.2.1 300 kR_283v_300
  have e6 : hV H1 301 = hV H0 301 := fRow f22.1.2.1 301 kR_283v_301
  have e7 : hV H1 302 = hV H0 302 := fRow f22.1.2.1 302 kR_283v_302
  have e8 : hV H1 303 = hV H0 303 := fRow f22.1.2.1 303 kR_283v_303
  have e9 : hV H1 305 = hV H0 305 := fRow f22.1.2.1 305 kR_283v_305
  have e10 : hV H1 328 = hV H0 328 := fRow f22.1.2.1 328 kR_283v_328
  have e11 : hV H1 330 = hV H0 330 := fRow f22.1.2.1 330 kR_283v_330
  have e12 : hV H1 331 = hV H0 331 := fRow f22.1.2.1 331 kR_283v_331
  have e13 : hV H1 332 = hV H0 332 := fRow f22.1.2.1 332 kR_283v_332
  have e14 : hV H1 341 = hV H0 341 := fRow f22.1.2.1 341 kR_283v_341
  have e15 : (0 : Int) ≤ hV H0 285 18 ∧ hV H0 285 18 ≤ 8 := bTo e1 (f22.1.2.2 285 18 _ _ kW_285_18)
  have e16 : (0 : Int) ≤ hV H0 285 64 ∧ hV H0 285 64 ≤ 20 := bTo e3 (f22.1.2.2 285 64 _ _ kW_285_64)
  have e17 : (0 : Int) ≤ hV H1 285 65 ∧ hV H1 285 65 ≤ 2147483647 := f22.1.2.2 285 65 _ _ kW_285_65
  have e18 : (0 : Int) ≤ hV H1 285 82 ∧ hV H1 285 82 ≤ 40 := f22.1.2.2 285 82 _ _ kW_285_82
  try simp only [SO, SS, XQ]
  try simp only [e1, e3, e4, e5, e6, e7, e8, e9, e10, e11, e12, e13, e14]
  have k0 := g4.1
  have k1 := g4.2.1
  have k2 := g4.2.2.1
  have y0 := g4.2.2.2.1
  have y1 := g4.2.2.2.2.1
  have y2 := g4.2.2.2.2.2.1
  have y3 := g4.2.2.2.2.2.2.1
  have y4 := g4.2.2.2.2.2.2.2.1
  have y5 := g4.2.2.2.2.2.2.2.2.1
  have y6 := g4.2.2.2.2.2.2.2.2.2.1
  have y7 := g4.2.2.2.2.2.2.2.2.2.2
  have p0 := g3.1
  have p1 := g3.2.1
  have p2 := g3.2.2.1
  have p3 := g3.2.2.2.1
  have p4 := g3.2.2.2.2.1
  have p5 := g3.2.2.2.2.2.1
  have p6 := g3.2.2.2.2.2.2
  try simp only [XQ] at y0
  try simp only [SO] at y1
  try simp only [SS] at y2
  try simp only [SO] at p4
  try simp only [SS] at p5
  try simp only [e4, e5, e6, e7, e8, e9] at y0
  try simp only [e1, e3, e10, e11, e12, e13] at y1
  try simp only [e14] at y2
  clear g3
  clear g4
  clear e1 e3 e4 e5 e6 e7 e8 e9 e10 e11 e12 e13 e14
  clear f22
  first
  | (have ix0 : n13 = n2 + 1 := Eq.trans f25 (w32_iv (Iad (Iat f5 f4) (IC 1)) (by decide)); subst ix0; clear f25)
  | (have ix0 : n13 = n2 + 1 := Eq.trans f25 (w32_id (by omega) (by omega)); subst ix0; clear f25)
  | (unfold w32 at f25; have ix0 : n13 = n2 + 1 := (by omega); subst ix0)
  | skip
  try unfold w32 at f25

  refine ⟨?_, fun q hq => ?_⟩
  · exact ⟨by first | omega | trivial, by first | omega | trivial, by first | omega | trivial, y0, y1, y2, y3, y4, by omega, by omega, y7⟩
  · have g6 := Option.some.inj hq
    subst g6
    omega
def g_283v_114_2 : vG := ([(10, [13, 9], [], 1), (43, [11, 12], [], 0), (0, [12], [], 4), (5000, [0, 1, 2, 3, 4, 5, 6, 7, 8, 9, 10, 11], [0, 1], 114), (0, [0], [], 285), (90, [1], [], 0), (91, [1], [], 19), (90, [2], [], 0), (91, [2], [], 7), (90, [3], [], 0), (91, [3], [], 5), (0, [4], [], 285), (90, [5], [], 0), (91, [5], [], 19), (90, [6], [], 0), (91, [6], [], 7), (90, [7], [], 0), (91, [7], [], 5), (90, [8], [], 0), (91, [8], [], 2147483647), (90, [9], [], 0), (91, [9], [], 59), (90, [10], [], -1), (91, [10], [], 59), (90, [11], [], 0), (91, [11], [], 4)], (4000, [4, 5, 6, 7, 8, 13], [1], 85))
theorem c_283v_114_2 {q0 : Nat} : vOkm T0 (eP e_283v L_283v A_283v mu_283v (some q0)) 4 g_283v_114_2 := vOk_inI fun ρ η f0 f1 f2 f3 f4 f5 f6 f7 f8 f9 f10 f11 f12 f13 f14 f15 f16 f17 f18 f19 f20 f21 f22 f23 f24 f25 => q_283v_27 (q0 := q0) (n0 := ρ 11) (n1 := ρ 10) (n2 := ρ 9) (n3 := ρ 8) (n4 := ρ 7) (n5 := ρ 6) (n6 := ρ 5) (n7 := ρ 4) (n8 := ρ 3) (n9 := ρ 2) (n10 := ρ 1) (n11 := ρ 0) (n12 := ρ 12) (n13 := ρ 13) (H0 := η 0) (H1 := η 1) f25 f24 f23 f22 f21 f20 f19 f18 f17 f16 f15 f14 f13 f12 f11 f10 f9 f8 f7 f6 f5 f4 f3 f2 f1 f0
theorem q_283v_28 {q0 : Nat} {n0 n1 n2 n3 n4 n5 n6 n7 n8 n9 n10 n11 n12 n13 n14 n15 n16 n17 n18 n19 n20 n21 n22 : Int} {H0 H1 : gH} (f0 : n0 ≤ 4) (f1 : 0 ≤ n0) (f2 : n1 ≤ 59) (f3 : (-1) ≤ n1) (f4 : n2 ≤ 59) (f5 : 0 ≤ n2) (f6 : n3 ≤ 2147483647) (f7 : 0 ≤ n3) (f8 : n4 ≤ 5) (f9 : 0 ≤ n4) (f10 : n5 ≤ 7) (f11 : 0 ≤ n5) (f12 : n6 ≤ 19) (f13 : 0 ≤ n6) (f14 : n7 = 285) (f15 : n8 ≤ 5) (f16 : 0 ≤ n8) (f17 : n9 ≤ 7) (f18 : 0 ≤ n9) (f19 : n10 ≤ 19) (f20 : 0 ≤ n10) (f21 : n11 = 285) (f22 : (hLe T0 H0 H1 ∧ hFr s_283v.2.2.2.2 H0 H1 ∧ hWt T0 H1) ∧ (Ab_283v_114 n11 n10 n9 n8 n7 n6 n5 n4 n3 n2 n1 n0 H0 H1 ∧ preb_283v n11 n10 n9 n8 H0) ∧ some q0 = some (mub_283v_114 n11 n10 n9 n8 n7 n6 n5 n4 n3 n2 n1 n0 H0 H1)) (f23 : n12 = 4) (f24 : n0 < n12) (f25 : n13 = 240) (f26 : n14 = w32 (n13 * n6)) (f27 : n15 = 4) (f28 : n16 = w32 (n15 * n2)) (f29 : n17 = w32 (n14 + n16)) (f30 : n18 = w32 (n17 + n0)) (f31 : n19 = (-1)) (f32 : n1 ≠ n19) (f33 : n20 = 4) (f34 : n21 = w32 (n20 * n1)) (f35 : n22 = w32 (n21 + n0)) : 0 ≤ n22 ∧ n22 < 240 := by
  have g4 := f22.2.1.1
  unfold Ab_283v_114 at g4
  have g3 := f22.2.1.2
  unfold preb_283v at g3
  have e1 : hV H1 285 18 = hV H0 285 18 := (f22.1.2.1.1 285 18 kF_283v_285_18)
  have e3 : hV H1 285 64 = hV H0 285 64 := (f22.1.2.1.1 285 64 kF_283v_285_64)
  have e4 : hV H1 298 = hV H0 298 := fRow f22.1.2.1 298 kR_283v_298
  have e5 : hV H1 300 = hV H0 300 := fRow f22.1.2.1 300 kR_283v_300
  have e6 : hV H1 301 = hV H0 301 := fRow f22.1.2.1 301 kR_283v_301
  have e7 : hV H1 302 = hV H0 302 := fRow f22.1.2.1 302 kR_283v_302
  have e8 : hV H1 303 = hV H0 303 := fRow f22.1.2.1 303 kR_283v_303
  have e9 : hV H1 305 = hV H0 305 := fRow f22.1.2.1 305 kR_283v_305
  have e10 : hV H1 328 = hV H0 328 := fRow f22.1.2.1 328 kR_283v_328
  have e11 : hV H1 330 = hV H0 330 := fRow f22.1.2.1 330 kR_283v_330
  have e12 : hV H1 331 = hV H0 331 := fRow f22.1.2.1 331 kR_283v_331
  have e13 : hV H1 332 = hV H0 332 := fRow f22.1.2.1 332 kR_283v_332
  have e14 : hV H1 341 = hV H0 341 := fRow f22.1.2.1 341 kR_283v_341
  have e15 : (0 : Int) ≤ hV H0 285 18 ∧ hV H0 285 18 ≤ 8 := bTo e1 (f22.1.2.2 285 18 _ _ kW_285_18)
  have e16 : (0 : Int) ≤ hV H0 285 64 ∧ hV H0 285 64 ≤ 20 := bTo e3 (f22.1.2.2 285 64 _ _ kW_285_64)
  have e17 : (0 : Int) ≤ hV H1 285 65 ∧ hV H1 285 65 ≤ 2147483647 := f22.1.2.2 285 65 _ _ kW_285_65
  have e18 : (0 : Int) ≤ hV H1 285 82 ∧ hV H1 285 82 ≤ 40 := f22.1.2.2 285 82 _ _ kW_285_82
  try simp only [SO, SS, XQ]
  have k0 := g4.1
  have k1 := g4.2.1
  have k2 := g4.2.2.1
  have y0 := g4.2.2.2.1
  have y1 := g4.2.2.2.2.1
  have y2 := g4.2.2.2.2.2.1
  have y3 := g4.2.2.2.2.2.2.1
  have y4 := g4.2.2.2.2.2.2.2.1
  have y5 := g4.2.2.2.2.2.2.2.2.1
  have y6 := g4.2.2.2.2.2.2.2.2.2.1
  have y7 := g4.2.2.2.2.2.2.2.2.2.2
  have p0 := g3.1
  have p1 := g3.2.1
  have p2 := g3.2.2.1
  have p3 := g3.2.2.2.1
  have p4 := g3.2.2.2.2.1
  have p5 := g3.2.2.2.2.2.1
  have p6 := g3.2.2.2.2.2.2
  try simp only [XQ] at y0
  try simp only [SO] at y1
  try simp only [SS] at y2
  try simp only [SO] at p4
  try simp only [SS] at p5
  try simp only [e4, e5, e6, e7, e8, e9] at y0
  try simp only [e1, e3, e10, e11, e12, e13] at y1
  try simp only [e14] at y2
  clear g3
  clear g4
  clear e1 e3 e4 e5 e6 e7 e8 e9 e10 e11 e12 e13 e14
  clear f22
  rw [f25] at f26
  rw [f27] at f28
  rw [f33] at f34
  first
  | (have ix0 : n21 = 4 * n1 := Eq.trans f34 (w32_iv (Iml 4 rfl (Iat f3 f2)) (by decide)); subst ix0; clear f34)
  | (have ix0 : n21 = 4 * n1 := Eq.trans f34 (w32_id (by omega) (by omega)); subst ix0; clear f34)
  | (unfold w32 at f34; have ix0 : n21 = 4 * n1 := (by omega); subst ix0)
  | skip
  first
  | (have ix1 : n22 = (4 * n1) + n0 := Eq.trans f35 (w32_iv (Iad (Iml 4 rfl (Iat f3 f2)) (Iat f1 f0)) (by decide)); subst ix1; clear f35)
  | (have ix1 : n22 = (4 * n1) + n0 := Eq.trans f35 (w32_id (by omega) (by omega)); subst ix1; clear f35)
  | (unfold w32 at f35; have ix1 : n22 = (4 * n1) + n0 := (by omega); subst ix1)
  | skip
  try unfold w32 at f26
  try unfold w32 at f28
  try unfold w32 at f29
  try unfold w32 at f30
  try unfold w32 at f34
  try unfold w32 at f35
  try subst k2
  try subst k1
  try subst k0
  omega
def g_283v_114_3 : vG := ([(1, [24, 23, 11], [], 0), (3, [23, 22, 10], [], 0), (0, [22], [], 4), (41, [10, 20], [], 0), (0, [20], [], -1), (1, [19, 18, 11], [], 0), (1, [18, 15, 17], [], 0), (3, [17, 16, 9], [], 0), (0, [16], [], 4), (3, [15, 14, 5], [], 0), (0, [14], [], 240), (42, [11, 12], [], 0), (0, [12], [], 4), (5000, [0, 1, 2, 3, 4, 5, 6, 7, 8, 9, 10, 11], [0, 1], 114), (0, [0], [], 285), (90, [1], [], 0), (91, [1], [], 19), (90, [2], [], 0), (91, [2], [], 7), (90, [3], [], 0), (91, [3], [], 5), (0, [4], [], 285), (90, [5], [], 0), (91, [5], [], 19), (90, [6], [], 0), (91, [6], [], 7), (90, [7], [], 0), (91, [7], [], 5), (90, [8], [], 0), (91, [8], [], 2147483647), (90, [9], [], 0), (91, [9], [], 59), (90, [10], [], -1), (91, [10], [], 59), (90, [11], [], 0), (91, [11], [], 4)], (70, [24], [], 240))
theorem c_283v_114_3 {q0 : Nat} : vOkm T0 (eP e_283v L_283v A_283v mu_283v (some q0)) 4 g_283v_114_3 := vOk_inI fun ρ η f0 f1 f2 f3 f4 f5 f6 f7 f8 f9 f10 f11 f12 f13 f14 f15 f16 f17 f18 f19 f20 f21 f22 f23 f24 f25 f26 f27 f28 f29 f30 f31 f32 f33 f34 f35 => q_283v_28 (q0 := q0) (n0 := ρ 11) (n1 := ρ 10) (n2 := ρ 9) (n3 := ρ 8) (n4 := ρ 7) (n5 := ρ 6) (n6 := ρ 5) (n7 := ρ 4) (n8 := ρ 3) (n9 := ρ 2) (n10 := ρ 1) (n11 := ρ 0) (n12 := ρ 12) (n13 := ρ 14) (n14 := ρ 15) (n15 := ρ 16) (n16 := ρ 17) (n17 := ρ 18) (n18 := ρ 19) (n19 := ρ 20) (n20 := ρ 22) (n21 := ρ 23) (n22 := ρ 24) (H0 := η 0) (H1 := η 1) f35 f34 f33 f32 f31 f30 f29 f28 f27 f26 f25 f24 f23 f22 f21 f20 f19 f18 f17 f16 f15 f14 f13 f12 f11 f10 f9 f8 f7 f6 f5 f4 f3 f2 f1 f0
theorem q_283v_29 {q0 : Nat} {n0 n1 n2 n3 n4 n5 n6 n7 n8 n9 n10 n11 n12 n13 n14 n15 n16 n17 n18 n19 n20 n21 n22 : Int} {H0 H1 : gH} (f0 : n0 ≤ 4) (f1 : 0 ≤ n0) (f2 : n1 ≤ 59) (f3 : (-1) ≤ n1) (f4 : n2 ≤ 59) (f5 : 0 ≤ n2) (f6 : n3 ≤ 2147483647) (f7 : 0 ≤ n3) (f8 : n4 ≤ 5) (f9 : 0 ≤ n4) (f10 : n5 ≤ 7) (f11 : 0 ≤ n5) (f12 : n6 ≤ 19) (f13 : 0 ≤ n6) (f14 : n7 = 285) (f15 : n8 ≤ 5) (f16 : 0 ≤ n8) (f17 : n9 ≤ 7) (f18 : 0 ≤ n9) (f19 : n10 ≤ 19) (f20 : 0 ≤ n10) (f21 : n11 = 285) (f22 : (hLe T0 H0 H1 ∧ hFr s_283v.2.2.2.2 H0 H1 ∧ hWt T0 H1) ∧ (Ab_283v_114 n11 n10 n9 n8 n7 n6 n5 n4 n3 n2 n1 n0 H0 H1 ∧ preb_283v n11 n10 n9 n8 H0) ∧ some q0 = some (mub_283v_114 n11 n10 n9 n8 n7 n6 n5 n4 n3 n2 n1 n0 H0 H1)) (f23 : n12 = 4) (f24 : n0 < n12) (f25 : n13 = 240) (f26 : n14 = w32 (n13 * n6)) (f27 : n15 = 4) (f28 : n16 = w32 (n15 * n2)) (f29 : n17 = w32 (n14 + n16)) (f30 : n18 = w32 (n17 + n0)) (f31 : n19 = (-1)) (f32 : n1 ≠ n19) (f33 : n20 = 4) (f34 : n21 = w32 (n20 * n1)) (f35 : n22 = w32 (n21 + n0)) : 0 ≤ n18 ∧ n18 < 4800 := by
  have g4 := f22.2.1.1
  unfold Ab_283v_114 at g4
  have g3 := f22.2.1.2
  unfold preb_283v at g3
  have e1 : hV H1 285 18 = hV H0 285 18 := (f22.1.2.1.1 285 18 kF_283v_285_18)
  have e3 : hV H1 285 64 = hV H0 285 64 := (f22.1.2.1.1 285 64 kF_283v_285_64)
  have e4 : hV H1 298 = hV H0 298 := fRow f22.1.2.1 298 kR_283v_298
  have e5 : hV H1 300 = hV H0 300 := fRow f22.1.2.1 300 kR_283v_300
  have e6 : hV H1 301 = hV H0 301 := fRow f22.1.2.1 301 kR_283v_301
  have e7 : hV H1 302 = hV H0 302 := fRow f22.1.2.1 302 kR_283v_302
  have e8 : hV H1 303 = hV H0 303 := fRow f22.1.2.1 303 kR_283v_303
  have e9 : hV H1 305 = hV H0 305 := fRow f22.1.2.1 305 kR_283v_305
  have e10 : hV H1 328 = hV H0 328 := fRow f22.1.2.1 328 kR_283v_328
  have e11 : hV H1 330 = hV H0 330 := fRow f22.1.2.1 330 kR_283v_330
  have e12 : hV H1 331 = hV H0 331 := fRow f22.1.2.1 331 kR_283v_331
  have e13 : hV H1 332 = hV H0 332 := fRow f22.1.2.1 332 kR_283v_332
  have e14 : hV H1 341 = hV H0 341 := fRow f22.1.2.1 341 kR_283v_341
  have e15 : (0 : Int) ≤ hV H0 285 18 ∧ hV H0 285 18 ≤ 8 := bTo e1 (f22.1.2.2 285 18 _ _ kW_285_18)
  have e16 : (0 : Int) ≤ hV H0 285 64 ∧ hV H0 285 64 ≤ 20 := bTo e3 (f22.1.2.2 285 64 _ _ kW_285_64)
  have e17 : (0 : Int) ≤ hV H1 285 65 ∧ hV H1 285 65 ≤ 2147483647 := f22.1.2.2 285 65 _ _ kW_285_65
  have e18 : (0 : Int) ≤ hV H1 285 82 ∧ hV H1 285 82 ≤ 40 := f22.1.2.2 285 82 _ _ kW_285_82
  try simp only [SO, SS, XQ]
  have k0 := g4.1
  have k1 := g4.2.1
  have k2 := g4.2.2.1
  have y0 := g4.2.2.2.1
  have y1 := g4.2.2.2.2.1
  have y2 := g4.2.2.2.2.2.1
  have y3 := g4.2.2.2.2.2.2.1
  have y4 := g4.2.2.2.2.2.2.2.1
  have y5 := g4.2.2.2.2.2.2.2.2.1
  have y6 := g4.2.2.2.2.2.2.2.2.2.1
  have y7 := g4.2.2.2.2.2.2.2.2.2.2
  have p0 := g3.1
  have p1 := g3.2.1
  have p2 := g3.2.2.1
  have p3 := g3.2.2.2.1
  have p4 := g3.2.2.2.2.1
  have p5 := g3.2.2.2.2.2.1
  have p6 := g3.2.2.2.2.2.2
  try simp only [XQ] at y0
  try simp only [SO] at y1
  try simp only [SS] at y2
  try simp only [SO] at p4
  try simp only [SS] at p5
  try simp only [e4, e5, e6, e7, e8, e9] at y0
  try simp only [e1, e3, e10, e11, e12, e13] at y1
  try simp only [e14] at y2
  clear g3
  clear g4
  clear e1 e3 e4 e5 e6 e7 e8 e9 e10 e11 e12 e13 e14
  clear f22
  rw [f25] at f26
  rw [f27] at f28
  rw [f33] at f34
  first
  | (have ix0 : n14 = 240 * n6 := Eq.trans f26 (w32_iv (Iml 240 rfl (Iat f13 f12)) (by decide)); subst ix0; clear f26)
  | (have ix0 : n14 = 240 * n6 := Eq.trans f26 (w32_id (by omega) (by omega)); subst ix0; clear f26)
  | (unfold w32 at f26; have ix0 : n14 = 240 * n6 := (by omega); subst ix0)
  | skip
  first
  | (have ix1 : n16 = 4 * n2 := Eq.trans f28 (w32_iv (Iml 4 rfl (Iat f5 f4)) (by decide)); subst ix1; clear f28)
  | (have ix1 : n16 = 4 * n2 := Eq.trans f28 (w32_id (by omega) (by omega)); subst ix1; clear f28)
  | (unfold w32 at f28; have ix1 : n16 = 4 * n2 := (by omega); subst ix1)
  | skip
  first
  | (have ix2 : n17 = (240 * n6) + (4 * n2) := Eq.trans f29 (w32_iv (Iad (Iml 240 rfl (Iat f13 f12)) (Iml 4 rfl (Iat f5 f4))) (by decide)); subst ix2; clear f29)
  | (have ix2 : n17 = (240 * n6) + (4 * n2) := Eq.trans f29 (w32_id (by omega) (by omega)); subst ix2; clear f29)
  | (unfold w32 at f29; have ix2 : n17 = (240 * n6) + (4 * n2) := (by omega); subst ix2)
  | skip
  first
  | (have ix3 : n18 = ((240 * n6) + (4 * n2)) + n0 := Eq.trans f30 (w32_iv (Iad (Iad (Iml 240 rfl (Iat f13 f12)) (Iml 4 rfl (Iat f5 f4))) (Iat f1 f0)) (by decide)); subst ix3; clear f30)
  | (have ix3 : n18 = ((240 * n6) + (4 * n2)) + n0 := Eq.trans f30 (w32_id (by omega) (by omega)); subst ix3; clear f30)
  | (unfold w32 at f30; have ix3 : n18 = ((240 * n6) + (4 * n2)) + n0 := (by omega); subst ix3)
  | skip
  try unfold w32 at f26
  try unfold w32 at f28
  try unfold w32 at f29
  try unfold w32 at f30
  try unfold w32 at f34
  try unfold w32 at f35
  try subst k2
  try subst k1
  try subst k0
  omega
def g_283v_114_4 : vG := ([(1, [24, 23, 11], [], 0), (3, [23, 22, 10], [], 0), (0, [22], [], 4), (41, [10, 20], [], 0), (0, [20], [], -1), (1, [19, 18, 11], [], 0), (1, [18, 15, 17], [], 0), (3, [17, 16, 9], [], 0), (0, [16], [], 4), (3, [15, 14, 5], [], 0), (0, [14], [], 240), (42, [11, 12], [], 0), (0, [12], [], 4), (5000, [0, 1, 2, 3, 4, 5, 6, 7, 8, 9, 10, 11], [0, 1], 114), (0, [0], [], 285), (90, [1], [], 0), (91, [1], [], 19), (90, [2], [], 0), (91, [2], [], 7), (90, [3], [], 0), (91, [3], [], 5), (0, [4], [], 285), (90, [5], [], 0), (91, [5], [], 19), (90, [6], [], 0), (91, [6], [], 7), (90, [7], [], 0), (91, [7], [], 5), (90, [8], [], 0), (91, [8], [], 2147483647), (90, [9], [], 0), (91, [9], [], 59), (90, [10], [], -1), (91, [10], [], 59), (90, [11], [], 0), (91, [11], [], 4)], (70, [19], [], 4800))
theorem c_283v_114_4 {q0 : Nat} : vOkm T0 (eP e_283v L_283v A_283v mu_283v (some q0)) 4 g_283v_114_4 := vOk_inI fun ρ η f0 f1 f2 f3 f4 f5 f6 f7 f8 f9 f10 f11 f12 f13 f14 f15 f16 f17 f18 f19 f20 f21 f22 f23 f24 f25 f26 f27 f28 f29 f30 f31 f32 f33 f34 f35 => q_283v_29 (q0 := q0) (n0 := ρ 11) (n1 := ρ 10) (n2 := ρ 9) (n3 := ρ 8) (n4 := ρ 7) (n5 := ρ 6) (n6 := ρ 5) (n7 := ρ 4) (n8 := ρ 3) (n9 := ρ 2) (n10 := ρ 1) (n11 := ρ 0) (n12 := ρ 12) (n13 := ρ 14) (n14 := ρ 15) (n15 := ρ 16) (n16 := ρ 17) (n17 := ρ 18) (n18 := ρ 19) (n19 := ρ 20) (n20 := ρ 22) (n21 := ρ 23) (n22 := ρ 24) (H0 := η 0) (H1 := η 1) f35 f34 f33 f32 f31 f30 f29 f28 f27 f26 f25 f24 f23 f22 f21 f20 f19 f18 f17 f16 f15 f14 f13 f12 f11 f10 f9 f8 f7 f6 f5 f4 f3 f2 f1 f0
theorem q_283v_30 {q0 : Nat} {n0 n1 n2 n3 n4 n5 n6 n7 n8 n9 n10 n11 n12 n13 n14 n15 n16 n17 n18 n19 n20 n21 n22 n23 : Int} {H0 H1 : gH} (f0 : n0 ≤ 4) (f1 : 0 ≤ n0) (f2 : n1 ≤ 59) (f3 : (-1) ≤ n1) (f4 : n2 ≤ 59) (f5 : 0 ≤ n2) (f6 : n3 ≤ 2147483647) (f7 : 0 ≤ n3) (f8 : n4 ≤ 5) (f9 : 0 ≤ n4) (f10 : n5 ≤ 7) (f11 : 0 ≤ n5) (f12 : n6 ≤ 19) (f13 : 0 ≤ n6) (f14 : n7 = 285) (f15 : n8 ≤ 5) (f16 : 0 ≤ n8) (f17 : n9 ≤ 7) (f18 : 0 ≤ n9) (f19 : n10 ≤ 19) (f20 : 0 ≤ n10) (f21 : n11 = 285) (f22 : (hLe T0 H0 H1 ∧ hFr s_283v.2.2.2.2 H0 H1 ∧ hWt T0 H1) ∧ (Ab_283v_114 n11 n10 n9 n8 n7 n6 n5 n4 n3 n2 n1 n0 H0 H1 ∧ preb_283v n11 n10 n9 n8 H0) ∧ some q0 = some (mub_283v_114 n11 n10 n9 n8 n7 n6 n5 n4 n3 n2 n1 n0 H0 H1)) (f23 : n12 = 4) (f24 : n0 < n12) (f25 : n13 = 240) (f26 : n14 = w32 (n13 * n6)) (f27 : n15 = 4) (f28 : n16 = w32 (n15 * n2)) (f29 : n17 = w32 (n14 + n16)) (f30 : n18 = w32 (n17 + n0)) (f31 : n19 = (-1)) (f32 : n1 ≠ n19) (f33 : n20 = 4) (f34 : n21 = w32 (n20 * n1)) (f35 : n22 = w32 (n21 + n0)) (f36 : n23 = w32 (n0 + 1)) : 0 ≤ n23 := by
  have g4 := f22.2.1.1
  unfold Ab_283v_114 at g4
  have g3 := f22.2.1.2
  unfold preb_283v at g3
  have e1 : hV H1 285 18 = hV H0 285 18 := (f22.1.2.1.1 285 18 kF_283v_285_18)
  have e3 : hV H1 285 64 = hV H0 285 64 := (f22.1.2.1.1 285 64 kF_283v_285_64)
  have e4 : hV H1 298 = hV H0 298 := fRow f22.1.2.1 298 kR_283v_298
  have e5 : hV H1 300 = hV H0 300 := fRow f22.1.2.1 300 kR_283v_300
  have e6 : hV H1 301 = hV H0 301 := fRow f22.1.2.1 301 kR_283v_301
  have e7 : hV H1 302 = hV H0 302 := fRow f22.1.2.1 302 kR_283v_302
  have e8 : hV H1 303 = hV H0 303 := fRow f22.1.2.1 303 kR_283v_303
  have e9 : hV H1 305 = hV H0 305 := fRow f22.1.2.1 305 kR_283v_305
  have e10 : hV H1 328 = hV H0 328 := fRow f22.1.2.1 328 kR_283v_328
  have e11 : hV H1 330 = hV H0 330 := fRow f22.1.2.1 330 kR_283v_330
  have e12 : hV H1 331 = hV H0 331 := fRow f22.1.2.1 331 kR_283v_331
  have e13 : hV H1 332 = hV H0 332 := fRow f22.1.2.1 332 kR_283v_332
  have e14 : hV H1 341 = hV H0 341 := fRow f22.1.2.1 341 kR_283v_341
  have e15 : (0 : Int) ≤ hV H0 285 18 ∧ hV H0 285 18 ≤ 8 := bTo e1 (f22.1.2.2 285 18 _ _ kW_285_18)
  have e16 : (0 : Int) ≤ hV H0 285 64 ∧ hV H0 285 64 ≤ 20 := bTo e3 (f22.1.2.2 285 64 _ _ kW_285_64)
  have e17 : (0 : Int) ≤ hV H1 285 65 ∧ hV H1 285 65 ≤ 2147483647 := f22.1.2.2 285 65 _ _ kW_285_65
  have e18 : (0 : Int) ≤ hV H1 285 82 ∧ hV H1 285 82 ≤ 40 := f22.1.2.2 285 82 _ _ kW_285_82
  try simp only [SO, SS, XQ]
  have k0 := g4.1
  have k1 := g4.2.1
  have k2 := g4.2.2.1
  have y0 := g4.2.2.2.1
  have y1 := g4.2.2.2.2.1
  have y2 := g4.2.2.2.2.2.1
  have y3 := g4.2.2.2.2.2.2.1
  have y4 := g4.2.2.2.2.2.2.2.1
  have y5 := g4.2.2.2.2.2.2.2.2.1
  have y6 := g4.2.2.2.2.2.2.2.2.2.1
  have y7 := g4.2.2.2.2.2.2.2.2.2.2
  have p0 := g3.1
  have p1 := g3.2.1
  have p2 := g3.2.2.1
  have p3 := g3.2.2.2.1
  have p4 := g3.2.2.2.2.1
  have p5 := g3.2.2.2.2.2.1
  have p6 := g3.2.2.2.2.2.2
  try simp only [XQ] at y0
  try simp only [SO] at y1
  try simp only [SS] at y2
  try simp only [SO] at p4
  try simp only [SS] at p5
  try simp only [e4, e5, e6, e7, e8, e9] at y0
  try simp only [e1, e3, e10, e11, e12, e13] at y1
  try simp only [e14] at y2
  clear g3
  clear g4
  clear e1 e3 e4 e5 e6 e7 e8 e9 e10 e11 e12 e13 e14
  clear f22
  rw [f25] at f26
  rw [f27] at f28
  rw [f33] at f34
  first
  | (have ix0 : n23 = n0 + 1 := Eq.trans f36 (w32_iv (Iad (Iat f1 f0) (IC 1)) (by decide)); subst ix0; clear f36)
  | (have ix0 : n23 = n0 + 1 := Eq.trans f36 (w32_id (by omega) (by omega)); subst ix0; clear f36)
  | (unfold w32 at f36; have ix0 : n23 = n0 + 1 := (by omega); subst ix0)
  | skip
  try unfold w32 at f26
  try unfold w32 at f28
  try unfold w32 at f29
  try unfold w32 at f30
  try unfold w32 at f34
  try unfold w32 at f35
  try unfold w32 at f36
  try subst k2
  try subst k1
  try subst k0
  omega
def g_283v_114_5 : vG := ([(10, [26, 11], [], 1), (1, [24, 23, 11], [], 0), (3, [23, 22, 10], [], 0), (0, [22], [], 4), (41, [10, 20], [], 0), (0, [20], [], -1), (1, [19, 18, 11], [], 0), (1, [18, 15, 17], [], 0), (3, [17, 16, 9], [], 0), (0, [16], [], 4), (3, [15, 14, 5], [], 0), (0, [14], [], 240), (42, [11, 12], [], 0), (0, [12], [], 4), (5000, [0, 1, 2, 3, 4, 5, 6, 7, 8, 9, 10, 11], [0, 1], 114), (0, [0], [], 285), (90, [1], [], 0), (91, [1], [], 19), (90, [2], [], 0), (91, [2], [], 7), (90, [3], [], 0), (91, [3], [], 5), (0, [4], [], 285), (90, [5], [], 0), (91, [5], [], 19), (90, [6], [], 0), (91, [6], [], 7), (90, [7], [], 0), (91, [7], [], 5), (90, [8], [], 0), (91, [8], [], 2147483647), (90, [9], [], 0), (91, [9], [], 59), (90, [10], [], -1), (91, [10], [], 59), (90, [11], [], 0), (91, [11], [], 4)], (90, [26], [], 0))
theorem c_283v_114_5 {q0 : Nat} : vOkm T0 (eP e_283v L_283v A_283v mu_283v (some q0)) 4 g_283v_114_5 := vOk_inI fun ρ η f0 f1 f2 f3 f4 f5 f6 f7 f8 f9 f10 f11 f12 f13 f14 f15 f16 f17 f18 f19 f20 f21 f22 f23 f24 f25 f26 f27 f28 f29 f30 f31 f32 f33 f34 f35 f36 => q_283v_30 (q0 := q0) (n0 := ρ 11) (n1 := ρ 10) (n2 := ρ 9) (n3 := ρ 8) (n4 := ρ 7) (n5 := ρ 6) (n6 := ρ 5) (n7 := ρ 4) (n8 := ρ 3) (n9 := ρ 2) (n10 := ρ 1) (n11 := ρ 0) (n12 := ρ 12) (n13 := ρ 14) (n14 := ρ 15) (n15 := ρ 16) (n16 := ρ 17) (n17 := ρ 18) (n18 := ρ 19) (n19 := ρ 20) (n20 := ρ 22) (n21 := ρ 23) (n22 := ρ 24) (n23 := ρ 26) (H0 := η 0) (H1 := η 1) f36 f35 f34 f33 f32 f31 f30 f29 f28 f27 f26 f25 f24 f23 f22 f21 f20 f19 f18 f17 f16 f15 f14 f13 f12 f11 f10 f9 f8 f7 f6 f5 f4 f3 f2 f1 f0
theorem q_283v_31 {q0 : Nat} {n0 n1 n2 n3 n4 n5 n6 n7 n8 n9 n10 n11 n12 n13 n14 n15 n16 n17 n18 n19 n20 n21 n22 n23 : Int} {H0 H1 : gH} (f0 : n0 ≤ 4) (f1 : 0 ≤ n0) (f2 : n1 ≤ 59) (f3 : (-1) ≤ n1) (f4 : n2 ≤ 59) (f5 : 0 ≤ n2) (f6 : n3 ≤ 2147483647) (f7 : 0 ≤ n3) (f8 : n4 ≤ 5) (f9 : 0 ≤ n4) (f10 : n5 ≤ 7) (f11 : 0 ≤ n5) (f12 : n6 ≤ 19) (f13 : 0 ≤ n6) (f14 : n7 = 285) (f15 : n8 ≤ 5) (f16 : 0 ≤ n8) (f17 : n9 ≤ 7) (f18 : 0 ≤ n9) (f19 : n10 ≤ 19) (f20 : 0 ≤ n10) (f21 : n11 = 285) (f22 : (hLe T0 H0 H1 ∧ hFr s_283v.2.2.2.2 H0 H1 ∧ hWt T0 H1) ∧ (Ab_283v_114 n11 n10 n9 n8 n7 n6 n5 n4 n3 n2 n1 n0 H0 H1 ∧ preb_283v n11 n10 n9 n8 H0) ∧ some q0 = some (mub_283v_114 n11 n10 n9 n8 n7 n6 n5 n4 n3 n2 n1 n0 H0 H1)) (f23 : n12 = 4) (f24 : n0 < n12) (f25 : n13 = 240) (f26 : n14 = w32 (n13 * n6)) (f27 : n15 = 4) (f28 : n16 = w32 (n15 * n2)) (f29 : n17 = w32 (n14 + n16)) (f30 : n18 = w32 (n17 + n0)) (f31 : n19 = (-1)) (f32 : n1 ≠ n19) (f33 : n20 = 4) (f34 : n21 = w32 (n20 * n1)) (f35 : n22 = w32 (n21 + n0)) (f36 : n23 = w32 (n0 + 1)) : n23 ≤ 4 := by
  have g4 := f22.2.1.1
  unfold Ab_283v_114 at g4
  have g3 := f22.2.1.2
  unfold preb_283v at g3
  have e1 : hV H1 285 18 = hV H0 285 18 := (f22.1.2.1.1 285 18 kF_283v_285_18)
  have e3 : hV H1 285 64 = hV H0 285 64 := (f22.1.2.1.1 285 64 kF_283v_285_64)
  have e4 : hV H1 298 = hV H0 298 := fRow f22.1.2.1 298 kR_283v_298
  have e5 : hV H1 300 = hV H0 300 := fRow f22.1.2.1 300 kR_283v_300
  have e6 : hV H1 301 = hV H0 301 := fRow f22.1.2.1 301 kR_283v_301
  have e7 : hV H1 302 = hV H0 302 := fRow f22.1.2.1 302 kR_283v_302
  have e8 : hV H1 303 = hV H0 303 := fRow f22.1.2.1 303 kR_283v_303
  have e9 : hV H1 305 = hV H0 305 := fRow f22.1.2.1 305 kR_283v_305
  have e10 : hV H1 328 = hV H0 328 := fRow f22.1.2.1 328 kR_283v_328
  have e11 : hV H1 330 = hV H0 330 := fRow f22.1.2.1 330 kR_283v_330
  have e12 : hV H1 331 = hV H0 331 := fRow f22.1.2.1 331 kR_283v_331
  have e13 : hV H1 332 = hV H0 332 := fRow f22.1.2.1 332 kR_283v_332
  have e14 : hV H1 341 = hV H0 341 := fRow f22.1.2.1 341 kR_283v_341
  have e15 : (0 : Int) ≤ hV H0 285 18 ∧ hV H0 285 18 ≤ 8 := bTo e1 (f22.1.2.2 285 18 _ _ kW_285_18)
  have e16 : (0 : Int) ≤ hV H0 285 64 ∧ hV H0 285 64 ≤ 20 := bTo e3 (f22.1.2.2 285 64 _ _ kW_285_64)
  have e17 : (0 : Int) ≤ hV H1 285 65 ∧ hV H1 285 65 ≤ 2147483647 := f22.1.2.2 285 65 _ _ kW_285_65
  have e18 : (0 : Int) ≤ hV H1 285 82 ∧ hV H1 285 82 ≤ 40 := f22.1.2.2 285 82 _ _ kW_285_82
  try simp only [SO, SS, XQ]
  have k0 := g4.1
  have k1 := g4.2.1
  have k2 := g4.2.2.1
  have y0 := g4.2.2.2.1
  have y1 := g4.2.2.2.2.1
  have y2 := g4.2.2.2.2.2.1
  have y3 := g4.2.2.2.2.2.2.1
  have y4 := g4.2.2.2.2.2.2.2.1
  have y5 := g4.2.2.2.2.2.2.2.2.1
  have y6 := g4.2.2.2.2.2.2.2.2.2.1
  have y7 := g4.2.2.2.2.2.2.2.2.2.2
  have p0 := g3.1
  have p1 := g3.2.1
  have p2 := g3.2.2.1
  have p3 := g3.2.2.2.1
  have p4 := g3.2.2.2.2.1
  have p5 := g3.2.2.2.2.2.1
  have p6 := g3.2.2.2.2.2.2
  try simp only [XQ] at y0
  try simp only [SO] at y1
  try simp only [SS] at y2
  try simp only [SO] at p4
  try simp only [SS] at p5
  try simp only [e4, e5, e6, e7, e8, e9] at y0
  try simp only [e1, e3, e10, e11, e12, e13] at y1
  try simp only [e14] at y2
  clear g3
  clear g4
  clear e1 e3 e4 e5 e6 e7 e8 e9 e10 e11 e12 e13 e14
  clear f22
  rw [f25] at f26
  rw [f27] at f28
  rw [f33] at f34
  first
  | (have ix0 : n23 = n0 + 1 := Eq.trans f36 (w32_iv (Iad (Iat f1 f0) (IC 1)) (by decide)); subst ix0; clear f36)
  | (have ix0 : n23 = n0 + 1 := Eq.trans f36 (w32_id (by omega) (by omega)); subst ix0; clear f36)
  | (unfold w32 at f36; have ix0 : n23 = n0 + 1 := (by omega); subst ix0)
  | skip
  try unfold w32 at f26
  try unfold w32 at f28
  try unfold w32 at f29
  try unfold w32 at f30
  try unfold w32 at f34
  try unfold w32 at f35
  try unfold w32 at f36
  try subst k2
  try subst k1
  try subst k0
  omega
def g_283v_114_6 : vG := ([(10, [26, 11], [], 1), (1, [24, 23, 11], [], 0), (3, [23, 22, 10], [], 0), (0, [22], [], 4), (41, [10, 20], [], 0), (0, [20], [], -1), (1, [19, 18, 11], [], 0), (1, [18, 15, 17], [], 0), (3, [17, 16, 9], [], 0), (0, [16], [], 4), (3, [15, 14, 5], [], 0), (0, [14], [], 240), (42, [11, 12], [], 0), (0, [12], [], 4), (5000, [0, 1, 2, 3, 4, 5, 6, 7, 8, 9, 10, 11], [0, 1], 114), (0, [0], [], 285), (90, [1], [], 0), (91, [1], [], 19), (90, [2], [], 0), (91, [2], [], 7), (90, [3], [], 0), (91, [3], [], 5), (0, [4], [], 285), (90, [5], [], 0), (91, [5], [], 19), (90, [6], [], 0), (91, [6], [], 7), (90, [7], [], 0), (91, [7], [], 5), (90, [8], [], 0), (91, [8], [], 2147483647), (90, [9], [], 0), (91, [9], [], 59), (90, [10], [], -1), (91, [10], [], 59), (90, [11], [], 0), (91, [11], [], 4)], (91, [26], [], 4))
theorem c_283v_114_6 {q0 : Nat} : vOkm T0 (eP e_283v L_283v A_283v mu_283v (some q0)) 4 g_283v_114_6 := vOk_inI fun ρ η f0 f1 f2 f3 f4 f5 f6 f7 f8 f9 f10 f11 f12 f13 f14 f15 f16 f17 f18 f19 f20 f21 f22 f23 f24 f25 f26 f27 f28 f29 f30 f31 f32 f33 f34 f35 f36 => q_283v_31 (q0 := q0) (n0 := ρ 11) (n1 := ρ 10) (n2 := ρ 9) (n3 := ρ 8) (n4 := ρ 7) (n5 := ρ 6) (n6 := ρ 5) (n7 := ρ 4) (n8 := ρ 3) (n9 := ρ 2) (n10 := ρ 1) (n11 := ρ 0) (n12 := ρ 12) (n13 := ρ 14) (n14 := ρ 15) (n15 := ρ 16) (n16 := ρ 17) (n17 := ρ 18) (n18 := ρ 19) (n19 := ρ 20) (n20 := ρ 22) (n21 := ρ 23) (n22 := ρ 24) (n23 := ρ 26) (H0 := η 0) (H1 := η 1) f36 f35 f34 f33 f32 f31 f30 f29 f28 f27 f26 f25 f24 f23 f22 f21 f20 f19 f18 f17 f16 f15 f14 f13 f12 f11 f10 f9 f8 f7 f6 f5 f4 f3 f2 f1 f0
theorem q_283v_32 {q0 : Nat} {n0 n1 n2 n3 n4 n5 n6 n7 n8 n9 n10 n11 n12 n13 n14 n15 n16 n17 n18 n19 n20 n21 n22 n23 n24 n25 n26 : Int} {H0 H1 H2 : gH} (f0 : n0 ≤ 4) (f1 : 0 ≤ n0) (f2 : n1 ≤ 59) (f3 : (-1) ≤ n1) (f4 : n2 ≤ 59) (f5 : 0 ≤ n2) (f6 : n3 ≤ 2147483647) (f7 : 0 ≤ n3) (f8 : n4 ≤ 5) (f9 : 0 ≤ n4) (f10 : n5 ≤ 7) (f11 : 0 ≤ n5) (f12 : n6 ≤ 19) (f13 : 0 ≤ n6) (f14 : n7 = 285) (f15 : n8 ≤ 5) (f16 : 0 ≤ n8) (f17 : n9 ≤ 7) (f18 : 0 ≤ n9) (f19 : n10 ≤ 19) (f20 : 0 ≤ n10) (f21 : n11 = 285) (f22 : (hLe T0 H0 H1 ∧ hFr s_283v.2.2.2.2 H0 H1 ∧ hWt T0 H1) ∧ (Ab_283v_114 n11 n10 n9 n8 n7 n6 n5 n4 n3 n2 n1 n0 H0 H1 ∧ preb_283v n11 n10 n9 n8 H0) ∧ some q0 = some (mub_283v_114 n11 n10 n9 n8 n7 n6 n5 n4 n3 n2 n1 n0 H0 H1)) (f23 : n12 = 4) (f24 : n0 < n12) (f25 : n13 = 337) (f26 : n13 = hV H1 (n7).toNat 75) (f27 : n14 = 240) (f28 : n15 = w32 (n14 * n6)) (f29 : n16 = 4) (f30 : n17 = w32 (n16 * n2)) (f31 : n18 = w32 (n15 + n17)) (f32 : n19 = w32 (n18 + n0)) (f33 : n20 = (-1)) (f34 : n1 ≠ n20) (f35 : n21 = 352) (f36 : n21 = hV H1 (n7).toNat 92) (f37 : n22 = 4) (f38 : n23 = w32 (n22 * n1)) (f39 : n24 = w32 (n23 + n0)) (f40 : n25 ≤ 2147483647) (f41 : (-2147483648) ≤ n25) (f42 : n25 = hV H1 (n21).toNat (n24).toNat) (f43 : hUpd H2 H1 n13 n19 n25) (f44 : n26 = w32 (n0 + 1)) : Ab_283v_114 n11 n10 n9 n8 n7 n6 n5 n4 n3 n2 n1 n26 H0 H2 ∧ ∀ q, some q0 = some q → mub_283v_114 n11 n10 n9 n8 n7 n6 n5 n4 n3 n2 n1 n26 H0 H2 < q := by
  have g4 := f22.2.1.1
  unfold Ab_283v_114 at g4
  have g3 := f22.2.1.2
  unfold preb_283v at g3
  have g5 := Option.some.inj f22.2.2
  unfold mub_283v_114 at g5
  unfold Ab_283v_114
  unfold mub_283v_114
  have e0 : n25 = hV H1 352 (n24).toNat := (by rw [f35] at f42; exact f42 : n25 = hV H1 352 (n24).toNat)
  have e2 : hV H1 285 18 = hV H0 285 18 := (f22.1.2.1.1 285 18 kF_283v_285_18)
  have e4 : hV H1 285 64 = hV H0 285 64 := (f22.1.2.1.1 285 64 kF_283v_285_64)
  have e5 : hV H1 298 = hV H0 298 := fRow f22.1.2.1 298 kR_283v_298
  have e6 : hV H1 300 = hV H0 300 := fRow f22.1.2.1 300 kR_283v_300
  have e7 : hV H1 301 = hV H0 301 := fRow f22.1.2.1 301 kR_283v_301
  have e8 : hV H1 302 = hV H0 302 := fRow f22.1.2.1 302 kR_283v_302
  have e9 : hV H1 303 = hV H0 303 := fRow f22.1.2.1 303 kR_283v_303
  have e10 : hV H1 305 = hV H0 305 := fRow f22.1.2.1 305 kR_283v_305
  have e11 : hV H1 328 = hV H0 328 := fRow f22.1.2.1 328 kR_283v_328
  have e12 : hV H1 330 = hV H0 330 := fRow f22.1.2.1 330 kR_283v_330
  have e13 : hV H1 331 = hV H0 331 := fRow f22.1.2.1 331 kR_283v_331
  have e14 : hV H1 332 = hV H0 332 := fRow f22.1.2.1 332 kR_283v_332
  have e15 : hV H1 341 = hV H0 341 := fRow f22.1.2.1 341 kR_283v_341
  have e17 : hV H2 285 18 = hV H0 285 18 := ((uPlace f43 285 18 (iS (show n13 = ((337 : Nat) : Int) from f25) rfl))).trans (f22.1.2.1.1 285 18 kF_283v_285_18)
  have e19 : hV H2 285 64 = hV H0 285 64 := ((uPlace f43 285 64 (iS (show n13 = ((337 : Nat) : Int) from f25) rfl))).trans (f22.1.2.1.1 285 64 kF_283v_285_64)
  have e21 : hV H2 285 65 = hV H1 285 65 := (uPlace f43 285 65 (iS (show n13 = ((337 : Nat) : Int) from f25) rfl))
  have e23 : hV H2 285 82 = hV H1 285 82 := (uPlace f43 285 82 (iS (show n13 = ((337 : Nat) : Int) from f25) rfl))
  have e25 : hV H2 298 = hV H0 298 := (uRowNe f43 298 (iS (show n13 = ((337 : Nat) : Int) from f25) rfl)).trans e5
  have e27 : hV H2 300 = hV H0 300 := (uRowNe f43 300 (iS (show n13 = ((337 : Nat) : Int) from f25) rfl)).trans e6
  have e29 : hV H2 301 = hV H0 301 := (uRowNe f43 301 (iS (show n13 = ((337 : Nat) : Int) from f25) rfl)).trans e7
  have e31 : hV H2 302 = hV H0 302 := (uRowNe f43 302 (iS (show n13 = ((337 : Nat) : Int) from f25) rfl)).trans e8
  have e33 : hV H2 303 = hV H0 303 := (uRowNe f43 303 (iS (show n13 = ((337 : Nat) : Int) from f25) rfl)).trans e9
  have e35 : hV H2 305 = hV H0 305 := (uRowNe f43 305 (iS (show n13 = ((337 : Nat) : Int) from f25) rfl)).trans e10
  have e37 : hV H2 328 = hV H0 328 := (uRowNe f43 328 (iS (show n13 = ((337 : Nat) : Int) from f25) rfl)).trans e11
  have e38 : hV H2 329 = hV H1 329 := uRowNe f43 329 (iS (show n13 = ((337 : Nat) : Int) from f25) rfl)
  have e40 : hV H2 330 = hV H0 330 := (uRowNe f43 330 (iS (show n13 = ((337 : Nat) : Int) from f25) rfl)).trans e12
  have e42 : hV H2 331 = hV H0 331 := (uRowNe f43 331 (iS (show n13 = ((337 : Nat) : Int) from f25) rfl)).trans e13
  have e44 : hV H2 332 = hV H0 332 := (uRowNe f43 332 (iS (show n13 = ((337 : Nat) : Int) from f25) rfl)).trans e14
  have e45 : hV H2 333 = hV H1 333 := uRowNe f43 333 (iS (show n13 = ((337 : Nat) : Int) from f25) rfl)
  have e46 : hV H2 334 = hV H1 334 := uRowNe f43 334 (iS (show n13 = ((337 : Nat) : Int) from f25) rfl)
  have e47 : hV H2 335 = hV H1 335 := uRowNe f43 335 (iS (show n13 = ((337 : Nat) : Int) from f25) rfl)
  have e48 : hV H2 336 = hV H1 336 := uRowNe f43 336 (iS (show n13 = ((337 : Nat) : Int) from f25) rfl)
  have e50 : hV H2 341 = hV H0 341 := (uRowNe f43 341 (iS (show n13 = ((337 : Nat) : Int) from f25) rfl)).trans e15
  have e51 : hV H2 344 = hV H1 344 := uRowNe f43 344 (iS (show n13 = ((337 : Nat) : Int) from f25) rfl)
  have e52 : (0 : Int) ≤ hV H0 285 18 ∧ hV H0 285 18 ≤ 8 := bTo e2 (f22.1.2.2 285 18 _ _ kW_285_18)
  have e53 : (0 : Int) ≤ hV H0 285 64 ∧ hV H0 285 64 ≤ 20 := bTo e4 (f22.1.2.2 285 64 _ _ kW_285_64)
  have e54 : (0 : Int) ≤ hV H1 285 65 ∧ hV H1 285 65 ≤ 2147483647 := f22.1.2.2 285 65 _ _ kW_285_65
  have e55 : (0 : Int) ≤ hV H1 285 82 ∧ hV H1 285 82 ≤ 40 := f22.1.2.2 285 82 _ _ kW_285_82
  try simp only [SO, SS, XQ]
  try simp only [e17, e19, e21, e23, e25, e27, e29, e31, e33, e35, e37, e38, e40, e42, e44, e45, e46, e47, e48, e50, e51]
  have k0 := g4.1
  have k1 := g4.2.1
  have k2 := g4.2.2.1
  have y0 := g4.2.2.2.1
  have y1 := g4.2.2.2.2.1
  have y2 := g4.2.2.2.2.2.1
  have y3 := g4.2.2.2.2.2.2.1
  have y4 := g4.2.2.2.2.2.2.2.1
  have y5 := g4.2.2.2.2.2.2.2.2.1
  have y6 := g4.2.2.2.2.2.2.2.2.2.1
  have y7 := g4.2.2.2.2.2.2.2.2.2.2
  have p0 := g3.1
  have p1 := g3.2.1
  have p2 := g3.2.2.1
  have p3 := g3.2.2.2.1
  have p4 := g3.2.2.2.2.1
  have p5 := g3.2.2.2.2.2.1
  have p6 := g3.2.2.2.2.2.2
  try simp only [XQ] at y0
  try simp only [SO] at y1
  try simp only [SS] at y2
  try simp only [SO] at p4
  try simp only [SS] at p5
  try simp only [e5, e6, e7, e8, e9, e10] at y0
  try simp only [e2, e4, e11, e12, e13, e14] at y1
  try simp only [e15] at y2
  clear g3
  clear g4
  clear f26 f36 f42 e2 e4 e5 e6 e7 e8 e9 e10 e11 e12 e13 e14 e15 e17 e19 e21 e23 e25 e27 e29 e31 e33 e35 e37 e38 e40 e42 e44 e45 e46 e47 e48 e50 e51
  clear f22
  subst e0
  rw [f27] at f28
  rw [f29] at f30
  rw [f37] at f38
  first
  | (have ix0 : n15 = 240 * n6 := Eq.trans f28 (w32_iv (Iml 240 rfl (Iat f13 f12)) (by decide)); subst ix0; clear f28)
  | (have ix0 : n15 = 240 * n6 := Eq.trans f28 (w32_id (by omega) (by omega)); subst ix0; clear f28)
  | (unfold w32 at f28; have ix0 : n15 = 240 * n6 := (by omega); subst ix0)
  | skip
  first
  | (have ix1 : n17 = 4 * n2 := Eq.trans f30 (w32_iv (Iml 4 rfl (Iat f5 f4)) (by decide)); subst ix1; clear f30)
  | (have ix1 : n17 = 4 * n2 := Eq.trans f30 (w32_id (by omega) (by omega)); subst ix1; clear f30)
  | (unfold w32 at f30; have ix1 : n17 = 4 * n2 := (by omega); subst ix1)
  | skip
  first
  | (have ix2 : n18 = (240 * n6) + (4 * n2) := Eq.trans f31 (w32_iv (Iad (Iml 240 rfl (Iat f13 f12)) (Iml 4 rfl (Iat f5 f4))) (by decide)); subst ix2; clear f31)
  | (have ix2 : n18 = (240 * n6) + (4 * n2) := Eq.trans f31 (w32_id (by omega) (by omega)); subst ix2; clear f31)
  | (unfold w32 at f31; have ix2 : n18 = (240 * n6) + (4 * n2) := (by omega); subst ix2)
  | skip
  first
  | (have ix3 : n19 = ((240 * n6) + (4 * n2)) + n0 := Eq.trans f32 (w32_iv (Iad (Iad (Iml 240 rfl (Iat f13 f12)) (Iml 4 rfl (Iat f5 f4))) (Iat f1 f0)) (by decide)); subst ix3; clear f32)
  | (have ix3 : n19 = ((240 * n6) + (4 * n2)) + n0 := Eq.trans f32 (w32_id (by omega) (by omega)); subst ix3; clear f32)
  | (unfold w32 at f32; have ix3 : n19 = ((240 * n6) + (4 * n2)) + n0 := (by omega); subst ix3)
  | skip
  first
  | (have ix4 : n23 = 4 * n1 := Eq.trans f38 (w32_iv (Iml 4 rfl (Iat f3 f2)) (by decide)); subst ix4; clear f38)
  | (have ix4 : n23 = 4 * n1 := Eq.trans f38 (w32_id (by omega) (by omega)); subst ix4; clear f38)
  | (unfold w32 at f38; have ix4 : n23 = 4 * n1 := (by omega); subst ix4)
  | skip
  first
  | (have ix5 : n24 = (4 * n1) + n0 := Eq.trans f39 (w32_iv (Iad (Iml 4 rfl (Iat f3 f2)) (Iat f1 f0)) (by decide)); subst ix5; clear f39)
  | (have ix5 : n24 = (4 * n1) + n0 := Eq.trans f39 (w32_id (by omega) (by omega)); subst ix5; clear f39)
  | (unfold w32 at f39; have ix5 : n24 = (4 * n1) + n0 := (by omega); subst ix5)
  | skip
  first
  | (have ix6 : n26 = n0 + 1 := Eq.trans f44 (w32_iv (Iad (Iat f1 f0) (IC 1)) (by decide)); subst ix6; clear f44)
  | (have ix6 : n26 = n0 + 1 := Eq.trans f44 (w32_id (by omega) (by omega)); subst ix6; clear f44)
  | (unfold w32 at f44; have ix6 : n26 = n0 + 1 := (by omega); subst ix6)
  | skip
  try unfold w32 at f28
  try unfold w32 at f30
  try unfold w32 at f31
  try unfold w32 at f32
  try unfold w32 at f38
  try unfold w32 at f39
  try unfold w32 at f44

  refine ⟨?_, fun q hq => ?_⟩
  · exact ⟨by first | omega | trivial, by first | omega | trivial, by first | omega | trivial, y0, y1, y2, y3, y4, by omega, by omega, y7⟩
  · have g6 := Option.some.inj hq
    subst g6
    omega
def g_283v_114_7 : vG := ([(10, [26, 11], [], 1), (80, [13, 19, 25], [2, 1], 0), (22, [25, 21, 24], [1], 0), (90, [25], [], -2147483648), (91, [25], [], 2147483647), (1, [24, 23, 11], [], 0), (3, [23, 22, 10], [], 0), (0, [22], [], 4), (20, [21, 4], [1], 92), (0, [21], [], 352), (41, [10, 20], [], 0), (0, [20], [], -1), (1, [19, 18, 11], [], 0), (1, [18, 15, 17], [], 0), (3, [17, 16, 9], [], 0), (0, [16], [], 4), (3, [15, 14, 5], [], 0), (0, [14], [], 240), (20, [13, 4], [1], 75), (0, [13], [], 337), (42, [11, 12], [], 0), (0, [12], [], 4), (5000, [0, 1, 2, 3, 4, 5, 6, 7, 8, 9, 10, 11], [0, 1], 114), (0, [0], [], 285), (90, [1], [], 0), (91, [1], [], 19), (90, [2], [], 0), (91, [2], [], 7), (90, [3], [], 0), (91, [3], [], 5), (0, [4], [], 285), (90, [5], [], 0), (91, [5], [], 19), (90, [6], [], 0), (91, [6], [], 7), (90, [7], [], 0), (91, [7], [], 5), (90, [8], [], 0), (91, [8], [], 2147483647), (90, [9], [], 0), (91, [9], [], 59), (90, [10], [], -1), (91, [10], [], 59), (90, [11], [], 0), (91, [11], [], 4)], (4000, [4, 5, 6, 7, 8, 9, 10, 26], [2], 114))
theorem c_283v_114_7 {q0 : Nat} : vOkm T0 (eP e_283v L_283v A_283v mu_283v (some q0)) 4 g_283v_114_7 := vOk_inI fun ρ η f0 f1 f2 f3 f4 f5 f6 f7 f8 f9 f10 f11 f12 f13 f14 f15 f16 f17 f18 f19 f20 f21 f22 f23 f24 f25 f26 f27 f28 f29 f30 f31 f32 f33 f34 f35 f36 f37 f38 f39 f40 f41 f42 f43 f44 => q_283v_32 (q0 := q0) (n0 := ρ 11) (n1 := ρ 10) (n2 := ρ 9) (n3 := ρ 8) (n4 := ρ 7) (n5 := ρ 6) (n6 := ρ 5) (n7 := ρ 4) (n8 := ρ 3) (n9 := ρ 2) (n10 := ρ 1) (n11 := ρ 0) (n12 := ρ 12) (n13 := ρ 13) (n14 := ρ 14) (n15 := ρ 15) (n16 := ρ 16) (n17 := ρ 17) (n18 := ρ 18) (n19 := ρ 19) (n20 := ρ 20) (n21 := ρ 21) (n22 := ρ 22) (n23 := ρ 23) (n24 := ρ 24) (n25 := ρ 25) (n26 := ρ 26) (H0 := η 0) (H1 := η 1) (H2 := η 2) f44 f43 f42 f41 f40 f39 f38 f37 f36 f35 f34 f33 f32 f31 f30 f29 f28 f27 f26 f25 f24 f23 f22 f21 f20 f19 f18 f17 f16 f15 f14 f13 f12 f11 f10 f9 f8 f7 f6 f5 f4 f3 f2 f1 f0
theorem q_283v_33 {q0 : Nat} {n0 n1 n2 n3 n4 n5 n6 n7 n8 n9 n10 n11 n12 n13 n14 n15 n16 n17 n18 n19 : Int} {H0 H1 : gH} (f0 : n0 ≤ 4) (f1 : 0 ≤ n0) (f2 : n1 ≤ 59) (f3 : (-1) ≤ n1) (f4 : n2 ≤ 59) (f5 : 0 ≤ n2) (f6 : n3 ≤ 2147483647) (f7 : 0 ≤ n3) (f8 : n4 ≤ 5) (f9 : 0 ≤ n4) (f10 : n5 ≤ 7) (f11 : 0 ≤ n5) (f12 : n6 ≤ 19) (f13 : 0 ≤ n6) (f14 : n7 = 285) (f15 : n8 ≤ 5) (f16 : 0 ≤ n8) (f17 : n9 ≤ 7) (f18 : 0 ≤ n9) (f19 : n10 ≤ 19) (f20 : 0 ≤ n10) (f21 : n11 = 285) (f22 : (hLe T0 H0 H1 ∧ hFr s_283v.2.2.2.2 H0 H1 ∧ hWt T0 H1) ∧ (Ab_283v_114 n11 n10 n9 n8 n7 n6 n5 n4 n3 n2 n1 n0 H0 H1 ∧ preb_283v n11 n10 n9 n8 H0) ∧ some q0 = some (mub_283v_114 n11 n10 n9 n8 n7 n6 n5 n4 n3 n2 n1 n0 H0 H1)) (f23 : n12 = 4) (f24 : n0 < n12) (f25 : n13 = 240) (f26 : n14 = w32 (n13 * n6)) (f27 : n15 = 4) (f28 : n16 = w32 (n15 * n2)) (f29 : n17 = w32 (n14 + n16)) (f30 : n18 = w32 (n17 + n0)) (f31 : n19 = (-1)) (f32 : n1 = n19) : 0 ≤ n18 ∧ n18 < 4800 := by
  have g4 := f22.2.1.1
  unfold Ab_283v_114 at g4
  have g3 := f22.2.1.2
  unfold preb_283v at g3
  have e1 : hV H1 285 18 = hV H0 285 18 := (f22.1.2.1.1 285 18 kF_283v_285_18)
  have e3 : hV H1 285 64 = hV H0 285 64 := (f22.1.2.1.1 285 64 kF_283v_285_64)
  have e4 : hV H1 298 = hV H0 298 := fRow f22.1.2.1 298 kR_283v_298
  have e5 : hV H1 300 = hV H0 300 := fRow f22.1.2.1 300 kR_283v_300
  have e6 : hV H1 301 = hV H0 301 := fRow f22.1.2.1 301 kR_283v_301
  have e7 : hV H1 302 = hV H0 302 := fRow f22.1.2.1 302 kR_283v_302
  have e8 : hV H1 303 = hV H0 303 := fRow f22.1.2.1 303 kR_283v_303
  have e9 : hV H1 305 = hV H0 305 := fRow f22.1.2.1 305 kR_283v_305
  have e10 : hV H1 328 = hV H0 328 := fRow f22.1.2.1 328 kR_283v_328
  have e11 : hV H1 330 = hV H0 330 := fRow f22.1.2.1 330 kR_283v_330
  have e12 : hV H1 331 = hV H0 331 := fRow f22.1.2.1 331 kR_283v_331
  have e13 : hV H1 332 = hV H0 332 := fRow f22.1.2.1 332 kR_283v_332
  have e14 : hV H1 341 = hV H0 341 := fRow f22.1.2.1 341 kR_283v_341
  have e15 : (0 : Int) ≤ hV H0 285 18 ∧ hV H0 285 18 ≤ 8 := bTo e1 (f22.1.2.2 285 18 _ _ kW_285_18)
  have e16 : (0 : Int) ≤ hV H0 285 64 ∧ hV H0 285 64 ≤ 20 := bTo e3 (f22.1.2.2 285 64 _ _ kW_285_64)
  have e17 : (0 : Int) ≤ hV H1 285 65 ∧ hV H1 285 65 ≤ 2147483647 := f22.1.2.2 285 65 _ _ kW_285_65
  have e18 : (0 : Int) ≤ hV H1 285 82 ∧ hV H1 285 82 ≤ 40 := f22.1.2.2 285 82 _ _ kW_285_82
  try simp only [SO, SS, XQ]
  have k0 := g4.1
  have k1 := g4.2.1
  have k2 := g4.2.2.1
  have y0 := g4.2.2.2.1
  have y1 := g4.2.2.2.2.1
  have y2 := g4.2.2.2.2.2.1
  have y3 := g4.2.2.2.2.2.2.1
  have y4 := g4.2.2.2.2.2.2.2.1
  have y5 := g4.2.2.2.2.2.2.2.2.1
  have y6 := g4.2.2.2.2.2.2.2.2.2.1
  have y7 := g4.2.2.2.2.2.2.2.2.2.2
  have p0 := g3.1
  have p1 := g3.2.1
  have p2 := g3.2.2.1
  have p3 := g3.2.2.2.1
  have p4 := g3.2.2.2.2.1
  have p5 := g3.2.2.2.2.2.1
  have p6 := g3.2.2.2.2.2.2
  try simp only [XQ] at y0
  try simp only [SO] at y1
  try simp only [SS] at y2
  try simp only [SO] at p4
  try simp only [SS] at p5
  try simp only [e4, e5, e6, e7, e8, e9] at y0
  try simp only [e1, e3, e10, e11, e12, e13] at y1
  try simp only [e14] at y2
  clear g3
  clear g4
  clear e1 e3 e4 e5 e6 e7 e8 e9 e10 e11 e12 e13 e14
  clear f22
  rw [f25] at f26
  rw [f27] at f28
  first
  | (have ix0 : n14 = 240 * n6 := Eq.trans f26 (w32_iv (Iml 240 rfl (Iat f13 f12)) (by decide)); subst ix0; clear f26)
  | (have ix0 : n14 = 240 * n6 := Eq.trans f26 (w32_id (by omega) (by omega)); subst ix0; clear f26)
  | (unfold w32 at f26; have ix0 : n14 = 240 * n6 := (by omega); subst ix0)
  | skip
  first
  | (have ix1 : n16 = 4 * n2 := Eq.trans f28 (w32_iv (Iml 4 rfl (Iat f5 f4)) (by decide)); subst ix1; clear f28)
  | (have ix1 : n16 = 4 * n2 := Eq.trans f28 (w32_id (by omega) (by omega)); subst ix1; clear f28)
  | (unfold w32 at f28; have ix1 : n16 = 4 * n2 := (by omega); subst ix1)
  | skip
  first
  | (have ix2 : n17 = (240 * n6) + (4 * n2) := Eq.trans f29 (w32_iv (Iad (Iml 240 rfl (Iat f13 f12)) (Iml 4 rfl (Iat f5 f4))) (by decide)); subst ix2; clear f29)
  | (have ix2 : n17 = (240 * n6) + (4 * n2) := Eq.trans f29 (w32_id (by omega) (by omega)); subst ix2; clear f29)
  | (unfold w32 at f29; have ix2 : n17 = (240 * n6) + (4 * n2) := (by omega); subst ix2)
  | skip
  first
  | (have ix3 : n18 = ((240 * n6) + (4 * n2)) + n0 := Eq.trans f30 (w32_iv (Iad (Iad (Iml 240 rfl (Iat f13 f12)) (Iml 4 rfl (Iat f5 f4))) (Iat f1 f0)) (by decide)); subst ix3; clear f30)
  | (have ix3 : n18 = ((240 * n6) + (4 * n2)) + n0 := Eq.trans f30 (w32_id (by omega) (by omega)); subst ix3; clear f30)
  | (unfold w32 at f30; have ix3 : n18 = ((240 * n6) + (4 * n2)) + n0 := (by omega); subst ix3)
  | skip
  try unfold w32 at f26
  try unfold w32 at f28
  try unfold w32 at f29
  try unfold w32 at f30
  try subst k2
  try subst k1
  try subst k0
  omega
def g_283v_114_8 : vG := ([(40, [10, 20], [], 0), (0, [20], [], -1), (1, [19, 18, 11], [], 0), (1, [18, 15, 17], [], 0), (3, [17, 16, 9], [], 0), (0, [16], [], 4), (3, [15, 14, 5], [], 0), (0, [14], [], 240), (42, [11, 12], [], 0), (0, [12], [], 4), (5000, [0, 1, 2, 3, 4, 5, 6, 7, 8, 9, 10, 11], [0, 1], 114), (0, [0], [], 285), (90, [1], [], 0), (91, [1], [], 19), (90, [2], [], 0), (91, [2], [], 7), (90, [3], [], 0), (91, [3], [], 5), (0, [4], [], 285), (90, [5], [], 0), (91, [5], [], 19), (90, [6], [], 0), (91, [6], [], 7), (90, [7], [], 0), (91, [7], [], 5), (90, [8], [], 0), (91, [8], [], 2147483647), (90, [9], [], 0), (91, [9], [], 59), (90, [10], [], -1), (91, [10], [], 59), (90, [11], [], 0), (91, [11], [], 4)], (70, [19], [], 4800))
theorem c_283v_114_8 {q0 : Nat} : vOkm T0 (eP e_283v L_283v A_283v mu_283v (some q0)) 4 g_283v_114_8 := vOk_inI fun ρ η f0 f1 f2 f3 f4 f5 f6 f7 f8 f9 f10 f11 f12 f13 f14 f15 f16 f17 f18 f19 f20 f21 f22 f23 f24 f25 f26 f27 f28 f29 f30 f31 f32 => q_283v_33 (q0 := q0) (n0 := ρ 11) (n1 := ρ 10) (n2 := ρ 9) (n3 := ρ 8) (n4 := ρ 7) (n5 := ρ 6) (n6 := ρ 5) (n7 := ρ 4) (n8 := ρ 3) (n9 := ρ 2) (n10 := ρ 1) (n11 := ρ 0) (n12 := ρ 12) (n13 := ρ 14) (n14 := ρ 15) (n15 := ρ 16) (n16 := ρ 17) (n17 := ρ 18) (n18 := ρ 19) (n19 := ρ 20) (H0 := η 0) (H1 := η 1) f32 f31 f30 f29 f28 f27 f26 f25 f24 f23 f22 f21 f20 f19 f18 f17 f16 f15 f14 f13 f12 f11 f10 f9 f8 f7 f6 f5 f4 f3 f2 f1 f0
theorem q_283v_34 {q0 : Nat} {n0 n1 n2 n3 n4 n5 n6 n7 n8 n9 n10 n11 n12 n13 n14 n15 n16 n17 n18 n19 n20 : Int} {H0 H1 : gH} (f0 : n0 ≤ 4) (f1 : 0 ≤ n0) (f2 : n1 ≤ 59) (f3 : (-1) ≤ n1) (f4 : n2 ≤ 59) (f5 : 0 ≤ n2) (f6 : n3 ≤ 2147483647) (f7 : 0 ≤ n3) (f8 : n4 ≤ 5) (f9 : 0 ≤ n4) (f10 : n5 ≤ 7) (f11 : 0 ≤ n5) (f12 : n6 ≤ 19) (f13 : 0 ≤ n6) (f14 : n7 = 285) (f15 : n8 ≤ 5) (f16 : 0 ≤ n8) (f17 : n9 ≤ 7) (f18 : 0 ≤ n9) (f19 : n10 ≤ 19) (f20 : 0 ≤ n10) (f21 : n11 = 285) (f22 : (hLe T0 H0 H1 ∧ hFr s_283v.2.2.2.2 H0 H1 ∧ hWt T0 H1) ∧ (Ab_283v_114 n11 n10 n9 n8 n7 n6 n5 n4 n3 n2 n1 n0 H0 H1 ∧ preb_283v n11 n10 n9 n8 H0) ∧ some q0 = some (mub_283v_114 n11 n10 n9 n8 n7 n6 n5 n4 n3 n2 n1 n0 H0 H1)) (f23 : n12 = 4) (f24 : n0 < n12) (f25 : n13 = 240) (f26 : n14 = w32 (n13 * n6)) (f27 : n15 = 4) (f28 : n16 = w32 (n15 * n2)) (f29 : n17 = w32 (n14 + n16)) (f30 : n18 = w32 (n17 + n0)) (f31 : n19 = (-1)) (f32 : n1 = n19) (f33 : n20 = w32 (n0 + 1)) : 0 ≤ n20 := by
  have g4 := f22.2.1.1
  unfold Ab_283v_114 at g4
  have g3 := f22.2.1.2
  unfold preb_283v at g3
  have e1 : hV H1 285 18 = hV H0 285 18 := (f22.1.2.1.1 285 18 kF_283v_285_18)
  have e3 : hV H1 285 64 = hV H0 285 64 := (f22.1.2.1.1 285 64 kF_283v_285_64)
  have e4 : hV H1 298 = hV H0 298 := fRow f22.1.2.1 298 kR_283v_298
  have e5 : hV H1 300 = hV H0 300 := fRow f22.1.2.1 300 kR_283v_300
  have e6 : hV H1 301 = hV H0 301 := fRow f22.1.2.1 301 kR_283v_301
  have e7 : hV H1 302 = hV H0 302 := fRow f22.1.2.1 302 kR_283v_302
  have e8 : hV H1 303 = hV H0 303 := fRow f22.1.2.1 303 kR_283v_303
  have e9 : hV H1 305 = hV H0 305 := fRow f22.1.2.1 305 kR_283v_305
  have e10 : hV H1 328 = hV H0 328 := fRow f22.1.2.1 328 kR_283v_328
  have e11 : hV H1 330 = hV H0 330 := fRow f22.1.2.1 330 kR_283v_330
  have e12 : hV H1 331 = hV H0 331 := fRow f22.1.2.1 331 kR_283v_331
  have e13 : hV H1 332 = hV H0 332 := fRow f22.1.2.1 332 kR_283v_332
  have e14 : hV H1 341 = hV H0 341 := fRow f22.1.2.1 341 kR_283v_341
  have e15 : (0 : Int) ≤ hV H0 285 18 ∧ hV H0 285 18 ≤ 8 := bTo e1 (f22.1.2.2 285 18 _ _ kW_285_18)
  have e16 : (0 : Int) ≤ hV H0 285 64 ∧ hV H0 285 64 ≤ 20 := bTo e3 (f22.1.2.2 285 64 _ _ kW_285_64)
  have e17 : (0 : Int) ≤ hV H1 285 65 ∧ hV H1 285 65 ≤ 2147483647 := f22.1.2.2 285 65 _ _ kW_285_65
  have e18 : (0 : Int) ≤ hV H1 285 82 ∧ hV H1 285 82 ≤ 40 := f22.1.2.2 285 82 _ _ kW_285_82
  try simp only [SO, SS, XQ]
  have k0 := g4.1
  have k1 := g4.2.1
  have k2 := g4.2.2.1
  have y0 := g4.2.2.2.1
  have y1 := g4.2.2.2.2.1
  have y2 := g4.2.2.2.2.2.1
  have y3 := g4.2.2.2.2.2.2.1
  have y4 := g4.2.2.2.2.2.2.2.1
  have y5 := g4.2.2.2.2.2.2.2.2.1
  have y6 := g4.2.2.2.2.2.2.2.2.2.1
  have y7 := g4.2.2.2.2.2.2.2.2.2.2
  have p0 := g3.1
  have p1 := g3.2.1
  have p2 := g3.2.2.1
  have p3 := g3.2.2.2.1
  have p4 := g3.2.2.2.2.1
  have p5 := g3.2.2.2.2.2.1
  have p6 := g3.2.2.2.2.2.2
  try simp only [XQ] at y0
  try simp only [SO] at y1
  try simp only [SS] at y2
  try simp only [SO] at p4
  try simp only [SS] at p5
  try simp only [e4, e5, e6, e7, e8, e9] at y0
  try simp only [e1, e3, e10, e11, e12, e13] at y1
  try simp only [e14] at y2
  clear g3
  clear g4
  clear e1 e3 e4 e5 e6 e7 e8 e9 e10 e11 e12 e13 e14
  clear f22
  rw [f25] at f26
  rw [f27] at f28
  first
  | (have ix0 : n20 = n0 + 1 := Eq.trans f33 (w32_iv (Iad (Iat f1 f0) (IC 1)) (by decide)); subst ix0; clear f33)
  | (have ix0 : n20 = n0 + 1 := Eq.trans f33 (w32_id (by omega) (by omega)); subst ix0; clear f33)
  | (unfold w32 at f33; have ix0 : n20 = n0 + 1 := (by omega); subst ix0)
  | skip
  try unfold w32 at f26
  try unfold w32 at f28
  try unfold w32 at f29
  try unfold w32 at f30
  try unfold w32 at f33
  try subst k2
  try subst k1
  try subst k0
  omega
def g_283v_114_9 : vG := ([(10, [22, 11], [], 1), (40, [10, 20], [], 0), (0, [20], [], -1), (1, [19, 18, 11], [], 0), (1, [18, 15, 17], [], 0), (3, [17, 16, 9], [], 0), (0, [16], [], 4), (3, [15, 14, 5], [], 0), (0, [14], [], 240), (42, [11, 12], [], 0), (0, [12], [], 4), (5000, [0, 1, 2, 3, 4, 5, 6, 7, 8, 9, 10, 11], [0, 1], 114), (0, [0], [], 285), (90, [1], [], 0), (91, [1], [], 19), (90, [2], [], 0), (91, [2], [], 7), (90, [3], [], 0), (91, [3], [], 5), (0, [4], [], 285), (90, [5], [], 0), (91, [5], [], 19), (90, [6], [], 0), (91, [6], [], 7), (90, [7], [], 0), (91, [7], [], 5), (90, [8], [], 0), (91, [8], [], 2147483647), (90, [9], [], 0), (91, [9], [], 59), (90, [10], [], -1), (91, [10], [], 59), (90, [11], [], 0), (91, [11], [], 4)], (90, [22], [], 0))
theorem c_283v_114_9 {q0 : Nat} : vOkm T0 (eP e_283v L_283v A_283v mu_283v (some q0)) 4 g_283v_114_9 := vOk_inI fun ρ η f0 f1 f2 f3 f4 f5 f6 f7 f8 f9 f10 f11 f12 f13 f14 f15 f16 f17 f18 f19 f20 f21 f22 f23 f24 f25 f26 f27 f28 f29 f30 f31 f32 f33 => q_283v_34 (q0 := q0) (n0 := ρ 11) (n1 := ρ 10) (n2 := ρ 9) (n3 := ρ 8) (n4 := ρ 7) (n5 := ρ 6) (n6 := ρ 5) (n7 := ρ 4) (n8 := ρ 3) (n9 := ρ 2) (n10 := ρ 1) (n11 := ρ 0) (n12 := ρ 12) (n13 := ρ 14) (n14 := ρ 15) (n15 := ρ 16) (n16 := ρ 17) (n17 := ρ 18) (n18 := ρ 19) (n19 := ρ 20) (n20 := ρ 22) (H0 := η 0) (H1 := η 1) f33 f32 f31 f30 f29 f28 f27 f26 f25 f24 f23 f22 f21 f20 f19 f18 f17 f16 f15 f14 f13 f12 f11 f10 f9 f8 f7 f6 f5 f4 f3 f2 f1 f0
theorem q_283v_35 {q0 : Nat} {n0 n1 n2 n3 n4 n5 n6 n7 n8 n9 n10 n11 n12 n13 n14 n15 n16 n17 n18 n19 n20 : Int} {H0 H1 : gH} (f0 : n0 ≤ 4) (f1 : 0 ≤ n0) (f2 : n1 ≤ 59) (f3 : (-1) ≤ n1) (f4 : n2 ≤ 59) (f5 : 0 ≤ n2) (f6 : n3 ≤ 2147483647) (f7 : 0 ≤ n3) (f8 : n4 ≤ 5) (f9 : 0 ≤ n4) (f10 : n5 ≤ 7) (f11 : 0 ≤ n5) (f12 : n6 ≤ 19) (f13 : 0 ≤ n6) (f14 : n7 = 285) (f15 : n8 ≤ 5) (f16 : 0 ≤ n8) (f17 : n9 ≤ 7) (f18 : 0 ≤ n9) (f19 : n10 ≤ 19) (f20 : 0 ≤ n10) (f21 : n11 = 285) (f22 : (hLe T0 H0 H1 ∧ hFr s_283v.2.2.2.2 H0 H1 ∧ hWt T0 H1) ∧ (Ab_283v_114 n11 n10 n9 n8 n7 n6 n5 n4 n3 n2 n1 n0 H0 H1 ∧ preb_283v n11 n10 n9 n8 H0) ∧ some q0 = some (mub_283v_114 n11 n10 n9 n8 n7 n6 n5 n4 n3 n2 n1 n0 H0 H1)) (f23 : n12 = 4) (f24 : n0 < n12) (f25 : n13 = 240) (f26 : n14 = w32 (n13 * n6)) (f27 : n15 = 4) (f28 : n16 = w32 (n15 * n2)) (f29 : n17 = w32 (n14 + n16)) (f30 : n18 = w32 (n17 + n0)) (f31 : n19 = (-1)) (f32 : n1 = n19) (f33 : n20 = w32 (n0 + 1)) : n20 ≤ 4 := by
  have g4 := f22.2.1.1
  unfold Ab_283v_114 at g4
  have g3 := f22.2.1.2
  unfold preb_283v at g3
  have e1 : hV H1 285 18 = hV H0 285 18 := (f22.1.2.1.1 285 18 kF_283v_285_18)
  have e3 : hV H1 285 64 = hV H0 285 64 := (f22.1.2.1.1 285 64 kF_283v_285_64)
  have e4 : hV H1 298 = hV H0 298 := fRow f22.1.2.1 298 kR_283v_298
  have e5 : hV H1 300 = hV H0 300 := fRow f22.1.2.1 300 kR_283v_300
  have e6 : hV H1 301 = hV H0 301 := fRow f22.1.2.1 301 kR_283v_301
  have e7 : hV H1 302 = hV H0 302 := fRow f22.1.2.1 302 kR_283v_302
  have e8 : hV H1 303 = hV H0 303 := fRow f22.1.2.1 303 kR_283v_303
  have e9 : hV H1 305 = hV H0 305 := fRow f22.1.2.1 305 kR_283v_305
  have e10 : hV H1 328 = hV H0 328 := fRow f22.1.2.1 328 kR_283v_328
  have e11 : hV H1 330 = hV H0 330 := fRow f22.1.2.1 330 kR_283v_330
  have e12 : hV H1 331 = hV H0 331 := fRow f22.1.2.1 331 kR_283v_331
  have e13 : hV H1 332 = hV H0 332 := fRow f22.1.2.1 332 kR_283v_332
  have e14 : hV H1 341 = hV H0 341 := fRow f22.1.2.1 341 kR_283v_341
  have e15 : (0 : Int) ≤ hV H0 285 18 ∧ hV H0 285 18 ≤ 8 := bTo e1 (f22.1.2.2 285 18 _ _ kW_285_18)
  have e16 : (0 : Int) ≤ hV H0 285 64 ∧ hV H0 285 64 ≤ 20 := bTo e3 (f22.1.2.2 285 64 _ _ kW_285_64)
  have e17 : (0 : Int) ≤ hV H1 285 65 ∧ hV H1 285 65 ≤ 2147483647 := f22.1.2.2 285 65 _ _ kW_285_65
  have e18 : (0 : Int) ≤ hV H1 285 82 ∧ hV H1 285 82 ≤ 40 := f22.1.2.2 285 82 _ _ kW_285_82
  try simp only [SO, SS, XQ]
  have k0 := g4.1
  have k1 := g4.2.1
  have k2 := g4.2.2.1
  have y0 := g4.2.2.2.1
  have y1 := g4.2.2.2.2.1
  have y2 := g4.2.2.2.2.2.1
  have y3 := g4.2.2.2.2.2.2.1
  have y4 := g4.2.2.2.2.2.2.2.1
  have y5 := g4.2.2.2.2.2.2.2.2.1
  have y6 := g4.2.2.2.2.2.2.2.2.2.1
  have y7 := g4.2.2.2.2.2.2.2.2.2.2
  have p0 := g3.1
  have p1 := g3.2.1
  have p2 := g3.2.2.1
  have p3 := g3.2.2.2.1
  have p4 := g3.2.2.2.2.1
  have p5 := g3.2.2.2.2.2.1
  have p6 := g3.2.2.2.2.2.2
  try simp only [XQ] at y0
  try simp only [SO] at y1
  try simp only [SS] at y2
  try simp only [SO] at p4
  try simp only [SS] at p5
  try simp only [e4, e5, e6, e7, e8, e9] at y0
  try simp only [e1, e3, e10, e11, e12, e13] at y1
  try simp only [e14] at y2
  clear g3
  clear g4
  clear e1 e3 e4 e5 e6 e7 e8 e9 e10 e11 e12 e13 e14
  clear f22
  rw [f25] at f26
  rw [f27] at f28
  first
  | (have ix0 : n20 = n0 + 1 := Eq.trans f33 (w32_iv (Iad (Iat f1 f0) (IC 1)) (by decide)); subst ix0; clear f33)
  | (have ix0 : n20 = n0 + 1 := Eq.trans f33 (w32_id (by omega) (by omega)); subst ix0; clear f33)
  | (unfold w32 at f33; have ix0 : n20 = n0 + 1 := (by omega); subst ix0)
  | skip
  try unfold w32 at f26
  try unfold w32 at f28
  try unfold w32 at f29
  try unfold w32 at f30
  try unfold w32 at f33
  try subst k2
  try subst k1
  try subst k0
  omega
def g_283v_114_10 : vG := ([(10, [22, 11], [], 1), (40, [10, 20], [], 0), (0, [20], [], -1), (1, [19, 18, 11], [], 0), (1, [18, 15, 17], [], 0), (3, [17, 16, 9], [], 0), (0, [16], [], 4), (3, [15, 14, 5], [], 0), (0, [14], [], 240), (42, [11, 12], [], 0), (0, [12], [], 4), (5000, [0, 1, 2, 3, 4, 5, 6, 7, 8, 9, 10, 11], [0, 1], 114), (0, [0], [], 285), (90, [1], [], 0), (91, [1], [], 19), (90, [2], [], 0), (91, [2], [], 7), (90, [3], [], 0), (91, [3], [], 5), (0, [4], [], 285), (90, [5], [], 0), (91, [5], [], 19), (90, [6], [], 0), (91, [6], [], 7), (90, [7], [], 0), (91, [7], [], 5), (90, [8], [], 0), (91, [8], [], 2147483647), (90, [9], [], 0), (91, [9], [], 59), (90, [10], [], -1), (91, [10], [], 59), (90, [11], [], 0), (91, [11], [], 4)], (91, [22], [], 4))
theorem c_283v_114_10 {q0 : Nat} : vOkm T0 (eP e_283v L_283v A_283v mu_283v (some q0)) 4 g_283v_114_10 := vOk_inI fun ρ η f0 f1 f2 f3 f4 f5 f6 f7 f8 f9 f10 f11 f12 f13 f14 f15 f16 f17 f18 f19 f20 f21 f22 f23 f24 f25 f26 f27 f28 f29 f30 f31 f32 f33 => q_283v_35 (q0 := q0) (n0 := ρ 11) (n1 := ρ 10) (n2 := ρ 9) (n3 := ρ 8) (n4 := ρ 7) (n5 := ρ 6) (n6 := ρ 5) (n7 := ρ 4) (n8 := ρ 3) (n9 := ρ 2) (n10 := ρ 1) (n11 := ρ 0) (n12 := ρ 12) (n13 := ρ 14) (n14 := ρ 15) (n15 := ρ 16) (n16 := ρ 17) (n17 := ρ 18) (n18 := ρ 19) (n19 := ρ 20) (n20 := ρ 22) (H0 := η 0) (H1 := η 1) f33 f32 f31 f30 f29 f28 f27 f26 f25 f24 f23 f22 f21 f20 f19 f18 f17 f16 f15 f14 f13 f12 f11 f10 f9 f8 f7 f6 f5 f4 f3 f2 f1 f0
theorem q_283v_36 {q0 : Nat} {n0 n1 n2 n3 n4 n5 n6 n7 n8 n9 n10 n11 n12 n13 n14 n15 n16 n17 n18 n19 n20 n21 n22 : Int} {H0 H1 H2 : gH} (f0 : n0 ≤ 4) (f1 : 0 ≤ n0) (f2 : n1 ≤ 59) (f3 : (-1) ≤ n1) (f4 : n2 ≤ 59) (f5 : 0 ≤ n2) (f6 : n3 ≤ 2147483647) (f7 : 0 ≤ n3) (f8 : n4 ≤ 5) (f9 : 0 ≤ n4) (f10 : n5 ≤ 7) (f11 : 0 ≤ n5) (f12 : n6 ≤ 19) (f13 : 0 ≤ n6) (f14 : n7 = 285) (f15 : n8 ≤ 5) (f16 : 0 ≤ n8) (f17 : n9 ≤ 7) (f18 : 0 ≤ n9) (f19 : n10 ≤ 19) (f20 : 0 ≤ n10) (f21 : n11 = 285) (f22 : (hLe T0 H0 H1 ∧ hFr s_283v.2.2.2.2 H0 H1 ∧ hWt T0 H1) ∧ (Ab_283v_114 n11 n10 n9 n8 n7 n6 n5 n4 n3 n2 n1 n0 H0 H1 ∧ preb_283v n11 n10 n9 n8 H0) ∧ some q0 = some (mub_283v_114 n11 n10 n9 n8 n7 n6 n5 n4 n3 n2 n1 n0 H0 H1)) (f23 : n12 = 4) (f24 : n0 < n12) (f25 : n13 = 337) (f26 : n13 = hV H1 (n7).toNat 75) (f27 : n14 = 240) (f28 : n15 = w32 (n14 * n6)) (f29 : n16 = 4) (f30 : n17 = w32 (n16 * n2)) (f31 : n18 = w32 (n15 + n17)) (f32 : n19 = w32 (n18 + n0)) (f33 : n20 = (-1)) (f34 : n1 = n20) (f35 : n21 = 0) (f36 : hUpd H2 H1 n13 n19 n21) (f37 : n22 = w32 (n0 + 1)) : Ab_283v_114 n11 n10 n9 n8 n7 n6 n5 n4 n3 n2 n1 n22 H0 H2 ∧ ∀ q, some q0 = some q → mub_283v_114 n11 n10 n9 n8 n7 n6 n5 n4 n3 n2 n1 n22 H0 H2 < q := by
  have g4 := f22.2.1.1
  unfold Ab_283v_114 at g4
  have g3 := f22.2.1.2
  unfold preb_283v at g3
  have g5 := Option.some.inj f22.2.2
  unfold mub_283v_114 at g5
  unfold Ab_283v_114
  unfold mub_283v_114
  have e1 : hV H1 285 18 = hV H0 285 18 := (f22.1.2.1.1 285 18 kF_283v_285_18)
  have e3 : hV H1 285 64 = hV H0 285 64 := (f22.1.2.1.1 285 64 kF_283v_285_64)
  have e4 : hV H1 298 = hV H0 298 := fRow f22.1.2.1 298 kR_283v_298
  have e5 : hV H1 300 = hV H0 300 := fRow f22.1.2.1 300 kR_283v_300
  have e6 : hV H1 301 = hV H0 301 := fRow f22.1.2.1 301 kR_283v_301
  have e7 : hV H1 302 = hV H0 302 := fRow f22.1.2.1 302 kR_283v_302
  have e8 : hV H1 303 = hV H0 303 := fRow f22.1.2.1 303 kR_283v_303
  have e9 : hV H1 305 = hV H0 305 := fRow f22.1.2.1 305 kR_283v_305
  have e10 : hV H1 328 = hV H0 328 := fRow f22.1.2.1 328 kR_283v_328
  have e11 : hV H1 330 = hV H0 330 := fRow f22.1.2.1 330 kR_283v_330
  have e12 : hV H1 331 = hV H0 331 := fRow f22.1.2.1 331 kR_283v_331
  have e13 : hV H1 332 = hV H0 332 := fRow f22.1.2.1 332 kR_283v_332
  have e14 : hV H1 341 = hV H0 341 := fRow f22.1.2.1 341 kR_283v_341
  have e16 : hV H2 285 18 = hV H0 285 18 := ((uPlace f36 285 18 (iS (show n13 = ((337 : Nat) : Int) from f25) rfl))).trans (f22.1.2.1.1 285 18 kF_283v_285_18)
  have e18 : hV H2 285 64 = hV H0 285 64 := ((uPlace f36 285 64 (iS (show n13 = ((337 : Nat) : Int) from f25) rfl))).trans (f22.1.2.1.1 285 64 kF_283v_285_64)
  have e20 : hV H2 285 65 = hV H1 285 65 := (uPlace f36 285 65 (iS (show n13 = ((337 : Nat) : Int) from f25) rfl))
  have e22 : hV H2 285 82 = hV H1 285 82 := (uPlace f36 285 82 (iS (show n13 = ((337 : Nat) : Int) from f25) rfl))
  have e24 : hV H2 298 = hV H0 298 := (uRowNe f36 298 (iS (show n13 = ((337 : Nat) : Int) from f25) rfl)).trans e4
  have e26 : hV H2 300 = hV H0 300 := (uRowNe f36 300 (iS (show n13 = ((337 : Nat) : Int) from f25) rfl)).trans e5
  have e28 : hV H2 301 = hV H0 301 := (uRowNe f36 301 (iS (show n13 = ((337 : Nat) : Int) from f25) rfl)).trans e6
  have e30 : hV H2 302 = hV H0 302 := (uRowNe f36 302 (iS (show n13 = ((337 : Nat) : Int) from f25) rfl)).trans e7
  have e32 : hV H2 303 = hV H0 303 := (uRowNe f36 303 (iS (show n13 = ((337 : Nat) : Int) from f25) rfl)).trans e8
  have e34 : hV H2 305 = hV H0 305 := (uRowNe f36 305 (iS (show n13 = ((337 : Nat) : Int) from f25) rfl)).trans e9
  have e36 : hV H2 328 = hV H0 328 := (uRowNe f36 328 (iS (show n13 = ((337 : Nat) : Int) from f25) rfl)).trans e10
  have e37 : hV H2 329 = hV H1 329 := uRowNe f36 329 (iS (show n13 = ((337 : Nat) : Int) from f25) rfl)
  have e39 : hV H2 330 = hV H0 330 := (uRowNe f36 330 (iS (show n13 = ((337 : Nat) : Int) from f25) rfl)).trans e11
  have e41 : hV H2 331 = hV H0 331 := (uRowNe f36 331 (iS (show n13 = ((337 : Nat) : Int) from f25) rfl)).trans e12
  have e43 : hV H2 332 = hV H0 332 := (uRowNe f36 332 (iS (show n13 = ((337 : Nat) : Int) from f25) rfl)).trans e13
  have e44 : hV H2 333 = hV H1 333 := uRowNe f36 333 (iS (show n13 = ((337 : Nat) : Int) from f25) rfl)
  have e45 : hV H2 334 = hV H1 334 := uRowNe f36 334 (iS (show n13 = ((337 : Nat) : Int) from f25) rfl)
  have e46 : hV H2 335 = hV H1 335 := uRowNe f36 335 (iS (show n13 = ((337 : Nat) : Int) from f25) rfl)
  have e47 : hV H2 336 = hV H1 336 := uRowNe f36 336 (iS (show n13 = ((337 : Nat) : Int) from f25) rfl)
  have e49 : hV H2 341 = hV H0 341 := (uRowNe f36 341 (iS (show n13 = ((337 : Nat) : Int) from f25) rfl)).trans e14
  have e50 : hV H2 344 = hV H1 344 := uRowNe f36 344 (iS (show n13 = ((337 : Nat) : Int) from f25) rfl)
  have e51 : (0 : Int) ≤ hV H0 285 18 ∧ hV H0 285 18 ≤ 8 := bTo e1 (f22.1.2.2 285 18 _ _ kW_285_18)
  have e52 : (0 : Int) ≤ hV H0 285 64 ∧ hV H0 285 64 ≤ 20 := bTo e3 (f22.1.2.2 285 64 _ _ kW_285_64)
  have e53 : (0 : Int) ≤ hV H1 285 65 ∧ hV H1 285 65 ≤ 2147483647 := f22.1.2.2 285 65 _ _ kW_285_65
  have e54 : (0 : Int) ≤ hV H1 285 82 ∧ hV H1 285 82 ≤ 40 := f22.1.2.2 285 82 _ _ kW_285_82
  try simp only [SO, SS, XQ]
  try simp only [e16, e18, e20, e22, e24, e26, e28, e30, e32, e34, e36, e37, e39, e41, e43, e44, e45, e46, e47, e49, e50]
  have k0 := g4.1
  have k1 := g4.2.1
  have k2 := g4.2.2.1
  have y0 := g4.2.2.2.1
  have y1 := g4.2.2.2.2.1
  have y2 := g4.2.2.2.2.2.1
  have y3 := g4.2.2.2.2.2.2.1
  have y4 := g4.2.2.2.2.2.2.2.1
  have y5 := g4.2.2.2.2.2.2.2.2.1
  have y6 := g4.2.2.2.2.2.2.2.2.2.1
  have y7 := g4.2.2.2.2.2.2.2.2.2.2
  have p0 := g3.1
  have p1 := g3.2.1
  have p2 := g3.2.2.1
  have p3 := g3.2.2.2.1
  have p4 := g3.2.2.2.2.1
  have p5 := g3.2.2.2.2.2.1
  have p6 := g3.2.2.2.2.2.2
  try simp only [XQ] at y0
  try simp only [SO] at y1
  try simp only [SS] at y2
  try simp only [SO] at p4
  try simp only [SS] at p5
  try simp only [e4, e5, e6, e7, e8, e9] at y0
  try simp only [e1, e3, e10, e11, e12, e13] at y1
  try simp only [e14] at y2
  clear g3
  clear g4
  clear f26 e1 e3 e4 e5 e6 e7 e8 e9 e10 e11 e12 e13 e14 e16 e18 e20 e22 e24 e26 e28 e30 e32 e34 e36 e37 e39 e41 e43 e44 e45 e46 e47 e49 e50
  clear f22
  rw [f27] at f28
  rw [f29] at f30
  first
  | (have ix0 : n15 = 240 * n6 := Eq.trans f28 (w32_iv (Iml 240 rfl (Iat f13 f12)) (by decide)); subst ix0; clear f28)
  | (have ix0 : n15 = 240 * n6 := Eq.trans f28 (w32_id (by omega) (by omega)); subst ix0; clear f28)
  | (unfold w32 at f28; have ix0 : n15 = 240 * n6 := (by omega); subst ix0)
  | skip
  first
  | (have ix1 : n17 = 4 * n2 := Eq.trans f30 (w32_iv (Iml 4 rfl (Iat f5 f4)) (by decide)); subst ix1; clear f30)
  | (have ix1 : n17 = 4 * n2 := Eq.trans f30 (w32_id (by omega) (by omega)); subst ix1; clear f30)
  | (unfold w32 at f30; have ix1 : n17 = 4 * n2 := (by omega); subst ix1)
  | skip
  first
  | (have ix2 : n18 = (240 * n6) + (4 * n2) := Eq.trans f31 (w32_iv (Iad (Iml 240 rfl (Iat f13 f12)) (Iml 4 rfl (Iat f5 f4))) (by decide)); subst ix2; clear f31)
  | (have ix2 : n18 = (240 * n6) + (4 * n2) := Eq.trans f31 (w32_id (by omega) (by omega)); subst ix2; clear f31)
  | (unfold w32 at f31; have ix2 : n18 = (240 * n6) + (4 * n2) := (by omega); subst ix2)
  | skip
  first
  | (have ix3 : n19 = ((240 * n6) + (4 * n2)) + n0 := Eq.trans f32 (w32_iv (Iad (Iad (Iml 240 rfl (Iat f13 f12)) (Iml 4 rfl (Iat f5 f4))) (Iat f1 f0)) (by decide)); subst ix3; clear f32)
  | (have ix3 : n19 = ((240 * n6) + (4 * n2)) + n0 := Eq.trans f32 (w32_id (by omega) (by omega)); subst ix3; clear f32)
  | (unfold w32 at f32; have ix3 : n19 = ((240 * n6) + (4 * n2)) + n0 := (by omega); subst ix3)
  | skip
  first
  | (have ix4 : n22 = n0 + 1 := Eq.trans f37 (w32_iv (Iad (Iat f1 f0) (IC 1)) (by decide)); subst ix4; clear f37)
  | (have ix4 : n22 = n0 + 1 := Eq.trans f37 (w32_id (by omega) (by omega)); subst ix4; clear f37)
  | (unfold w32 at f37; have ix4 : n22 = n0 + 1 := (by omega); subst ix4)
  | skip
  try unfold w32 at f28
  try unfold w32 at f30
  try unfold w32 at f31
  try unfold w32 at f32
  try unfold w32 at f37

  refine ⟨?_, fun q hq => ?_⟩
  · exact ⟨by first | omega | trivial, by first | omega | trivial, by first | omega | trivial, y0, y1, y2, y3, y4, by omega, by omega, y7⟩
  · have g6 := Option.some.inj hq
    subst g6
    omega
def g_283v_114_11 : vG := ([(10, [22, 11], [], 1), (80, [13, 19, 21], [2, 1], 0), (0, [21], [], 0), (40, [10, 20], [], 0), (0, [20], [], -1), (1, [19, 18, 11], [], 0), (1, [18, 15, 17], [], 0), (3, [17, 16, 9], [], 0), (0, [16], [], 4), (3, [15, 14, 5], [], 0), (0, [14], [], 240), (20, [13, 4], [1], 75), (0, [13], [], 337), (42, [11, 12], [], 0), (0, [12], [], 4), (5000, [0, 1, 2, 3, 4, 5, 6, 7, 8, 9, 10, 11], [0, 1], 114), (0, [0], [], 285), (90, [1], [], 0), (91, [1], [], 19), (90, [2], [], 0), (91, [2], [], 7), (90, [3], [], 0), (91, [3], [], 5), (0, [4], [], 285), (90, [5], [], 0), (91, [5], [], 19), (90, [6], [], 0), (91, [6], [], 7), (90, [7], [], 0), (91, [7], [], 5), (90, [8], [], 0), (91, [8], [], 2147483647), (90, [9], [], 0), (91, [9], [], 59), (90, [10], [], -1), (91, [10], [], 59), (90, [11], [], 0), (91, [11], [], 4)], (4000, [4, 5, 6, 7, 8, 9, 10, 22], [2], 114))
theorem c_283v_114_11 {q0 : Nat} : vOkm T0 (eP e_283v L_283v A_283v mu_283v (some q0)) 4 g_283v_114_11 := vOk_inI fun ρ η f0 f1 f2 f3 f4 f5 f6 f7 f8 f9 f10 f11 f12 f13 f14 f15 f16 f17 f18 f19 f20 f21 f22 f23 f24 f25 f26 f27 f28 f29 f30 f31 f32 f33 f34 f35 f36 f37 => q_283v_36 (q0 := q0) (n0 := ρ 11) (n1 := ρ 10) (n2 := ρ 9) (n3 := ρ 8) (n4 := ρ 7) (n5 := ρ 6) (n6 := ρ 5) (n7 := ρ 4) (n8 := ρ 3) (n9 := ρ 2) (n10 := ρ 1) (n11 := ρ 0) (n12 := ρ 12) (n13 := ρ 13) (n14 := ρ 14) (n15 := ρ 15) (n16 := ρ 16) (n17 := ρ 17) (n18 := ρ 18) (n19 := ρ 19) (n20 := ρ 20) (n21 := ρ 21) (n22 := ρ 22) (H0 := η 0) (H1 := η 1) (H2 := η 2) f37 f36 f35 f34 f33 f32 f31 f30 f29 f28 f27 f26 f25 f24 f23 f22 f21 f20 f19 f18 f17 f16 f15 f14 f13 f12 f11 f10 f9 f8 f7 f6 f5 f4 f3 f2 f1 f0
def p_283v_114 : List vG := [g_283v_114_0,
  g_283v_114_1,
  g_283v_114_2,
  g_283v_114_3,
  g_283v_114_4,
  g_283v_114_5,
  g_283v_114_6,
  g_283v_114_7,
  g_283v_114_8,
  g_283v_114_9,
  g_283v_114_10,
  g_283v_114_11]
theorem r_283v_114 : vCovO false (eRc e_283v L_283v cs_283v 2000 (114, [(0, (3, 12, 285, 0)), (1, (0, 0, 19, 0)), (2, (0, 0, 7, 0)), (3, (0, 0, 5, 0)), (4, (0, 0, 2147483647, 0)), (5, (0, 0, 59, 0)), (6, (0, -1, 59, 0)), (7, (0, 0, 4, 0))])) p_283v_114 = true := by decide +kernel
theorem m_283v (d : Nat) : eC e_283v (d + 5) := eC_ok (e := e_283v) (L := L_283v) (cs := cs_283v) (n := 2000) (d := d + 4) (A := A_283v) (μ := mu_283v) (tp := false) (p0 := p_283v_s) rfl ⟨m_248 (d + 3), ⟨m_258 (d + 3), ⟨m_274 d, trivial⟩⟩⟩ rfl (.inl rfl) (by decide +kernel) (fun z => nomatch z) r_283v_s (allC c_283v_s_0 (allC c_283v_s_1 allN)) (allC (.inl ⟨p_283v_11, r_283v_11, fun q0 => (allC c_283v_11_0 (allC c_283v_11_1 (allC c_283v_11_2 (allC c_283v_11_3 (allC c_283v_11_4 (allC c_283v_11_5 (allC c_283v_11_6 (allC c_283v_11_7 (allC c_283v_11_8 (allC c_283v_11_9 (allC c_283v_11_10 (allC c_283v_11_11 (allC c_283v_11_12 (allC c_283v_11_13 (allC c_283v_11_14 allN)))))))))))))))⟩) (allC (.inl ⟨p_283v_85, r_283v_85, fun q0 => (allC c_283v_85_0 (allC c_283v_85_1 (allC c_283v_85_2 (allC c_283v_85_3 (allC c_283v_85_4 (allC c_283v_85_5 (allC c_283v_85_6 (allC c_283v_85_7 (allC c_283v_85_8 allN)))))))))⟩) (allC (.inl ⟨p_283v_114, r_283v_114, fun q0 => (allC c_283v_114_0 (allC c_283v_114_1 (allC c_283v_114_2 (allC c_283v_114_3 (allC c_283v_114_4 (allC c_283v_114_5 (allC c_283v_114_6 (allC c_283v_114_7 (allC c_283v_114_8 (allC c_283v_114_9 (allC c_283v_114_10 (allC c_283v_114_11 allN))))))))))))⟩) allN)))
/- MixStageModel.make (III)I -/
noncomputable def s_285v : vM := ([(3, 12, 285, 0), (0, -2147483648, 2147483647, 0), (0, -2147483648, 2147483647, 0), (0, -2147483648, 2147483647, 0)], (0, -2147483648, 2147483647, 0), 1, 0, [(12, 65), (12, 82), (12, 88), (12, 93), (460, 0), (492, 0), (500, 0), (508, 0), (516, 0), (524, 0), (572, 0), (580, 0), (588, 0), (596, 0), (604, 0), (612, 0), (621, 0), (631, 0), (637, 0), (644, 0)])
def preb_285v (a0 a1 a2 a3 : Int) (h : gH) : Prop := SO h ∧ SS h ∧ PG h ∧ AC h ∧ hV h 285 65 ≤ 20000
def pre_285v : List Int → gH → Prop := fun xs h => match xs with
  | [a0, a1, a2, a3] => preb_285v a0 a1 a2 a3 h
  | _ => False
def postb_285v (r a0 a1 a2 a3 : Int) (h0 h : gH) : Prop := SO h ∧ SS h ∧ AC h ∧ hV h 285 65 ≤ hV h0 285 65 + 1 ∧ KMk (hV h0 328) (hV h0 329) (hV h 329)
def post_285v : List Int → gH → gH → Prop := fun xs h0 h => match xs with
  | [r, a0, a1, a2, a3] => postb_285v r a0 a1 a2 a3 h0 h
  | _ => True
noncomputable def e_285v : vE := (285, s_285v, pre_285v, post_285v)
noncomputable def L_285v : List vE := [e_250, e_278, e_280, e_283v, e_284]
def cs_285v : List vC := [(64, [(0, (3, 12, 285, 0)), (1, (0, -2147483648, 2147483647, 0)), (2, (0, -2147483648, 2147483647, 0)), (3, (0, -2147483648, 2147483647, 0)), (4, (0, -2147483648, 2147483647, 0)), (5, (0, 0, 20, 0))])]
def Ab_285v_64 (a0 a1 a2 a3 x0 x1 x2 x3 x4 x5 : Int) (h0 h : gH) : Prop := x1 = a1 ∧ x2 = a2 ∧ x3 = a3 ∧ BTS x4 (LYp (hV h 296) (hV h 298) (hV h 300) (a2).toNat) ∧ MAp (hV h 285 64) (NXp (hV h 328) (hV h 332) (hV h 335) (hV h 296) (hV h 298) (hV h 300)) (LYp (hV h 296) (hV h 298) (hV h 300) (a2).toNat) (a1).toNat x5 ∧ (∀ j : Nat, LYp (hV h 296) (hV h 298) (hV h 300) (a2).toNat j → (j : Int) < hV h 285 64) ∧ ¬ LYp (hV h 296) (hV h 298) (hV h 300) (a2).toNat (a1).toNat ∧ 0 ≤ a1 ∧ a1 < hV h 285 64 ∧ hV h 328 ((a1).toNat) = 6 ∧ 0 ≤ a2 ∧ a2 < hV h 285 18 ∧ 0 ≤ a3 ∧ a3 ≤ 5 ∧ SO h ∧ SS h ∧ AC h ∧ hV h 285 65 = hV h0 285 65 ∧ (hV h 329) = (hV h0 329)
def mub_285v_64 (a0 a1 a2 a3 x0 x1 x2 x3 x4 x5 : Int) (h0 h : gH) : Nat := (2147483648 - x5).toNat
def A_285v : Int → List Int → gH → gH → Prop := fun c xs h0 h => match c.toNat with
  | 64 => (match xs with
    | [a0, a1, a2, a3, x0, x1, x2, x3, x4, x5] => Ab_285v_64 a0 a1 a2 a3 x0 x1 x2 x3 x4 x5 h0 h
    | _ => False)
  | _ => True
def mu_285v : Int → List Int → gH → gH → Nat := fun c xs h0 h => match c.toNat with
  | 64 => (match xs with
    | [a0, a1, a2, a3, x0, x1, x2, x3, x4, x5] => mub_285v_64 a0 a1 a2 a3 x0 x1 x2 x3 x4 x5 h0 h
    | _ => 0)
  | _ => 0
theorem q_285v_0 {n0 n1 n2 n3 n4 n5 : Int} {H0 H1 : gH} (f0 : n0 ≤ 2147483647) (f1 : (-2147483648) ≤ n0) (f2 : n1 ≤ 2147483647) (f3 : (-2147483648) ≤ n1) (f4 : n2 ≤ 2147483647) (f5 : (-2147483648) ≤ n2) (f6 : n3 = 285) (f7 : hWt T0 H0 ∧ preb_285v n3 n2 n1 n0 H0) (f8 : n4 ≤ 1) (f9 : 0 ≤ n4) (f10 : (hLe T0 H0 H1 ∧ hFr s_250.2.2.2.2 H0 H1 ∧ ((0 : Int) = 0 → H1.length = H0.length) ∧ hWt T0 H1) ∧ postb_250 n4 n3 n2 H0 H1) (f11 : n4 = 0) (f12 : n5 = (-1)) : postb_285v n5 n3 n2 n1 n0 H0 H1 := by
  unfold preb_285v at f7
  unfold postb_250 at f10
  unfold postb_285v
  have e1 : hV H1 285 64 = hV H0 285 64 := (f10.1.2.1.1 285 64 kF_250_285_64)
  have e3 : hV H1 285 65 = hV H0 285 65 := (f10.1.2.1.1 285 65 kF_250_285_65)
  have e4 : hV H1 329 = hV H0 329 := fRow f10.1.2.1 329 kR_250_329
  have e5 : AC H1 = AC H0 := AC_fr f10.1.2.1 (by decide +kernel)
  have e6 : SO H1 = SO H0 := SO_fr f10.1.2.1 (by decide +kernel)
  have e7 : SS H1 = SS H0 := SS_fr f10.1.2.1 (by decide +kernel)
  have e8 : (0 : Int) ≤ hV H0 285 65 ∧ hV H0 285 65 ≤ 2147483647 := f7.1 285 65 _ _ kW_285_65
  have e9 : (0 : Int) ≤ hV H0 285 64 ∧ hV H0 285 64 ≤ 20 := bTo e1 (f10.1.2.2.2 285 64 _ _ kW_285_64)
  try simp only [e3, e4, e5, e6, e7]
  have p0 := f7.2.1
  have p1 := f7.2.2.1
  have p2 := f7.2.2.2.1
  have p3 := f7.2.2.2.2.1
  have p4 := f7.2.2.2.2.2
  have r0_0 := f10.2
  try simp only [e1] at r0_0
  clear e1 e3 e4 e5 e6 e7
  clear f7 f10
  try (have wx := r1_0 (by omega); obtain ⟨w0, w1, w2, w3⟩ := wx)

  exact ⟨p0, p1, p3, by omega, fun s _ => rfl⟩
def g_285v_s_0 : vG := ([(0, [5], [], -1), (30, [4], [], 0), (1250, [4, 0, 1], [0, 1], 0), (90, [4], [], 0), (91, [4], [], 1), (6000, [0, 1, 2, 3], [0], 0), (0, [0], [], 285), (90, [1], [], -2147483648), (91, [1], [], 2147483647), (90, [2], [], -2147483648), (91, [2], [], 2147483647), (90, [3], [], -2147483648), (91, [3], [], 2147483647)], (3000, [5], [1], 29))
theorem c_285v_s_0 : vOkm T0 (eP e_285v L_285v A_285v mu_285v none) 4 g_285v_s_0 := vOk_inI fun ρ η f0 f1 f2 f3 f4 f5 f6 f7 f8 f9 f10 f11 f12 => q_285v_0 (n0 := ρ 3) (n1 := ρ 2) (n2 := ρ 1) (n3 := ρ 0) (n4 := ρ 4) (n5 := ρ 5) (H0 := η 0) (H1 := η 1) f12 f11 f10 f9 f8 f7 f6 f5 f4 f3 f2 f1 f0
theorem q_285v_1 {n0 n1 n2 n3 n4 : Int} {H0 H1 : gH} (f0 : n0 ≤ 2147483647) (f1 : (-2147483648) ≤ n0) (f2 : n1 ≤ 2147483647) (f3 : (-2147483648) ≤ n1) (f4 : n2 ≤ 2147483647) (f5 : (-2147483648) ≤ n2) (f6 : n3 = 285) (f7 : hWt T0 H0 ∧ preb_285v n3 n2 n1 n0 H0) (f8 : n4 ≤ 1) (f9 : 0 ≤ n4) (f10 : (hLe T0 H0 H1 ∧ hFr s_250.2.2.2.2 H0 H1 ∧ ((0 : Int) = 0 → H1.length = H0.length) ∧ hWt T0 H1) ∧ postb_250 n4 n3 n2 H0 H1) (f11 : n4 ≠ 0) : 0 ≤ n2 ∧ n2 < 20 := by
  unfold preb_285v at f7
  unfold postb_250 at f10
  have e1 : hV H1 285 64 = hV H0 285 64 := (f10.1.2.1.1 285 64 kF_250_285_64)
  have e2 : (0 : Int) ≤ hV H0 285 65 ∧ hV H0 285 65 ≤ 2147483647 := f7.1 285 65 _ _ kW_285_65
  have e3 : (0 : Int) ≤ hV H0 285 64 ∧ hV H0 285 64 ≤ 20 := bTo e1 (f10.1.2.2.2 285 64 _ _ kW_285_64)
  have p0 := f7.2.1
  have p1 := f7.2.2.1
  have p2 := f7.2.2.2.1
  have p3 := f7.2.2.2.2.1
  have p4 := f7.2.2.2.2.2
  have r0_0 := f10.2
  try simp only [e1] at r0_0
  clear e1
  clear f7 f10
  try (have wx := r1_0 (by omega); obtain ⟨w0, w1, w2, w3⟩ := wx)
  omega
def g_285v_s_1 : vG := ([(31, [4], [], 0), (1250, [4, 0, 1], [0, 1], 0), (90, [4], [], 0), (91, [4], [], 1), (6000, [0, 1, 2, 3], [0], 0), (0, [0], [], 285), (90, [1], [], -2147483648), (91, [1], [], 2147483647), (90, [2], [], -2147483648), (91, [2], [], 2147483647), (90, [3], [], -2147483648), (91, [3], [], 2147483647)], (70, [1], [], 20))
theorem c_285v_s_1 : vOkm T0 (eP e_285v L_285v A_285v mu_285v none) 4 g_285v_s_1 := vOk_inI fun ρ η f0 f1 f2 f3 f4 f5 f6 f7 f8 f9 f10 f11 => q_285v_1 (n0 := ρ 3) (n1 := ρ 2) (n2 := ρ 1) (n3 := ρ 0) (n4 := ρ 4) (H0 := η 0) (H1 := η 1) f11 f10 f9 f8 f7 f6 f5 f4 f3 f2 f1 f0
theorem q_285v_2 {n0 n1 n2 n3 n4 n5 n6 n7 n8 : Int} {H0 H1 : gH} (f0 : n0 ≤ 2147483647) (f1 : (-2147483648) ≤ n0) (f2 : n1 ≤ 2147483647) (f3 : (-2147483648) ≤ n1) (f4 : n2 ≤ 2147483647) (f5 : (-2147483648) ≤ n2) (f6 : n3 = 285) (f7 : hWt T0 H0 ∧ preb_285v n3 n2 n1 n0 H0) (f8 : n4 ≤ 1) (f9 : 0 ≤ n4) (f10 : (hLe T0 H0 H1 ∧ hFr s_250.2.2.2.2 H0 H1 ∧ ((0 : Int) = 0 → H1.length = H0.length) ∧ hWt T0 H1) ∧ postb_250 n4 n3 n2 H0 H1) (f11 : n4 ≠ 0) (f12 : n5 = 328) (f13 : n5 = hV H1 (n3).toNat 66) (f14 : n6 ≤ 6) (f15 : 0 ≤ n6) (f16 : n6 = hV H1 (n5).toNat (n2).toNat) (f17 : n7 = 6) (f18 : n6 ≠ n7) (f19 : n8 = (-1)) : postb_285v n8 n3 n2 n1 n0 H0 H1 := by
  unfold preb_285v at f7
  unfold postb_250 at f10
  unfold postb_285v
  have e1 : n6 = hV H0 328 (n2).toNat := (by rw [f12] at f16; exact f16 : n6 = hV H1 328 (n2).toNat).trans ((congrFun (fRow f10.1.2.1 328 kR_250_328) _))
  have e3 : hV H1 285 64 = hV H0 285 64 := (f10.1.2.1.1 285 64 kF_250_285_64)
  have e5 : hV H1 285 65 = hV H0 285 65 := (f10.1.2.1.1 285 65 kF_250_285_65)
  have e6 : hV H1 329 = hV H0 329 := fRow f10.1.2.1 329 kR_250_329
  have e7 : AC H1 = AC H0 := AC_fr f10.1.2.1 (by decide +kernel)
  have e8 : SO H1 = SO H0 := SO_fr f10.1.2.1 (by decide +kernel)
  have e9 : SS H1 = SS H0 := SS_fr f10.1.2.1 (by decide +kernel)
  have e10 : (0 : Int) ≤ hV H0 285 65 ∧ hV H0 285 65 ≤ 2147483647 := f7.1 285 65 _ _ kW_285_65
  have e11 : (0 : Int) ≤ hV H0 285 64 ∧ hV H0 285 64 ≤ 20 := bTo e3 (f10.1.2.2.2 285 64 _ _ kW_285_64)
  try simp only [e5, e6, e7, e8, e9]
  have p0 := f7.2.1
  have p1 := f7.2.2.1
  have p2 := f7.2.2.2.1
  have p3 := f7.2.2.2.2.1
  have p4 := f7.2.2.2.2.2
  have r0_0 := f10.2
  try simp only [e3] at r0_0
  clear f13 f16 e3 e5 e6 e7 e8 e9
  clear f7 f10
  subst e1
  try (have wx := r1_0 (by omega); obtain ⟨w0, w1, w2, w3⟩ := wx)

  exact ⟨p0, p1, p3, by omega, fun s _ => rfl⟩
def g_285v_s_2 : vG := ([(0, [8], [], -1), (41, [6, 7], [], 0), (0, [7], [], 6), (22, [6, 5, 1], [1], 0), (90, [6], [], 0), (91, [6], [], 6), (20, [5, 0], [1], 66), (0, [5], [], 328), (31, [4], [], 0), (1250, [4, 0, 1], [0, 1], 0), (90, [4], [], 0), (91, [4], [], 1), (6000, [0, 1, 2, 3], [0], 0), (0, [0], [], 285), (90, [1], [], -2147483648), (91, [1], [], 2147483647), (90, [2], [], -2147483648), (91, [2], [], 2147483647), (90, [3], [], -2147483648), (91, [3], [], 2147483647)], (3000, [8], [1], 29))
theorem c_285v_s_2 : vOkm T0 (eP e_285v L_285v A_285v mu_285v none) 4 g_285v_s_2 := vOk_inI fun ρ η f0 f1 f2 f3 f4 f5 f6 f7 f8 f9 f10 f11 f12 f13 f14 f15 f16 f17 f18 f19 => q_285v_2 (n0 := ρ 3) (n1 := ρ 2) (n2 := ρ 1) (n3 := ρ 0) (n4 := ρ 4) (n5 := ρ 5) (n6 := ρ 6) (n7 := ρ 7) (n8 := ρ 8) (H0 := η 0) (H1 := η 1) f19 f18 f17 f16 f15 f14 f13 f12 f11 f10 f9 f8 f7 f6 f5 f4 f3 f2 f1 f0
theorem q_285v_3 {n0 n1 n2 n3 n4 n5 n6 n7 n8 : Int} {H0 H1 H2 : gH} (f0 : n0 ≤ 2147483647) (f1 : (-2147483648) ≤ n0) (f2 : n1 ≤ 2147483647) (f3 : (-2147483648) ≤ n1) (f4 : n2 ≤ 2147483647) (f5 : (-2147483648) ≤ n2) (f6 : n3 = 285) (f7 : hWt T0 H0 ∧ preb_285v n3 n2 n1 n0 H0) (f8 : n4 ≤ 1) (f9 : 0 ≤ n4) (f10 : (hLe T0 H0 H1 ∧ hFr s_250.2.2.2.2 H0 H1 ∧ ((0 : Int) = 0 → H1.length = H0.length) ∧ hWt T0 H1) ∧ postb_250 n4 n3 n2 H0 H1) (f11 : n4 ≠ 0) (f12 : n5 = 328) (f13 : n5 = hV H1 (n3).toNat 66) (f14 : n6 ≤ 6) (f15 : 0 ≤ n6) (f16 : n6 = hV H1 (n5).toNat (n2).toNat) (f17 : n7 = 6) (f18 : n6 = n7) (f19 : n8 ≤ 1) (f20 : 0 ≤ n8) (f21 : (hLe T0 H1 H2 ∧ hFr s_284.2.2.2.2 H1 H2 ∧ ((0 : Int) = 0 → H2.length = H1.length) ∧ hWt T0 H2) ∧ postb_284 n8 n3 n1 n0 H1 H2) (f22 : n8 ≠ 0) : 0 ≤ n1 := by
  unfold preb_285v at f7
  unfold postb_250 at f10
  unfold postb_284 at f21
  have e1 : n6 = hV H0 328 (n2).toNat := (by rw [f12] at f16; exact f16 : n6 = hV H1 328 (n2).toNat).trans ((congrFun (fRow f10.1.2.1 328 kR_250_328) _))
  have e3 : hV H1 285 64 = hV H0 285 64 := (f10.1.2.1.1 285 64 kF_250_285_64)
  have e6 : hV H2 285 18 = hV H0 285 18 := ((f21.1.2.1.1 285 18 kF_284_285_18)).trans (f10.1.2.1.1 285 18 kF_250_285_18)
  have e9 : hV H2 285 60 = hV H0 285 60 := ((f21.1.2.1.1 285 60 kF_284_285_60)).trans (f10.1.2.1.1 285 60 kF_250_285_60)
  have e10 : (0 : Int) ≤ hV H0 285 65 ∧ hV H0 285 65 ≤ 2147483647 := f7.1 285 65 _ _ kW_285_65
  have e11 : (0 : Int) ≤ hV H0 285 64 ∧ hV H0 285 64 ≤ 20 := bTo e3 (f10.1.2.2.2 285 64 _ _ kW_285_64)
  have e13 : (0 : Int) ≤ hV H0 285 18 ∧ hV H0 285 18 ≤ 8 := bTo e6 (f21.1.2.2.2 285 18 _ _ kW_285_18)
  have e15 : (1 : Int) ≤ hV H0 285 60 ∧ hV H0 285 60 ≤ 6 := bTo e9 (f21.1.2.2.2 285 60 _ _ kW_285_60)
  have p0 := f7.2.1
  have p1 := f7.2.2.1
  have p2 := f7.2.2.2.1
  have p3 := f7.2.2.2.2.1
  have p4 := f7.2.2.2.2.2
  have r0_0 := f10.2
  have r1_0 := f21.2
  try simp only [e3] at r0_0
  try simp only [e6, e9] at r1_0
  clear f13 f16 e3 e6 e9
  clear f7 f10 f21
  subst e1
  try (have wx := r1_0 (by omega); obtain ⟨w0, w1, w2, w3⟩ := wx)
  omega
def g_285v_s_3 : vG := ([(31, [8], [], 0), (1284, [8, 0, 2, 3], [1, 2], 0), (90, [8], [], 0), (91, [8], [], 1), (40, [6, 7], [], 0), (0, [7], [], 6), (22, [6, 5, 1], [1], 0), (90, [6], [], 0), (91, [6], [], 6), (20, [5, 0], [1], 66), (0, [5], [], 328), (31, [4], [], 0), (1250, [4, 0, 1], [0, 1], 0), (90, [4], [], 0), (91, [4], [], 1), (6000, [0, 1, 2, 3], [0], 0), (0, [0], [], 285), (90, [1], [], -2147483648), (91, [1], [], 2147483647), (90, [2], [], -2147483648), (91, [2], [], 2147483647), (90, [3], [], -2147483648), (91, [3], [], 2147483647)], (90, [2], [], 0))
theorem c_285v_s_3 : vOkm T0 (eP e_285v L_285v A_285v mu_285v none) 4 g_285v_s_3 := vOk_inI fun ρ η f0 f1 f2 f3 f4 f5 f6 f7 f8 f9 f10 f11 f12 f13 f14 f15 f16 f17 f18 f19 f20 f21 f22 => q_285v_3 (n0 := ρ 3) (n1 := ρ 2) (n2 := ρ 1) (n3 := ρ 0) (n4 := ρ 4) (n5 := ρ 5) (n6 := ρ 6) (n7 := ρ 7) (n8 := ρ 8) (H0 := η 0) (H1 := η 1) (H2 := η 2) f22 f21 f20 f19 f18 f17 f16 f15 f14 f13 f12 f11 f10 f9 f8 f7 f6 f5 f4 f3 f2 f1 f0
theorem q_285v_4 {n0 n1 n2 n3 n4 n5 n6 n7 n8 : Int} {H0 H1 H2 : gH} (f0 : n0 ≤ 2147483647) (f1 : (-2147483648) ≤ n0) (f2 : n1 ≤ 2147483647) (f3 : (-2147483648) ≤ n1) (f4 : n2 ≤ 2147483647) (f5 : (-2147483648) ≤ n2) (f6 : n3 = 285) (f7 : hWt T0 H0 ∧ preb_285v n3 n2 n1 n0 H0) (f8 : n4 ≤ 1) (f9 : 0 ≤ n4) (f10 : (hLe T0 H0 H1 ∧ hFr s_250.2.2.2.2 H0 H1 ∧ ((0 : Int) = 0 → H1.length = H0.length) ∧ hWt T0 H1) ∧ postb_250 n4 n3 n2 H0 H1) (f11 : n4 ≠ 0) (f12 : n5 = 328) (f13 : n5 = hV H1 (n3).toNat 66) (f14 : n6 ≤ 6) (f15 : 0 ≤ n6) (f16 : n6 = hV H1 (n5).toNat (n2).toNat) (f17 : n7 = 6) (f18 : n6 = n7) (f19 : n8 ≤ 1) (f20 : 0 ≤ n8) (f21 : (hLe T0 H1 H2 ∧ hFr s_284.2.2.2.2 H1 H2 ∧ ((0 : Int) = 0 → H2.length = H1.length) ∧ hWt T0 H2) ∧ postb_284 n8 n3 n1 n0 H1 H2) (f22 : n8 ≠ 0) : n1 ≤ 7 := by
  unfold preb_285v at f7
  unfold postb_250 at f10
  unfold postb_284 at f21
  have e1 : n6 = hV H0 328 (n2).toNat := (by rw [f12] at f16; exact f16 : n6 = hV H1 328 (n2).toNat).trans ((congrFun (fRow f10.1.2.1 328 kR_250_328) _))
  have e3 : hV H1 285 64 = hV H0 285 64 := (f10.1.2.1.1 285 64 kF_250_285_64)
  have e6 : hV H2 285 18 = hV H0 285 18 := ((f21.1.2.1.1 285 18 kF_284_285_18)).trans (f10.1.2.1.1 285 18 kF_250_285_18)
  have e9 : hV H2 285 60 = hV H0 285 60 := ((f21.1.2.1.1 285 60 kF_284_285_60)).trans (f10.1.2.1.1 285 60 kF_250_285_60)
  have e10 : (0 : Int) ≤ hV H0 285 65 ∧ hV H0 285 65 ≤ 2147483647 := f7.1 285 65 _ _ kW_285_65
  have e11 : (0 : Int) ≤ hV H0 285 64 ∧ hV H0 285 64 ≤ 20 := bTo e3 (f10.1.2.2.2 285 64 _ _ kW_285_64)
  have e13 : (0 : Int) ≤ hV H0 285 18 ∧ hV H0 285 18 ≤ 8 := bTo e6 (f21.1.2.2.2 285 18 _ _ kW_285_18)
  have e15 : (1 : Int) ≤ hV H0 285 60 ∧ hV H0 285 60 ≤ 6 := bTo e9 (f21.1.2.2.2 285 60 _ _ kW_285_60)
  have p0 := f7.2.1
  have p1 := f7.2.2.1
  have p2 := f7.2.2.2.1
  have p3 := f7.2.2.2.2.1
  have p4 := f7.2.2.2.2.2
  have r0_0 := f10.2
  have r1_0 := f21.2
  try simp only [e3] at r0_0
  try simp only [e6, e9] at r1_0
  clear f13 f16 e3 e6 e9
  clear f7 f10 f21
  subst e1
  try (have wx := r1_0 (by omega); obtain ⟨w0, w1, w2, w3⟩ := wx)
  omega
def g_285v_s_4 : vG := ([(31, [8], [], 0), (1284, [8, 0, 2, 3], [1, 2], 0), (90, [8], [], 0), (91, [8], [], 1), (40, [6, 7], [], 0), (0, [7], [], 6), (22, [6, 5, 1], [1], 0), (90, [6], [], 0), (91, [6], [], 6), (20, [5, 0], [1], 66), (0, [5], [], 328), (31, [4], [], 0), (1250, [4, 0, 1], [0, 1], 0), (90, [4], [], 0), (91, [4], [], 1), (6000, [0, 1, 2, 3], [0], 0), (0, [0], [], 285), (90, [1], [], -2147483648), (91, [1], [], 2147483647), (90, [2], [], -2147483648), (91, [2], [], 2147483647), (90, [3], [], -2147483648), (91, [3], [], 2147483647)], (91, [2], [], 7))
theorem c_285v_s_4 : vOkm T0 (eP e_285v L_285v A_285v mu_285v none) 4 g_285v_s_4 := vOk_inI fun ρ η f0 f1 f2 f3 f4 f5 f6 f7 f8 f9 f10 f11 f12 f13 f14 f15 f16 f17 f18 f19 f20 f21 f22 => q_285v_4 (n0 := ρ 3) (n1 := ρ 2) (n2 := ρ 1) (n3 := ρ 0) (n4 := ρ 4) (n5 := ρ 5) (n6 := ρ 6) (n7 := ρ 7) (n8 := ρ 8) (H0 := η 0) (H1 := η 1) (H2 := η 2) f22 f21 f20 f19 f18 f17 f16 f15 f14 f13 f12 f11 f10 f9 f8 f7 f6 f5 f4 f3 f2 f1 f0
theorem q_285v_5 {n0 n1 n2 n3 n4 n5 n6 n7 n8 : Int} {H0 H1 H2 : gH} (f0 : n0 ≤ 2147483647) (f1 : (-2147483648) ≤ n0) (f2 : n1 ≤ 2147483647) (f3 : (-2147483648) ≤ n1) (f4 : n2 ≤ 2147483647) (f5 : (-2147483648) ≤ n2) (f6 : n3 = 285) (f7 : hWt T0 H0 ∧ preb_285v n3 n2 n1 n0 H0) (f8 : n4 ≤ 1) (f9 : 0 ≤ n4) (f10 : (hLe T0 H0 H1 ∧ hFr s_250.2.2.2.2 H0 H1 ∧ ((0 : Int) = 0 → H1.length = H0.length) ∧ hWt T0 H1) ∧ postb_250 n4 n3 n2 H0 H1) (f11 : n4 ≠ 0) (f12 : n5 = 328) (f13 : n5 = hV H1 (n3).toNat 66) (f14 : n6 ≤ 6) (f15 : 0 ≤ n6) (f16 : n6 = hV H1 (n5).toNat (n2).toNat) (f17 : n7 = 6) (f18 : n6 = n7) (f19 : n8 ≤ 1) (f20 : 0 ≤ n8) (f21 : (hLe T0 H1 H2 ∧ hFr s_284.2.2.2.2 H1 H2 ∧ ((0 : Int) = 0 → H2.length = H1.length) ∧ hWt T0 H2) ∧ postb_284 n8 n3 n1 n0 H1 H2) (f22 : n8 ≠ 0) : preb_278 n3 n1 H2 := by
  unfold preb_285v at f7
  unfold postb_250 at f10
  unfold postb_284 at f21
  unfold preb_278
  have e1 : n6 = hV H0 328 (n2).toNat := (by rw [f12] at f16; exact f16 : n6 = hV H1 328 (n2).toNat).trans ((congrFun (fRow f10.1.2.1 328 kR_250_328) _))
  have e3 : hV H1 285 64 = hV H0 285 64 := (f10.1.2.1.1 285 64 kF_250_285_64)
  have e6 : hV H2 285 18 = hV H0 285 18 := ((f21.1.2.1.1 285 18 kF_284_285_18)).trans (f10.1.2.1.1 285 18 kF_250_285_18)
  have e9 : hV H2 285 60 = hV H0 285 60 := ((f21.1.2.1.1 285 60 kF_284_285_60)).trans (f10.1.2.1.1 285 60 kF_250_285_60)
  have e10 : PG H1 = PG H0 := PG_fr f10.1.2.1 (by decide +kernel)
  have e11 : PG H2 = PG H1 := PG_fr f21.1.2.1 (by decide +kernel)
  have e12 : PG H2 = PG H0 := e11.trans e10
  have e13 : (0 : Int) ≤ hV H0 285 65 ∧ hV H0 285 65 ≤ 2147483647 := f7.1 285 65 _ _ kW_285_65
  have e14 : (0 : Int) ≤ hV H0 285 64 ∧ hV H0 285 64 ≤ 20 := bTo e3 (f10.1.2.2.2 285 64 _ _ kW_285_64)
  have e16 : (0 : Int) ≤ hV H0 285 18 ∧ hV H0 285 18 ≤ 8 := bTo e6 (f21.1.2.2.2 285 18 _ _ kW_285_18)
  have e18 : (1 : Int) ≤ hV H0 285 60 ∧ hV H0 285 60 ≤ 6 := bTo e9 (f21.1.2.2.2 285 60 _ _ kW_285_60)
  try simp only [e6, e12]
  have p0 := f7.2.1
  have p1 := f7.2.2.1
  have p2 := f7.2.2.2.1
  have p3 := f7.2.2.2.2.1
  have p4 := f7.2.2.2.2.2
  have r0_0 := f10.2
  have r1_0 := f21.2
  try simp only [e3] at r0_0
  try simp only [e6, e9] at r1_0
  clear f13 f16 e3 e6 e9 e10 e11 e12
  clear f7 f10 f21
  subst e1
  try (have wx := r1_0 (by omega); obtain ⟨w0, w1, w2, w3⟩ := wx)
  refine ⟨?_, ?_⟩ <;> first | assumption | omega | trivial
def g_285v_s_5 : vG := ([(31, [8], [], 0), (1284, [8, 0, 2, 3], [1, 2], 0), (90, [8], [], 0), (91, [8], [], 1), (40, [6, 7], [], 0), (0, [7], [], 6), (22, [6, 5, 1], [1], 0), (90, [6], [], 0), (91, [6], [], 6), (20, [5, 0], [1], 66), (0, [5], [], 328), (31, [4], [], 0), (1250, [4, 0, 1], [0, 1], 0), (90, [4], [], 0), (91, [4], [], 1), (6000, [0, 1, 2, 3], [0], 0), (0, [0], [], 285), (90, [1], [], -2147483648), (91, [1], [], 2147483647), (90, [2], [], -2147483648), (91, [2], [], 2147483647), (90, [3], [], -2147483648), (91, [3], [], 2147483647)], (2278, [0, 2], [2], 0))
theorem c_285v_s_5 : vOkm T0 (eP e_285v L_285v A_285v mu_285v none) 4 g_285v_s_5 := vOk_inI fun ρ η f0 f1 f2 f3 f4 f5 f6 f7 f8 f9 f10 f11 f12 f13 f14 f15 f16 f17 f18 f19 f20 f21 f22 => q_285v_5 (n0 := ρ 3) (n1 := ρ 2) (n2 := ρ 1) (n3 := ρ 0) (n4 := ρ 4) (n5 := ρ 5) (n6 := ρ 6) (n7 := ρ 7) (n8 := ρ 8) (H0 := η 0) (H1 := η 1) (H2 := η 2) f22 f21 f20 f19 f18 f17 f16 f15 f14 f13 f12 f11 f10 f9 f8 f7 f6 f5 f4 f3 f2 f1 f0
theorem kR_278_329 : vFreeR s_278.2.2.2.2 329 = true := by decide +kernel
theorem kR_284_329 : vFreeR s_284.2.2.2.2 329 = true := by decide +kernel
theorem q_285v_6 {n0 n1 n2 n3 n4 n5 n6 n7 n8 n9 n10 n11 n12 n13 : Int} {H0 H1 H2 H3 : gH} (f0 : n0 ≤ 2147483647) (f1 : (-2147483648) ≤ n0) (f2 : n1 ≤ 2147483647) (f3 : (-2147483648) ≤ n1) (f4 : n2 ≤ 2147483647) (f5 : (-2147483648) ≤ n2) (f6 : n3 = 285) (f7 : hWt T0 H0 ∧ preb_285v n3 n2 n1 n0 H0) (f8 : n4 ≤ 1) (f9 : 0 ≤ n4) (f10 : (hLe T0 H0 H1 ∧ hFr s_250.2.2.2.2 H0 H1 ∧ ((0 : Int) = 0 → H1.length = H0.length) ∧ hWt T0 H1) ∧ postb_250 n4 n3 n2 H0 H1) (f11 : n4 ≠ 0) (f12 : n5 = 328) (f13 : n5 = hV H1 (n3).toNat 66) (f14 : n6 ≤ 6) (f15 : 0 ≤ n6) (f16 : n6 = hV H1 (n5).toNat (n2).toNat) (f17 : n7 = 6) (f18 : n6 = n7) (f19 : n8 ≤ 1) (f20 : 0 ≤ n8) (f21 : (hLe T0 H1 H2 ∧ hFr s_284.2.2.2.2 H1 H2 ∧ ((0 : Int) = 0 → H2.length = H1.length) ∧ hWt T0 H2) ∧ postb_284 n8 n3 n1 n0 H1 H2) (f22 : n8 ≠ 0) (f23 : n9 ≤ 2147483647) (f24 : (-2147483648) ≤ n9) (f25 : (hLe T0 H2 H3 ∧ hFr s_278.2.2.2.2 H2 H3 ∧ ((0 : Int) = 0 → H3.length = H2.length) ∧ hWt T0 H3) ∧ postb_278 n9 n3 n1 H2 H3) (f26 : n10 = 1) (f27 : n11 ≤ 20) (f28 : 0 ≤ n11) (f29 : n11 = hV H3 (n3).toNat 64) (f30 : n12 = o32 (fun x y => x <<< (y &&& 31)) n10 n11) (f31 : n12 ≤ n9) (f32 : n13 = (-2)) : postb_285v n13 n3 n2 n1 n0 H0 H3 := by
  unfold preb_285v at f7
  unfold postb_250 at f10
  unfold postb_284 at f21
  unfold postb_278 at f25
  unfold postb_285v
  have e1 : n6 = hV H0 328 (n2).toNat := (by rw [f12] at f16; exact f16 : n6 = hV H1 328 (n2).toNat).trans ((congrFun (fRow f10.1.2.1 328 kR_250_328) _))
  have e5 : n11 = hV H0 285 64 := (by rw [f6] at f29; exact f29 : n11 = hV H3 285 64).trans (((f25.1.2.1.1 285 64 kF_278_285_64)).trans (((f21.1.2.1.1 285 64 kF_284_285_64)).trans (f10.1.2.1.1 285 64 kF_250_285_64)))
  have e6 : hV H1 285 64 = hV H0 285 64 := (f10.1.2.1.1 285 64 kF_250_285_64)
  have e9 : hV H2 285 18 = hV H0 285 18 := ((f21.1.2.1.1 285 18 kF_284_285_18)).trans (f10.1.2.1.1 285 18 kF_250_285_18)
  have e12 : hV H2 285 60 = hV H0 285 60 := ((f21.1.2.1.1 285 60 kF_284_285_60)).trans (f10.1.2.1.1 285 60 kF_250_285_60)
  have e16 : hV H3 285 65 = hV H0 285 65 := ((f25.1.2.1.1 285 65 kF_278_285_65)).trans (((f21.1.2.1.1 285 65 kF_284_285_65)).trans (f10.1.2.1.1 285 65 kF_250_285_65))
  have e21 : hV H3 296 = hV H0 296 := (fRow f25.1.2.1 296 kR_278_296).trans ((fRow f21.1.2.1 296 kR_284_296).trans (fRow f10.1.2.1 296 kR_250_296))
  have e26 : hV H3 298 = hV H0 298 := (fRow f25.1.2.1 298 kR_278_298).trans ((fRow f21.1.2.1 298 kR_284_298).trans (fRow f10.1.2.1 298 kR_250_298))
  have e31 : hV H3 300 = hV H0 300 := (fRow f25.1.2.1 300 kR_278_300).trans ((fRow f21.1.2.1 300 kR_284_300).trans (fRow f10.1.2.1 300 kR_250_300))
  have e36 : hV H3 329 = hV H0 329 := (fRow f25.1.2.1 329 kR_278_329).trans ((fRow f21.1.2.1 329 kR_284_329).trans (fRow f10.1.2.1 329 kR_250_329))
  have e37 : AC H1 = AC H0 := AC_fr f10.1.2.1 (by decide +kernel)
  have e38 : AC H2 = AC H1 := AC_fr f21.1.2.1 (by decide +kernel)
  have e39 : AC H2 = AC H0 := e38.trans e37
  have e40 : AC H3 = AC H2 := AC_fr f25.1.2.1 (by decide +kernel)
  have e41 : AC H3 = AC H0 := e40.trans e39
  have e42 : SO H1 = SO H0 := SO_fr f10.1.2.1 (by decide +kernel)
  have e43 : SO H2 = SO H1 := SO_fr f21.1.2.1 (by decide +kernel)
  have e44 : SO H2 = SO H0 := e43.trans e42
  have e45 : SO H3 = SO H2 := SO_fr f25.1.2.1 (by decide +kernel)
  have e46 : SO H3 = SO H0 := e45.trans e44
  have e47 : SS H1 = SS H0 := SS_fr f10.1.2.1 (by decide +kernel)
  have e48 : SS H2 = SS H1 := SS_fr f21.1.2.1 (by decide +kernel)
  have e49 : SS H2 = SS H0 := e48.trans e47
  have e50 : SS H3 = SS H2 := SS_fr f25.1.2.1 (by decide +kernel)
  have e51 : SS H3 = SS H0 := e50.trans e49
  have e52 : (0 : Int) ≤ hV H0 285 65 ∧ hV H0 285 65 ≤ 2147483647 := f7.1 285 65 _ _ kW_285_65
  have e53 : (0 : Int) ≤ hV H0 285 64 ∧ hV H0 285 64 ≤ 20 := bTo e6 (f10.1.2.2.2 285 64 _ _ kW_285_64)
  have e55 : (0 : Int) ≤ hV H0 285 18 ∧ hV H0 285 18 ≤ 8 := bTo e9 (f21.1.2.2.2 285 18 _ _ kW_285_18)
  have e57 : (1 : Int) ≤ hV H0 285 60 ∧ hV H0 285 60 ≤ 6 := bTo e12 (f21.1.2.2.2 285 60 _ _ kW_285_60)
  try simp only [e16, e36, e41, e46, e51]
  have p0 := f7.2.1
  have p1 := f7.2.2.1
  have p2 := f7.2.2.2.1
  have p3 := f7.2.2.2.2.1
  have p4 := f7.2.2.2.2.2
  have r0_0 := f10.2
  have r1_0 := f21.2
  have r2_0 := f25.2
  try simp only [e6] at r0_0
  try simp only [e9, e12] at r1_0
  try simp only [e21, e26, e31] at r2_0
  clear f13 f16 f29 e6 e9 e12 e16 e21 e26 e31 e36 e37 e38 e39 e40 e41 e42 e43 e44 e45 e46 e47 e48 e49 e50 e51
  clear f7 f10 f21 f25
  subst e1
  subst e5
  try (have wx := r1_0 (by omega); obtain ⟨w0, w1, w2, w3⟩ := wx)

  exact ⟨p0, p1, p3, by omega, fun s _ => rfl⟩
def g_285v_s_6 : vG := ([(0, [13], [], -2), (43, [9, 12], [], 0), (7, [12, 10, 11], [], 0), (20, [11, 0], [3], 64), (90, [11], [], 0), (91, [11], [], 20), (0, [10], [], 1), (1278, [9, 0, 2], [2, 3], 0), (90, [9], [], -2147483648), (91, [9], [], 2147483647), (31, [8], [], 0), (1284, [8, 0, 2, 3], [1, 2], 0), (90, [8], [], 0), (91, [8], [], 1), (40, [6, 7], [], 0), (0, [7], [], 6), (22, [6, 5, 1], [1], 0), (90, [6], [], 0), (91, [6], [], 6), (20, [5, 0], [1], 66), (0, [5], [], 328), (31, [4], [], 0), (1250, [4, 0, 1], [0, 1], 0), (90, [4], [], 0), (91, [4], [], 1), (6000, [0, 1, 2, 3], [0], 0), (0, [0], [], 285), (90, [1], [], -2147483648), (91, [1], [], 2147483647), (90, [2], [], -2147483648), (91, [2], [], 2147483647), (90, [3], [], -2147483648), (91, [3], [], 2147483647)], (3000, [13], [3], 60))
theorem c_285v_s_6 : vOkm T0 (eP e_285v L_285v A_285v mu_285v none) 4 g_285v_s_6 := vOk_inI fun ρ η f0 f1 f2 f3 f4 f5 f6 f7 f8 f9 f10 f11 f12 f13 f14 f15 f16 f17 f18 f19 f20 f21 f22 f23 f24 f25 f26 f27 f28 f29 f30 f31 f32 => q_285v_6 (n0 := ρ 3) (n1 := ρ 2) (n2 := ρ 1) (n3 := ρ 0) (n4 := ρ 4) (n5 := ρ 5) (n6 := ρ 6) (n7 := ρ 7) (n8 := ρ 8) (n9 := ρ 9) (n10 := ρ 10) (n11 := ρ 11) (n12 := ρ 12) (n13 := ρ 13) (H0 := η 0) (H1 := η 1) (H2 := η 2) (H3 := η 3) f32 f31 f30 f29 f28 f27 f26 f25 f24 f23 f22 f21 f20 f19 f18 f17 f16 f15 f14 f13 f12 f11 f10 f9 f8 f7 f6 f5 f4 f3 f2 f1 f0
theorem q_285v_7 {n0 n1 n2 n3 n4 n5 n6 n7 n8 n9 n10 n11 n12 n13 n14 n15 n16 n17 : Int} {H0 H1 H2 H3 : gH} (f0 : n0 ≤ 2147483647) (f1 : (-2147483648) ≤ n0) (f2 : n1 ≤ 2147483647) (f3 : (-2147483648) ≤ n1) (f4 : n2 ≤ 2147483647) (f5 : (-2147483648) ≤ n2) (f6 : n3 = 285) (f7 : hWt T0 H0 ∧ preb_285v n3 n2 n1 n0 H0) (f8 : n4 ≤ 1) (f9 : 0 ≤ n4) (f10 : (hLe T0 H0 H1 ∧ hFr s_250.2.2.2.2 H0 H1 ∧ ((0 : Int) = 0 → H1.length = H0.length) ∧ hWt T0 H1) ∧ postb_250 n4 n3 n2 H0 H1) (f11 : n4 ≠ 0) (f12 : n5 = 328) (f13 : n5 = hV H1 (n3).toNat 66) (f14 : n6 ≤ 6) (f15 : 0 ≤ n6) (f16 : n6 = hV H1 (n5).toNat (n2).toNat) (f17 : n7 = 6) (f18 : n6 = n7) (f19 : n8 ≤ 1) (f20 : 0 ≤ n8) (f21 : (hLe T0 H1 H2 ∧ hFr s_284.2.2.2.2 H1 H2 ∧ ((0 : Int) = 0 → H2.length = H1.length) ∧ hWt T0 H2) ∧ postb_284 n8 n3 n1 n0 H1 H2) (f22 : n8 ≠ 0) (f23 : n9 ≤ 2147483647) (f24 : (-2147483648) ≤ n9) (f25 : (hLe T0 H2 H3 ∧ hFr s_278.2.2.2.2 H2 H3 ∧ ((0 : Int) = 0 → H3.length = H2.length) ∧ hWt T0 H3) ∧ postb_278 n9 n3 n1 H2 H3) (f26 : n10 = 1) (f27 : n11 ≤ 20) (f28 : 0 ≤ n11) (f29 : n11 = hV H3 (n3).toNat 64) (f30 : n12 = o32 (fun x y => x <<< (y &&& 31)) n10 n11) (f31 : n9 < n12) (f32 : n13 = o32 (fun x y => x >>> (y &&& 31)) n9 n2) (f33 : n14 = 1) (f34 : n15 = o32 (fun x y => x &&& y) n13 n14) (f35 : n16 = 1) (f36 : n15 ≠ n16) (f37 : n17 = 0) : Ab_285v_64 n3 n2 n1 n0 n3 n2 n1 n0 n9 n17 H0 H3 ∧ ∀ q, none = some q → mub_285v_64 n3 n2 n1 n0 n3 n2 n1 n0 n9 n17 H0 H3 < q := by
  unfold preb_285v at f7
  unfold postb_250 at f10
  unfold postb_284 at f21
  unfold postb_278 at f25
  unfold Ab_285v_64
  have e1 : n6 = hV H0 328 (n2).toNat := (by rw [f12] at f16; exact f16 : n6 = hV H1 328 (n2).toNat).trans ((congrFun (fRow f10.1.2.1 328 kR_250_328) _))
  have e5 : n11 = hV H0 285 64 := (by rw [f6] at f29; exact f29 : n11 = hV H3 285 64).trans (((f25.1.2.1.1 285 64 kF_278_285_64)).trans (((f21.1.2.1.1 285 64 kF_284_285_64)).trans (f10.1.2.1.1 285 64 kF_250_285_64)))
  have e6 : hV H1 285 64 = hV H0 285 64 := (f10.1.2.1.1 285 64 kF_250_285_64)
  have e9 : hV H2 285 18 = hV H0 285 18 := ((f21.1.2.1.1 285 18 kF_284_285_18)).trans (f10.1.2.1.1 285 18 kF_250_285_18)
  have e12 : hV H2 285 60 = hV H0 285 60 := ((f21.1.2.1.1 285 60 kF_284_285_60)).trans (f10.1.2.1.1 285 60 kF_250_285_60)
  have e14 : hV H3 285 18 = hV H0 285 18 := ((f25.1.2.1.1 285 18 kF_278_285_18)).trans (((f21.1.2.1.1 285 18 kF_284_285_18)).trans (f10.1.2.1.1 285 18 kF_250_285_18))
  have e15 : hV H3 285 64 = hV H0 285 64 := ((f25.1.2.1.1 285 64 kF_278_285_64)).trans (((f21.1.2.1.1 285 64 kF_284_285_64)).trans (f10.1.2.1.1 285 64 kF_250_285_64))
  have e19 : hV H3 285 65 = hV H0 285 65 := ((f25.1.2.1.1 285 65 kF_278_285_65)).trans (((f21.1.2.1.1 285 65 kF_284_285_65)).trans (f10.1.2.1.1 285 65 kF_250_285_65))
  have e24 : hV H3 296 = hV H0 296 := (fRow f25.1.2.1 296 kR_278_296).trans ((fRow f21.1.2.1 296 kR_284_296).trans (fRow f10.1.2.1 296 kR_250_296))
  have e29 : hV H3 298 = hV H0 298 := (fRow f25.1.2.1 298 kR_278_298).trans ((fRow f21.1.2.1 298 kR_284_298).trans (fRow f10.1.2.1 298 kR_250_298))
  have e34 : hV H3 300 = hV H0 300 := (fRow f25.1.2.1 300 kR_278_300).trans ((fRow f21.1.2.1 300 kR_284_300).trans (fRow f10.1.2.1 300 kR_250_300))
  have e38 : hV H3 328 = hV H0 328 := (fRow f25.1.2.1 328 kR_278_328).trans ((fRow f21.1.2.1 328 kR_284_328).trans (fRow f10.1.2.1 328 kR_250_328))
  have e43 : hV H3 329 = hV H0 329 := (fRow f25.1.2.1 329 kR_278_329).trans ((fRow f21.1.2.1 329 kR_284_329).trans (fRow f10.1.2.1 329 kR_250_329))
  have e48 : hV H3 332 = hV H0 332 := (fRow f25.1.2.1 332 kR_278_332).trans ((fRow f21.1.2.1 332 kR_284_332).trans (fRow f10.1.2.1 332 kR_250_332))
  have e53 : hV H3 335 = hV H0 335 := (fRow f25.1.2.1 335 kR_278_335).trans ((fRow f21.1.2.1 335 kR_284_335).trans (fRow f10.1.2.1 335 kR_250_335))
  have e54 : AC H1 = AC H0 := AC_fr f10.1.2.1 (by decide +kernel)
  have e55 : AC H2 = AC H1 := AC_fr f21.1.2.1 (by decide +kernel)
  have e56 : AC H2 = AC H0 := e55.trans e54
  have e57 : AC H3 = AC H2 := AC_fr f25.1.2.1 (by decide +kernel)
  have e58 : AC H3 = AC H0 := e57.trans e56
  have e59 : SO H1 = SO H0 := SO_fr f10.1.2.1 (by decide +kernel)
  have e60 : SO H2 = SO H1 := SO_fr f21.1.2.1 (by decide +kernel)
  have e61 : SO H2 = SO H0 := e60.trans e59
  have e62 : SO H3 = SO H2 := SO_fr f25.1.2.1 (by decide +kernel)
  have e63 : SO H3 = SO H0 := e62.trans e61
  have e64 : SS H1 = SS H0 := SS_fr f10.1.2.1 (by decide +kernel)
  have e65 : SS H2 = SS H1 := SS_fr f21.1.2.1 (by decide +kernel)
  have e66 : SS H2 = SS H0 := e65.trans e64
  have e67 : SS H3 = SS H2 := SS_fr f25.1.2.1 (by decide +kernel)
  have e68 : SS H3 = SS H0 := e67.trans e66
  have e69 : (0 : Int) ≤ hV H0 285 65 ∧ hV H0 285 65 ≤ 2147483647 := f7.1 285 65 _ _ kW_285_65
  have e70 : (0 : Int) ≤ hV H0 285 64 ∧ hV H0 285 64 ≤ 20 := bTo e6 (f10.1.2.2.2 285 64 _ _ kW_285_64)
  have e72 : (0 : Int) ≤ hV H0 285 18 ∧ hV H0 285 18 ≤ 8 := bTo e9 (f21.1.2.2.2 285 18 _ _ kW_285_18)
  have e74 : (1 : Int) ≤ hV H0 285 60 ∧ hV H0 285 60 ≤ 6 := bTo e12 (f21.1.2.2.2 285 60 _ _ kW_285_60)
  try simp only [e14, e15, e19, e24, e29, e34, e38, e43, e48, e53, e58, e63, e68]
  have p0 := f7.2.1
  have p1 := f7.2.2.1
  have p2 := f7.2.2.2.1
  have p3 := f7.2.2.2.2.1
  have p4 := f7.2.2.2.2.2
  have r0_0 := f10.2
  have r1_0 := f21.2
  have r2_0 := f25.2
  try simp only [e6] at r0_0
  try simp only [e9, e12] at r1_0
  try simp only [e24, e29, e34] at r2_0
  clear f13 f16 f29 e6 e9 e12 e14 e15 e19 e24 e29 e34 e38 e43 e48 e53 e54 e55 e56 e57 e58 e59 e60 e61 e62 e63 e64 e65 e66 e67 e68
  clear f7 f10 f21 f25
  subst e1
  subst e5
  have b34 := o32_and_r f34 (by omega) (by omega)
  try (have wx := r1_0 (by omega); obtain ⟨w0, w1, w2, w3⟩ := wx)

  obtain ⟨w0, w1, w2, w3⟩ := r1_0 (by omega)
  have pg := p2 (n1).toNat (by omega)
  have tb := bt_test f32 f34 (by omega) (by omega) (by omega)
  refine ⟨?_, fun q hq => ?_⟩
  · exact ⟨by first | omega | trivial, by first | omega | trivial, by first | omega | trivial, r2_0, (fun j hj => by omega), set_lt r2_0 (LY_lt pg) (by omega) (by omega) f30 (by omega) (by omega) (by omega) (by omega), (fun z => by have := tb.1.mpr ((r2_0 _ (by omega)).mpr z); omega), by omega, by omega, by omega, by omega, by omega, by omega, by omega, p0, p1, p3, by first | omega | trivial, by first | rfl | trivial⟩
  · exact nomatch hq
def g_285v_s_7 : vG := ([(0, [17], [], 0), (41, [15, 16], [], 0), (0, [16], [], 1), (4, [15, 13, 14], [], 0), (0, [14], [], 1), (8, [13, 9, 1], [], 0), (42, [9, 12], [], 0), (7, [12, 10, 11], [], 0), (20, [11, 0], [3], 64), (90, [11], [], 0), (91, [11], [], 20), (0, [10], [], 1), (1278, [9, 0, 2], [2, 3], 0), (90, [9], [], -2147483648), (91, [9], [], 2147483647), (31, [8], [], 0), (1284, [8, 0, 2, 3], [1, 2], 0), (90, [8], [], 0), (91, [8], [], 1), (40, [6, 7], [], 0), (0, [7], [], 6), (22, [6, 5, 1], [1], 0), (90, [6], [], 0), (91, [6], [], 6), (20, [5, 0], [1], 66), (0, [5], [], 328), (31, [4], [], 0), (1250, [4, 0, 1], [0, 1], 0), (90, [4], [], 0), (91, [4], [], 1), (6000, [0, 1, 2, 3], [0], 0), (0, [0], [], 285), (90, [1], [], -2147483648), (91, [1], [], 2147483647), (90, [2], [], -2147483648), (91, [2], [], 2147483647), (90, [3], [], -2147483648), (91, [3], [], 2147483647)], (4000, [0, 1, 2, 3, 9, 17], [3], 64))
theorem c_285v_s_7 : vOkm T0 (eP e_285v L_285v A_285v mu_285v none) 4 g_285v_s_7 := vOk_inI fun ρ η f0 f1 f2 f3 f4 f5 f6 f7 f8 f9 f10 f11 f12 f13 f14 f15 f16 f17 f18 f19 f20 f21 f22 f23 f24 f25 f26 f27 f28 f29 f30 f31 f32 f33 f34 f35 f36 f37 => q_285v_7 (n0 := ρ 3) (n1 := ρ 2) (n2 := ρ 1) (n3 := ρ 0) (n4 := ρ 4) (n5 := ρ 5) (n6 := ρ 6) (n7 := ρ 7) (n8 := ρ 8) (n9 := ρ 9) (n10 := ρ 10) (n11 := ρ 11) (n12 := ρ 12) (n13 := ρ 13) (n14 := ρ 14) (n15 := ρ 15) (n16 := ρ 16) (n17 := ρ 17) (H0 := η 0) (H1 := η 1) (H2 := η 2) (H3 := η 3) f37 f36 f35 f34 f33 f32 f31 f30 f29 f28 f27 f26 f25 f24 f23 f22 f21 f20 f19 f18 f17 f16 f15 f14 f13 f12 f11 f10 f9 f8 f7 f6 f5 f4 f3 f2 f1 f0
theorem q_285v_8 {n0 n1 n2 n3 n4 n5 n6 n7 n8 n9 n10 n11 n12 n13 n14 n15 n16 n17 : Int} {H0 H1 H2 H3 : gH} (f0 : n0 ≤ 2147483647) (f1 : (-2147483648) ≤ n0) (f2 : n1 ≤ 2147483647) (f3 : (-2147483648) ≤ n1) (f4 : n2 ≤ 2147483647) (f5 : (-2147483648) ≤ n2) (f6 : n3 = 285) (f7 : hWt T0 H0 ∧ preb_285v n3 n2 n1 n0 H0) (f8 : n4 ≤ 1) (f9 : 0 ≤ n4) (f10 : (hLe T0 H0 H1 ∧ hFr s_250.2.2.2.2 H0 H1 ∧ ((0 : Int) = 0 → H1.length = H0.length) ∧ hWt T0 H1) ∧ postb_250 n4 n3 n2 H0 H1) (f11 : n4 ≠ 0) (f12 : n5 = 328) (f13 : n5 = hV H1 (n3).toNat 66) (f14 : n6 ≤ 6) (f15 : 0 ≤ n6) (f16 : n6 = hV H1 (n5).toNat (n2).toNat) (f17 : n7 = 6) (f18 : n6 = n7) (f19 : n8 ≤ 1) (f20 : 0 ≤ n8) (f21 : (hLe T0 H1 H2 ∧ hFr s_284.2.2.2.2 H1 H2 ∧ ((0 : Int) = 0 → H2.length = H1.length) ∧ hWt T0 H2) ∧ postb_284 n8 n3 n1 n0 H1 H2) (f22 : n8 ≠ 0) (f23 : n9 ≤ 2147483647) (f24 : (-2147483648) ≤ n9) (f25 : (hLe T0 H2 H3 ∧ hFr s_278.2.2.2.2 H2 H3 ∧ ((0 : Int) = 0 → H3.length = H2.length) ∧ hWt T0 H3) ∧ postb_278 n9 n3 n1 H2 H3) (f26 : n10 = 1) (f27 : n11 ≤ 20) (f28 : 0 ≤ n11) (f29 : n11 = hV H3 (n3).toNat 64) (f30 : n12 = o32 (fun x y => x <<< (y &&& 31)) n10 n11) (f31 : n9 < n12) (f32 : n13 = o32 (fun x y => x >>> (y &&& 31)) n9 n2) (f33 : n14 = 1) (f34 : n15 = o32 (fun x y => x &&& y) n13 n14) (f35 : n16 = 1) (f36 : n15 = n16) (f37 : n17 = (-2)) : postb_285v n17 n3 n2 n1 n0 H0 H3 := by
  unfold preb_285v at f7
  unfold postb_250 at f10
  unfold postb_284 at f21
  unfold postb_278 at f25
  unfold postb_285v
  have e1 : n6 = hV H0 328 (n2).toNat := (by rw [f12] at f16; exact f16 : n6 = hV H1 328 (n2).toNat).trans ((congrFun (fRow f10.1.2.1 328 kR_250_328) _))
  have e5 : n11 = hV H0 285 64 := (by rw [f6] at f29; exact f29 : n11 = hV H3 285 64).trans (((f25.1.2.1.1 285 64 kF_278_285_64)).trans (((f21.1.2.1.1 285 64 kF_284_285_64)).trans (f10.1.2.1.1 285 64 kF_250_285_64)))
  have e6 : hV H1 285 64 = hV H0 285 64 := (f10.1.2.1.1 285 64 kF_250_285_64)
  have e9 : hV H2 285 18 = hV H0 285 18 := ((f21.1.2.1.1 285 18 kF_284_285_18)).trans (f10.1.2.1.1 285 18 kF_250_285_18)
  have e12 : hV H2 285 60 = hV H0 285 60 := ((f21.1.2.1.1 285 60 kF_284_285_60)).trans (f10.1.2.1.1 285 60 kF_250_285_60)
  have e16 : hV H3 285 65 = hV H0 285 65 := ((f25.1.2.1.1 285 65 kF_278_285_65)).trans (((f21.1.2.1.1 285 65 kF_284_285_65)).trans (f10.1.2.1.1 285 65 kF_250_285_65))
  have e21 : hV H3 296 = hV H0 296 := (fRow f25.1.2.1 296 kR_278_296).trans ((fRow f21.1.2.1 296 kR_284_296).trans (fRow f10.1.2.1 296 kR_250_296))
  have e26 : hV H3 298 = hV H0 298 := (fRow f25.1.2.1 298 kR_278_298).trans ((fRow f21.1.2.1 298 kR_284_298).trans (fRow f10.1.2.1 298 kR_250_298))
  have e31 : hV H3 300 = hV H0 300 := (fRow f25.1.2.1 300 kR_278_300).trans ((fRow f21.1.2.1 300 kR_284_300).trans (fRow f10.1.2.1 300 kR_250_300))
  have e36 : hV H3 329 = hV H0 329 := (fRow f25.1.2.1 329 kR_278_329).trans ((fRow f21.1.2.1 329 kR_284_329).trans (fRow f10.1.2.1 329 kR_250_329))
  have e37 : AC H1 = AC H0 := AC_fr f10.1.2.1 (by decide +kernel)
  have e38 : AC H2 = AC H1 := AC_fr f21.1.2.1 (by decide +kernel)
  have e39 : AC H2 = AC H0 := e38.trans e37
  have e40 : AC H3 = AC H2 := AC_fr f25.1.2.1 (by decide +kernel)
  have e41 : AC H3 = AC H0 := e40.trans e39
  have e42 : SO H1 = SO H0 := SO_fr f10.1.2.1 (by decide +kernel)
  have e43 : SO H2 = SO H1 := SO_fr f21.1.2.1 (by decide +kernel)
  have e44 : SO H2 = SO H0 := e43.trans e42
  have e45 : SO H3 = SO H2 := SO_fr f25.1.2.1 (by decide +kernel)
  have e46 : SO H3 = SO H0 := e45.trans e44
  have e47 : SS H1 = SS H0 := SS_fr f10.1.2.1 (by decide +kernel)
  have e48 : SS H2 = SS H1 := SS_fr f21.1.2.1 (by decide +kernel)
  have e49 : SS H2 = SS H0 := e48.trans e47
  have e50 : SS H3 = SS H2 := SS_fr f25.1.2.1 (by decide +kernel)
  have e51 : SS H3 = SS H0 := e50.trans e49
  have e52 : (0 : Int) ≤ hV H0 285 65 ∧ hV H0 285 65 ≤ 2147483647 := f7.1 285 65 _ _ kW_285_65
  have e53 : (0 : Int) ≤ hV H0 285 64 ∧ hV H0 285 64 ≤ 20 := bTo e6 (f10.1.2.2.2 285 64 _ _ kW_285_64)
  have e55 : (0 : Int) ≤ hV H0 285 18 ∧ hV H0 285 18 ≤ 8 := bTo e9 (f21.1.2.2.2 285 18 _ _ kW_285_18)
  have e57 : (1 : Int) ≤ hV H0 285 60 ∧ hV H0 285 60 ≤ 6 := bTo e12 (f21.1.2.2.2 285 60 _ _ kW_285_60)
  try simp only [e16, e36, e41, e46, e51]
  have p0 := f7.2.1
  have p1 := f7.2.2.1
  have p2 := f7.2.2.2.1
  have p3 := f7.2.2.2.2.1
  have p4 := f7.2.2.2.2.2
  have r0_0 := f10.2
  have r1_0 := f21.2
  have r2_0 := f25.2
  try simp only [e6] at r0_0
  try simp only [e9, e12] at r1_0
  try simp only [e21, e26, e31] at r2_0
  clear f13 f16 f29 e6 e9 e12 e16 e21 e26 e31 e36 e37 e38 e39 e40 e41 e42 e43 e44 e45 e46 e47 e48 e49 e50 e51
  clear f7 f10 f21 f25
  subst e1
  subst e5
  have b34 := o32_and_r f34 (by omega) (by omega)
  try (have wx := r1_0 (by omega); obtain ⟨w0, w1, w2, w3⟩ := wx)

  exact ⟨p0, p1, p3, by omega, fun s _ => rfl⟩
def g_285v_s_8 : vG := ([(0, [17], [], -2), (40, [15, 16], [], 0), (0, [16], [], 1), (4, [15, 13, 14], [], 0), (0, [14], [], 1), (8, [13, 9, 1], [], 0), (42, [9, 12], [], 0), (7, [12, 10, 11], [], 0), (20, [11, 0], [3], 64), (90, [11], [], 0), (91, [11], [], 20), (0, [10], [], 1), (1278, [9, 0, 2], [2, 3], 0), (90, [9], [], -2147483648), (91, [9], [], 2147483647), (31, [8], [], 0), (1284, [8, 0, 2, 3], [1, 2], 0), (90, [8], [], 0), (91, [8], [], 1), (40, [6, 7], [], 0), (0, [7], [], 6), (22, [6, 5, 1], [1], 0), (90, [6], [], 0), (91, [6], [], 6), (20, [5, 0], [1], 66), (0, [5], [], 328), (31, [4], [], 0), (1250, [4, 0, 1], [0, 1], 0), (90, [4], [], 0), (91, [4], [], 1), (6000, [0, 1, 2, 3], [0], 0), (0, [0], [], 285), (90, [1], [], -2147483648), (91, [1], [], 2147483647), (90, [2], [], -2147483648), (91, [2], [], 2147483647), (90, [3], [], -2147483648), (91, [3], [], 2147483647)], (3000, [17], [3], 60))
theorem c_285v_s_8 : vOkm T0 (eP e_285v L_285v A_285v mu_285v none) 4 g_285v_s_8 := vOk_inI fun ρ η f0 f1 f2 f3 f4 f5 f6 f7 f8 f9 f10 f11 f12 f13 f14 f15 f16 f17 f18 f19 f20 f21 f22 f23 f24 f25 f26 f27 f28 f29 f30 f31 f32 f33 f34 f35 f36 f37 => q_285v_8 (n0 := ρ 3) (n1 := ρ 2) (n2 := ρ 1) (n3 := ρ 0) (n4 := ρ 4) (n5 := ρ 5) (n6 := ρ 6) (n7 := ρ 7) (n8 := ρ 8) (n9 := ρ 9) (n10 := ρ 10) (n11 := ρ 11) (n12 := ρ 12) (n13 := ρ 13) (n14 := ρ 14) (n15 := ρ 15) (n16 := ρ 16) (n17 := ρ 17) (H0 := η 0) (H1 := η 1) (H2 := η 2) (H3 := η 3) f37 f36 f35 f34 f33 f32 f31 f30 f29 f28 f27 f26 f25 f24 f23 f22 f21 f20 f19 f18 f17 f16 f15 f14 f13 f12 f11 f10 f9 f8 f7 f6 f5 f4 f3 f2 f1 f0
theorem q_285v_9 {n0 n1 n2 n3 n4 n5 n6 n7 n8 n9 : Int} {H0 H1 H2 : gH} (f0 : n0 ≤ 2147483647) (f1 : (-2147483648) ≤ n0) (f2 : n1 ≤ 2147483647) (f3 : (-2147483648) ≤ n1) (f4 : n2 ≤ 2147483647) (f5 : (-2147483648) ≤ n2) (f6 : n3 = 285) (f7 : hWt T0 H0 ∧ preb_285v n3 n2 n1 n0 H0) (f8 : n4 ≤ 1) (f9 : 0 ≤ n4) (f10 : (hLe T0 H0 H1 ∧ hFr s_250.2.2.2.2 H0 H1 ∧ ((0 : Int) = 0 → H1.length = H0.length) ∧ hWt T0 H1) ∧ postb_250 n4 n3 n2 H0 H1) (f11 : n4 ≠ 0) (f12 : n5 = 328) (f13 : n5 = hV H1 (n3).toNat 66) (f14 : n6 ≤ 6) (f15 : 0 ≤ n6) (f16 : n6 = hV H1 (n5).toNat (n2).toNat) (f17 : n7 = 6) (f18 : n6 = n7) (f19 : n8 ≤ 1) (f20 : 0 ≤ n8) (f21 : (hLe T0 H1 H2 ∧ hFr s_284.2.2.2.2 H1 H2 ∧ ((0 : Int) = 0 → H2.length = H1.length) ∧ hWt T0 H2) ∧ postb_284 n8 n3 n1 n0 H1 H2) (f22 : n8 = 0) (f23 : n9 = (-1)) : postb_285v n9 n3 n2 n1 n0 H0 H2 := by
  unfold preb_285v at f7
  unfold postb_250 at f10
  unfold postb_284 at f21
  unfold postb_285v
  have e1 : n6 = hV H0 328 (n2).toNat := (by rw [f12] at f16; exact f16 : n6 = hV H1 328 (n2).toNat).trans ((congrFun (fRow f10.1.2.1 328 kR_250_328) _))
  have e3 : hV H1 285 64 = hV H0 285 64 := (f10.1.2.1.1 285 64 kF_250_285_64)
  have e6 : hV H2 285 18 = hV H0 285 18 := ((f21.1.2.1.1 285 18 kF_284_285_18)).trans (f10.1.2.1.1 285 18 kF_250_285_18)
  have e9 : hV H2 285 60 = hV H0 285 60 := ((f21.1.2.1.1 285 60 kF_284_285_60)).trans (f10.1.2.1.1 285 60 kF_250_285_60)
  have e12 : hV H2 285 65 = hV H0 285 65 := ((f21.1.2.1.1 285 65 kF_284_285_65)).trans (f10.1.2.1.1 285 65 kF_250_285_65)
  have e15 : hV H2 329 = hV H0 329 := (fRow f21.1.2.1 329 kR_284_329).trans (fRow f10.1.2.1 329 kR_250_329)
  have e16 : AC H1 = AC H0 := AC_fr f10.1.2.1 (by decide +kernel)
  have e17 : AC H2 = AC H1 := AC_fr f21.1.2.1 (by decide +kernel)
  have e18 : AC H2 = AC H0 := e17.trans e16
  have e19 : SO H1 = SO H0 := SO_fr f10.1.2.1 (by decide +kernel)
  have e20 : SO H2 = SO H1 := SO_fr f21.1.2.1 (by decide +kernel)
  have e21 : SO H2 = SO H0 := e20.trans e19
  have e22 : SS H1 = SS H0 := SS_fr f10.1.2.1 (by decide +kernel)
  have e23 : SS H2 = SS H1 := SS_fr f21.1.2.1 (by decide +kernel)
  have e24 : SS H2 = SS H0 := e23.trans e22
  have e25 : (0 : Int) ≤ hV H0 285 65 ∧ hV H0 285 65 ≤ 2147483647 := f7.1 285 65 _ _ kW_285_65
  have e26 : (0 : Int) ≤ hV H0 285 64 ∧ hV H0 285 64 ≤ 20 := bTo e3 (f10.1.2.2.2 285 64 _ _ kW_285_64)
  have e28 : (0 : Int) ≤ hV H0 285 18 ∧ hV H0 285 18 ≤ 8 := bTo e6 (f21.1.2.2.2 285 18 _ _ kW_285_18)
  have e30 : (1 : Int) ≤ hV H0 285 60 ∧ hV H0 285 60 ≤ 6 := bTo e9 (f21.1.2.2.2 285 60 _ _ kW_285_60)
  try simp only [e12, e15, e18, e21, e24]
  have p0 := f7.2.1
  have p1 := f7.2.2.1
  have p2 := f7.2.2.2.1
  have p3 := f7.2.2.2.2.1
  have p4 := f7.2.2.2.2.2
  have r0_0 := f10.2
  have r1_0 := f21.2
  try simp only [e3] at r0_0
  try simp only [e6, e9] at r1_0
  clear f13 f16 e3 e6 e9 e12 e15 e16 e17 e18 e19 e20 e21 e22 e23 e24
  clear f7 f10 f21
  subst e1
  try (have wx := r1_0 (by omega); obtain ⟨w0, w1, w2, w3⟩ := wx)

  exact ⟨p0, p1, p3, by omega, fun s _ => rfl⟩
def g_285v_s_9 : vG := ([(0, [9], [], -1), (30, [8], [], 0), (1284, [8, 0, 2, 3], [1, 2], 0), (90, [8], [], 0), (91, [8], [], 1), (40, [6, 7], [], 0), (0, [7], [], 6), (22, [6, 5, 1], [1], 0), (90, [6], [], 0), (91, [6], [], 6), (20, [5, 0], [1], 66), (0, [5], [], 328), (31, [4], [], 0), (1250, [4, 0, 1], [0, 1], 0), (90, [4], [], 0), (91, [4], [], 1), (6000, [0, 1, 2, 3], [0], 0), (0, [0], [], 285), (90, [1], [], -2147483648), (91, [1], [], 2147483647), (90, [2], [], -2147483648), (91, [2], [], 2147483647), (90, [3], [], -2147483648), (91, [3], [], 2147483647)], (3000, [9], [2], 29))
theorem c_285v_s_9 : vOkm T0 (eP e_285v L_285v A_285v mu_285v none) 4 g_285v_s_9 := vOk_inI fun ρ η f0 f1 f2 f3 f4 f5 f6 f7 f8 f9 f10 f11 f12 f13 f14 f15 f16 f17 f18 f19 f20 f21 f22 f23 => q_285v_9 (n0 := ρ 3) (n1 := ρ 2) (n2 := ρ 1) (n3 := ρ 0) (n4 := ρ 4) (n5 := ρ 5) (n6 := ρ 6) (n7 := ρ 7) (n8 := ρ 8) (n9 := ρ 9) (H0 := η 0) (H1 := η 1) (H2 := η 2) f23 f22 f21 f20 f19 f18 f17 f16 f15 f14 f13 f12 f11 f10 f9 f8 f7 f6 f5 f4 f3 f2 f1 f0
def p_285v_s : List vG := [g_285v_s_0,
  g_285v_s_1,
  g_285v_s_2,
  g_285v_s_3,
  g_285v_s_4,
  g_285v_s_5,
  g_285v_s_6,
  g_285v_s_7,
  g_285v_s_8,
  g_285v_s_9]
theorem r_285v_s : vCovO false (eR0 e_285v L_285v cs_285v 2000) p_285v_s = true := by decide +kernel
theorem kR_285v_296 : vFreeR s_285v.2.2.2.2 296 = true := by decide +kernel
theorem kR_285v_298 : vFreeR s_285v.2.2.2.2 298 = true := by decide +kernel
theorem kR_285v_300 : vFreeR s_285v.2.2.2.2 300 = true := by decide +kernel
theorem kR_285v_328 : vFreeR s_285v.2.2.2.2 328 = true := by decide +kernel
theorem kR_285v_332 : vFreeR s_285v.2.2.2.2 332 = true := by decide +kernel
theorem kF_285v_285_64 : vFree s_285v.2.2.2.2 285 64 = true := by decide +kernel
theorem kF_285v_285_18 : vFree s_285v.2.2.2.2 285 18 = true := by decide +kernel
theorem q_285v_10 {q0 : Nat} {n0 n1 n2 n3 n4 n5 n6 n7 n8 n9 n10 : Int} {H0 H1 : gH} (f0 : n0 ≤ 20) (f1 : 0 ≤ n0) (f2 : n1 ≤ 2147483647) (f3 : (-2147483648) ≤ n1) (f4 : n2 ≤ 2147483647) (f5 : (-2147483648) ≤ n2) (f6 : n3 ≤ 2147483647) (f7 : (-2147483648) ≤ n3) (f8 : n4 ≤ 2147483647) (f9 : (-2147483648) ≤ n4) (f10 : n5 = 285) (f11 : n6 ≤ 2147483647) (f12 : (-2147483648) ≤ n6) (f13 : n7 ≤ 2147483647) (f14 : (-2147483648) ≤ n7) (f15 : n8 ≤ 2147483647) (f16 : (-2147483648) ≤ n8) (f17 : n9 = 285) (f18 : (hLe T0 H0 H1 ∧ hFr s_285v.2.2.2.2 H0 H1 ∧ hWt T0 H1) ∧ (Ab_285v_64 n9 n8 n7 n6 n5 n4 n3 n2 n1 n0 H0 H1 ∧ preb_285v n9 n8 n7 n6 H0) ∧ some q0 = some (mub_285v_64 n9 n8 n7 n6 n5 n4 n3 n2 n1 n0 H0 H1)) (f19 : n10 ≤ 20) (f20 : 0 ≤ n10) (f21 : n10 = hV H1 (n5).toNat 64) (f22 : n10 ≤ n0) : 0 ≤ n4 := by
  have g4 := f18.2.1.1
  unfold Ab_285v_64 at g4
  have g3 := f18.2.1.2
  unfold preb_285v at g3
  have e1 : n10 = hV H0 285 64 := (by rw [f10] at f21; exact f21 : n10 = hV H1 285 64).trans ((f18.1.2.1.1 285 64 kF_285v_285_64))
  have e3 : hV H1 285 18 = hV H0 285 18 := (f18.1.2.1.1 285 18 kF_285v_285_18)
  have e4 : hV H1 285 64 = hV H0 285 64 := (f18.1.2.1.1 285 64 kF_285v_285_64)
  have e5 : hV H1 296 = hV H0 296 := fRow f18.1.2.1 296 kR_285v_296
  have e6 : hV H1 298 = hV H0 298 := fRow f18.1.2.1 298 kR_285v_298
  have e7 : hV H1 300 = hV H0 300 := fRow f18.1.2.1 300 kR_285v_300
  have e8 : hV H1 328 = hV H0 328 := fRow f18.1.2.1 328 kR_285v_328
  have e9 : hV H1 332 = hV H0 332 := fRow f18.1.2.1 332 kR_285v_332
  have e10 : (0 : Int) ≤ hV H0 285 18 ∧ hV H0 285 18 ≤ 8 := bTo e3 (f18.1.2.2 285 18 _ _ kW_285_18)
  have e11 : (0 : Int) ≤ hV H0 285 64 ∧ hV H0 285 64 ≤ 20 := bTo e4 (f18.1.2.2 285 64 _ _ kW_285_64)
  have e12 : (0 : Int) ≤ hV H1 285 65 ∧ hV H1 285 65 ≤ 2147483647 := f18.1.2.2 285 65 _ _ kW_285_65
  have k0 := g4.1
  have k1 := g4.2.1
  have k2 := g4.2.2.1
  have y0 := g4.2.2.2.1
  have y1 := g4.2.2.2.2.1
  have y2 := g4.2.2.2.2.2.1
  have y3 := g4.2.2.2.2.2.2.1
  have y4 := g4.2.2.2.2.2.2.2.1
  have y5 := g4.2.2.2.2.2.2.2.2.1
  have y6 := g4.2.2.2.2.2.2.2.2.2.1
  have y7 := g4.2.2.2.2.2.2.2.2.2.2.1
  have y8 := g4.2.2.2.2.2.2.2.2.2.2.2.1
  have y9 := g4.2.2.2.2.2.2.2.2.2.2.2.2.1
  have y10 := g4.2.2.2.2.2.2.2.2.2.2.2.2.2.1
  have y11 := g4.2.2.2.2.2.2.2.2.2.2.2.2.2.2.1
  have y12 := g4.2.2.2.2.2.2.2.2.2.2.2.2.2.2.2.1
  have y13 := g4.2.2.2.2.2.2.2.2.2.2.2.2.2.2.2.2.1
  have y14 := g4.2.2.2.2.2.2.2.2.2.2.2.2.2.2.2.2.2.1
  have y15 := g4.2.2.2.2.2.2.2.2.2.2.2.2.2.2.2.2.2.2
  have p0 := g3.1
  have p1 := g3.2.1
  have p2 := g3.2.2.1
  have p3 := g3.2.2.2.1
  have p4 := g3.2.2.2.2
  try simp only [e5, e6, e7] at y0
  try simp only [e4, e5, e6, e7, e8, e9] at y1
  try simp only [e4, e5, e6, e7] at y2
  try simp only [e5, e6, e7] at y3
  try simp only [e4] at y5
  try simp only [e8] at y6
  try simp only [e3] at y8
  clear g3
  clear g4
  clear f21 e3 e4 e5 e6 e7 e8 e9
  clear f18
  subst e1
  try subst k2
  try subst k1
  try subst k0
  omega
def g_285v_64_0 : vG := ([(43, [9, 10], [], 0), (20, [10, 4], [1], 64), (90, [10], [], 0), (91, [10], [], 20), (5000, [0, 1, 2, 3, 4, 5, 6, 7, 8, 9], [0, 1], 64), (0, [0], [], 285), (90, [1], [], -2147483648), (91, [1], [], 2147483647), (90, [2], [], -2147483648), (91, [2], [], 2147483647), (90, [3], [], -2147483648), (91, [3], [], 2147483647), (0, [4], [], 285), (90, [5], [], -2147483648), (91, [5], [], 2147483647), (90, [6], [], -2147483648), (91, [6], [], 2147483647), (90, [7], [], -2147483648), (91, [7], [], 2147483647), (90, [8], [], -2147483648), (91, [8], [], 2147483647), (90, [9], [], 0), (91, [9], [], 20)], (90, [5], [], 0))
theorem c_285v_64_0 {q0 : Nat} : vOkm T0 (eP e_285v L_285v A_285v mu_285v (some q0)) 4 g_285v_64_0 := vOk_inI fun ρ η f0 f1 f2 f3 f4 f5 f6 f7 f8 f9 f10 f11 f12 f13 f14 f15 f16 f17 f18 f19 f20 f21 f22 => q_285v_10 (q0 := q0) (n0 := ρ 9) (n1 := ρ 8) (n2 := ρ 7) (n3 := ρ 6) (n4 := ρ 5) (n5 := ρ 4) (n6 := ρ 3) (n7 := ρ 2) (n8 := ρ 1) (n9 := ρ 0) (n10 := ρ 10) (H0 := η 0) (H1 := η 1) f22 f21 f20 f19 f18 f17 f16 f15 f14 f13 f12 f11 f10 f9 f8 f7 f6 f5 f4 f3 f2 f1 f0
theorem q_285v_11 {q0 : Nat} {n0 n1 n2 n3 n4 n5 n6 n7 n8 n9 n10 : Int} {H0 H1 : gH} (f0 : n0 ≤ 20) (f1 : 0 ≤ n0) (f2 : n1 ≤ 2147483647) (f3 : (-2147483648) ≤ n1) (f4 : n2 ≤ 2147483647) (f5 : (-2147483648) ≤ n2) (f6 : n3 ≤ 2147483647) (f7 : (-2147483648) ≤ n3) (f8 : n4 ≤ 2147483647) (f9 : (-2147483648) ≤ n4) (f10 : n5 = 285) (f11 : n6 ≤ 2147483647) (f12 : (-2147483648) ≤ n6) (f13 : n7 ≤ 2147483647) (f14 : (-2147483648) ≤ n7) (f15 : n8 ≤ 2147483647) (f16 : (-2147483648) ≤ n8) (f17 : n9 = 285) (f18 : (hLe T0 H0 H1 ∧ hFr s_285v.2.2.2.2 H0 H1 ∧ hWt T0 H1) ∧ (Ab_285v_64 n9 n8 n7 n6 n5 n4 n3 n2 n1 n0 H0 H1 ∧ preb_285v n9 n8 n7 n6 H0) ∧ some q0 = some (mub_285v_64 n9 n8 n7 n6 n5 n4 n3 n2 n1 n0 H0 H1)) (f19 : n10 ≤ 20) (f20 : 0 ≤ n10) (f21 : n10 = hV H1 (n5).toNat 64) (f22 : n10 ≤ n0) : n4 ≤ 19 := by
  have g4 := f18.2.1.1
  unfold Ab_285v_64 at g4
  have g3 := f18.2.1.2
  unfold preb_285v at g3
  have e1 : n10 = hV H0 285 64 := (by rw [f10] at f21; exact f21 : n10 = hV H1 285 64).trans ((f18.1.2.1.1 285 64 kF_285v_285_64))
  have e3 : hV H1 285 18 = hV H0 285 18 := (f18.1.2.1.1 285 18 kF_285v_285_18)
  have e4 : hV H1 285 64 = hV H0 285 64 := (f18.1.2.1.1 285 64 kF_285v_285_64)
  have e5 : hV H1 296 = hV H0 296 := fRow f18.1.2.1 296 kR_285v_296
  have e6 : hV H1 298 = hV H0 298 := fRow f18.1.2.1 298 kR_285v_298
  have e7 : hV H1 300 = hV H0 300 := fRow f18.1.2.1 300 kR_285v_300
  have e8 : hV H1 328 = hV H0 328 := fRow f18.1.2.1 328 kR_285v_328
  have e9 : hV H1 332 = hV H0 332 := fRow f18.1.2.1 332 kR_285v_332
  have e10 : (0 : Int) ≤ hV H0 285 18 ∧ hV H0 285 18 ≤ 8 := bTo e3 (f18.1.2.2 285 18 _ _ kW_285_18)
  have e11 : (0 : Int) ≤ hV H0 285 64 ∧ hV H0 285 64 ≤ 20 := bTo e4 (f18.1.2.2 285 64 _ _ kW_285_64)
  have e12 : (0 : Int) ≤ hV H1 285 65 ∧ hV H1 285 65 ≤ 2147483647 := f18.1.2.2 285 65 _ _ kW_285_65
  have k0 := g4.1
  have k1 := g4.2.1
  have k2 := g4.2.2.1
  have y0 := g4.2.2.2.1
  have y1 := g4.2.2.2.2.1
  have y2 := g4.2.2.2.2.2.1
  have y3 := g4.2.2.2.2.2.2.1
  have y4 := g4.2.2.2.2.2.2.2.1
  have y5 := g4.2.2.2.2.2.2.2.2.1
  have y6 := g4.2.2.2.2.2.2.2.2.2.1
  have y7 := g4.2.2.2.2.2.2.2.2.2.2.1
  have y8 := g4.2.2.2.2.2.2.2.2.2.2.2.1
  have y9 := g4.2.2.2.2.2.2.2.2.2.2.2.2.1
  have y10 := g4.2.2.2.2.2.2.2.2.2.2.2.2.2.1
  have y11 := g4.2.2.2.2.2.2.2.2.2.2.2.2.2.2.1
  have y12 := g4.2.2.2.2.2.2.2.2.2.2.2.2.2.2.2.1
  have y13 := g4.2.2.2.2.2.2.2.2.2.2.2.2.2.2.2.2.1
  have y14 := g4.2.2.2.2.2.2.2.2.2.2.2.2.2.2.2.2.2.1
  have y15 := g4.2.2.2.2.2.2.2.2.2.2.2.2.2.2.2.2.2.2
  have p0 := g3.1
  have p1 := g3.2.1
  have p2 := g3.2.2.1
  have p3 := g3.2.2.2.1
  have p4 := g3.2.2.2.2
  try simp only [e5, e6, e7] at y0
  try simp only [e4, e5, e6, e7, e8, e9] at y1
  try simp only [e4, e5, e6, e7] at y2
  try simp only [e5, e6, e7] at y3
  try simp only [e4] at y5
  try simp only [e8] at y6
  try simp only [e3] at y8
  clear g3
  clear g4
  clear f21 e3 e4 e5 e6 e7 e8 e9
  clear f18
  subst e1
  try subst k2
  try subst k1
  try subst k0
  omega
def g_285v_64_1 : vG := ([(43, [9, 10], [], 0), (20, [10, 4], [1], 64), (90, [10], [], 0), (91, [10], [], 20), (5000, [0, 1, 2, 3, 4, 5, 6, 7, 8, 9], [0, 1], 64), (0, [0], [], 285), (90, [1], [], -2147483648), (91, [1], [], 2147483647), (90, [2], [], -2147483648), (91, [2], [], 2147483647), (90, [3], [], -2147483648), (91, [3], [], 2147483647), (0, [4], [], 285), (90, [5], [], -2147483648), (91, [5], [], 2147483647), (90, [6], [], -2147483648), (91, [6], [], 2147483647), (90, [7], [], -2147483648), (91, [7], [], 2147483647), (90, [8], [], -2147483648), (91, [8], [], 2147483647), (90, [9], [], 0), (91, [9], [], 20)], (91, [5], [], 19))
theorem c_285v_64_1 {q0 : Nat} : vOkm T0 (eP e_285v L_285v A_285v mu_285v (some q0)) 4 g_285v_64_1 := vOk_inI fun ρ η f0 f1 f2 f3 f4 f5 f6 f7 f8 f9 f10 f11 f12 f13 f14 f15 f16 f17 f18 f19 f20 f21 f22 => q_285v_11 (q0 := q0) (n0 := ρ 9) (n1 := ρ 8) (n2 := ρ 7) (n3 := ρ 6) (n4 := ρ 5) (n5 := ρ 4) (n6 := ρ 3) (n7 := ρ 2) (n8 := ρ 1) (n9 := ρ 0) (n10 := ρ 10) (H0 := η 0) (H1 := η 1) f22 f21 f20 f19 f18 f17 f16 f15 f14 f13 f12 f11 f10 f9 f8 f7 f6 f5 f4 f3 f2 f1 f0
theorem q_285v_12 {q0 : Nat} {n0 n1 n2 n3 n4 n5 n6 n7 n8 n9 n10 : Int} {H0 H1 : gH} (f0 : n0 ≤ 20) (f1 : 0 ≤ n0) (f2 : n1 ≤ 2147483647) (f3 : (-2147483648) ≤ n1) (f4 : n2 ≤ 2147483647) (f5 : (-2147483648) ≤ n2) (f6 : n3 ≤ 2147483647) (f7 : (-2147483648) ≤ n3) (f8 : n4 ≤ 2147483647) (f9 : (-2147483648) ≤ n4) (f10 : n5 = 285) (f11 : n6 ≤ 2147483647) (f12 : (-2147483648) ≤ n6) (f13 : n7 ≤ 2147483647) (f14 : (-2147483648) ≤ n7) (f15 : n8 ≤ 2147483647) (f16 : (-2147483648) ≤ n8) (f17 : n9 = 285) (f18 : (hLe T0 H0 H1 ∧ hFr s_285v.2.2.2.2 H0 H1 ∧ hWt T0 H1) ∧ (Ab_285v_64 n9 n8 n7 n6 n5 n4 n3 n2 n1 n0 H0 H1 ∧ preb_285v n9 n8 n7 n6 H0) ∧ some q0 = some (mub_285v_64 n9 n8 n7 n6 n5 n4 n3 n2 n1 n0 H0 H1)) (f19 : n10 ≤ 20) (f20 : 0 ≤ n10) (f21 : n10 = hV H1 (n5).toNat 64) (f22 : n10 ≤ n0) : 0 ≤ n3 := by
  have g4 := f18.2.1.1
  unfold Ab_285v_64 at g4
  have g3 := f18.2.1.2
  unfold preb_285v at g3
  have e1 : n10 = hV H0 285 64 := (by rw [f10] at f21; exact f21 : n10 = hV H1 285 64).trans ((f18.1.2.1.1 285 64 kF_285v_285_64))
  have e3 : hV H1 285 18 = hV H0 285 18 := (f18.1.2.1.1 285 18 kF_285v_285_18)
  have e4 : hV H1 285 64 = hV H0 285 64 := (f18.1.2.1.1 285 64 kF_285v_285_64)
  have e5 : hV H1 296 = hV H0 296 := fRow f18.1.2.1 296 kR_285v_296
  have e6 : hV H1 298 = hV H0 298 := fRow f18.1.2.1 298 kR_285v_298
  have e7 : hV H1 300 = hV H0 300 := fRow f18.1.2.1 300 kR_285v_300
  have e8 : hV H1 328 = hV H0 328 := fRow f18.1.2.1 328 kR_285v_328
  have e9 : hV H1 332 = hV H0 332 := fRow f18.1.2.1 332 kR_285v_332
  have e10 : (0 : Int) ≤ hV H0 285 18 ∧ hV H0 285 18 ≤ 8 := bTo e3 (f18.1.2.2 285 18 _ _ kW_285_18)
  have e11 : (0 : Int) ≤ hV H0 285 64 ∧ hV H0 285 64 ≤ 20 := bTo e4 (f18.1.2.2 285 64 _ _ kW_285_64)
  have e12 : (0 : Int) ≤ hV H1 285 65 ∧ hV H1 285 65 ≤ 2147483647 := f18.1.2.2 285 65 _ _ kW_285_65
  have k0 := g4.1
  have k1 := g4.2.1
  have k2 := g4.2.2.1
  have y0 := g4.2.2.2.1
  have y1 := g4.2.2.2.2.1
  have y2 := g4.2.2.2.2.2.1
  have y3 := g4.2.2.2.2.2.2.1
  have y4 := g4.2.2.2.2.2.2.2.1
  have y5 := g4.2.2.2.2.2.2.2.2.1
  have y6 := g4.2.2.2.2.2.2.2.2.2.1
  have y7 := g4.2.2.2.2.2.2.2.2.2.2.1
  have y8 := g4.2.2.2.2.2.2.2.2.2.2.2.1
  have y9 := g4.2.2.2.2.2.2.2.2.2.2.2.2.1
  have y10 := g4.2.2.2.2.2.2.2.2.2.2.2.2.2.1
  have y11 := g4.2.2.2.2.2.2.2.2.2.2.2.2.2.2.1
  have y12 := g4.2.2.2.2.2.2.2.2.2.2.2.2.2.2.2.1
  have y13 := g4.2.2.2.2.2.2.2.2.2.2.2.2.2.2.2.2.1
  have y14 := g4.2.2.2.2.2.2.2.2.2.2.2.2.2.2.2.2.2.1
  have y15 := g4.2.2.2.2.2.2.2.2.2.2.2.2.2.2.2.2.2.2
  have p0 := g3.1
  have p1 := g3.2.1
  have p2 := g3.2.2.1
  have p3 := g3.2.2.2.1
  have p4 := g3.2.2.2.2
  try simp only [e5, e6, e7] at y0
  try simp only [e4, e5, e6, e7, e8, e9] at y1
  try simp only [e4, e5, e6, e7] at y2
  try simp only [e5, e6, e7] at y3
  try simp only [e4] at y5
  try simp only [e8] at y6
  try simp only [e3] at y8
  clear g3
  clear g4
  clear f21 e3 e4 e5 e6 e7 e8 e9
  clear f18
  subst e1
  try subst k2
  try subst k1
  try subst k0
  omega
def g_285v_64_2 : vG := ([(43, [9, 10], [], 0), (20, [10, 4], [1], 64), (90, [10], [], 0), (91, [10], [], 20), (5000, [0, 1, 2, 3, 4, 5, 6, 7, 8, 9], [0, 1], 64), (0, [0], [], 285), (90, [1], [], -2147483648), (91, [1], [], 2147483647), (90, [2], [], -2147483648), (91, [2], [], 2147483647), (90, [3], [], -2147483648), (91, [3], [], 2147483647), (0, [4], [], 285), (90, [5], [], -2147483648), (91, [5], [], 2147483647), (90, [6], [], -2147483648), (91, [6], [], 2147483647), (90, [7], [], -2147483648), (91, [7], [], 2147483647), (90, [8], [], -2147483648), (91, [8], [], 2147483647), (90, [9], [], 0), (91, [9], [], 20)], (90, [6], [], 0))
theorem c_285v_64_2 {q0 : Nat} : vOkm T0 (eP e_285v L_285v A_285v mu_285v (some q0)) 4 g_285v_64_2 := vOk_inI fun ρ η f0 f1 f2 f3 f4 f5 f6 f7 f8 f9 f10 f11 f12 f13 f14 f15 f16 f17 f18 f19 f20 f21 f22 => q_285v_12 (q0 := q0) (n0 := ρ 9) (n1 := ρ 8) (n2 := ρ 7) (n3 := ρ 6) (n4 := ρ 5) (n5 := ρ 4) (n6 := ρ 3) (n7 := ρ 2) (n8 := ρ 1) (n9 := ρ 0) (n10 := ρ 10) (H0 := η 0) (H1 := η 1) f22 f21 f20 f19 f18 f17 f16 f15 f14 f13 f12 f11 f10 f9 f8 f7 f6 f5 f4 f3 f2 f1 f0
theorem q_285v_13 {q0 : Nat} {n0 n1 n2 n3 n4 n5 n6 n7 n8 n9 n10 : Int} {H0 H1 : gH} (f0 : n0 ≤ 20) (f1 : 0 ≤ n0) (f2 : n1 ≤ 2147483647) (f3 : (-2147483648) ≤ n1) (f4 : n2 ≤ 2147483647) (f5 : (-2147483648) ≤ n2) (f6 : n3 ≤ 2147483647) (f7 : (-2147483648) ≤ n3) (f8 : n4 ≤ 2147483647) (f9 : (-2147483648) ≤ n4) (f10 : n5 = 285) (f11 : n6 ≤ 2147483647) (f12 : (-2147483648) ≤ n6) (f13 : n7 ≤ 2147483647) (f14 : (-2147483648) ≤ n7) (f15 : n8 ≤ 2147483647) (f16 : (-2147483648) ≤ n8) (f17 : n9 = 285) (f18 : (hLe T0 H0 H1 ∧ hFr s_285v.2.2.2.2 H0 H1 ∧ hWt T0 H1) ∧ (Ab_285v_64 n9 n8 n7 n6 n5 n4 n3 n2 n1 n0 H0 H1 ∧ preb_285v n9 n8 n7 n6 H0) ∧ some q0 = some (mub_285v_64 n9 n8 n7 n6 n5 n4 n3 n2 n1 n0 H0 H1)) (f19 : n10 ≤ 20) (f20 : 0 ≤ n10) (f21 : n10 = hV H1 (n5).toNat 64) (f22 : n10 ≤ n0) : n3 ≤ 7 := by
  have g4 := f18.2.1.1
  unfold Ab_285v_64 at g4
  have g3 := f18.2.1.2
  unfold preb_285v at g3
  have e1 : n10 = hV H0 285 64 := (by rw [f10] at f21; exact f21 : n10 = hV H1 285 64).trans ((f18.1.2.1.1 285 64 kF_285v_285_64))
  have e3 : hV H1 285 18 = hV H0 285 18 := (f18.1.2.1.1 285 18 kF_285v_285_18)
  have e4 : hV H1 285 64 = hV H0 285 64 := (f18.1.2.1.1 285 64 kF_285v_285_64)
  have e5 : hV H1 296 = hV H0 296 := fRow f18.1.2.1 296 kR_285v_296
  have e6 : hV H1 298 = hV H0 298 := fRow f18.1.2.1 298 kR_285v_298
  have e7 : hV H1 300 = hV H0 300 := fRow f18.1.2.1 300 kR_285v_300
  have e8 : hV H1 328 = hV H0 328 := fRow f18.1.2.1 328 kR_285v_328
  have e9 : hV H1 332 = hV H0 332 := fRow f18.1.2.1 332 kR_285v_332
  have e10 : (0 : Int) ≤ hV H0 285 18 ∧ hV H0 285 18 ≤ 8 := bTo e3 (f18.1.2.2 285 18 _ _ kW_285_18)
  have e11 : (0 : Int) ≤ hV H0 285 64 ∧ hV H0 285 64 ≤ 20 := bTo e4 (f18.1.2.2 285 64 _ _ kW_285_64)
  have e12 : (0 : Int) ≤ hV H1 285 65 ∧ hV H1 285 65 ≤ 2147483647 := f18.1.2.2 285 65 _ _ kW_285_65
  have k0 := g4.1
  have k1 := g4.2.1
  have k2 := g4.2.2.1
  have y0 := g4.2.2.2.1
  have y1 := g4.2.2.2.2.1
  have y2 := g4.2.2.2.2.2.1
  have y3 := g4.2.2.2.2.2.2.1
  have y4 := g4.2.2.2.2.2.2.2.1
  have y5 := g4.2.2.2.2.2.2.2.2.1
  have y6 := g4.2.2.2.2.2.2.2.2.2.1
  have y7 := g4.2.2.2.2.2.2.2.2.2.2.1
  have y8 := g4.2.2.2.2.2.2.2.2.2.2.2.1
  have y9 := g4.2.2.2.2.2.2.2.2.2.2.2.2.1
  have y10 := g4.2.2.2.2.2.2.2.2.2.2.2.2.2.1
  have y11 := g4.2.2.2.2.2.2.2.2.2.2.2.2.2.2.1
  have y12 := g4.2.2.2.2.2.2.2.2.2.2.2.2.2.2.2.1
  have y13 := g4.2.2.2.2.2.2.2.2.2.2.2.2.2.2.2.2.1
  have y14 := g4.2.2.2.2.2.2.2.2.2.2.2.2.2.2.2.2.2.1
  have y15 := g4.2.2.2.2.2.2.2.2.2.2.2.2.2.2.2.2.2.2
  have p0 := g3.1
  have p1 := g3.2.1
  have p2 := g3.2.2.1
  have p3 := g3.2.2.2.1
  have p4 := g3.2.2.2.2
  try simp only [e5, e6, e7] at y0
  try simp only [e4, e5, e6, e7, e8, e9] at y1
  try simp only [e4, e5, e6, e7] at y2
  try simp only [e5, e6, e7] at y3
  try simp only [e4] at y5
  try simp only [e8] at y6
  try simp only [e3] at y8
  clear g3
  clear g4
  clear f21 e3 e4 e5 e6 e7 e8 e9
  clear f18
  subst e1
  try subst k2
  try subst k1
  try subst k0
  omega
def g_285v_64_3 : vG := ([(43, [9, 10], [], 0), (20, [10, 4], [1], 64), (90, [10], [], 0), (91, [10], [], 20), (5000, [0, 1, 2, 3, 4, 5, 6, 7, 8, 9], [0, 1], 64), (0, [0], [], 285), (90, [1], [], -2147483648), (91, [1], [], 2147483647), (90, [2], [], -2147483648), (91, [2], [], 2147483647), (90, [3], [], -2147483648), (91, [3], [], 2147483647), (0, [4], [], 285), (90, [5], [], -2147483648), (91, [5], [], 2147483647), (90, [6], [], -2147483648), (91, [6], [], 2147483647), (90, [7], [], -2147483648), (91, [7], [], 2147483647), (90, [8], [], -2147483648), (91, [8], [], 2147483647), (90, [9], [], 0), (91, [9], [], 20)], (91, [6], [], 7))
theorem c_285v_64_3 {q0 : Nat} : vOkm T0 (eP e_285v L_285v A_285v mu_285v (some q0)) 4 g_285v_64_3 := vOk_inI fun ρ η f0 f1 f2 f3 f4 f5 f6 f7 f8 f9 f10 f11 f12 f13 f14 f15 f16 f17 f18 f19 f20 f21 f22 => q_285v_13 (q0 := q0) (n0 := ρ 9) (n1 := ρ 8) (n2 := ρ 7) (n3 := ρ 6) (n4 := ρ 5) (n5 := ρ 4) (n6 := ρ 3) (n7 := ρ 2) (n8 := ρ 1) (n9 := ρ 0) (n10 := ρ 10) (H0 := η 0) (H1 := η 1) f22 f21 f20 f19 f18 f17 f16 f15 f14 f13 f12 f11 f10 f9 f8 f7 f6 f5 f4 f3 f2 f1 f0
theorem q_285v_14 {q0 : Nat} {n0 n1 n2 n3 n4 n5 n6 n7 n8 n9 n10 : Int} {H0 H1 : gH} (f0 : n0 ≤ 20) (f1 : 0 ≤ n0) (f2 : n1 ≤ 2147483647) (f3 : (-2147483648) ≤ n1) (f4 : n2 ≤ 2147483647) (f5 : (-2147483648) ≤ n2) (f6 : n3 ≤ 2147483647) (f7 : (-2147483648) ≤ n3) (f8 : n4 ≤ 2147483647) (f9 : (-2147483648) ≤ n4) (f10 : n5 = 285) (f11 : n6 ≤ 2147483647) (f12 : (-2147483648) ≤ n6) (f13 : n7 ≤ 2147483647) (f14 : (-2147483648) ≤ n7) (f15 : n8 ≤ 2147483647) (f16 : (-2147483648) ≤ n8) (f17 : n9 = 285) (f18 : (hLe T0 H0 H1 ∧ hFr s_285v.2.2.2.2 H0 H1 ∧ hWt T0 H1) ∧ (Ab_285v_64 n9 n8 n7 n6 n5 n4 n3 n2 n1 n0 H0 H1 ∧ preb_285v n9 n8 n7 n6 H0) ∧ some q0 = some (mub_285v_64 n9 n8 n7 n6 n5 n4 n3 n2 n1 n0 H0 H1)) (f19 : n10 ≤ 20) (f20 : 0 ≤ n10) (f21 : n10 = hV H1 (n5).toNat 64) (f22 : n10 ≤ n0) : 0 ≤ n2 := by
  have g4 := f18.2.1.1
  unfold Ab_285v_64 at g4
  have g3 := f18.2.1.2
  unfold preb_285v at g3
  have e1 : n10 = hV H0 285 64 := (by rw [f10] at f21; exact f21 : n10 = hV H1 285 64).trans ((f18.1.2.1.1 285 64 kF_285v_285_64))
  have e3 : hV H1 285 18 = hV H0 285 18 := (f18.1.2.1.1 285 18 kF_285v_285_18)
  have e4 : hV H1 285 64 = hV H0 285 64 := (f18.1.2.1.1 285 64 kF_285v_285_64)
  have e5 : hV H1 296 = hV H0 296 := fRow f18.1.2.1 296 kR_285v_296
  have e6 : hV H1 298 = hV H0 298 := fRow f18.1.2.1 298 kR_285v_298
  have e7 : hV H1 300 = hV H0 300 := fRow f18.1.2.1 300 kR_285v_300
  have e8 : hV H1 328 = hV H0 328 := fRow f18.1.2.1 328 kR_285v_328
  have e9 : hV H1 332 = hV H0 332 := fRow f18.1.2.1 332 kR_285v_332
  have e10 : (0 : Int) ≤ hV H0 285 18 ∧ hV H0 285 18 ≤ 8 := bTo e3 (f18.1.2.2 285 18 _ _ kW_285_18)
  have e11 : (0 : Int) ≤ hV H0 285 64 ∧ hV H0 285 64 ≤ 20 := bTo e4 (f18.1.2.2 285 64 _ _ kW_285_64)
  have e12 : (0 : Int) ≤ hV H1 285 65 ∧ hV H1 285 65 ≤ 2147483647 := f18.1.2.2 285 65 _ _ kW_285_65
  have k0 := g4.1
  have k1 := g4.2.1
  have k2 := g4.2.2.1
  have y0 := g4.2.2.2.1
  have y1 := g4.2.2.2.2.1
  have y2 := g4.2.2.2.2.2.1
  have y3 := g4.2.2.2.2.2.2.1
  have y4 := g4.2.2.2.2.2.2.2.1
  have y5 := g4.2.2.2.2.2.2.2.2.1
  have y6 := g4.2.2.2.2.2.2.2.2.2.1
  have y7 := g4.2.2.2.2.2.2.2.2.2.2.1
  have y8 := g4.2.2.2.2.2.2.2.2.2.2.2.1
  have y9 := g4.2.2.2.2.2.2.2.2.2.2.2.2.1
  have y10 := g4.2.2.2.2.2.2.2.2.2.2.2.2.2.1
  have y11 := g4.2.2.2.2.2.2.2.2.2.2.2.2.2.2.1
  have y12 := g4.2.2.2.2.2.2.2.2.2.2.2.2.2.2.2.1
  have y13 := g4.2.2.2.2.2.2.2.2.2.2.2.2.2.2.2.2.1
  have y14 := g4.2.2.2.2.2.2.2.2.2.2.2.2.2.2.2.2.2.1
  have y15 := g4.2.2.2.2.2.2.2.2.2.2.2.2.2.2.2.2.2.2
  have p0 := g3.1
  have p1 := g3.2.1
  have p2 := g3.2.2.1
  have p3 := g3.2.2.2.1
  have p4 := g3.2.2.2.2
  try simp only [e5, e6, e7] at y0
  try simp only [e4, e5, e6, e7, e8, e9] at y1
  try simp only [e4, e5, e6, e7] at y2
  try simp only [e5, e6, e7] at y3
  try simp only [e4] at y5
  try simp only [e8] at y6
  try simp only [e3] at y8
  clear g3
  clear g4
  clear f21 e3 e4 e5 e6 e7 e8 e9
  clear f18
  subst e1
  try subst k2
  try subst k1
  try subst k0
  omega
def g_285v_64_4 : vG := ([(43, [9, 10], [], 0), (20, [10, 4], [1], 64), (90, [10], [], 0), (91, [10], [], 20), (5000, [0, 1, 2, 3, 4, 5, 6, 7, 8, 9], [0, 1], 64), (0, [0], [], 285), (90, [1], [], -2147483648), (91, [1], [], 2147483647), (90, [2], [], -2147483648), (91, [2], [], 2147483647), (90, [3], [], -2147483648), (91, [3], [], 2147483647), (0, [4], [], 285), (90, [5], [], -2147483648), (91, [5], [], 2147483647), (90, [6], [], -2147483648), (91, [6], [], 2147483647), (90, [7], [], -2147483648), (91, [7], [], 2147483647), (90, [8], [], -2147483648), (91, [8], [], 2147483647), (90, [9], [], 0), (91, [9], [], 20)], (90, [7], [], 0))
theorem c_285v_64_4 {q0 : Nat} : vOkm T0 (eP e_285v L_285v A_285v mu_285v (some q0)) 4 g_285v_64_4 := vOk_inI fun ρ η f0 f1 f2 f3 f4 f5 f6 f7 f8 f9 f10 f11 f12 f13 f14 f15 f16 f17 f18 f19 f20 f21 f22 => q_285v_14 (q0 := q0) (n0 := ρ 9) (n1 := ρ 8) (n2 := ρ 7) (n3 := ρ 6) (n4 := ρ 5) (n5 := ρ 4) (n6 := ρ 3) (n7 := ρ 2) (n8 := ρ 1) (n9 := ρ 0) (n10 := ρ 10) (H0 := η 0) (H1 := η 1) f22 f21 f20 f19 f18 f17 f16 f15 f14 f13 f12 f11 f10 f9 f8 f7 f6 f5 f4 f3 f2 f1 f0
theorem q_285v_15 {q0 : Nat} {n0 n1 n2 n3 n4 n5 n6 n7 n8 n9 n10 : Int} {H0 H1 : gH} (f0 : n0 ≤ 20) (f1 : 0 ≤ n0) (f2 : n1 ≤ 2147483647) (f3 : (-2147483648) ≤ n1) (f4 : n2 ≤ 2147483647) (f5 : (-2147483648) ≤ n2) (f6 : n3 ≤ 2147483647) (f7 : (-2147483648) ≤ n3) (f8 : n4 ≤ 2147483647) (f9 : (-2147483648) ≤ n4) (f10 : n5 = 285) (f11 : n6 ≤ 2147483647) (f12 : (-2147483648) ≤ n6) (f13 : n7 ≤ 2147483647) (f14 : (-2147483648) ≤ n7) (f15 : n8 ≤ 2147483647) (f16 : (-2147483648) ≤ n8) (f17 : n9 = 285) (f18 : (hLe T0 H0 H1 ∧ hFr s_285v.2.2.2.2 H0 H1 ∧ hWt T0 H1) ∧ (Ab_285v_64 n9 n8 n7 n6 n5 n4 n3 n2 n1 n0 H0 H1 ∧ preb_285v n9 n8 n7 n6 H0) ∧ some q0 = some (mub_285v_64 n9 n8 n7 n6 n5 n4 n3 n2 n1 n0 H0 H1)) (f19 : n10 ≤ 20) (f20 : 0 ≤ n10) (f21 : n10 = hV H1 (n5).toNat 64) (f22 : n10 ≤ n0) : n2 ≤ 5 := by
  have g4 := f18.2.1.1
  unfold Ab_285v_64 at g4
  have g3 := f18.2.1.2
  unfold preb_285v at g3
  have e1 : n10 = hV H0 285 64 := (by rw [f10] at f21; exact f21 : n10 = hV H1 285 64).trans ((f18.1.2.1.1 285 64 kF_285v_285_64))
  have e3 : hV H1 285 18 = hV H0 285 18 := (f18.1.2.1.1 285 18 kF_285v_285_18)
  have e4 : hV H1 285 64 = hV H0 285 64 := (f18.1.2.1.1 285 64 kF_285v_285_64)
  have e5 : hV H1 296 = hV H0 296 := fRow f18.1.2.1 296 kR_285v_296
  have e6 : hV H1 298 = hV H0 298 := fRow f18.1.2.1 298 kR_285v_298
  have e7 : hV H1 300 = hV H0 300 := fRow f18.1.2.1 300 kR_285v_300
  have e8 : hV H1 328 = hV H0 328 := fRow f18.1.2.1 328 kR_285v_328
  have e9 : hV H1 332 = hV H0 332 := fRow f18.1.2.1 332 kR_285v_332
  have e10 : (0 : Int) ≤ hV H0 285 18 ∧ hV H0 285 18 ≤ 8 := bTo e3 (f18.1.2.2 285 18 _ _ kW_285_18)
  have e11 : (0 : Int) ≤ hV H0 285 64 ∧ hV H0 285 64 ≤ 20 := bTo e4 (f18.1.2.2 285 64 _ _ kW_285_64)
  have e12 : (0 : Int) ≤ hV H1 285 65 ∧ hV H1 285 65 ≤ 2147483647 := f18.1.2.2 285 65 _ _ kW_285_65
  have k0 := g4.1
  have k1 := g4.2.1
  have k2 := g4.2.2.1
  have y0 := g4.2.2.2.1
  have y1 := g4.2.2.2.2.1
  have y2 := g4.2.2.2.2.2.1
  have y3 := g4.2.2.2.2.2.2.1
  have y4 := g4.2.2.2.2.2.2.2.1
  have y5 := g4.2.2.2.2.2.2.2.2.1
  have y6 := g4.2.2.2.2.2.2.2.2.2.1
  have y7 := g4.2.2.2.2.2.2.2.2.2.2.1
  have y8 := g4.2.2.2.2.2.2.2.2.2.2.2.1
  have y9 := g4.2.2.2.2.2.2.2.2.2.2.2.2.1
  have y10 := g4.2.2.2.2.2.2.2.2.2.2.2.2.2.1
  have y11 := g4.2.2.2.2.2.2.2.2.2.2.2.2.2.2.1
  have y12 := g4.2.2.2.2.2.2.2.2.2.2.2.2.2.2.2.1
  have y13 := g4.2.2.2.2.2.2.2.2.2.2.2.2.2.2.2.2.1
  have y14 := g4.2.2.2.2.2.2.2.2.2.2.2.2.2.2.2.2.2.1
  have y15 := g4.2.2.2.2.2.2.2.2.2.2.2.2.2.2.2.2.2.2
  have p0 := g3.1
  have p1 := g3.2.1
  have p2 := g3.2.2.1
  have p3 := g3.2.2.2.1
  have p4 := g3.2.2.2.2
  try simp only [e5, e6, e7] at y0
  try simp only [e4, e5, e6, e7, e8, e9] at y1
  try simp only [e4, e5, e6, e7] at y2
  try simp only [e5, e6, e7] at y3
  try simp only [e4] at y5
  try simp only [e8] at y6
  try simp only [e3] at y8
  clear g3
  clear g4
  clear f21 e3 e4 e5 e6 e7 e8 e9
  clear f18
  subst e1
  try subst k2
  try subst k1
  try subst k0
  omega
def g_285v_64_5 : vG := ([(43, [9, 10], [], 0), (20, [10, 4], [1], 64), (90, [10], [], 0), (91, [10], [], 20), (5000, [0, 1, 2, 3, 4, 5, 6, 7, 8, 9], [0, 1], 64), (0, [0], [], 285), (90, [1], [], -2147483648), (91, [1], [], 2147483647), (90, [2], [], -2147483648), (91, [2], [], 2147483647), (90, [3], [], -2147483648), (91, [3], [], 2147483647), (0, [4], [], 285), (90, [5], [], -2147483648), (91, [5], [], 2147483647), (90, [6], [], -2147483648), (91, [6], [], 2147483647), (90, [7], [], -2147483648), (91, [7], [], 2147483647), (90, [8], [], -2147483648), (91, [8], [], 2147483647), (90, [9], [], 0), (91, [9], [], 20)], (91, [7], [], 5))
theorem c_285v_64_5 {q0 : Nat} : vOkm T0 (eP e_285v L_285v A_285v mu_285v (some q0)) 4 g_285v_64_5 := vOk_inI fun ρ η f0 f1 f2 f3 f4 f5 f6 f7 f8 f9 f10 f11 f12 f13 f14 f15 f16 f17 f18 f19 f20 f21 f22 => q_285v_15 (q0 := q0) (n0 := ρ 9) (n1 := ρ 8) (n2 := ρ 7) (n3 := ρ 6) (n4 := ρ 5) (n5 := ρ 4) (n6 := ρ 3) (n7 := ρ 2) (n8 := ρ 1) (n9 := ρ 0) (n10 := ρ 10) (H0 := η 0) (H1 := η 1) f22 f21 f20 f19 f18 f17 f16 f15 f14 f13 f12 f11 f10 f9 f8 f7 f6 f5 f4 f3 f2 f1 f0
theorem q_285v_16 {q0 : Nat} {n0 n1 n2 n3 n4 n5 n6 n7 n8 n9 n10 : Int} {H0 H1 : gH} (f0 : n0 ≤ 20) (f1 : 0 ≤ n0) (f2 : n1 ≤ 2147483647) (f3 : (-2147483648) ≤ n1) (f4 : n2 ≤ 2147483647) (f5 : (-2147483648) ≤ n2) (f6 : n3 ≤ 2147483647) (f7 : (-2147483648) ≤ n3) (f8 : n4 ≤ 2147483647) (f9 : (-2147483648) ≤ n4) (f10 : n5 = 285) (f11 : n6 ≤ 2147483647) (f12 : (-2147483648) ≤ n6) (f13 : n7 ≤ 2147483647) (f14 : (-2147483648) ≤ n7) (f15 : n8 ≤ 2147483647) (f16 : (-2147483648) ≤ n8) (f17 : n9 = 285) (f18 : (hLe T0 H0 H1 ∧ hFr s_285v.2.2.2.2 H0 H1 ∧ hWt T0 H1) ∧ (Ab_285v_64 n9 n8 n7 n6 n5 n4 n3 n2 n1 n0 H0 H1 ∧ preb_285v n9 n8 n7 n6 H0) ∧ some q0 = some (mub_285v_64 n9 n8 n7 n6 n5 n4 n3 n2 n1 n0 H0 H1)) (f19 : n10 ≤ 20) (f20 : 0 ≤ n10) (f21 : n10 = hV H1 (n5).toNat 64) (f22 : n10 ≤ n0) : preb_283v n5 n4 n3 n2 H1 := by
  have g4 := f18.2.1.1
  unfold Ab_285v_64 at g4
  have g3 := f18.2.1.2
  unfold preb_285v at g3
  unfold preb_283v
  have e1 : n10 = hV H0 285 64 := (by rw [f10] at f21; exact f21 : n10 = hV H1 285 64).trans ((f18.1.2.1.1 285 64 kF_285v_285_64))
  have e3 : hV H1 285 18 = hV H0 285 18 := (f18.1.2.1.1 285 18 kF_285v_285_18)
  have e4 : hV H1 285 64 = hV H0 285 64 := (f18.1.2.1.1 285 64 kF_285v_285_64)
  have e5 : hV H1 296 = hV H0 296 := fRow f18.1.2.1 296 kR_285v_296
  have e6 : hV H1 298 = hV H0 298 := fRow f18.1.2.1 298 kR_285v_298
  have e7 : hV H1 300 = hV H0 300 := fRow f18.1.2.1 300 kR_285v_300
  have e8 : hV H1 328 = hV H0 328 := fRow f18.1.2.1 328 kR_285v_328
  have e9 : hV H1 332 = hV H0 332 := fRow f18.1.2.1 332 kR_285v_332
  have e10 : PG H1 = PG H0 := PG_fr f18.1.2.1 (by decide +kernel)
  have e11 : (0 : Int) ≤ hV H0 285 18 ∧ hV H0 285 18 ≤ 8 := bTo e3 (f18.1.2.2 285 18 _ _ kW_285_18)
  have e12 : (0 : Int) ≤ hV H0 285 64 ∧ hV H0 285 64 ≤ 20 := bTo e4 (f18.1.2.2 285 64 _ _ kW_285_64)
  have e13 : (0 : Int) ≤ hV H1 285 65 ∧ hV H1 285 65 ≤ 2147483647 := f18.1.2.2 285 65 _ _ kW_285_65
  try simp only [e3, e4, e8, e10]
  have k0 := g4.1
  have k1 := g4.2.1
  have k2 := g4.2.2.1
  have y0 := g4.2.2.2.1
  have y1 := g4.2.2.2.2.1
  have y2 := g4.2.2.2.2.2.1
  have y3 := g4.2.2.2.2.2.2.1
  have y4 := g4.2.2.2.2.2.2.2.1
  have y5 := g4.2.2.2.2.2.2.2.2.1
  have y6 := g4.2.2.2.2.2.2.2.2.2.1
  have y7 := g4.2.2.2.2.2.2.2.2.2.2.1
  have y8 := g4.2.2.2.2.2.2.2.2.2.2.2.1
  have y9 := g4.2.2.2.2.2.2.2.2.2.2.2.2.1
  have y10 := g4.2.2.2.2.2.2.2.2.2.2.2.2.2.1
  have y11 := g4.2.2.2.2.2.2.2.2.2.2.2.2.2.2.1
  have y12 := g4.2.2.2.2.2.2.2.2.2.2.2.2.2.2.2.1
  have y13 := g4.2.2.2.2.2.2.2.2.2.2.2.2.2.2.2.2.1
  have y14 := g4.2.2.2.2.2.2.2.2.2.2.2.2.2.2.2.2.2.1
  have y15 := g4.2.2.2.2.2.2.2.2.2.2.2.2.2.2.2.2.2.2
  have p0 := g3.1
  have p1 := g3.2.1
  have p2 := g3.2.2.1
  have p3 := g3.2.2.2.1
  have p4 := g3.2.2.2.2
  try simp only [e5, e6, e7] at y0
  try simp only [e4, e5, e6, e7, e8, e9] at y1
  try simp only [e4, e5, e6, e7] at y2
  try simp only [e5, e6, e7] at y3
  try simp only [e4] at y5
  try simp only [e8] at y6
  try simp only [e3] at y8
  clear g3
  clear g4
  clear f21 e3 e4 e5 e6 e7 e8 e9 e10
  clear f18
  subst e1
  try subst k2
  try subst k1
  try subst k0
  refine ⟨?_, ?_, ?_, ?_, ?_, ?_, ?_⟩ <;> first | assumption | omega | trivial
def g_285v_64_6 : vG := ([(43, [9, 10], [], 0), (20, [10, 4], [1], 64), (90, [10], [], 0), (91, [10], [], 20), (5000, [0, 1, 2, 3, 4, 5, 6, 7, 8, 9], [0, 1], 64), (0, [0], [], 285), (90, [1], [], -2147483648), (91, [1], [], 2147483647), (90, [2], [], -2147483648), (91, [2], [], 2147483647), (90, [3], [], -2147483648), (91, [3], [], 2147483647), (0, [4], [], 285), (90, [5], [], -2147483648), (91, [5], [], 2147483647), (90, [6], [], -2147483648), (91, [6], [], 2147483647), (90, [7], [], -2147483648), (91, [7], [], 2147483647), (90, [8], [], -2147483648), (91, [8], [], 2147483647), (90, [9], [], 0), (91, [9], [], 20)], (2283, [4, 5, 6, 7], [1], 0))
theorem c_285v_64_6 {q0 : Nat} : vOkm T0 (eP e_285v L_285v A_285v mu_285v (some q0)) 4 g_285v_64_6 := vOk_inI fun ρ η f0 f1 f2 f3 f4 f5 f6 f7 f8 f9 f10 f11 f12 f13 f14 f15 f16 f17 f18 f19 f20 f21 f22 => q_285v_16 (q0 := q0) (n0 := ρ 9) (n1 := ρ 8) (n2 := ρ 7) (n3 := ρ 6) (n4 := ρ 5) (n5 := ρ 4) (n6 := ρ 3) (n7 := ρ 2) (n8 := ρ 1) (n9 := ρ 0) (n10 := ρ 10) (H0 := η 0) (H1 := η 1) f22 f21 f20 f19 f18 f17 f16 f15 f14 f13 f12 f11 f10 f9 f8 f7 f6 f5 f4 f3 f2 f1 f0
theorem kR_283v_296 : vFreeR s_283v.2.2.2.2 296 = true := by decide +kernel
theorem q_285v_17 {q0 : Nat} {n0 n1 n2 n3 n4 n5 n6 n7 n8 n9 n10 n11 : Int} {H0 H1 H2 : gH} (f0 : n0 ≤ 20) (f1 : 0 ≤ n0) (f2 : n1 ≤ 2147483647) (f3 : (-2147483648) ≤ n1) (f4 : n2 ≤ 2147483647) (f5 : (-2147483648) ≤ n2) (f6 : n3 ≤ 2147483647) (f7 : (-2147483648) ≤ n3) (f8 : n4 ≤ 2147483647) (f9 : (-2147483648) ≤ n4) (f10 : n5 = 285) (f11 : n6 ≤ 2147483647) (f12 : (-2147483648) ≤ n6) (f13 : n7 ≤ 2147483647) (f14 : (-2147483648) ≤ n7) (f15 : n8 ≤ 2147483647) (f16 : (-2147483648) ≤ n8) (f17 : n9 = 285) (f18 : (hLe T0 H0 H1 ∧ hFr s_285v.2.2.2.2 H0 H1 ∧ hWt T0 H1) ∧ (Ab_285v_64 n9 n8 n7 n6 n5 n4 n3 n2 n1 n0 H0 H1 ∧ preb_285v n9 n8 n7 n6 H0) ∧ some q0 = some (mub_285v_64 n9 n8 n7 n6 n5 n4 n3 n2 n1 n0 H0 H1)) (f19 : n10 ≤ 20) (f20 : 0 ≤ n10) (f21 : n10 = hV H1 (n5).toNat 64) (f22 : n10 ≤ n0) (f23 : n11 ≤ 2147483647) (f24 : (-2147483648) ≤ n11) (f25 : (hLe T0 H1 H2 ∧ hFr s_283v.2.2.2.2 H1 H2 ∧ ((0 : Int) = 0 → H2.length = H1.length) ∧ hWt T0 H2) ∧ postb_283v n11 n5 n4 n3 n2 H1 H2) : postb_285v n11 n9 n8 n7 n6 H0 H2 := by
  have g4 := f18.2.1.1
  unfold Ab_285v_64 at g4
  have g3 := f18.2.1.2
  unfold preb_285v at g3
  unfold postb_283v at f25
  unfold postb_285v
  have e1 : n10 = hV H0 285 64 := (by rw [f10] at f21; exact f21 : n10 = hV H1 285 64).trans ((f18.1.2.1.1 285 64 kF_285v_285_64))
  have e3 : hV H1 285 18 = hV H0 285 18 := (f18.1.2.1.1 285 18 kF_285v_285_18)
  have e4 : hV H1 285 64 = hV H0 285 64 := (f18.1.2.1.1 285 64 kF_285v_285_64)
  have e5 : hV H1 296 = hV H0 296 := fRow f18.1.2.1 296 kR_285v_296
  have e6 : hV H1 298 = hV H0 298 := fRow f18.1.2.1 298 kR_285v_298
  have e7 : hV H1 300 = hV H0 300 := fRow f18.1.2.1 300 kR_285v_300
  have e8 : hV H1 328 = hV H0 328 := fRow f18.1.2.1 328 kR_285v_328
  have e9 : hV H1 332 = hV H0 332 := fRow f18.1.2.1 332 kR_285v_332
  have e11 : hV H2 285 18 = hV H0 285 18 := ((f25.1.2.1.1 285 18 kF_283v_285_18)).trans (f18.1.2.1.1 285 18 kF_285v_285_18)
  have e13 : hV H2 285 64 = hV H0 285 64 := ((f25.1.2.1.1 285 64 kF_283v_285_64)).trans (f18.1.2.1.1 285 64 kF_285v_285_64)
  have e15 : hV H2 296 = hV H0 296 := (fRow f25.1.2.1 296 kR_283v_296).trans e5
  have e17 : hV H2 298 = hV H0 298 := (fRow f25.1.2.1 298 kR_283v_298).trans e6
  have e19 : hV H2 300 = hV H0 300 := (fRow f25.1.2.1 300 kR_283v_300).trans e7
  have e21 : hV H2 328 = hV H0 328 := (fRow f25.1.2.1 328 kR_283v_328).trans e8
  have e23 : hV H2 332 = hV H0 332 := (fRow f25.1.2.1 332 kR_283v_332).trans e9
  have e24 : (0 : Int) ≤ hV H0 285 18 ∧ hV H0 285 18 ≤ 8 := bTo e3 (f18.1.2.2 285 18 _ _ kW_285_18)
  have e25 : (0 : Int) ≤ hV H0 285 64 ∧ hV H0 285 64 ≤ 20 := bTo e4 (f18.1.2.2 285 64 _ _ kW_285_64)
  have e26 : (0 : Int) ≤ hV H1 285 65 ∧ hV H1 285 65 ≤ 2147483647 := f18.1.2.2 285 65 _ _ kW_285_65
  have e29 : (0 : Int) ≤ hV H2 285 65 ∧ hV H2 285 65 ≤ 2147483647 := f25.1.2.2.2 285 65 _ _ kW_285_65
  try simp only [AC]
  try simp only [e11, e13, e15, e17, e19, e21, e23]
  have k0 := g4.1
  have k1 := g4.2.1
  have k2 := g4.2.2.1
  have y0 := g4.2.2.2.1
  have y1 := g4.2.2.2.2.1
  have y2 := g4.2.2.2.2.2.1
  have y3 := g4.2.2.2.2.2.2.1
  have y4 := g4.2.2.2.2.2.2.2.1
  have y5 := g4.2.2.2.2.2.2.2.2.1
  have y6 := g4.2.2.2.2.2.2.2.2.2.1
  have y7 := g4.2.2.2.2.2.2.2.2.2.2.1
  have y8 := g4.2.2.2.2.2.2.2.2.2.2.2.1
  have y9 := g4.2.2.2.2.2.2.2.2.2.2.2.2.1
  have y10 := g4.2.2.2.2.2.2.2.2.2.2.2.2.2.1
  have y11 := g4.2.2.2.2.2.2.2.2.2.2.2.2.2.2.1
  have y12 := g4.2.2.2.2.2.2.2.2.2.2.2.2.2.2.2.1
  have y13 := g4.2.2.2.2.2.2.2.2.2.2.2.2.2.2.2.2.1
  have y14 := g4.2.2.2.2.2.2.2.2.2.2.2.2.2.2.2.2.2.1
  have y15 := g4.2.2.2.2.2.2.2.2.2.2.2.2.2.2.2.2.2.2
  have p0 := g3.1
  have p1 := g3.2.1
  have p2 := g3.2.2.1
  have p3 := g3.2.2.2.1
  have p4 := g3.2.2.2.2
  have r0_0 := f25.2.1
  have r0_1 := f25.2.2.1
  have r0_2 := f25.2.2.2.1
  have r0_3 := f25.2.2.2.2.1
  have r0_4 := f25.2.2.2.2.2.1
  have r0_5 := f25.2.2.2.2.2.2
  try simp only [AC] at y13
  try simp only [AC] at p3
  try simp only [e5, e6, e7] at y0
  try simp only [e4, e5, e6, e7, e8, e9] at y1
  try simp only [e4, e5, e6, e7] at y2
  try simp only [e5, e6, e7] at y3
  try simp only [e4] at y5
  try simp only [e8] at y6
  try simp only [e3] at y8
  try simp only [e3, e4, e5, e6, e7, e8, e9] at y13
  clear g3
  clear g4
  clear f21 e3 e4 e5 e6 e7 e8 e9 e11 e13 e15 e17 e19 e21 e23
  clear f18 f25
  subst e1

  refine ⟨r0_0, r0_1, ?_, by omega, fun s hs => by
    have hq := r0_5 s (fun e => hs (by rw [show s = (n8).toNat by omega]; omega))
    rw [hq, y15]⟩
  rw [r0_4]
  exact AC_make y13 (s := (n8).toNat) (p := (n7).toNat) (by omega) (by omega) (by omega) (by omega) (by omega) (fun j hj => ⟨y2 j hj, (fun e => y3 (by rw [← e]; exact hj)), y1 j (by have := y2 j hj; omega) hj⟩)
def g_285v_64_7 : vG := ([(1283, [11, 4, 5, 6, 7], [1, 2], 0), (90, [11], [], -2147483648), (91, [11], [], 2147483647), (43, [9, 10], [], 0), (20, [10, 4], [1], 64), (90, [10], [], 0), (91, [10], [], 20), (5000, [0, 1, 2, 3, 4, 5, 6, 7, 8, 9], [0, 1], 64), (0, [0], [], 285), (90, [1], [], -2147483648), (91, [1], [], 2147483647), (90, [2], [], -2147483648), (91, [2], [], 2147483647), (90, [3], [], -2147483648), (91, [3], [], 2147483647), (0, [4], [], 285), (90, [5], [], -2147483648), (91, [5], [], 2147483647), (90, [6], [], -2147483648), (91, [6], [], 2147483647), (90, [7], [], -2147483648), (91, [7], [], 2147483647), (90, [8], [], -2147483648), (91, [8], [], 2147483647), (90, [9], [], 0), (91, [9], [], 20)], (3000, [11], [2], 114))
theorem c_285v_64_7 {q0 : Nat} : vOkm T0 (eP e_285v L_285v A_285v mu_285v (some q0)) 4 g_285v_64_7 := vOk_inI fun ρ η f0 f1 f2 f3 f4 f5 f6 f7 f8 f9 f10 f11 f12 f13 f14 f15 f16 f17 f18 f19 f20 f21 f22 f23 f24 f25 => q_285v_17 (q0 := q0) (n0 := ρ 9) (n1 := ρ 8) (n2 := ρ 7) (n3 := ρ 6) (n4 := ρ 5) (n5 := ρ 4) (n6 := ρ 3) (n7 := ρ 2) (n8 := ρ 1) (n9 := ρ 0) (n10 := ρ 10) (n11 := ρ 11) (H0 := η 0) (H1 := η 1) (H2 := η 2) f25 f24 f23 f22 f21 f20 f19 f18 f17 f16 f15 f14 f13 f12 f11 f10 f9 f8 f7 f6 f5 f4 f3 f2 f1 f0
theorem q_285v_18 {q0 : Nat} {n0 n1 n2 n3 n4 n5 n6 n7 n8 n9 n10 n11 n12 n13 n14 n15 : Int} {H0 H1 : gH} (f0 : n0 ≤ 20) (f1 : 0 ≤ n0) (f2 : n1 ≤ 2147483647) (f3 : (-2147483648) ≤ n1) (f4 : n2 ≤ 2147483647) (f5 : (-2147483648) ≤ n2) (f6 : n3 ≤ 2147483647) (f7 : (-2147483648) ≤ n3) (f8 : n4 ≤ 2147483647) (f9 : (-2147483648) ≤ n4) (f10 : n5 = 285) (f11 : n6 ≤ 2147483647) (f12 : (-2147483648) ≤ n6) (f13 : n7 ≤ 2147483647) (f14 : (-2147483648) ≤ n7) (f15 : n8 ≤ 2147483647) (f16 : (-2147483648) ≤ n8) (f17 : n9 = 285) (f18 : (hLe T0 H0 H1 ∧ hFr s_285v.2.2.2.2 H0 H1 ∧ hWt T0 H1) ∧ (Ab_285v_64 n9 n8 n7 n6 n5 n4 n3 n2 n1 n0 H0 H1 ∧ preb_285v n9 n8 n7 n6 H0) ∧ some q0 = some (mub_285v_64 n9 n8 n7 n6 n5 n4 n3 n2 n1 n0 H0 H1)) (f19 : n10 ≤ 20) (f20 : 0 ≤ n10) (f21 : n10 = hV H1 (n5).toNat 64) (f22 : n0 < n10) (f23 : n11 = o32 (fun x y => x >>> (y &&& 31)) n1 n0) (f24 : n12 = 1) (f25 : n13 = o32 (fun x y => x &&& y) n11 n12) (f26 : n14 = 1) (f27 : n13 ≠ n14) (f28 : n15 = w32 (n0 + 1)) : 0 ≤ n15 := by
  have g4 := f18.2.1.1
  unfold Ab_285v_64 at g4
  have g3 := f18.2.1.2
  unfold preb_285v at g3
  have e1 : n10 = hV H0 285 64 := (by rw [f10] at f21; exact f21 : n10 = hV H1 285 64).trans ((f18.1.2.1.1 285 64 kF_285v_285_64))
  have e3 : hV H1 285 18 = hV H0 285 18 := (f18.1.2.1.1 285 18 kF_285v_285_18)
  have e4 : hV H1 285 64 = hV H0 285 64 := (f18.1.2.1.1 285 64 kF_285v_285_64)
  have e5 : hV H1 296 = hV H0 296 := fRow f18.1.2.1 296 kR_285v_296
  have e6 : hV H1 298 = hV H0 298 := fRow f18.1.2.1 298 kR_285v_298
  have e7 : hV H1 300 = hV H0 300 := fRow f18.1.2.1 300 kR_285v_300
  have e8 : hV H1 328 = hV H0 328 := fRow f18.1.2.1 328 kR_285v_328
  have e9 : hV H1 332 = hV H0 332 := fRow f18.1.2.1 332 kR_285v_332
  have e10 : (0 : Int) ≤ hV H0 285 18 ∧ hV H0 285 18 ≤ 8 := bTo e3 (f18.1.2.2 285 18 _ _ kW_285_18)
  have e11 : (0 : Int) ≤ hV H0 285 64 ∧ hV H0 285 64 ≤ 20 := bTo e4 (f18.1.2.2 285 64 _ _ kW_285_64)
  have e12 : (0 : Int) ≤ hV H1 285 65 ∧ hV H1 285 65 ≤ 2147483647 := f18.1.2.2 285 65 _ _ kW_285_65
  have k0 := g4.1
  have k1 := g4.2.1
  have k2 := g4.2.2.1
  have y0 := g4.2.2.2.1
  have y1 := g4.2.2.2.2.1
  have y2 := g4.2.2.2.2.2.1
  have y3 := g4.2.2.2.2.2.2.1
  have y4 := g4.2.2.2.2.2.2.2.1
  have y5 := g4.2.2.2.2.2.2.2.2.1
  have y6 := g4.2.2.2.2.2.2.2.2.2.1
  have y7 := g4.2.2.2.2.2.2.2.2.2.2.1
  have y8 := g4.2.2.2.2.2.2.2.2.2.2.2.1
  have y9 := g4.2.2.2.2.2.2.2.2.2.2.2.2.1
  have y10 := g4.2.2.2.2.2.2.2.2.2.2.2.2.2.1
  have y11 := g4.2.2.2.2.2.2.2.2.2.2.2.2.2.2.1
  have y12 := g4.2.2.2.2.2.2.2.2.2.2.2.2.2.2.2.1
  have y13 := g4.2.2.2.2.2.2.2.2.2.2.2.2.2.2.2.2.1
  have y14 := g4.2.2.2.2.2.2.2.2.2.2.2.2.2.2.2.2.2.1
  have y15 := g4.2.2.2.2.2.2.2.2.2.2.2.2.2.2.2.2.2.2
  have p0 := g3.1
  have p1 := g3.2.1
  have p2 := g3.2.2.1
  have p3 := g3.2.2.2.1
  have p4 := g3.2.2.2.2
  try simp only [e5, e6, e7] at y0
  try simp only [e4, e5, e6, e7, e8, e9] at y1
  try simp only [e4, e5, e6, e7] at y2
  try simp only [e5, e6, e7] at y3
  try simp only [e4] at y5
  try simp only [e8] at y6
  try simp only [e3] at y8
  clear g3
  clear g4
  clear f21 e3 e4 e5 e6 e7 e8 e9
  clear f18
  subst e1
  have b25 := o32_and_r f25 (by omega) (by omega)
  first
  | (have ix0 : n15 = n0 + 1 := Eq.trans f28 (w32_iv (Iad (Iat f1 f0) (IC 1)) (by decide)); subst ix0; clear f28)
  | (have ix0 : n15 = n0 + 1 := Eq.trans f28 (w32_id (by omega) (by omega)); subst ix0; clear f28)
  | (unfold w32 at f28; have ix0 : n15 = n0 + 1 := (by omega); subst ix0)
  | skip
  try unfold w32 at f28
  try subst k2
  try subst k1
  try subst k0
  omega
def g_285v_64_8 : vG := ([(10, [15, 9], [], 1), (41, [13, 14], [], 0), (0, [14], [], 1), (4, [13, 11, 12], [], 0), (0, [12], [], 1), (8, [11, 8, 9], [], 0), (42, [9, 10], [], 0), (20, [10, 4], [1], 64), (90, [10], [], 0), (91, [10], [], 20), (5000, [0, 1, 2, 3, 4, 5, 6, 7, 8, 9], [0, 1], 64), (0, [0], [], 285), (90, [1], [], -2147483648), (91, [1], [], 2147483647), (90, [2], [], -2147483648), (91, [2], [], 2147483647), (90, [3], [], -2147483648), (91, [3], [], 2147483647), (0, [4], [], 285), (90, [5], [], -2147483648), (91, [5], [], 2147483647), (90, [6], [], -2147483648), (91, [6], [], 2147483647), (90, [7], [], -2147483648), (91, [7], [], 2147483647), (90, [8], [], -2147483648), (91, [8], [], 2147483647), (90, [9], [], 0), (91, [9], [], 20)], (90, [15], [], 0))
theorem c_285v_64_8 {q0 : Nat} : vOkm T0 (eP e_285v L_285v A_285v mu_285v (some q0)) 4 g_285v_64_8 := vOk_inI fun ρ η f0 f1 f2 f3 f4 f5 f6 f7 f8 f9 f10 f11 f12 f13 f14 f15 f16 f17 f18 f19 f20 f21 f22 f23 f24 f25 f26 f27 f28 => q_285v_18 (q0 := q0) (n0 := ρ 9) (n1 := ρ 8) (n2 := ρ 7) (n3 := ρ 6) (n4 := ρ 5) (n5 := ρ 4) (n6 := ρ 3) (n7 := ρ 2) (n8 := ρ 1) (n9 := ρ 0) (n10 := ρ 10) (n11 := ρ 11) (n12 := ρ 12) (n13 := ρ 13) (n14 := ρ 14) (n15 := ρ 15) (H0 := η 0) (H1 := η 1) f28 f27 f26 f25 f24 f23 f22 f21 f20 f19 f18 f17 f16 f15 f14 f13 f12 f11 f10 f9 f8 f7 f6 f5 f4 f3 f2 f1 f0
theorem q_285v_19 {q0 : Nat} {n0 n1 n2 n3 n4 n5 n6 n7 n8 n9 n10 n11 n12 n13 n14 n15 : Int} {H0 H1 : gH} (f0 : n0 ≤ 20) (f1 : 0 ≤ n0) (f2 : n1 ≤ 2147483647) (f3 : (-2147483648) ≤ n1) (f4 : n2 ≤ 2147483647) (f5 : (-2147483648) ≤ n2) (f6 : n3 ≤ 2147483647) (f7 : (-2147483648) ≤ n3) (f8 : n4 ≤ 2147483647) (f9 : (-2147483648) ≤ n4) (f10 : n5 = 285) (f11 : n6 ≤ 2147483647) (f12 : (-2147483648) ≤ n6) (f13 : n7 ≤ 2147483647) (f14 : (-2147483648) ≤ n7) (f15 : n8 ≤ 2147483647) (f16 : (-2147483648) ≤ n8) (f17 : n9 = 285) (f18 : (hLe T0 H0 H1 ∧ hFr s_285v.2.2.2.2 H0 H1 ∧ hWt T0 H1) ∧ (Ab_285v_64 n9 n8 n7 n6 n5 n4 n3 n2 n1 n0 H0 H1 ∧ preb_285v n9 n8 n7 n6 H0) ∧ some q0 = some (mub_285v_64 n9 n8 n7 n6 n5 n4 n3 n2 n1 n0 H0 H1)) (f19 : n10 ≤ 20) (f20 : 0 ≤ n10) (f21 : n10 = hV H1 (n5).toNat 64) (f22 : n0 < n10) (f23 : n11 = o32 (fun x y => x >>> (y &&& 31)) n1 n0) (f24 : n12 = 1) (f25 : n13 = o32 (fun x y => x &&& y) n11 n12) (f26 : n14 = 1) (f27 : n13 ≠ n14) (f28 : n15 = w32 (n0 + 1)) : n15 ≤ 20 := by
  have g4 := f18.2.1.1
  unfold Ab_285v_64 at g4
  have g3 := f18.2.1.2
  unfold preb_285v at g3
  have e1 : n10 = hV H0 285 64 := (by rw [f10] at f21; exact f21 : n10 = hV H1 285 64).trans ((f18.1.2.1.1 285 64 kF_285v_285_64))
  have e3 : hV H1 285 18 = hV H0 285 18 := (f18.1.2.1.1 285 18 kF_285v_285_18)
  have e4 : hV H1 285 64 = hV H0 285 64 := (f18.1.2.1.1 285 64 kF_285v_285_64)
  have e5 : hV H1 296 = hV H0 296 := fRow f18.1.2.1 296 kR_285v_296
  have e6 : hV H1 298 = hV H0 298 := fRow f18.1.2.1 298 kR_285v_298
  have e7 : hV H1 300 = hV H0 300 := fRow f18.1.2.1 300 kR_285v_300
  have e8 : hV H1 328 = hV H0 328 := fRow f18.1.2.1 328 kR_285v_328
  have e9 : hV H1 332 = hV H0 332 := fRow f18.1.2.1 332 kR_285v_332
  have e10 : (0 : Int) ≤ hV H0 285 18 ∧ hV H0 285 18 ≤ 8 := bTo e3 (f18.1.2.2 285 18 _ _ kW_285_18)
  have e11 : (0 : Int) ≤ hV H0 285 64 ∧ hV H0 285 64 ≤ 20 := bTo e4 (f18.1.2.2 285 64 _ _ kW_285_64)
  have e12 : (0 : Int) ≤ hV H1 285 65 ∧ hV H1 285 65 ≤ 2147483647 := f18.1.2.2 285 65 _ _ kW_285_65
  have k0 := g4.1
  have k1 := g4.2.1
  have k2 := g4.2.2.1
  have y0 := g4.2.2.2.1
  have y1 := g4.2.2.2.2.1
  have y2 := g4.2.2.2.2.2.1
  have y3 := g4.2.2.2.2.2.2.1
  have y4 := g4.2.2.2.2.2.2.2.1
  have y5 := g4.2.2.2.2.2.2.2.2.1
  have y6 := g4.2.2.2.2.2.2.2.2.2.1
  have y7 := g4.2.2.2.2.2.2.2.2.2.2.1
  have y8 := g4.2.2.2.2.2.2.2.2.2.2.2.1
  have y9 := g4.2.2.2.2.2.2.2.2.2.2.2.2.1
  have y10 := g4.2.2.2.2.2.2.2.2.2.2.2.2.2.1
  have y11 := g4.2.2.2.2.2.2.2.2.2.2.2.2.2.2.1
  have y12 := g4.2.2.2.2.2.2.2.2.2.2.2.2.2.2.2.1
  have y13 := g4.2.2.2.2.2.2.2.2.2.2.2.2.2.2.2.2.1
  have y14 := g4.2.2.2.2.2.2.2.2.2.2.2.2.2.2.2.2.2.1
  have y15 := g4.2.2.2.2.2.2.2.2.2.2.2.2.2.2.2.2.2.2
  have p0 := g3.1
  have p1 := g3.2.1
  have p2 := g3.2.2.1
  have p3 := g3.2.2.2.1
  have p4 := g3.2.2.2.2
  try simp only [e5, e6, e7] at y0
  try simp only [e4, e5, e6, e7, e8, e9] at y1
  try simp only [e4, e5, e6, e7] at y2
  try simp only [e5, e6, e7] at y3
  try simp only [e4] at y5
  try simp only [e8] at y6
  try simp only [e3] at y8
  clear g3
  clear g4
  clear f21 e3 e4 e5 e6 e7 e8 e9
  clear f18
  subst e1
  have b25 := o32_and_r f25 (by omega) (by omega)
  first
  | (have ix0 : n15 = n0 + 1 := Eq.trans f28 (w32_iv (Iad (Iat f1 f0) (IC 1)) (by decide)); subst ix0; clear f28)
  | (have ix0 : n15 = n0 + 1 := Eq.trans f28 (w32_id (by omega) (by omega)); subst ix0; clear f28)
  | (unfold w32 at f28; have ix0 : n15 = n0 + 1 := (by omega); subst ix0)
  | skip
  try unfold w32 at f28
  try subst k2
  try subst k1
  try subst k0
  omega
def g_285v_64_9 : vG := ([(10, [15, 9], [], 1), (41, [13, 14], [], 0), (0, [14], [], 1), (4, [13, 11, 12], [], 0), (0, [12], [], 1), (8, [11, 8, 9], [], 0), (42, [9, 10], [], 0), (20, [10, 4], [1], 64), (90, [10], [], 0), (91, [10], [], 20), (5000, [0, 1, 2, 3, 4, 5, 6, 7, 8, 9], [0, 1], 64), (0, [0], [], 285), (90, [1], [], -2147483648), (91, [1], [], 2147483647), (90, [2], [], -2147483648), (91, [2], [], 2147483647), (90, [3], [], -2147483648), (91, [3], [], 2147483647), (0, [4], [], 285), (90, [5], [], -2147483648), (91, [5], [], 2147483647), (90, [6], [], -2147483648), (91, [6], [], 2147483647), (90, [7], [], -2147483648), (91, [7], [], 2147483647), (90, [8], [], -2147483648), (91, [8], [], 2147483647), (90, [9], [], 0), (91, [9], [], 20)], (91, [15], [], 20))
theorem c_285v_64_9 {q0 : Nat} : vOkm T0 (eP e_285v L_285v A_285v mu_285v (some q0)) 4 g_285v_64_9 := vOk_inI fun ρ η f0 f1 f2 f3 f4 f5 f6 f7 f8 f9 f10 f11 f12 f13 f14 f15 f16 f17 f18 f19 f20 f21 f22 f23 f24 f25 f26 f27 f28 => q_285v_19 (q0 := q0) (n0 := ρ 9) (n1 := ρ 8) (n2 := ρ 7) (n3 := ρ 6) (n4 := ρ 5) (n5 := ρ 4) (n6 := ρ 3) (n7 := ρ 2) (n8 := ρ 1) (n9 := ρ 0) (n10 := ρ 10) (n11 := ρ 11) (n12 := ρ 12) (n13 := ρ 13) (n14 := ρ 14) (n15 := ρ 15) (H0 := η 0) (H1 := η 1) f28 f27 f26 f25 f24 f23 f22 f21 f20 f19 f18 f17 f16 f15 f14 f13 f12 f11 f10 f9 f8 f7 f6 f5 f4 f3 f2 f1 f0
theorem q_285v_20 {q0 : Nat} {n0 n1 n2 n3 n4 n5 n6 n7 n8 n9 n10 n11 n12 n13 n14 n15 : Int} {H0 H1 : gH} (f0 : n0 ≤ 20) (f1 : 0 ≤ n0) (f2 : n1 ≤ 2147483647) (f3 : (-2147483648) ≤ n1) (f4 : n2 ≤ 2147483647) (f5 : (-2147483648) ≤ n2) (f6 : n3 ≤ 2147483647) (f7 : (-2147483648) ≤ n3) (f8 : n4 ≤ 2147483647) (f9 : (-2147483648) ≤ n4) (f10 : n5 = 285) (f11 : n6 ≤ 2147483647) (f12 : (-2147483648) ≤ n6) (f13 : n7 ≤ 2147483647) (f14 : (-2147483648) ≤ n7) (f15 : n8 ≤ 2147483647) (f16 : (-2147483648) ≤ n8) (f17 : n9 = 285) (f18 : (hLe T0 H0 H1 ∧ hFr s_285v.2.2.2.2 H0 H1 ∧ hWt T0 H1) ∧ (Ab_285v_64 n9 n8 n7 n6 n5 n4 n3 n2 n1 n0 H0 H1 ∧ preb_285v n9 n8 n7 n6 H0) ∧ some q0 = some (mub_285v_64 n9 n8 n7 n6 n5 n4 n3 n2 n1 n0 H0 H1)) (f19 : n10 ≤ 20) (f20 : 0 ≤ n10) (f21 : n10 = hV H1 (n5).toNat 64) (f22 : n0 < n10) (f23 : n11 = o32 (fun x y => x >>> (y &&& 31)) n1 n0) (f24 : n12 = 1) (f25 : n13 = o32 (fun x y => x &&& y) n11 n12) (f26 : n14 = 1) (f27 : n13 ≠ n14) (f28 : n15 = w32 (n0 + 1)) : Ab_285v_64 n9 n8 n7 n6 n5 n4 n3 n2 n1 n15 H0 H1 ∧ ∀ q, some q0 = some q → mub_285v_64 n9 n8 n7 n6 n5 n4 n3 n2 n1 n15 H0 H1 < q := by
  have g4 := f18.2.1.1
  unfold Ab_285v_64 at g4
  have g3 := f18.2.1.2
  unfold preb_285v at g3
  have g5 := Option.some.inj f18.2.2
  unfold mub_285v_64 at g5
  unfold Ab_285v_64
  unfold mub_285v_64
  have e1 : n10 = hV H0 285 64 := (by rw [f10] at f21; exact f21 : n10 = hV H1 285 64).trans ((f18.1.2.1.1 285 64 kF_285v_285_64))
  have e3 : hV H1 285 18 = hV H0 285 18 := (f18.1.2.1.1 285 18 kF_285v_285_18)
  have e4 : hV H1 285 64 = hV H0 285 64 := (f18.1.2.1.1 285 64 kF_285v_285_64)
  have e5 : hV H1 296 = hV H0 296 := fRow f18.1.2.1 296 kR_285v_296
  have e6 : hV H1 298 = hV H0 298 := fRow f18.1.2.1 298 kR_285v_298
  have e7 : hV H1 300 = hV H0 300 := fRow f18.1.2.1 300 kR_285v_300
  have e8 : hV H1 328 = hV H0 328 := fRow f18.1.2.1 328 kR_285v_328
  have e9 : hV H1 332 = hV H0 332 := fRow f18.1.2.1 332 kR_285v_332
  have e10 : (0 : Int) ≤ hV H0 285 18 ∧ hV H0 285 18 ≤ 8 := bTo e3 (f18.1.2.2 285 18 _ _ kW_285_18)
  have e11 : (0 : Int) ≤ hV H0 285 64 ∧ hV H0 285 64 ≤ 20 := bTo e4 (f18.1.2.2 285 64 _ _ kW_285_64)
  have e12 : (0 : Int) ≤ hV H1 285 65 ∧ hV H1 285 65 ≤ 2147483647 := f18.1.2.2 285 65 _ _ kW_285_65
  try simp only [e3, e4, e5, e6, e7, e8, e9]
  have k0 := g4.1
  have k1 := g4.2.1
  have k2 := g4.2.2.1
  have y0 := g4.2.2.2.1
  have y1 := g4.2.2.2.2.1
  have y2 := g4.2.2.2.2.2.1
  have y3 := g4.2.2.2.2.2.2.1
  have y4 := g4.2.2.2.2.2.2.2.1
  have y5 := g4.2.2.2.2.2.2.2.2.1
  have y6 := g4.2.2.2.2.2.2.2.2.2.1
  have y7 := g4.2.2.2.2.2.2.2.2.2.2.1
  have y8 := g4.2.2.2.2.2.2.2.2.2.2.2.1
  have y9 := g4.2.2.2.2.2.2.2.2.2.2.2.2.1
  have y10 := g4.2.2.2.2.2.2.2.2.2.2.2.2.2.1
  have y11 := g4.2.2.2.2.2.2.2.2.2.2.2.2.2.2.1
  have y12 := g4.2.2.2.2.2.2.2.2.2.2.2.2.2.2.2.1
  have y13 := g4.2.2.2.2.2.2.2.2.2.2.2.2.2.2.2.2.1
  have y14 := g4.2.2.2.2.2.2.2.2.2.2.2.2.2.2.2.2.2.1
  have y15 := g4.2.2.2.2.2.2.2.2.2.2.2.2.2.2.2.2.2.2
  have p0 := g3.1
  have p1 := g3.2.1
  have p2 := g3.2.2.1
  have p3 := g3.2.2.2.1
  have p4 := g3.2.2.2.2
  try simp only [e5, e6, e7] at y0
  try simp only [e4, e5, e6, e7, e8, e9] at y1
  try simp only [e4, e5, e6, e7] at y2
  try simp only [e5, e6, e7] at y3
  try simp only [e4] at y5
  try simp only [e8] at y6
  try simp only [e3] at y8
  clear g3
  clear g4
  clear f21 e3 e4 e5 e6 e7 e8 e9
  clear f18
  subst e1
  have b25 := o32_and_r f25 (by omega) (by omega)
  first
  | (have ix0 : n15 = n0 + 1 := Eq.trans f28 (w32_iv (Iad (Iat f1 f0) (IC 1)) (by decide)); subst ix0; clear f28)
  | (have ix0 : n15 = n0 + 1 := Eq.trans f28 (w32_id (by omega) (by omega)); subst ix0; clear f28)
  | (unfold w32 at f28; have ix0 : n15 = n0 + 1 := (by omega); subst ix0)
  | skip
  try unfold w32 at f28

  try subst k2
  try subst k1
  try subst k0
  have tb := bt_test f23 f25 (by omega) (by omega) (by omega)
  refine ⟨?_, fun q hq => ?_⟩
  · exact ⟨by first | omega | trivial, by first | omega | trivial, by first | omega | trivial, y0, MA_step y1 (by omega) (by omega) (fun z => by have := tb.1.mpr ((y0 _ (by omega)).mpr z); omega), y2, y3, by omega, by omega, by omega, by omega, by omega, by omega, by omega, y11, y12, y13, by omega, y15⟩
  · have g6 := Option.some.inj hq
    subst g6
    omega
def g_285v_64_10 : vG := ([(10, [15, 9], [], 1), (41, [13, 14], [], 0), (0, [14], [], 1), (4, [13, 11, 12], [], 0), (0, [12], [], 1), (8, [11, 8, 9], [], 0), (42, [9, 10], [], 0), (20, [10, 4], [1], 64), (90, [10], [], 0), (91, [10], [], 20), (5000, [0, 1, 2, 3, 4, 5, 6, 7, 8, 9], [0, 1], 64), (0, [0], [], 285), (90, [1], [], -2147483648), (91, [1], [], 2147483647), (90, [2], [], -2147483648), (91, [2], [], 2147483647), (90, [3], [], -2147483648), (91, [3], [], 2147483647), (0, [4], [], 285), (90, [5], [], -2147483648), (91, [5], [], 2147483647), (90, [6], [], -2147483648), (91, [6], [], 2147483647), (90, [7], [], -2147483648), (91, [7], [], 2147483647), (90, [8], [], -2147483648), (91, [8], [], 2147483647), (90, [9], [], 0), (91, [9], [], 20)], (4000, [4, 5, 6, 7, 8, 15], [1], 64))
theorem c_285v_64_10 {q0 : Nat} : vOkm T0 (eP e_285v L_285v A_285v mu_285v (some q0)) 4 g_285v_64_10 := vOk_inI fun ρ η f0 f1 f2 f3 f4 f5 f6 f7 f8 f9 f10 f11 f12 f13 f14 f15 f16 f17 f18 f19 f20 f21 f22 f23 f24 f25 f26 f27 f28 => q_285v_20 (q0 := q0) (n0 := ρ 9) (n1 := ρ 8) (n2 := ρ 7) (n3 := ρ 6) (n4 := ρ 5) (n5 := ρ 4) (n6 := ρ 3) (n7 := ρ 2) (n8 := ρ 1) (n9 := ρ 0) (n10 := ρ 10) (n11 := ρ 11) (n12 := ρ 12) (n13 := ρ 13) (n14 := ρ 14) (n15 := ρ 15) (H0 := η 0) (H1 := η 1) f28 f27 f26 f25 f24 f23 f22 f21 f20 f19 f18 f17 f16 f15 f14 f13 f12 f11 f10 f9 f8 f7 f6 f5 f4 f3 f2 f1 f0
theorem q_285v_21 {q0 : Nat} {n0 n1 n2 n3 n4 n5 n6 n7 n8 n9 n10 n11 n12 n13 n14 : Int} {H0 H1 : gH} (f0 : n0 ≤ 20) (f1 : 0 ≤ n0) (f2 : n1 ≤ 2147483647) (f3 : (-2147483648) ≤ n1) (f4 : n2 ≤ 2147483647) (f5 : (-2147483648) ≤ n2) (f6 : n3 ≤ 2147483647) (f7 : (-2147483648) ≤ n3) (f8 : n4 ≤ 2147483647) (f9 : (-2147483648) ≤ n4) (f10 : n5 = 285) (f11 : n6 ≤ 2147483647) (f12 : (-2147483648) ≤ n6) (f13 : n7 ≤ 2147483647) (f14 : (-2147483648) ≤ n7) (f15 : n8 ≤ 2147483647) (f16 : (-2147483648) ≤ n8) (f17 : n9 = 285) (f18 : (hLe T0 H0 H1 ∧ hFr s_285v.2.2.2.2 H0 H1 ∧ hWt T0 H1) ∧ (Ab_285v_64 n9 n8 n7 n6 n5 n4 n3 n2 n1 n0 H0 H1 ∧ preb_285v n9 n8 n7 n6 H0) ∧ some q0 = some (mub_285v_64 n9 n8 n7 n6 n5 n4 n3 n2 n1 n0 H0 H1)) (f19 : n10 ≤ 20) (f20 : 0 ≤ n10) (f21 : n10 = hV H1 (n5).toNat 64) (f22 : n0 < n10) (f23 : n11 = o32 (fun x y => x >>> (y &&& 31)) n1 n0) (f24 : n12 = 1) (f25 : n13 = o32 (fun x y => x &&& y) n11 n12) (f26 : n14 = 1) (f27 : n13 = n14) : n0 ≤ 19 := by
  have g4 := f18.2.1.1
  unfold Ab_285v_64 at g4
  have g3 := f18.2.1.2
  unfold preb_285v at g3
  have e1 : n10 = hV H0 285 64 := (by rw [f10] at f21; exact f21 : n10 = hV H1 285 64).trans ((f18.1.2.1.1 285 64 kF_285v_285_64))
  have e3 : hV H1 285 18 = hV H0 285 18 := (f18.1.2.1.1 285 18 kF_285v_285_18)
  have e4 : hV H1 285 64 = hV H0 285 64 := (f18.1.2.1.1 285 64 kF_285v_285_64)
  have e5 : hV H1 296 = hV H0 296 := fRow f18.1.2.1 296 kR_285v_296
  have e6 : hV H1 298 = hV H0 298 := fRow f18.1.2.1 298 kR_285v_298
  have e7 : hV H1 300 = hV H0 300 := fRow f18.1.2.1 300 kR_285v_300
  have e8 : hV H1 328 = hV H0 328 := fRow f18.1.2.1 328 kR_285v_328
  have e9 : hV H1 332 = hV H0 332 := fRow f18.1.2.1 332 kR_285v_332
  have e10 : (0 : Int) ≤ hV H0 285 18 ∧ hV H0 285 18 ≤ 8 := bTo e3 (f18.1.2.2 285 18 _ _ kW_285_18)
  have e11 : (0 : Int) ≤ hV H0 285 64 ∧ hV H0 285 64 ≤ 20 := bTo e4 (f18.1.2.2 285 64 _ _ kW_285_64)
  have e12 : (0 : Int) ≤ hV H1 285 65 ∧ hV H1 285 65 ≤ 2147483647 := f18.1.2.2 285 65 _ _ kW_285_65
  have k0 := g4.1
  have k1 := g4.2.1
  have k2 := g4.2.2.1
  have y0 := g4.2.2.2.1
  have y1 := g4.2.2.2.2.1
  have y2 := g4.2.2.2.2.2.1
  have y3 := g4.2.2.2.2.2.2.1
  have y4 := g4.2.2.2.2.2.2.2.1
  have y5 := g4.2.2.2.2.2.2.2.2.1
  have y6 := g4.2.2.2.2.2.2.2.2.2.1
  have y7 := g4.2.2.2.2.2.2.2.2.2.2.1
  have y8 := g4.2.2.2.2.2.2.2.2.2.2.2.1
  have y9 := g4.2.2.2.2.2.2.2.2.2.2.2.2.1
  have y10 := g4.2.2.2.2.2.2.2.2.2.2.2.2.2.1
  have y11 := g4.2.2.2.2.2.2.2.2.2.2.2.2.2.2.1
  have y12 := g4.2.2.2.2.2.2.2.2.2.2.2.2.2.2.2.1
  have y13 := g4.2.2.2.2.2.2.2.2.2.2.2.2.2.2.2.2.1
  have y14 := g4.2.2.2.2.2.2.2.2.2.2.2.2.2.2.2.2.2.1
  have y15 := g4.2.2.2.2.2.2.2.2.2.2.2.2.2.2.2.2.2.2
  have p0 := g3.1
  have p1 := g3.2.1
  have p2 := g3.2.2.1
  have p3 := g3.2.2.2.1
  have p4 := g3.2.2.2.2
  try simp only [e5, e6, e7] at y0
  try simp only [e4, e5, e6, e7, e8, e9] at y1
  try simp only [e4, e5, e6, e7] at y2
  try simp only [e5, e6, e7] at y3
  try simp only [e4] at y5
  try simp only [e8] at y6
  try simp only [e3] at y8
  clear g3
  clear g4
  clear f21 e3 e4 e5 e6 e7 e8 e9
  clear f18
  subst e1
  have b25 := o32_and_r f25 (by omega) (by omega)
  try subst k2
  try subst k1
  try subst k0
  omega
def g_285v_64_11 : vG := ([(40, [13, 14], [], 0), (0, [14], [], 1), (4, [13, 11, 12], [], 0), (0, [12], [], 1), (8, [11, 8, 9], [], 0), (42, [9, 10], [], 0), (20, [10, 4], [1], 64), (90, [10], [], 0), (91, [10], [], 20), (5000, [0, 1, 2, 3, 4, 5, 6, 7, 8, 9], [0, 1], 64), (0, [0], [], 285), (90, [1], [], -2147483648), (91, [1], [], 2147483647), (90, [2], [], -2147483648), (91, [2], [], 2147483647), (90, [3], [], -2147483648), (91, [3], [], 2147483647), (0, [4], [], 285), (90, [5], [], -2147483648), (91, [5], [], 2147483647), (90, [6], [], -2147483648), (91, [6], [], 2147483647), (90, [7], [], -2147483648), (91, [7], [], 2147483647), (90, [8], [], -2147483648), (91, [8], [], 2147483647), (90, [9], [], 0), (91, [9], [], 20)], (91, [9], [], 19))
theorem c_285v_64_11 {q0 : Nat} : vOkm T0 (eP e_285v L_285v A_285v mu_285v (some q0)) 4 g_285v_64_11 := vOk_inI fun ρ η f0 f1 f2 f3 f4 f5 f6 f7 f8 f9 f10 f11 f12 f13 f14 f15 f16 f17 f18 f19 f20 f21 f22 f23 f24 f25 f26 f27 => q_285v_21 (q0 := q0) (n0 := ρ 9) (n1 := ρ 8) (n2 := ρ 7) (n3 := ρ 6) (n4 := ρ 5) (n5 := ρ 4) (n6 := ρ 3) (n7 := ρ 2) (n8 := ρ 1) (n9 := ρ 0) (n10 := ρ 10) (n11 := ρ 11) (n12 := ρ 12) (n13 := ρ 13) (n14 := ρ 14) (H0 := η 0) (H1 := η 1) f27 f26 f25 f24 f23 f22 f21 f20 f19 f18 f17 f16 f15 f14 f13 f12 f11 f10 f9 f8 f7 f6 f5 f4 f3 f2 f1 f0
theorem q_285v_22 {q0 : Nat} {n0 n1 n2 n3 n4 n5 n6 n7 n8 n9 n10 n11 n12 n13 n14 : Int} {H0 H1 : gH} (f0 : n0 ≤ 20) (f1 : 0 ≤ n0) (f2 : n1 ≤ 2147483647) (f3 : (-2147483648) ≤ n1) (f4 : n2 ≤ 2147483647) (f5 : (-2147483648) ≤ n2) (f6 : n3 ≤ 2147483647) (f7 : (-2147483648) ≤ n3) (f8 : n4 ≤ 2147483647) (f9 : (-2147483648) ≤ n4) (f10 : n5 = 285) (f11 : n6 ≤ 2147483647) (f12 : (-2147483648) ≤ n6) (f13 : n7 ≤ 2147483647) (f14 : (-2147483648) ≤ n7) (f15 : n8 ≤ 2147483647) (f16 : (-2147483648) ≤ n8) (f17 : n9 = 285) (f18 : (hLe T0 H0 H1 ∧ hFr s_285v.2.2.2.2 H0 H1 ∧ hWt T0 H1) ∧ (Ab_285v_64 n9 n8 n7 n6 n5 n4 n3 n2 n1 n0 H0 H1 ∧ preb_285v n9 n8 n7 n6 H0) ∧ some q0 = some (mub_285v_64 n9 n8 n7 n6 n5 n4 n3 n2 n1 n0 H0 H1)) (f19 : n10 ≤ 20) (f20 : 0 ≤ n10) (f21 : n10 = hV H1 (n5).toNat 64) (f22 : n0 < n10) (f23 : n11 = o32 (fun x y => x >>> (y &&& 31)) n1 n0) (f24 : n12 = 1) (f25 : n13 = o32 (fun x y => x &&& y) n11 n12) (f26 : n14 = 1) (f27 : n13 = n14) : preb_280 n5 n0 H1 := by
  have g4 := f18.2.1.1
  unfold Ab_285v_64 at g4
  have g3 := f18.2.1.2
  unfold preb_285v at g3
  unfold preb_280
  have e1 : n10 = hV H0 285 64 := (by rw [f10] at f21; exact f21 : n10 = hV H1 285 64).trans ((f18.1.2.1.1 285 64 kF_285v_285_64))
  have e3 : hV H1 285 18 = hV H0 285 18 := (f18.1.2.1.1 285 18 kF_285v_285_18)
  have e4 : hV H1 285 64 = hV H0 285 64 := (f18.1.2.1.1 285 64 kF_285v_285_64)
  have e5 : hV H1 296 = hV H0 296 := fRow f18.1.2.1 296 kR_285v_296
  have e6 : hV H1 298 = hV H0 298 := fRow f18.1.2.1 298 kR_285v_298
  have e7 : hV H1 300 = hV H0 300 := fRow f18.1.2.1 300 kR_285v_300
  have e8 : hV H1 328 = hV H0 328 := fRow f18.1.2.1 328 kR_285v_328
  have e9 : hV H1 332 = hV H0 332 := fRow f18.1.2.1 332 kR_285v_332
  have e10 : PG H1 = PG H0 := PG_fr f18.1.2.1 (by decide +kernel)
  have e11 : (0 : Int) ≤ hV H0 285 18 ∧ hV H0 285 18 ≤ 8 := bTo e3 (f18.1.2.2 285 18 _ _ kW_285_18)
  have e12 : (0 : Int) ≤ hV H0 285 64 ∧ hV H0 285 64 ≤ 20 := bTo e4 (f18.1.2.2 285 64 _ _ kW_285_64)
  have e13 : (0 : Int) ≤ hV H1 285 65 ∧ hV H1 285 65 ≤ 2147483647 := f18.1.2.2 285 65 _ _ kW_285_65
  try simp only [e4, e10]
  have k0 := g4.1
  have k1 := g4.2.1
  have k2 := g4.2.2.1
  have y0 := g4.2.2.2.1
  have y1 := g4.2.2.2.2.1
  have y2 := g4.2.2.2.2.2.1
  have y3 := g4.2.2.2.2.2.2.1
  have y4 := g4.2.2.2.2.2.2.2.1
  have y5 := g4.2.2.2.2.2.2.2.2.1
  have y6 := g4.2.2.2.2.2.2.2.2.2.1
  have y7 := g4.2.2.2.2.2.2.2.2.2.2.1
  have y8 := g4.2.2.2.2.2.2.2.2.2.2.2.1
  have y9 := g4.2.2.2.2.2.2.2.2.2.2.2.2.1
  have y10 := g4.2.2.2.2.2.2.2.2.2.2.2.2.2.1
  have y11 := g4.2.2.2.2.2.2.2.2.2.2.2.2.2.2.1
  have y12 := g4.2.2.2.2.2.2.2.2.2.2.2.2.2.2.2.1
  have y13 := g4.2.2.2.2.2.2.2.2.2.2.2.2.2.2.2.2.1
  have y14 := g4.2.2.2.2.2.2.2.2.2.2.2.2.2.2.2.2.2.1
  have y15 := g4.2.2.2.2.2.2.2.2.2.2.2.2.2.2.2.2.2.2
  have p0 := g3.1
  have p1 := g3.2.1
  have p2 := g3.2.2.1
  have p3 := g3.2.2.2.1
  have p4 := g3.2.2.2.2
  try simp only [e5, e6, e7] at y0
  try simp only [e4, e5, e6, e7, e8, e9] at y1
  try simp only [e4, e5, e6, e7] at y2
  try simp only [e5, e6, e7] at y3
  try simp only [e4] at y5
  try simp only [e8] at y6
  try simp only [e3] at y8
  clear g3
  clear g4
  clear f21 e3 e4 e5 e6 e7 e8 e9 e10
  clear f18
  subst e1
  have b25 := o32_and_r f25 (by omega) (by omega)
  try subst k2
  try subst k1
  try subst k0
  refine ⟨?_, ?_, ?_⟩ <;> first | assumption | omega | trivial
def g_285v_64_12 : vG := ([(40, [13, 14], [], 0), (0, [14], [], 1), (4, [13, 11, 12], [], 0), (0, [12], [], 1), (8, [11, 8, 9], [], 0), (42, [9, 10], [], 0), (20, [10, 4], [1], 64), (90, [10], [], 0), (91, [10], [], 20), (5000, [0, 1, 2, 3, 4, 5, 6, 7, 8, 9], [0, 1], 64), (0, [0], [], 285), (90, [1], [], -2147483648), (91, [1], [], 2147483647), (90, [2], [], -2147483648), (91, [2], [], 2147483647), (90, [3], [], -2147483648), (91, [3], [], 2147483647), (0, [4], [], 285), (90, [5], [], -2147483648), (91, [5], [], 2147483647), (90, [6], [], -2147483648), (91, [6], [], 2147483647), (90, [7], [], -2147483648), (91, [7], [], 2147483647), (90, [8], [], -2147483648), (91, [8], [], 2147483647), (90, [9], [], 0), (91, [9], [], 20)], (2280, [4, 9], [1], 0))
theorem c_285v_64_12 {q0 : Nat} : vOkm T0 (eP e_285v L_285v A_285v mu_285v (some q0)) 4 g_285v_64_12 := vOk_inI fun ρ η f0 f1 f2 f3 f4 f5 f6 f7 f8 f9 f10 f11 f12 f13 f14 f15 f16 f17 f18 f19 f20 f21 f22 f23 f24 f25 f26 f27 => q_285v_22 (q0 := q0) (n0 := ρ 9) (n1 := ρ 8) (n2 := ρ 7) (n3 := ρ 6) (n4 := ρ 5) (n5 := ρ 4) (n6 := ρ 3) (n7 := ρ 2) (n8 := ρ 1) (n9 := ρ 0) (n10 := ρ 10) (n11 := ρ 11) (n12 := ρ 12) (n13 := ρ 13) (n14 := ρ 14) (H0 := η 0) (H1 := η 1) f27 f26 f25 f24 f23 f22 f21 f20 f19 f18 f17 f16 f15 f14 f13 f12 f11 f10 f9 f8 f7 f6 f5 f4 f3 f2 f1 f0
theorem q_285v_23 {q0 : Nat} {n0 n1 n2 n3 n4 n5 n6 n7 n8 n9 n10 n11 n12 n13 n14 n15 n16 n17 n18 n19 n20 : Int} {H0 H1 H2 : gH} (f0 : n0 ≤ 20) (f1 : 0 ≤ n0) (f2 : n1 ≤ 2147483647) (f3 : (-2147483648) ≤ n1) (f4 : n2 ≤ 2147483647) (f5 : (-2147483648) ≤ n2) (f6 : n3 ≤ 2147483647) (f7 : (-2147483648) ≤ n3) (f8 : n4 ≤ 2147483647) (f9 : (-2147483648) ≤ n4) (f10 : n5 = 285) (f11 : n6 ≤ 2147483647) (f12 : (-2147483648) ≤ n6) (f13 : n7 ≤ 2147483647) (f14 : (-2147483648) ≤ n7) (f15 : n8 ≤ 2147483647) (f16 : (-2147483648) ≤ n8) (f17 : n9 = 285) (f18 : (hLe T0 H0 H1 ∧ hFr s_285v.2.2.2.2 H0 H1 ∧ hWt T0 H1) ∧ (Ab_285v_64 n9 n8 n7 n6 n5 n4 n3 n2 n1 n0 H0 H1 ∧ preb_285v n9 n8 n7 n6 H0) ∧ some q0 = some (mub_285v_64 n9 n8 n7 n6 n5 n4 n3 n2 n1 n0 H0 H1)) (f19 : n10 ≤ 20) (f20 : 0 ≤ n10) (f21 : n10 = hV H1 (n5).toNat 64) (f22 : n0 < n10) (f23 : n11 = o32 (fun x y => x >>> (y &&& 31)) n1 n0) (f24 : n12 = 1) (f25 : n13 = o32 (fun x y => x &&& y) n11 n12) (f26 : n14 = 1) (f27 : n13 = n14) (f28 : n15 ≤ 2147483647) (f29 : (-2147483648) ≤ n15) (f30 : (hLe T0 H1 H2 ∧ hFr s_280.2.2.2.2 H1 H2 ∧ ((0 : Int) = 0 → H2.length = H1.length) ∧ hWt T0 H2) ∧ postb_280 n15 n5 n0 H1 H2) (f31 : n16 = o32 (fun x y => x >>> (y &&& 31)) n15 n4) (f32 : n17 = 1) (f33 : n18 = o32 (fun x y => x &&& y) n16 n17) (f34 : n19 = 1) (f35 : n18 ≠ n19) (f36 : n20 = w32 (n0 + 1)) : 0 ≤ n20 := by
  have g4 := f18.2.1.1
  unfold Ab_285v_64 at g4
  have g3 := f18.2.1.2
  unfold preb_285v at g3
  unfold postb_280 at f30
  have e1 : n10 = hV H0 285 64 := (by rw [f10] at f21; exact f21 : n10 = hV H1 285 64).trans ((f18.1.2.1.1 285 64 kF_285v_285_64))
  have e3 : hV H1 285 18 = hV H0 285 18 := (f18.1.2.1.1 285 18 kF_285v_285_18)
  have e4 : hV H1 285 64 = hV H0 285 64 := (f18.1.2.1.1 285 64 kF_285v_285_64)
  have e5 : hV H1 296 = hV H0 296 := fRow f18.1.2.1 296 kR_285v_296
  have e6 : hV H1 298 = hV H0 298 := fRow f18.1.2.1 298 kR_285v_298
  have e7 : hV H1 300 = hV H0 300 := fRow f18.1.2.1 300 kR_285v_300
  have e8 : hV H1 328 = hV H0 328 := fRow f18.1.2.1 328 kR_285v_328
  have e9 : hV H1 332 = hV H0 332 := fRow f18.1.2.1 332 kR_285v_332
  have e11 : hV H2 285 64 = hV H0 285 64 := ((f30.1.2.1.1 285 64 kF_280_285_64)).trans (f18.1.2.1.1 285 64 kF_285v_285_64)
  have e13 : hV H2 296 = hV H0 296 := (fRow f30.1.2.1 296 kR_280_296).trans e5
  have e15 : hV H2 298 = hV H0 298 := (fRow f30.1.2.1 298 kR_280_298).trans e6
  have e17 : hV H2 300 = hV H0 300 := (fRow f30.1.2.1 300 kR_280_300).trans e7
  have e19 : hV H2 328 = hV H0 328 := (fRow f30.1.2.1 328 kR_280_328).trans e8
  have e21 : hV H2 332 = hV H0 332 := (fRow f30.1.2.1 332 kR_280_332).trans e9
  have e22 : hV H2 335 = hV H1 335 := fRow f30.1.2.1 335 kR_280_335
  have e23 : (0 : Int) ≤ hV H0 285 18 ∧ hV H0 285 18 ≤ 8 := bTo e3 (f18.1.2.2 285 18 _ _ kW_285_18)
  have e24 : (0 : Int) ≤ hV H0 285 64 ∧ hV H0 285 64 ≤ 20 := bTo e4 (f18.1.2.2 285 64 _ _ kW_285_64)
  have e25 : (0 : Int) ≤ hV H1 285 65 ∧ hV H1 285 65 ≤ 2147483647 := f18.1.2.2 285 65 _ _ kW_285_65
  have k0 := g4.1
  have k1 := g4.2.1
  have k2 := g4.2.2.1
  have y0 := g4.2.2.2.1
  have y1 := g4.2.2.2.2.1
  have y2 := g4.2.2.2.2.2.1
  have y3 := g4.2.2.2.2.2.2.1
  have y4 := g4.2.2.2.2.2.2.2.1
  have y5 := g4.2.2.2.2.2.2.2.2.1
  have y6 := g4.2.2.2.2.2.2.2.2.2.1
  have y7 := g4.2.2.2.2.2.2.2.2.2.2.1
  have y8 := g4.2.2.2.2.2.2.2.2.2.2.2.1
  have y9 := g4.2.2.2.2.2.2.2.2.2.2.2.2.1
  have y10 := g4.2.2.2.2.2.2.2.2.2.2.2.2.2.1
  have y11 := g4.2.2.2.2.2.2.2.2.2.2.2.2.2.2.1
  have y12 := g4.2.2.2.2.2.2.2.2.2.2.2.2.2.2.2.1
  have y13 := g4.2.2.2.2.2.2.2.2.2.2.2.2.2.2.2.2.1
  have y14 := g4.2.2.2.2.2.2.2.2.2.2.2.2.2.2.2.2.2.1
  have y15 := g4.2.2.2.2.2.2.2.2.2.2.2.2.2.2.2.2.2.2
  have p0 := g3.1
  have p1 := g3.2.1
  have p2 := g3.2.2.1
  have p3 := g3.2.2.2.1
  have p4 := g3.2.2.2.2
  have r0_0 := f30.2
  try simp only [e5, e6, e7] at y0
  try simp only [e4, e5, e6, e7, e8, e9] at y1
  try simp only [e4, e5, e6, e7] at y2
  try simp only [e5, e6, e7] at y3
  try simp only [e4] at y5
  try simp only [e8] at y6
  try simp only [e3] at y8
  try simp only [e11, e13, e15, e17, e19, e21, e22] at r0_0
  clear g3
  clear g4
  clear f21 e3 e4 e5 e6 e7 e8 e9 e11 e13 e15 e17 e19 e21 e22
  clear f18 f30
  subst e1
  have b25 := o32_and_r f25 (by omega) (by omega)
  have b33 := o32_and_r f33 (by omega) (by omega)
  first
  | (have ix0 : n20 = n0 + 1 := Eq.trans f36 (w32_iv (Iad (Iat f1 f0) (IC 1)) (by decide)); subst ix0; clear f36)
  | (have ix0 : n20 = n0 + 1 := Eq.trans f36 (w32_id (by omega) (by omega)); subst ix0; clear f36)
  | (unfold w32 at f36; have ix0 : n20 = n0 + 1 := (by omega); subst ix0)
  | skip
  try unfold w32 at f36
  try subst k2
  try subst k1
  try subst k0
  omega
def g_285v_64_13 : vG := ([(10, [20, 9], [], 1), (41, [18, 19], [], 0), (0, [19], [], 1), (4, [18, 16, 17], [], 0), (0, [17], [], 1), (8, [16, 15, 5], [], 0), (1280, [15, 4, 9], [1, 2], 0), (90, [15], [], -2147483648), (91, [15], [], 2147483647), (40, [13, 14], [], 0), (0, [14], [], 1), (4, [13, 11, 12], [], 0), (0, [12], [], 1), (8, [11, 8, 9], [], 0), (42, [9, 10], [], 0), (20, [10, 4], [1], 64), (90, [10], [], 0), (91, [10], [], 20), (5000, [0, 1, 2, 3, 4, 5, 6, 7, 8, 9], [0, 1], 64), (0, [0], [], 285), (90, [1], [], -2147483648), (91, [1], [], 2147483647), (90, [2], [], -2147483648), (91, [2], [], 2147483647), (90, [3], [], -2147483648), (91, [3], [], 2147483647), (0, [4], [], 285), (90, [5], [], -2147483648), (91, [5], [], 2147483647), (90, [6], [], -2147483648), (91, [6], [], 2147483647), (90, [7], [], -2147483648), (91, [7], [], 2147483647), (90, [8], [], -2147483648), (91, [8], [], 2147483647), (90, [9], [], 0), (91, [9], [], 20)], (90, [20], [], 0))
theorem c_285v_64_13 {q0 : Nat} : vOkm T0 (eP e_285v L_285v A_285v mu_285v (some q0)) 4 g_285v_64_13 := vOk_inI fun ρ η f0 f1 f2 f3 f4 f5 f6 f7 f8 f9 f10 f11 f12 f13 f14 f15 f16 f17 f18 f19 f20 f21 f22 f23 f24 f25 f26 f27 f28 f29 f30 f31 f32 f33 f34 f35 f36 => q_285v_23 (q0 := q0) (n0 := ρ 9) (n1 := ρ 8) (n2 := ρ 7) (n3 := ρ 6) (n4 := ρ 5) (n5 := ρ 4) (n6 := ρ 3) (n7 := ρ 2) (n8 := ρ 1) (n9 := ρ 0) (n10 := ρ 10) (n11 := ρ 11) (n12 := ρ 12) (n13 := ρ 13) (n14 := ρ 14) (n15 := ρ 15) (n16 := ρ 16) (n17 := ρ 17) (n18 := ρ 18) (n19 := ρ 19) (n20 := ρ 20) (H0 := η 0) (H1 := η 1) (H2 := η 2) f36 f35 f34 f33 f32 f31 f30 f29 f28 f27 f26 f25 f24 f23 f22 f21 f20 f19 f18 f17 f16 f15 f14 f13 f12 f11 f10 f9 f8 f7 f6 f5 f4 f3 f2 f1 f0
theorem q_285v_24 {q0 : Nat} {n0 n1 n2 n3 n4 n5 n6 n7 n8 n9 n10 n11 n12 n13 n14 n15 n16 n17 n18 n19 n20 : Int} {H0 H1 H2 : gH} (f0 : n0 ≤ 20) (f1 : 0 ≤ n0) (f2 : n1 ≤ 2147483647) (f3 : (-2147483648) ≤ n1) (f4 : n2 ≤ 2147483647) (f5 : (-2147483648) ≤ n2) (f6 : n3 ≤ 2147483647) (f7 : (-2147483648) ≤ n3) (f8 : n4 ≤ 2147483647) (f9 : (-2147483648) ≤ n4) (f10 : n5 = 285) (f11 : n6 ≤ 2147483647) (f12 : (-2147483648) ≤ n6) (f13 : n7 ≤ 2147483647) (f14 : (-2147483648) ≤ n7) (f15 : n8 ≤ 2147483647) (f16 : (-2147483648) ≤ n8) (f17 : n9 = 285) (f18 : (hLe T0 H0 H1 ∧ hFr s_285v.2.2.2.2 H0 H1 ∧ hWt T0 H1) ∧ (Ab_285v_64 n9 n8 n7 n6 n5 n4 n3 n2 n1 n0 H0 H1 ∧ preb_285v n9 n8 n7 n6 H0) ∧ some q0 = some (mub_285v_64 n9 n8 n7 n6 n5 n4 n3 n2 n1 n0 H0 H1)) (f19 : n10 ≤ 20) (f20 : 0 ≤ n10) (f21 : n10 = hV H1 (n5).toNat 64) (f22 : n0 < n10) (f23 : n11 = o32 (fun x y => x >>> (y &&& 31)) n1 n0) (f24 : n12 = 1) (f25 : n13 = o32 (fun x y => x &&& y) n11 n12) (f26 : n14 = 1) (f27 : n13 = n14) (f28 : n15 ≤ 2147483647) (f29 : (-2147483648) ≤ n15) (f30 : (hLe T0 H1 H2 ∧ hFr s_280.2.2.2.2 H1 H2 ∧ ((0 : Int) = 0 → H2.length = H1.length) ∧ hWt T0 H2) ∧ postb_280 n15 n5 n0 H1 H2) (f31 : n16 = o32 (fun x y => x >>> (y &&& 31)) n15 n4) (f32 : n17 = 1) (f33 : n18 = o32 (fun x y => x &&& y) n16 n17) (f34 : n19 = 1) (f35 : n18 ≠ n19) (f36 : n20 = w32 (n0 + 1)) : n20 ≤ 20 := by
  have g4 := f18.2.1.1
  unfold Ab_285v_64 at g4
  have g3 := f18.2.1.2
  unfold preb_285v at g3
  unfold postb_280 at f30
  have e1 : n10 = hV H0 285 64 := (by rw [f10] at f21; exact f21 : n10 = hV H1 285 64).trans ((f18.1.2.1.1 285 64 kF_285v_285_64))
  have e3 : hV H1 285 18 = hV H0 285 18 := (f18.1.2.1.1 285 18 kF_285v_285_18)
  have e4 : hV H1 285 64 = hV H0 285 64 := (f18.1.2.1.1 285 64 kF_285v_285_64)
  have e5 : hV H1 296 = hV H0 296 := fRow f18.1.2.1 296 kR_285v_296
  have e6 : hV H1 298 = hV H0 298 := fRow f18.1.2.1 298 kR_285v_298
  have e7 : hV H1 300 = hV H0 300 := fRow f18.1.2.1 300 kR_285v_300
  have e8 : hV H1 328 = hV H0 328 := fRow f18.1.2.1 328 kR_285v_328
  have e9 : hV H1 332 = hV H0 332 := fRow f18.1.2.1 332 kR_285v_332
  have e11 : hV H2 285 64 = hV H0 285 64 := ((f30.1.2.1.1 285 64 kF_280_285_64)).trans (f18.1.2.1.1 285 64 kF_285v_285_64)
  have e13 : hV H2 296 = hV H0 296 := (fRow f30.1.2.1 296 kR_280_296).trans e5
  have e15 : hV H2 298 = hV H0 298 := (fRow f30.1.2.1 298 kR_280_298).trans e6
  have e17 : hV H2 300 = hV H0 300 := (fRow f30.1.2.1 300 kR_280_300).trans e7
  have e19 : hV H2 328 = hV H0 328 := (fRow f30.1.2.1 328 kR_280_328).trans e8
  have e21 : hV H2 332 = hV H0 332 := (fRow f30.1.2.1 332 kR_280_332).trans e9
  have e22 : hV H2 335 = hV H1 335 := fRow f30.1.2.1 335 kR_280_335
  have e23 : (0 : Int) ≤ hV H0 285 18 ∧ hV H0 285 18 ≤ 8 := bTo e3 (f18.1.2.2 285 18 _ _ kW_285_18)
  have e24 : (0 : Int) ≤ hV H0 285 64 ∧ hV H0 285 64 ≤ 20 := bTo e4 (f18.1.2.2 285 64 _ _ kW_285_64)
  have e25 : (0 : Int) ≤ hV H1 285 65 ∧ hV H1 285 65 ≤ 2147483647 := f18.1.2.2 285 65 _ _ kW_285_65
  have k0 := g4.1
  have k1 := g4.2.1
  have k2 := g4.2.2.1
  have y0 := g4.2.2.2.1
  have y1 := g4.2.2.2.2.1
  have y2 := g4.2.2.2.2.2.1
  have y3 := g4.2.2.2.2.2.2.1
  have y4 := g4.2.2.2.2.2.2.2.1
  have y5 := g4.2.2.2.2.2.2.2.2.1
  have y6 := g4.2.2.2.2.2.2.2.2.2.1
  have y7 := g4.2.2.2.2.2.2.2.2.2.2.1
  have y8 := g4.2.2.2.2.2.2.2.2.2.2.2.1
  have y9 := g4.2.2.2.2.2.2.2.2.2.2.2.2.1
  have y10 := g4.2.2.2.2.2.2.2.2.2.2.2.2.2.1
  have y11 := g4.2.2.2.2.2.2.2.2.2.2.2.2.2.2.1
  have y12 := g4.2.2.2.2.2.2.2.2.2.2.2.2.2.2.2.1
  have y13 := g4.2.2.2.2.2.2.2.2.2.2.2.2.2.2.2.2.1
  have y14 := g4.2.2.2.2.2.2.2.2.2.2.2.2.2.2.2.2.2.1
  have y15 := g4.2.2.2.2.2.2.2.2.2.2.2.2.2.2.2.2.2.2
  have p0 := g3.1
  have p1 := g3.2.1
  have p2 := g3.2.2.1
  have p3 := g3.2.2.2.1
  have p4 := g3.2.2.2.2
  have r0_0 := f30.2
  try simp only [e5, e6, e7] at y0
  try simp only [e4, e5, e6, e7, e8, e9] at y1
  try simp only [e4, e5, e6, e7] at y2
  try simp only [e5, e6, e7] at y3
  try simp only [e4] at y5
  try simp only [e8] at y6
  try simp only [e3] at y8
  try simp only [e11, e13, e15, e17, e19, e21, e22] at r0_0
  clear g3
  clear g4
  clear f21 e3 e4 e5 e6 e7 e8 e9 e11 e13 e15 e17 e19 e21 e22
  clear f18 f30
  subst e1
  have b25 := o32_and_r f25 (by omega) (by omega)
  have b33 := o32_and_r f33 (by omega) (by omega)
  first
  | (have ix0 : n20 = n0 + 1 := Eq.trans f36 (w32_iv (Iad (Iat f1 f0) (IC 1)) (by decide)); subst ix0; clear f36)
  | (have ix0 : n20 = n0 + 1 := Eq.trans f36 (w32_id (by omega) (by omega)); subst ix0; clear f36)
  | (unfold w32 at f36; have ix0 : n20 = n0 + 1 := (by omega); subst ix0)
  | skip
  try unfold w32 at f36
  try subst k2
  try subst k1
  try subst k0
  omega
def g_285v_64_14 : vG := ([(10, [20, 9], [], 1), (41, [18, 19], [], 0), (0, [19], [], 1), (4, [18, 16, 17], [], 0), (0, [17], [], 1), (8, [16, 15, 5], [], 0), (1280, [15, 4, 9], [1, 2], 0), (90, [15], [], -2147483648), (91, [15], [], 2147483647), (40, [13, 14], [], 0), (0, [14], [], 1), (4, [13, 11, 12], [], 0), (0, [12], [], 1), (8, [11, 8, 9], [], 0), (42, [9, 10], [], 0), (20, [10, 4], [1], 64), (90, [10], [], 0), (91, [10], [], 20), (5000, [0, 1, 2, 3, 4, 5, 6, 7, 8, 9], [0, 1], 64), (0, [0], [], 285), (90, [1], [], -2147483648), (91, [1], [], 2147483647), (90, [2], [], -2147483648), (91, [2], [], 2147483647), (90, [3], [], -2147483648), (91, [3], [], 2147483647), (0, [4], [], 285), (90, [5], [], -2147483648), (91, [5], [], 2147483647), (90, [6], [], -2147483648), (91, [6], [], 2147483647), (90, [7], [], -2147483648), (91, [7], [], 2147483647), (90, [8], [], -2147483648), (91, [8], [], 2147483647), (90, [9], [], 0), (91, [9], [], 20)], (91, [20], [], 20))
theorem c_285v_64_14 {q0 : Nat} : vOkm T0 (eP e_285v L_285v A_285v mu_285v (some q0)) 4 g_285v_64_14 := vOk_inI fun ρ η f0 f1 f2 f3 f4 f5 f6 f7 f8 f9 f10 f11 f12 f13 f14 f15 f16 f17 f18 f19 f20 f21 f22 f23 f24 f25 f26 f27 f28 f29 f30 f31 f32 f33 f34 f35 f36 => q_285v_24 (q0 := q0) (n0 := ρ 9) (n1 := ρ 8) (n2 := ρ 7) (n3 := ρ 6) (n4 := ρ 5) (n5 := ρ 4) (n6 := ρ 3) (n7 := ρ 2) (n8 := ρ 1) (n9 := ρ 0) (n10 := ρ 10) (n11 := ρ 11) (n12 := ρ 12) (n13 := ρ 13) (n14 := ρ 14) (n15 := ρ 15) (n16 := ρ 16) (n17 := ρ 17) (n18 := ρ 18) (n19 := ρ 19) (n20 := ρ 20) (H0 := η 0) (H1 := η 1) (H2 := η 2) f36 f35 f34 f33 f32 f31 f30 f29 f28 f27 f26 f25 f24 f23 f22 f21 f20 f19 f18 f17 f16 f15 f14 f13 f12 f11 f10 f9 f8 f7 f6 f5 f4 f3 f2 f1 f0
theorem kR_280_329 : vFreeR s_280.2.2.2.2 329 = true := by decide +kernel
theorem q_285v_25 {q0 : Nat} {n0 n1 n2 n3 n4 n5 n6 n7 n8 n9 n10 n11 n12 n13 n14 n15 n16 n17 n18 n19 n20 : Int} {H0 H1 H2 : gH} (f0 : n0 ≤ 20) (f1 : 0 ≤ n0) (f2 : n1 ≤ 2147483647) (f3 : (-2147483648) ≤ n1) (f4 : n2 ≤ 2147483647) (f5 : (-2147483648) ≤ n2) (f6 : n3 ≤ 2147483647) (f7 : (-2147483648) ≤ n3) (f8 : n4 ≤ 2147483647) (f9 : (-2147483648) ≤ n4) (f10 : n5 = 285) (f11 : n6 ≤ 2147483647) (f12 : (-2147483648) ≤ n6) (f13 : n7 ≤ 2147483647) (f14 : (-2147483648) ≤ n7) (f15 : n8 ≤ 2147483647) (f16 : (-2147483648) ≤ n8) (f17 : n9 = 285) (f18 : (hLe T0 H0 H1 ∧ hFr s_285v.2.2.2.2 H0 H1 ∧ hWt T0 H1) ∧ (Ab_285v_64 n9 n8 n7 n6 n5 n4 n3 n2 n1 n0 H0 H1 ∧ preb_285v n9 n8 n7 n6 H0) ∧ some q0 = some (mub_285v_64 n9 n8 n7 n6 n5 n4 n3 n2 n1 n0 H0 H1)) (f19 : n10 ≤ 20) (f20 : 0 ≤ n10) (f21 : n10 = hV H1 (n5).toNat 64) (f22 : n0 < n10) (f23 : n11 = o32 (fun x y => x >>> (y &&& 31)) n1 n0) (f24 : n12 = 1) (f25 : n13 = o32 (fun x y => x &&& y) n11 n12) (f26 : n14 = 1) (f27 : n13 = n14) (f28 : n15 ≤ 2147483647) (f29 : (-2147483648) ≤ n15) (f30 : (hLe T0 H1 H2 ∧ hFr s_280.2.2.2.2 H1 H2 ∧ ((0 : Int) = 0 → H2.length = H1.length) ∧ hWt T0 H2) ∧ postb_280 n15 n5 n0 H1 H2) (f31 : n16 = o32 (fun x y => x >>> (y &&& 31)) n15 n4) (f32 : n17 = 1) (f33 : n18 = o32 (fun x y => x &&& y) n16 n17) (f34 : n19 = 1) (f35 : n18 ≠ n19) (f36 : n20 = w32 (n0 + 1)) : Ab_285v_64 n9 n8 n7 n6 n5 n4 n3 n2 n1 n20 H0 H2 ∧ ∀ q, some q0 = some q → mub_285v_64 n9 n8 n7 n6 n5 n4 n3 n2 n1 n20 H0 H2 < q := by
  have g4 := f18.2.1.1
  unfold Ab_285v_64 at g4
  have g3 := f18.2.1.2
  unfold preb_285v at g3
  have g5 := Option.some.inj f18.2.2
  unfold mub_285v_64 at g5
  unfold postb_280 at f30
  unfold Ab_285v_64
  unfold mub_285v_64
  have e1 : n10 = hV H0 285 64 := (by rw [f10] at f21; exact f21 : n10 = hV H1 285 64).trans ((f18.1.2.1.1 285 64 kF_285v_285_64))
  have e3 : hV H1 285 18 = hV H0 285 18 := (f18.1.2.1.1 285 18 kF_285v_285_18)
  have e4 : hV H1 285 64 = hV H0 285 64 := (f18.1.2.1.1 285 64 kF_285v_285_64)
  have e5 : hV H1 296 = hV H0 296 := fRow f18.1.2.1 296 kR_285v_296
  have e6 : hV H1 298 = hV H0 298 := fRow f18.1.2.1 298 kR_285v_298
  have e7 : hV H1 300 = hV H0 300 := fRow f18.1.2.1 300 kR_285v_300
  have e8 : hV H1 328 = hV H0 328 := fRow f18.1.2.1 328 kR_285v_328
  have e9 : hV H1 332 = hV H0 332 := fRow f18.1.2.1 332 kR_285v_332
  have e11 : hV H2 285 18 = hV H0 285 18 := ((f30.1.2.1.1 285 18 kF_280_285_18)).trans (f18.1.2.1.1 285 18 kF_285v_285_18)
  have e13 : hV H2 285 64 = hV H0 285 64 := ((f30.1.2.1.1 285 64 kF_280_285_64)).trans (f18.1.2.1.1 285 64 kF_285v_285_64)
  have e15 : hV H2 285 65 = hV H1 285 65 := (f30.1.2.1.1 285 65 kF_280_285_65)
  have e17 : hV H2 296 = hV H0 296 := (fRow f30.1.2.1 296 kR_280_296).trans e5
  have e19 : hV H2 298 = hV H0 298 := (fRow f30.1.2.1 298 kR_280_298).trans e6
  have e21 : hV H2 300 = hV H0 300 := (fRow f30.1.2.1 300 kR_280_300).trans e7
  have e23 : hV H2 328 = hV H0 328 := (fRow f30.1.2.1 328 kR_280_328).trans e8
  have e24 : hV H2 329 = hV H1 329 := fRow f30.1.2.1 329 kR_280_329
  have e26 : hV H2 332 = hV H0 332 := (fRow f30.1.2.1 332 kR_280_332).trans e9
  have e27 : hV H2 335 = hV H1 335 := fRow f30.1.2.1 335 kR_280_335
  have e28 : AC H2 = AC H1 := AC_fr f30.1.2.1 (by decide +kernel)
  have e29 : SO H2 = SO H1 := SO_fr f30.1.2.1 (by decide +kernel)
  have e30 : SS H2 = SS H1 := SS_fr f30.1.2.1 (by decide +kernel)
  have e31 : (0 : Int) ≤ hV H0 285 18 ∧ hV H0 285 18 ≤ 8 := bTo e3 (f18.1.2.2 285 18 _ _ kW_285_18)
  have e32 : (0 : Int) ≤ hV H0 285 64 ∧ hV H0 285 64 ≤ 20 := bTo e4 (f18.1.2.2 285 64 _ _ kW_285_64)
  have e33 : (0 : Int) ≤ hV H1 285 65 ∧ hV H1 285 65 ≤ 2147483647 := f18.1.2.2 285 65 _ _ kW_285_65
  try simp only [e11, e13, e15, e17, e19, e21, e23, e24, e26, e27, e28, e29, e30]
  have k0 := g4.1
  have k1 := g4.2.1
  have k2 := g4.2.2.1
  have y0 := g4.2.2.2.1
  have y1 := g4.2.2.2.2.1
  have y2 := g4.2.2.2.2.2.1
  have y3 := g4.2.2.2.2.2.2.1
  have y4 := g4.2.2.2.2.2.2.2.1
  have y5 := g4.2.2.2.2.2.2.2.2.1
  have y6 := g4.2.2.2.2.2.2.2.2.2.1
  have y7 := g4.2.2.2.2.2.2.2.2.2.2.1
  have y8 := g4.2.2.2.2.2.2.2.2.2.2.2.1
  have y9 := g4.2.2.2.2.2.2.2.2.2.2.2.2.1
  have y10 := g4.2.2.2.2.2.2.2.2.2.2.2.2.2.1
  have y11 := g4.2.2.2.2.2.2.2.2.2.2.2.2.2.2.1
  have y12 := g4.2.2.2.2.2.2.2.2.2.2.2.2.2.2.2.1
  have y13 := g4.2.2.2.2.2.2.2.2.2.2.2.2.2.2.2.2.1
  have y14 := g4.2.2.2.2.2.2.2.2.2.2.2.2.2.2.2.2.2.1
  have y15 := g4.2.2.2.2.2.2.2.2.2.2.2.2.2.2.2.2.2.2
  have p0 := g3.1
  have p1 := g3.2.1
  have p2 := g3.2.2.1
  have p3 := g3.2.2.2.1
  have p4 := g3.2.2.2.2
  have r0_0 := f30.2
  try simp only [e5, e6, e7] at y0
  try simp only [e4, e5, e6, e7, e8, e9] at y1
  try simp only [e4, e5, e6, e7] at y2
  try simp only [e5, e6, e7] at y3
  try simp only [e4] at y5
  try simp only [e8] at y6
  try simp only [e3] at y8
  try simp only [e13, e17, e19, e21, e23, e26, e27] at r0_0
  clear g3
  clear g4
  clear f21 e3 e4 e5 e6 e7 e8 e9 e11 e13 e15 e17 e19 e21 e23 e24 e26 e27 e28 e29 e30
  clear f18 f30
  subst e1
  have b25 := o32_and_r f25 (by omega) (by omega)
  have b33 := o32_and_r f33 (by omega) (by omega)
  first
  | (have ix0 : n20 = n0 + 1 := Eq.trans f36 (w32_iv (Iad (Iat f1 f0) (IC 1)) (by decide)); subst ix0; clear f36)
  | (have ix0 : n20 = n0 + 1 := Eq.trans f36 (w32_id (by omega) (by omega)); subst ix0; clear f36)
  | (unfold w32 at f36; have ix0 : n20 = n0 + 1 := (by omega); subst ix0)
  | skip
  try unfold w32 at f36

  try subst k2
  try subst k1
  try subst k0
  have tb := bt_test f23 f25 (by omega) (by omega) (by omega)
  have tc := bt_test f31 f33 (by omega) (by omega) (by omega)
  refine ⟨?_, fun q hq => ?_⟩
  · exact ⟨by first | omega | trivial, by first | omega | trivial, by first | omega | trivial, y0, MA_step y1 (by omega) (by omega) (fun _ z => by have := tc.1.mpr ((r0_0 _ (by omega)).mpr z); omega), y2, y3, by omega, by omega, by omega, by omega, by omega, by omega, by omega, y11, y12, y13, by omega, y15⟩
  · have g6 := Option.some.inj hq
    subst g6
    omega
def g_285v_64_15 : vG := ([(10, [20, 9], [], 1), (41, [18, 19], [], 0), (0, [19], [], 1), (4, [18, 16, 17], [], 0), (0, [17], [], 1), (8, [16, 15, 5], [], 0), (1280, [15, 4, 9], [1, 2], 0), (90, [15], [], -2147483648), (91, [15], [], 2147483647), (40, [13, 14], [], 0), (0, [14], [], 1), (4, [13, 11, 12], [], 0), (0, [12], [], 1), (8, [11, 8, 9], [], 0), (42, [9, 10], [], 0), (20, [10, 4], [1], 64), (90, [10], [], 0), (91, [10], [], 20), (5000, [0, 1, 2, 3, 4, 5, 6, 7, 8, 9], [0, 1], 64), (0, [0], [], 285), (90, [1], [], -2147483648), (91, [1], [], 2147483647), (90, [2], [], -2147483648), (91, [2], [], 2147483647), (90, [3], [], -2147483648), (91, [3], [], 2147483647), (0, [4], [], 285), (90, [5], [], -2147483648), (91, [5], [], 2147483647), (90, [6], [], -2147483648), (91, [6], [], 2147483647), (90, [7], [], -2147483648), (91, [7], [], 2147483647), (90, [8], [], -2147483648), (91, [8], [], 2147483647), (90, [9], [], 0), (91, [9], [], 20)], (4000, [4, 5, 6, 7, 8, 20], [2], 64))
theorem c_285v_64_15 {q0 : Nat} : vOkm T0 (eP e_285v L_285v A_285v mu_285v (some q0)) 4 g_285v_64_15 := vOk_inI fun ρ η f0 f1 f2 f3 f4 f5 f6 f7 f8 f9 f10 f11 f12 f13 f14 f15 f16 f17 f18 f19 f20 f21 f22 f23 f24 f25 f26 f27 f28 f29 f30 f31 f32 f33 f34 f35 f36 => q_285v_25 (q0 := q0) (n0 := ρ 9) (n1 := ρ 8) (n2 := ρ 7) (n3 := ρ 6) (n4 := ρ 5) (n5 := ρ 4) (n6 := ρ 3) (n7 := ρ 2) (n8 := ρ 1) (n9 := ρ 0) (n10 := ρ 10) (n11 := ρ 11) (n12 := ρ 12) (n13 := ρ 13) (n14 := ρ 14) (n15 := ρ 15) (n16 := ρ 16) (n17 := ρ 17) (n18 := ρ 18) (n19 := ρ 19) (n20 := ρ 20) (H0 := η 0) (H1 := η 1) (H2 := η 2) f36 f35 f34 f33 f32 f31 f30 f29 f28 f27 f26 f25 f24 f23 f22 f21 f20 f19 f18 f17 f16 f15 f14 f13 f12 f11 f10 f9 f8 f7 f6 f5 f4 f3 f2 f1 f0
theorem q_285v_26 {q0 : Nat} {n0 n1 n2 n3 n4 n5 n6 n7 n8 n9 n10 n11 n12 n13 n14 n15 n16 n17 n18 n19 n20 : Int} {H0 H1 H2 : gH} (f0 : n0 ≤ 20) (f1 : 0 ≤ n0) (f2 : n1 ≤ 2147483647) (f3 : (-2147483648) ≤ n1) (f4 : n2 ≤ 2147483647) (f5 : (-2147483648) ≤ n2) (f6 : n3 ≤ 2147483647) (f7 : (-2147483648) ≤ n3) (f8 : n4 ≤ 2147483647) (f9 : (-2147483648) ≤ n4) (f10 : n5 = 285) (f11 : n6 ≤ 2147483647) (f12 : (-2147483648) ≤ n6) (f13 : n7 ≤ 2147483647) (f14 : (-2147483648) ≤ n7) (f15 : n8 ≤ 2147483647) (f16 : (-2147483648) ≤ n8) (f17 : n9 = 285) (f18 : (hLe T0 H0 H1 ∧ hFr s_285v.2.2.2.2 H0 H1 ∧ hWt T0 H1) ∧ (Ab_285v_64 n9 n8 n7 n6 n5 n4 n3 n2 n1 n0 H0 H1 ∧ preb_285v n9 n8 n7 n6 H0) ∧ some q0 = some (mub_285v_64 n9 n8 n7 n6 n5 n4 n3 n2 n1 n0 H0 H1)) (f19 : n10 ≤ 20) (f20 : 0 ≤ n10) (f21 : n10 = hV H1 (n5).toNat 64) (f22 : n0 < n10) (f23 : n11 = o32 (fun x y => x >>> (y &&& 31)) n1 n0) (f24 : n12 = 1) (f25 : n13 = o32 (fun x y => x &&& y) n11 n12) (f26 : n14 = 1) (f27 : n13 = n14) (f28 : n15 ≤ 2147483647) (f29 : (-2147483648) ≤ n15) (f30 : (hLe T0 H1 H2 ∧ hFr s_280.2.2.2.2 H1 H2 ∧ ((0 : Int) = 0 → H2.length = H1.length) ∧ hWt T0 H2) ∧ postb_280 n15 n5 n0 H1 H2) (f31 : n16 = o32 (fun x y => x >>> (y &&& 31)) n15 n4) (f32 : n17 = 1) (f33 : n18 = o32 (fun x y => x &&& y) n16 n17) (f34 : n19 = 1) (f35 : n18 = n19) (f36 : n20 = (-2)) : postb_285v n20 n9 n8 n7 n6 H0 H2 := by
  have g4 := f18.2.1.1
  unfold Ab_285v_64 at g4
  have g3 := f18.2.1.2
  unfold preb_285v at g3
  unfold postb_280 at f30
  unfold postb_285v
  have e1 : n10 = hV H0 285 64 := (by rw [f10] at f21; exact f21 : n10 = hV H1 285 64).trans ((f18.1.2.1.1 285 64 kF_285v_285_64))
  have e3 : hV H1 285 18 = hV H0 285 18 := (f18.1.2.1.1 285 18 kF_285v_285_18)
  have e4 : hV H1 285 64 = hV H0 285 64 := (f18.1.2.1.1 285 64 kF_285v_285_64)
  have e5 : hV H1 296 = hV H0 296 := fRow f18.1.2.1 296 kR_285v_296
  have e6 : hV H1 298 = hV H0 298 := fRow f18.1.2.1 298 kR_285v_298
  have e7 : hV H1 300 = hV H0 300 := fRow f18.1.2.1 300 kR_285v_300
  have e8 : hV H1 328 = hV H0 328 := fRow f18.1.2.1 328 kR_285v_328
  have e9 : hV H1 332 = hV H0 332 := fRow f18.1.2.1 332 kR_285v_332
  have e11 : hV H2 285 64 = hV H0 285 64 := ((f30.1.2.1.1 285 64 kF_280_285_64)).trans (f18.1.2.1.1 285 64 kF_285v_285_64)
  have e13 : hV H2 285 65 = hV H1 285 65 := (f30.1.2.1.1 285 65 kF_280_285_65)
  have e15 : hV H2 296 = hV H0 296 := (fRow f30.1.2.1 296 kR_280_296).trans e5
  have e17 : hV H2 298 = hV H0 298 := (fRow f30.1.2.1 298 kR_280_298).trans e6
  have e19 : hV H2 300 = hV H0 300 := (fRow f30.1.2.1 300 kR_280_300).trans e7
  have e21 : hV H2 328 = hV H0 328 := (fRow f30.1.2.1 328 kR_280_328).trans e8
  have e22 : hV H2 329 = hV H1 329 := fRow f30.1.2.1 329 kR_280_329
  have e24 : hV H2 332 = hV H0 332 := (fRow f30.1.2.1 332 kR_280_332).trans e9
  have e25 : hV H2 335 = hV H1 335 := fRow f30.1.2.1 335 kR_280_335
  have e26 : AC H2 = AC H1 := AC_fr f30.1.2.1 (by decide +kernel)
  have e27 : SO H2 = SO H1 := SO_fr f30.1.2.1 (by decide +kernel)
  have e28 : SS H2 = SS H1 := SS_fr f30.1.2.1 (by decide +kernel)
  have e29 : (0 : Int) ≤ hV H0 285 18 ∧ hV H0 285 18 ≤ 8 := bTo e3 (f18.1.2.2 285 18 _ _ kW_285_18)
  have e30 : (0 : Int) ≤ hV H0 285 64 ∧ hV H0 285 64 ≤ 20 := bTo e4 (f18.1.2.2 285 64 _ _ kW_285_64)
  have e31 : (0 : Int) ≤ hV H1 285 65 ∧ hV H1 285 65 ≤ 2147483647 := f18.1.2.2 285 65 _ _ kW_285_65
  try simp only [e13, e22, e26, e27, e28]
  have k0 := g4.1
  have k1 := g4.2.1
  have k2 := g4.2.2.1
  have y0 := g4.2.2.2.1
  have y1 := g4.2.2.2.2.1
  have y2 := g4.2.2.2.2.2.1
  have y3 := g4.2.2.2.2.2.2.1
  have y4 := g4.2.2.2.2.2.2.2.1
  have y5 := g4.2.2.2.2.2.2.2.2.1
  have y6 := g4.2.2.2.2.2.2.2.2.2.1
  have y7 := g4.2.2.2.2.2.2.2.2.2.2.1
  have y8 := g4.2.2.2.2.2.2.2.2.2.2.2.1
  have y9 := g4.2.2.2.2.2.2.2.2.2.2.2.2.1
  have y10 := g4.2.2.2.2.2.2.2.2.2.2.2.2.2.1
  have y11 := g4.2.2.2.2.2.2.2.2.2.2.2.2.2.2.1
  have y12 := g4.2.2.2.2.2.2.2.2.2.2.2.2.2.2.2.1
  have y13 := g4.2.2.2.2.2.2.2.2.2.2.2.2.2.2.2.2.1
  have y14 := g4.2.2.2.2.2.2.2.2.2.2.2.2.2.2.2.2.2.1
  have y15 := g4.2.2.2.2.2.2.2.2.2.2.2.2.2.2.2.2.2.2
  have p0 := g3.1
  have p1 := g3.2.1
  have p2 := g3.2.2.1
  have p3 := g3.2.2.2.1
  have p4 := g3.2.2.2.2
  have r0_0 := f30.2
  try simp only [e5, e6, e7] at y0
  try simp only [e4, e5, e6, e7, e8, e9] at y1
  try simp only [e4, e5, e6, e7] at y2
  try simp only [e5, e6, e7] at y3
  try simp only [e4] at y5
  try simp only [e8] at y6
  try simp only [e3] at y8
  try simp only [e11, e15, e17, e19, e21, e24, e25] at r0_0
  clear g3
  clear g4
  clear f21 e3 e4 e5 e6 e7 e8 e9 e11 e13 e15 e17 e19 e21 e22 e24 e25 e26 e27 e28
  clear f18 f30
  subst e1
  have b25 := o32_and_r f25 (by omega) (by omega)
  have b33 := o32_and_r f33 (by omega) (by omega)

  exact ⟨y11, y12, y13, by omega, fun s _ => by rw [y15]⟩
def g_285v_64_16 : vG := ([(0, [20], [], -2), (40, [18, 19], [], 0), (0, [19], [], 1), (4, [18, 16, 17], [], 0), (0, [17], [], 1), (8, [16, 15, 5], [], 0), (1280, [15, 4, 9], [1, 2], 0), (90, [15], [], -2147483648), (91, [15], [], 2147483647), (40, [13, 14], [], 0), (0, [14], [], 1), (4, [13, 11, 12], [], 0), (0, [12], [], 1), (8, [11, 8, 9], [], 0), (42, [9, 10], [], 0), (20, [10, 4], [1], 64), (90, [10], [], 0), (91, [10], [], 20), (5000, [0, 1, 2, 3, 4, 5, 6, 7, 8, 9], [0, 1], 64), (0, [0], [], 285), (90, [1], [], -2147483648), (91, [1], [], 2147483647), (90, [2], [], -2147483648), (91, [2], [], 2147483647), (90, [3], [], -2147483648), (91, [3], [], 2147483647), (0, [4], [], 285), (90, [5], [], -2147483648), (91, [5], [], 2147483647), (90, [6], [], -2147483648), (91, [6], [], 2147483647), (90, [7], [], -2147483648), (91, [7], [], 2147483647), (90, [8], [], -2147483648), (91, [8], [], 2147483647), (90, [9], [], 0), (91, [9], [], 20)], (3000, [20], [2], 100))
theorem c_285v_64_16 {q0 : Nat} : vOkm T0 (eP e_285v L_285v A_285v mu_285v (some q0)) 4 g_285v_64_16 := vOk_inI fun ρ η f0 f1 f2 f3 f4 f5 f6 f7 f8 f9 f10 f11 f12 f13 f14 f15 f16 f17 f18 f19 f20 f21 f22 f23 f24 f25 f26 f27 f28 f29 f30 f31 f32 f33 f34 f35 f36 => q_285v_26 (q0 := q0) (n0 := ρ 9) (n1 := ρ 8) (n2 := ρ 7) (n3 := ρ 6) (n4 := ρ 5) (n5 := ρ 4) (n6 := ρ 3) (n7 := ρ 2) (n8 := ρ 1) (n9 := ρ 0) (n10 := ρ 10) (n11 := ρ 11) (n12 := ρ 12) (n13 := ρ 13) (n14 := ρ 14) (n15 := ρ 15) (n16 := ρ 16) (n17 := ρ 17) (n18 := ρ 18) (n19 := ρ 19) (n20 := ρ 20) (H0 := η 0) (H1 := η 1) (H2 := η 2) f36 f35 f34 f33 f32 f31 f30 f29 f28 f27 f26 f25 f24 f23 f22 f21 f20 f19 f18 f17 f16 f15 f14 f13 f12 f11 f10 f9 f8 f7 f6 f5 f4 f3 f2 f1 f0
def p_285v_64 : List vG := [g_285v_64_0,
  g_285v_64_1,
  g_285v_64_2,
  g_285v_64_3,
  g_285v_64_4,
  g_285v_64_5,
  g_285v_64_6,
  g_285v_64_7,
  g_285v_64_8,
  g_285v_64_9,
  g_285v_64_10,
  g_285v_64_11,
  g_285v_64_12,
  g_285v_64_13,
  g_285v_64_14,
  g_285v_64_15,
  g_285v_64_16]
theorem r_285v_64 : vCovO false (eRc e_285v L_285v cs_285v 2000 (64, [(0, (3, 12, 285, 0)), (1, (0, -2147483648, 2147483647, 0)), (2, (0, -2147483648, 2147483647, 0)), (3, (0, -2147483648, 2147483647, 0)), (4, (0, -2147483648, 2147483647, 0)), (5, (0, 0, 20, 0))])) p_285v_64 = true := by decide +kernel
theorem m_285v (d : Nat) : eC e_285v (d + 6) := eC_ok (e := e_285v) (L := L_285v) (cs := cs_285v) (n := 2000) (d := d + 5) (A := A_285v) (μ := mu_285v) (tp := false) (p0 := p_285v_s) rfl ⟨m_250 (d + 4), ⟨m_278 (d + 2), ⟨m_280 d, ⟨m_283v d, ⟨m_284 (d + 3), trivial⟩⟩⟩⟩⟩ rfl (.inl rfl) (by decide +kernel) (fun z => nomatch z) r_285v_s (allC c_285v_s_0 (allC c_285v_s_1 (allC c_285v_s_2 (allC c_285v_s_3 (allC c_285v_s_4 (allC c_285v_s_5 (allC c_285v_s_6 (allC c_285v_s_7 (allC c_285v_s_8 (allC c_285v_s_9 allN)))))))))) (allC (.inl ⟨p_285v_64, r_285v_64, fun q0 => (allC c_285v_64_0 (allC c_285v_64_1 (allC c_285v_64_2 (allC c_285v_64_3 (allC c_285v_64_4 (allC c_285v_64_5 (allC c_285v_64_6 (allC c_285v_64_7 (allC c_285v_64_8 (allC c_285v_64_9 (allC c_285v_64_10 (allC c_285v_64_11 (allC c_285v_64_12 (allC c_285v_64_13 (allC c_285v_64_14 (allC c_285v_64_15 (allC c_285v_64_16 allN)))))))))))))))))⟩) allN)
/- MixStageModel.again ()I -/
noncomputable def s_290v : vM := ([(3, 12, 285, 0)], (0, -2147483648, 2147483647, 0), 1, 0, [(12, 65), (12, 82), (12, 88), (12, 93), (460, 0), (492, 0), (500, 0), (508, 0), (516, 0), (524, 0), (572, 0), (580, 0), (588, 0), (596, 0), (604, 0), (612, 0), (621, 0), (631, 0), (637, 0), (644, 0), (652, 0), (663, 0)])
def preb_290v (a0 : Int) (h : gH) : Prop := SO h ∧ SS h ∧ PG h ∧ AC h ∧ hV h 285 65 ≤ 20000
def pre_290v : List Int → gH → Prop := fun xs h => match xs with
  | [a0] => preb_290v a0 h
  | _ => False
def postb_290v (r a0 : Int) (h0 h : gH) : Prop := SO h ∧ SS h ∧ AC h ∧ hV h 285 65 ≤ hV h0 285 65 + 20 ∧ KMk (hV h0 328) (hV h0 329) (hV h 329)
def post_290v : List Int → gH → gH → Prop := fun xs h0 h => match xs with
  | [r, a0] => postb_290v r a0 h0 h
  | _ => True
noncomputable def e_290v : vE := (290, s_290v, pre_290v, post_290v)
noncomputable def L_290v : List vE := [e_283v, e_288, e_289]
def cs_290v : List vC := [(4, [(0, (3, 12, 285, 0)), (1, (0, -2147483648, 2147483647, 0)), (2, (0, 0, 1, 0))]), (16, [(0, (3, 12, 285, 0)), (1, (0, -2147483648, 2147483647, 0)), (2, (0, 0, 1, 0)), (3, (0, 0, 20, 0))])]
def Ab_290v_4 (a0 x0 x1 x2 : Int) (h0 h : gH) : Prop := SO h ∧ SS h ∧ AC h ∧ hV h 285 65 + ((SNv (hV h 285 64) (NXp (hV h 328) (hV h 332) (hV h 335) (hV h 296) (hV h 298) (hV h 300)) (hV h 328) (hV h 335) (hV h 333) (MKv (hV h 296) (hV h 298) (hV h 300) (hV h 301) (hV h 303) (hV h 341)) : Nat) : Int) ≤ hV h0 285 65 + 20 ∧ KMk (hV h0 328) (hV h0 329) (hV h 329)
noncomputable def mub_290v_4 (a0 x0 x1 x2 : Int) (h0 h : gH) : Nat := SNv (hV h 285 64) (NXp (hV h 328) (hV h 332) (hV h 335) (hV h 296) (hV h 298) (hV h 300)) (hV h 328) (hV h 335) (hV h 333) (MKv (hV h 296) (hV h 298) (hV h 300) (hV h 301) (hV h 303) (hV h 341)) * 100 + 45 * (x2).toNat
def Ab_290v_16 (a0 x0 x1 x2 x3 : Int) (h0 h : gH) : Prop := SO h ∧ SS h ∧ AC h ∧ hV h 285 65 + ((SNv (hV h 285 64) (NXp (hV h 328) (hV h 332) (hV h 335) (hV h 296) (hV h 298) (hV h 300)) (hV h 328) (hV h 335) (hV h 333) (MKv (hV h 296) (hV h 298) (hV h 300) (hV h 301) (hV h 303) (hV h 341)) : Nat) : Int) ≤ hV h0 285 65 + 20 ∧ (x2 = 0 → ∀ s : Nat, (s : Int) < hV h 285 64 → (¬ hV h 354 (s) = 0 ↔ SLp (hV h 285 64) (NXp (hV h 328) (hV h 332) (hV h 335) (hV h 296) (hV h 298) (hV h 300)) (hV h 328) (hV h 335) (hV h 333) (MKv (hV h 296) (hV h 298) (hV h 300) (hV h 301) (hV h 303) (hV h 341)) s)) ∧ KMk (hV h0 328) (hV h0 329) (hV h 329)
noncomputable def mub_290v_16 (a0 x0 x1 x2 x3 : Int) (h0 h : gH) : Nat := SNv (hV h 285 64) (NXp (hV h 328) (hV h 332) (hV h 335) (hV h 296) (hV h 298) (hV h 300)) (hV h 328) (hV h 335) (hV h 333) (MKv (hV h 296) (hV h 298) (hV h 300) (hV h 301) (hV h 303) (hV h 341)) * 100 + 40 + 30 * (x2).toNat - (x3).toNat
def A_290v : Int → List Int → gH → gH → Prop := fun c xs h0 h => match c.toNat with
  | 4 => SO h ∧ SS h ∧ AC h ∧ hV h 285 65 + ((SNv (hV h 285 64) (NXp (hV h 328) (hV h 332) (hV h 335) (hV h 296) (hV h 298) (hV h 300)) (hV h 328) (hV h 335) (hV h 333) (MKv (hV h 296) (hV h 298) (hV h 300) (hV h 301) (hV h 303) (hV h 341)) : Nat) : Int) ≤ hV h0 285 65 + 20 ∧ KMk (hV h0 328) (hV h0 329) (hV h 329)
  | 16 => (match xs with
    | [a0, x0, x1, x2, x3] => Ab_290v_16 a0 x0 x1 x2 x3 h0 h
    | _ => False)
  | _ => True
noncomputable def mu_290v : Int → List Int → gH → gH → Nat := fun c xs h0 h => match c.toNat with
  | 4 => (match xs with
    | [a0, x0, x1, x2] => mub_290v_4 a0 x0 x1 x2 h0 h
    | _ => 0)
  | 16 => (match xs with
    | [a0, x0, x1, x2, x3] => mub_290v_16 a0 x0 x1 x2 x3 h0 h
    | _ => 0)
  | _ => 0
theorem q_290v_0 {n0 n1 n2 : Int} {H0 : gH} (f0 : n0 = 285) (f1 : hWt T0 H0 ∧ preb_290v n0 H0) (f2 : n1 = 0) (f3 : n2 = 1) : Ab_290v_4 n0 n0 n1 n2 H0 H0 ∧ ∀ q, none = some q → mub_290v_4 n0 n0 n1 n2 H0 H0 < q := by
  unfold preb_290v at f1
  unfold Ab_290v_4
  have e0 : (0 : Int) ≤ hV H0 285 18 ∧ hV H0 285 18 ≤ 8 := f1.1 285 18 _ _ kW_285_18
  have e1 : (0 : Int) ≤ hV H0 285 64 ∧ hV H0 285 64 ≤ 20 := f1.1 285 64 _ _ kW_285_64
  have e2 : (0 : Int) ≤ hV H0 285 65 ∧ hV H0 285 65 ≤ 2147483647 := f1.1 285 65 _ _ kW_285_65
  try simp only [SO, SS, AC]
  have p0 := f1.2.1
  have p1 := f1.2.2.1
  have p2 := f1.2.2.2.1
  have p3 := f1.2.2.2.2.1
  have p4 := f1.2.2.2.2.2
  try simp only [SO] at p0
  try simp only [SS] at p1
  try simp only [AC] at p3
  clear f1

  have sn := cnt_le (p := fun s => (s : Int) < hV H0 285 64 ∧ SLp (hV H0 285 64) (NXp (hV H0 328) (hV H0 332) (hV H0 335) (hV H0 296) (hV H0 298) (hV H0 300)) (hV H0 328) (hV H0 335) (hV H0 333) (MKv (hV H0 296) (hV H0 298) (hV H0 300) (hV H0 301) (hV H0 303) (hV H0 341)) s) 20
  unfold SNv
  refine ⟨?_, fun q hq => ?_⟩
  · exact ⟨p0, p1, p3, by omega, fun _ _ => rfl⟩
  · exact nomatch hq
def g_290v_s_0 : vG := ([(0, [2], [], 1), (0, [1], [], 0), (6000, [0], [0], 0), (0, [0], [], 285)], (4000, [0, 1, 2], [0], 4))
theorem c_290v_s_0 : vOkm T0 (eP e_290v L_290v A_290v mu_290v none) 1 g_290v_s_0 := vOk_inI fun ρ η f0 f1 f2 f3 => q_290v_0 (n0 := ρ 0) (n1 := ρ 1) (n2 := ρ 2) (H0 := η 0) f3 f2 f1 f0
def p_290v_s : List vG := [g_290v_s_0]
theorem r_290v_s : vCovO false (eR0 e_290v L_290v cs_290v 2000) p_290v_s = true := by decide +kernel
theorem kR_290v_296 : vFreeR s_290v.2.2.2.2 296 = true := by decide +kernel
theorem kR_290v_298 : vFreeR s_290v.2.2.2.2 298 = true := by decide +kernel
theorem kR_290v_300 : vFreeR s_290v.2.2.2.2 300 = true := by decide +kernel
theorem kR_290v_301 : vFreeR s_290v.2.2.2.2 301 = true := by decide +kernel
theorem kR_290v_303 : vFreeR s_290v.2.2.2.2 303 = true := by decide +kernel
theorem kR_290v_328 : vFreeR s_290v.2.2.2.2 328 = true := by decide +kernel
theorem kR_290v_330 : vFreeR s_290v.2.2.2.2 330 = true := by decide +kernel
theorem kR_290v_331 : vFreeR s_290v.2.2.2.2 331 = true := by decide +kernel
theorem kR_290v_332 : vFreeR s_290v.2.2.2.2 332 = true := by decide +kernel
theorem kR_290v_341 : vFreeR s_290v.2.2.2.2 341 = true := by decide +kernel
theorem kF_290v_285_18 : vFree s_290v.2.2.2.2 285 18 = true := by decide +kernel
theorem kF_290v_285_64 : vFree s_290v.2.2.2.2 285 64 = true := by decide +kernel
theorem q_290v_1 {q0 : Nat} {n0 n1 n2 n3 : Int} {H0 H1 : gH} (f0 : n0 ≤ 1) (f1 : 0 ≤ n0) (f2 : n1 ≤ 2147483647) (f3 : (-2147483648) ≤ n1) (f4 : n2 = 285) (f5 : n3 = 285) (f6 : (hLe T0 H0 H1 ∧ hFr s_290v.2.2.2.2 H0 H1 ∧ hWt T0 H1) ∧ (Ab_290v_4 n3 n2 n1 n0 H0 H1 ∧ preb_290v n3 H0) ∧ some q0 = some (mub_290v_4 n3 n2 n1 n0 H0 H1)) (f7 : n0 = 0) : postb_290v n1 n3 H0 H1 := by
  have g4 := f6.2.1.1
  unfold Ab_290v_4 at g4
  have g3 := f6.2.1.2
  unfold preb_290v at g3
  unfold postb_290v
  have e1 : hV H1 285 18 = hV H0 285 18 := (f6.1.2.1.1 285 18 kF_290v_285_18)
  have e3 : hV H1 285 64 = hV H0 285 64 := (f6.1.2.1.1 285 64 kF_290v_285_64)
  have e4 : hV H1 296 = hV H0 296 := fRow f6.1.2.1 296 kR_290v_296
  have e5 : hV H1 298 = hV H0 298 := fRow f6.1.2.1 298 kR_290v_298
  have e6 : hV H1 300 = hV H0 300 := fRow f6.1.2.1 300 kR_290v_300
  have e7 : hV H1 301 = hV H0 301 := fRow f6.1.2.1 301 kR_290v_301
  have e8 : hV H1 303 = hV H0 303 := fRow f6.1.2.1 303 kR_290v_303
  have e9 : hV H1 328 = hV H0 328 := fRow f6.1.2.1 328 kR_290v_328
  have e10 : hV H1 330 = hV H0 330 := fRow f6.1.2.1 330 kR_290v_330
  have e11 : hV H1 331 = hV H0 331 := fRow f6.1.2.1 331 kR_290v_331
  have e12 : hV H1 332 = hV H0 332 := fRow f6.1.2.1 332 kR_290v_332
  have e13 : hV H1 341 = hV H0 341 := fRow f6.1.2.1 341 kR_290v_341
  have e14 : (0 : Int) ≤ hV H0 285 18 ∧ hV H0 285 18 ≤ 8 := bTo e1 (f6.1.2.2 285 18 _ _ kW_285_18)
  have e15 : (0 : Int) ≤ hV H0 285 64 ∧ hV H0 285 64 ≤ 20 := bTo e3 (f6.1.2.2 285 64 _ _ kW_285_64)
  have e16 : (0 : Int) ≤ hV H1 285 65 ∧ hV H1 285 65 ≤ 2147483647 := f6.1.2.2 285 65 _ _ kW_285_65
  try simp only [SO, SS, AC]
  try simp only [e1, e3, e4, e5, e6, e9, e10, e11, e12, e13]
  have y0 := g4.1
  have y1 := g4.2.1
  have y2 := g4.2.2.1
  have y3 := g4.2.2.2.1
  have y4 := g4.2.2.2.2
  have p0 := g3.1
  have p1 := g3.2.1
  have p2 := g3.2.2.1
  have p3 := g3.2.2.2.1
  have p4 := g3.2.2.2.2
  try simp only [SO] at y0
  try simp only [SS] at y1
  try simp only [AC] at y2
  try simp only [SO] at p0
  try simp only [SS] at p1
  try simp only [AC] at p3
  try simp only [e1, e3, e9, e10, e11, e12] at y0
  try simp only [e13] at y1
  try simp only [e1, e3, e4, e5, e6, e9, e12] at y2
  try simp only [e3, e4, e5, e6, e7, e8, e9, e12, e13] at y3
  clear g3
  clear g4
  clear e1 e3 e4 e5 e6 e7 e8 e9 e10 e11 e12 e13
  clear f6

  exact ⟨y0, y1, y2, by omega, y4⟩
def g_290v_4_0 : vG := ([(30, [3], [], 0), (5000, [0, 1, 2, 3], [0, 1], 4), (0, [0], [], 285), (0, [1], [], 285), (90, [2], [], -2147483648), (91, [2], [], 2147483647), (90, [3], [], 0), (91, [3], [], 1)], (3000, [2], [1], 92))
theorem c_290v_4_0 {q0 : Nat} : vOkm T0 (eP e_290v L_290v A_290v mu_290v (some q0)) 1 g_290v_4_0 := vOk_inI fun ρ η f0 f1 f2 f3 f4 f5 f6 f7 => q_290v_1 (q0 := q0) (n0 := ρ 3) (n1 := ρ 2) (n2 := ρ 1) (n3 := ρ 0) (H0 := η 0) (H1 := η 1) f7 f6 f5 f4 f3 f2 f1 f0
theorem q_290v_2 {q0 : Nat} {n0 n1 n2 n3 : Int} {H0 H1 : gH} (f0 : n0 ≤ 1) (f1 : 0 ≤ n0) (f2 : n1 ≤ 2147483647) (f3 : (-2147483648) ≤ n1) (f4 : n2 = 285) (f5 : n3 = 285) (f6 : (hLe T0 H0 H1 ∧ hFr s_290v.2.2.2.2 H0 H1 ∧ hWt T0 H1) ∧ (Ab_290v_4 n3 n2 n1 n0 H0 H1 ∧ preb_290v n3 H0) ∧ some q0 = some (mub_290v_4 n3 n2 n1 n0 H0 H1)) (f7 : n0 ≠ 0) : preb_288 n2 H1 := by
  have g4 := f6.2.1.1
  unfold Ab_290v_4 at g4
  have g3 := f6.2.1.2
  unfold preb_290v at g3
  unfold preb_288
  have e1 : hV H1 285 18 = hV H0 285 18 := (f6.1.2.1.1 285 18 kF_290v_285_18)
  have e3 : hV H1 285 64 = hV H0 285 64 := (f6.1.2.1.1 285 64 kF_290v_285_64)
  have e4 : hV H1 296 = hV H0 296 := fRow f6.1.2.1 296 kR_290v_296
  have e5 : hV H1 298 = hV H0 298 := fRow f6.1.2.1 298 kR_290v_298
  have e6 : hV H1 300 = hV H0 300 := fRow f6.1.2.1 300 kR_290v_300
  have e7 : hV H1 301 = hV H0 301 := fRow f6.1.2.1 301 kR_290v_301
  have e8 : hV H1 303 = hV H0 303 := fRow f6.1.2.1 303 kR_290v_303
  have e9 : hV H1 328 = hV H0 328 := fRow f6.1.2.1 328 kR_290v_328
  have e10 : hV H1 330 = hV H0 330 := fRow f6.1.2.1 330 kR_290v_330
  have e11 : hV H1 331 = hV H0 331 := fRow f6.1.2.1 331 kR_290v_331
  have e12 : hV H1 332 = hV H0 332 := fRow f6.1.2.1 332 kR_290v_332
  have e13 : hV H1 341 = hV H0 341 := fRow f6.1.2.1 341 kR_290v_341
  have e14 : PG H1 = PG H0 := PG_fr f6.1.2.1 (by decide +kernel)
  have e15 : (0 : Int) ≤ hV H0 285 18 ∧ hV H0 285 18 ≤ 8 := bTo e1 (f6.1.2.2 285 18 _ _ kW_285_18)
  have e16 : (0 : Int) ≤ hV H0 285 64 ∧ hV H0 285 64 ≤ 20 := bTo e3 (f6.1.2.2 285 64 _ _ kW_285_64)
  have e17 : (0 : Int) ≤ hV H1 285 65 ∧ hV H1 285 65 ≤ 2147483647 := f6.1.2.2 285 65 _ _ kW_285_65
  try simp only [SO, SS, AC]
  try simp only [e1, e3, e4, e5, e6, e9, e10, e11, e12, e13, e14]
  have y0 := g4.1
  have y1 := g4.2.1
  have y2 := g4.2.2.1
  have y3 := g4.2.2.2.1
  have y4 := g4.2.2.2.2
  have p0 := g3.1
  have p1 := g3.2.1
  have p2 := g3.2.2.1
  have p3 := g3.2.2.2.1
  have p4 := g3.2.2.2.2
  try simp only [SO] at y0
  try simp only [SS] at y1
  try simp only [AC] at y2
  try simp only [SO] at p0
  try simp only [SS] at p1
  try simp only [AC] at p3
  try simp only [e1, e3, e9, e10, e11, e12] at y0
  try simp only [e13] at y1
  try simp only [e1, e3, e4, e5, e6, e9, e12] at y2
  try simp only [e3, e4, e5, e6, e7, e8, e9, e12, e13] at y3
  clear g3
  clear g4
  clear e1 e3 e4 e5 e6 e7 e8 e9 e10 e11 e12 e13 e14
  clear f6
  refine ⟨?_, ?_, ?_, ?_⟩ <;> first | assumption | omega | trivial
def g_290v_4_1 : vG := ([(31, [3], [], 0), (5000, [0, 1, 2, 3], [0, 1], 4), (0, [0], [], 285), (0, [1], [], 285), (90, [2], [], -2147483648), (91, [2], [], 2147483647), (90, [3], [], 0), (91, [3], [], 1)], (2288, [1], [1], 0))
theorem c_290v_4_1 {q0 : Nat} : vOkm T0 (eP e_290v L_290v A_290v mu_290v (some q0)) 1 g_290v_4_1 := vOk_inI fun ρ η f0 f1 f2 f3 f4 f5 f6 f7 => q_290v_2 (q0 := q0) (n0 := ρ 3) (n1 := ρ 2) (n2 := ρ 1) (n3 := ρ 0) (H0 := η 0) (H1 := η 1) f7 f6 f5 f4 f3 f2 f1 f0
theorem kR_288_329 : vFreeR s_288.2.2.2.2 329 = true := by decide +kernel
theorem q_290v_3 {q0 : Nat} {n0 n1 n2 n3 n4 n5 : Int} {H0 H1 H2 : gH} (f0 : n0 ≤ 1) (f1 : 0 ≤ n0) (f2 : n1 ≤ 2147483647) (f3 : (-2147483648) ≤ n1) (f4 : n2 = 285) (f5 : n3 = 285) (f6 : (hLe T0 H0 H1 ∧ hFr s_290v.2.2.2.2 H0 H1 ∧ hWt T0 H1) ∧ (Ab_290v_4 n3 n2 n1 n0 H0 H1 ∧ preb_290v n3 H0) ∧ some q0 = some (mub_290v_4 n3 n2 n1 n0 H0 H1)) (f7 : n0 ≠ 0) (f8 : (hLe T0 H1 H2 ∧ hFr s_288.2.2.2.2 H1 H2 ∧ ((0 : Int) = 0 → H2.length = H1.length) ∧ hWt T0 H2) ∧ postb_288 n2 H1 H2) (f9 : n4 = 0) (f10 : n5 = 0) : Ab_290v_16 n3 n2 n1 n4 n5 H0 H2 ∧ ∀ q, some q0 = some q → mub_290v_16 n3 n2 n1 n4 n5 H0 H2 < q := by
  have g4 := f6.2.1.1
  unfold Ab_290v_4 at g4
  have g3 := f6.2.1.2
  unfold preb_290v at g3
  have g5 := Option.some.inj f6.2.2
  unfold mub_290v_4 at g5
  unfold postb_288 at f8
  unfold Ab_290v_16
  unfold mub_290v_16
  have e1 : hV H1 285 18 = hV H0 285 18 := (f6.1.2.1.1 285 18 kF_290v_285_18)
  have e3 : hV H1 285 64 = hV H0 285 64 := (f6.1.2.1.1 285 64 kF_290v_285_64)
  have e4 : hV H1 296 = hV H0 296 := fRow f6.1.2.1 296 kR_290v_296
  have e5 : hV H1 298 = hV H0 298 := fRow f6.1.2.1 298 kR_290v_298
  have e6 : hV H1 300 = hV H0 300 := fRow f6.1.2.1 300 kR_290v_300
  have e7 : hV H1 301 = hV H0 301 := fRow f6.1.2.1 301 kR_290v_301
  have e8 : hV H1 303 = hV H0 303 := fRow f6.1.2.1 303 kR_290v_303
  have e9 : hV H1 328 = hV H0 328 := fRow f6.1.2.1 328 kR_290v_328
  have e10 : hV H1 330 = hV H0 330 := fRow f6.1.2.1 330 kR_290v_330
  have e11 : hV H1 331 = hV H0 331 := fRow f6.1.2.1 331 kR_290v_331
  have e12 : hV H1 332 = hV H0 332 := fRow f6.1.2.1 332 kR_290v_332
  have e13 : hV H1 341 = hV H0 341 := fRow f6.1.2.1 341 kR_290v_341
  have e15 : hV H2 285 18 = hV H0 285 18 := ((f8.1.2.1.1 285 18 kF_288_285_18)).trans (f6.1.2.1.1 285 18 kF_290v_285_18)
  have e17 : hV H2 285 64 = hV H0 285 64 := ((f8.1.2.1.1 285 64 kF_288_285_64)).trans (f6.1.2.1.1 285 64 kF_290v_285_64)
  have e19 : hV H2 285 65 = hV H1 285 65 := (f8.1.2.1.1 285 65 kF_288_285_65)
  have e21 : hV H2 296 = hV H0 296 := (fRow f8.1.2.1 296 kR_288_296).trans e4
  have e23 : hV H2 298 = hV H0 298 := (fRow f8.1.2.1 298 kR_288_298).trans e5
  have e25 : hV H2 300 = hV H0 300 := (fRow f8.1.2.1 300 kR_288_300).trans e6
  have e27 : hV H2 301 = hV H0 301 := (fRow f8.1.2.1 301 kR_288_301).trans e7
  have e29 : hV H2 303 = hV H0 303 := (fRow f8.1.2.1 303 kR_288_303).trans e8
  have e31 : hV H2 328 = hV H0 328 := (fRow f8.1.2.1 328 kR_288_328).trans e9
  have e32 : hV H2 329 = hV H1 329 := fRow f8.1.2.1 329 kR_288_329
  have e34 : hV H2 330 = hV H0 330 := (fRow f8.1.2.1 330 kR_288_330).trans e10
  have e36 : hV H2 331 = hV H0 331 := (fRow f8.1.2.1 331 kR_288_331).trans e11
  have e38 : hV H2 332 = hV H0 332 := (fRow f8.1.2.1 332 kR_288_332).trans e12
  have e39 : hV H2 333 = hV H1 333 := fRow f8.1.2.1 333 kR_288_333
  have e40 : hV H2 334 = hV H1 334 := fRow f8.1.2.1 334 kR_288_334
  have e41 : hV H2 335 = hV H1 335 := fRow f8.1.2.1 335 kR_288_335
  have e42 : hV H2 336 = hV H1 336 := fRow f8.1.2.1 336 kR_288_336
  have e44 : hV H2 341 = hV H0 341 := (fRow f8.1.2.1 341 kR_288_341).trans e13
  have e45 : (0 : Int) ≤ hV H0 285 18 ∧ hV H0 285 18 ≤ 8 := bTo e1 (f6.1.2.2 285 18 _ _ kW_285_18)
  have e46 : (0 : Int) ≤ hV H0 285 64 ∧ hV H0 285 64 ≤ 20 := bTo e3 (f6.1.2.2 285 64 _ _ kW_285_64)
  have e47 : (0 : Int) ≤ hV H1 285 65 ∧ hV H1 285 65 ≤ 2147483647 := f6.1.2.2 285 65 _ _ kW_285_65
  try simp only [SO, SS, AC]
  try simp only [e3, e4, e5, e6, e7, e8, e9, e12, e13] at g5
  try simp only [e15, e17, e19, e21, e23, e25, e27, e29, e31, e32, e34, e36, e38, e39, e40, e41, e42, e44]
  have y0 := g4.1
  have y1 := g4.2.1
  have y2 := g4.2.2.1
  have y3 := g4.2.2.2.1
  have y4 := g4.2.2.2.2
  have p0 := g3.1
  have p1 := g3.2.1
  have p2 := g3.2.2.1
  have p3 := g3.2.2.2.1
  have p4 := g3.2.2.2.2
  have r0_0 := f8.2
  try simp only [SO] at y0
  try simp only [SS] at y1
  try simp only [AC] at y2
  try simp only [SO] at p0
  try simp only [SS] at p1
  try simp only [AC] at p3
  try simp only [e1, e3, e9, e10, e11, e12] at y0
  try simp only [e13] at y1
  try simp only [e1, e3, e4, e5, e6, e9, e12] at y2
  try simp only [e3, e4, e5, e6, e7, e8, e9, e12, e13] at y3
  try simp only [e17, e21, e23, e25, e27, e29, e31, e38, e39, e41, e44] at r0_0
  clear g3
  clear g4
  clear e1 e3 e4 e5 e6 e7 e8 e9 e10 e11 e12 e13 e15 e17 e19 e21 e23 e25 e27 e29 e31 e32 e34 e36 e38 e39 e40 e41 e42 e44
  clear f6 f8

  refine ⟨?_, fun q hq => ?_⟩
  · exact ⟨y0, y1, y2, by omega, fun _ => r0_0, y4⟩
  · have g6 := Option.some.inj hq
    subst g6
    omega
def g_290v_4_2 : vG := ([(0, [5], [], 0), (0, [4], [], 0), (1288, [1], [1, 2], 0), (31, [3], [], 0), (5000, [0, 1, 2, 3], [0, 1], 4), (0, [0], [], 285), (0, [1], [], 285), (90, [2], [], -2147483648), (91, [2], [], 2147483647), (90, [3], [], 0), (91, [3], [], 1)], (4000, [1, 2, 4, 5], [2], 16))
theorem c_290v_4_2 {q0 : Nat} : vOkm T0 (eP e_290v L_290v A_290v mu_290v (some q0)) 1 g_290v_4_2 := vOk_inI fun ρ η f0 f1 f2 f3 f4 f5 f6 f7 f8 f9 f10 => q_290v_3 (q0 := q0) (n0 := ρ 3) (n1 := ρ 2) (n2 := ρ 1) (n3 := ρ 0) (n4 := ρ 4) (n5 := ρ 5) (H0 := η 0) (H1 := η 1) (H2 := η 2) f10 f9 f8 f7 f6 f5 f4 f3 f2 f1 f0
def p_290v_4 : List vG := [g_290v_4_0,
  g_290v_4_1,
  g_290v_4_2]
theorem r_290v_4 : vCovO false (eRc e_290v L_290v cs_290v 2000 (4, [(0, (3, 12, 285, 0)), (1, (0, -2147483648, 2147483647, 0)), (2, (0, 0, 1, 0))])) p_290v_4 = true := by decide +kernel
theorem q_290v_4 {q0 : Nat} {n0 n1 n2 n3 n4 n5 : Int} {H0 H1 : gH} (f0 : n0 ≤ 20) (f1 : 0 ≤ n0) (f2 : n1 ≤ 1) (f3 : 0 ≤ n1) (f4 : n2 ≤ 2147483647) (f5 : (-2147483648) ≤ n2) (f6 : n3 = 285) (f7 : n4 = 285) (f8 : (hLe T0 H0 H1 ∧ hFr s_290v.2.2.2.2 H0 H1 ∧ hWt T0 H1) ∧ (Ab_290v_16 n4 n3 n2 n1 n0 H0 H1 ∧ preb_290v n4 H0) ∧ some q0 = some (mub_290v_16 n4 n3 n2 n1 n0 H0 H1)) (f9 : n5 ≤ 20) (f10 : 0 ≤ n5) (f11 : n5 = hV H1 (n3).toNat 64) (f12 : n5 ≤ n0) : Ab_290v_4 n4 n3 n2 n1 H0 H1 ∧ ∀ q, some q0 = some q → mub_290v_4 n4 n3 n2 n1 H0 H1 < q := by
  have g4 := f8.2.1.1
  unfold Ab_290v_16 at g4
  have g3 := f8.2.1.2
  unfold preb_290v at g3
  have g5 := Option.some.inj f8.2.2
  unfold mub_290v_16 at g5
  unfold Ab_290v_4
  unfold mub_290v_4
  have e1 : n5 = hV H0 285 64 := (by rw [f6] at f11; exact f11 : n5 = hV H1 285 64).trans ((f8.1.2.1.1 285 64 kF_290v_285_64))
  have e3 : hV H1 285 18 = hV H0 285 18 := (f8.1.2.1.1 285 18 kF_290v_285_18)
  have e4 : hV H1 285 64 = hV H0 285 64 := (f8.1.2.1.1 285 64 kF_290v_285_64)
  have e5 : hV H1 296 = hV H0 296 := fRow f8.1.2.1 296 kR_290v_296
  have e6 : hV H1 298 = hV H0 298 := fRow f8.1.2.1 298 kR_290v_298
  have e7 : hV H1 300 = hV H0 300 := fRow f8.1.2.1 300 kR_290v_300
  have e8 : hV H1 301 = hV H0 301 := fRow f8.1.2.1 301 kR_290v_301
  have e9 : hV H1 303 = hV H0 303 := fRow f8.1.2.1 303 kR_290v_303
  have e10 : hV H1 328 = hV H0 328 := fRow f8.1.2.1 328 kR_290v_328
  have e11 : hV H1 330 = hV H0 330 := fRow f8.1.2.1 330 kR_290v_330
  have e12 : hV H1 331 = hV H0 331 := fRow f8.1.2.1 331 kR_290v_331
  have e13 : hV H1 332 = hV H0 332 := fRow f8.1.2.1 332 kR_290v_332
  have e14 : hV H1 341 = hV H0 341 := fRow f8.1.2.1 341 kR_290v_341
  have e15 : (0 : Int) ≤ hV H0 285 18 ∧ hV H0 285 18 ≤ 8 := bTo e3 (f8.1.2.2 285 18 _ _ kW_285_18)
  have e16 : (0 : Int) ≤ hV H0 285 64 ∧ hV H0 285 64 ≤ 20 := bTo e4 (f8.1.2.2 285 64 _ _ kW_285_64)
  have e17 : (0 : Int) ≤ hV H1 285 65 ∧ hV H1 285 65 ≤ 2147483647 := f8.1.2.2 285 65 _ _ kW_285_65
  try simp only [SO, SS, AC]
  try simp only [e4, e5, e6, e7, e8, e9, e10, e13, e14] at g5
  try simp only [e3, e4, e5, e6, e7, e8, e9, e10, e11, e12, e13, e14]
  have y0 := g4.1
  have y1 := g4.2.1
  have y2 := g4.2.2.1
  have y3 := g4.2.2.2.1
  have y4 := g4.2.2.2.2.1
  have y5 := g4.2.2.2.2.2
  have p0 := g3.1
  have p1 := g3.2.1
  have p2 := g3.2.2.1
  have p3 := g3.2.2.2.1
  have p4 := g3.2.2.2.2
  try simp only [SO] at y0
  try simp only [SS] at y1
  try simp only [AC] at y2
  try simp only [SO] at p0
  try simp only [SS] at p1
  try simp only [AC] at p3
  try simp only [e3, e4, e10, e11, e12, e13] at y0
  try simp only [e14] at y1
  try simp only [e3, e4, e5, e6, e7, e10, e13] at y2
  try simp only [e4, e5, e6, e7, e8, e9, e10, e13, e14] at y3
  try simp only [e4, e5, e6, e7, e8, e9, e10, e13, e14] at y4
  clear g3
  clear g4
  clear f11 e3 e4 e5 e6 e7 e8 e9 e10 e11 e12 e13 e14
  clear f8
  subst e1
  try have sm := SL_made ((y4 (by omega) (n0).toNat (by omega)).mp (by omega)) NX_made
  try have so := (y0 (n0).toNat (by omega)).2.2.2 (by omega)

  refine ⟨?_, fun q hq => ?_⟩
  · exact ⟨y0, y1, y2, by omega, y5⟩
  · have g6 := Option.some.inj hq
    subst g6
    omega
def g_290v_16_0 : vG := ([(43, [4, 5], [], 0), (20, [5, 1], [1], 64), (90, [5], [], 0), (91, [5], [], 20), (5000, [0, 1, 2, 3, 4], [0, 1], 16), (0, [0], [], 285), (0, [1], [], 285), (90, [2], [], -2147483648), (91, [2], [], 2147483647), (90, [3], [], 0), (91, [3], [], 1), (90, [4], [], 0), (91, [4], [], 20)], (4000, [1, 2, 3], [1], 4))
theorem c_290v_16_0 {q0 : Nat} : vOkm T0 (eP e_290v L_290v A_290v mu_290v (some q0)) 1 g_290v_16_0 := vOk_inI fun ρ η f0 f1 f2 f3 f4 f5 f6 f7 f8 f9 f10 f11 f12 => q_290v_4 (q0 := q0) (n0 := ρ 4) (n1 := ρ 3) (n2 := ρ 2) (n3 := ρ 1) (n4 := ρ 0) (n5 := ρ 5) (H0 := η 0) (H1 := η 1) f12 f11 f10 f9 f8 f7 f6 f5 f4 f3 f2 f1 f0
theorem q_290v_5 {q0 : Nat} {n0 n1 n2 n3 n4 n5 : Int} {H0 H1 : gH} (f0 : n0 ≤ 20) (f1 : 0 ≤ n0) (f2 : n1 ≤ 1) (f3 : 0 ≤ n1) (f4 : n2 ≤ 2147483647) (f5 : (-2147483648) ≤ n2) (f6 : n3 = 285) (f7 : n4 = 285) (f8 : (hLe T0 H0 H1 ∧ hFr s_290v.2.2.2.2 H0 H1 ∧ hWt T0 H1) ∧ (Ab_290v_16 n4 n3 n2 n1 n0 H0 H1 ∧ preb_290v n4 H0) ∧ some q0 = some (mub_290v_16 n4 n3 n2 n1 n0 H0 H1)) (f9 : n5 ≤ 20) (f10 : 0 ≤ n5) (f11 : n5 = hV H1 (n3).toNat 64) (f12 : n0 < n5) (f13 : n1 ≠ 0) : Ab_290v_4 n4 n3 n2 n1 H0 H1 ∧ ∀ q, some q0 = some q → mub_290v_4 n4 n3 n2 n1 H0 H1 < q := by
  have g4 := f8.2.1.1
  unfold Ab_290v_16 at g4
  have g3 := f8.2.1.2
  unfold preb_290v at g3
  have g5 := Option.some.inj f8.2.2
  unfold mub_290v_16 at g5
  unfold Ab_290v_4
  unfold mub_290v_4
  have e1 : n5 = hV H0 285 64 := (by rw [f6] at f11; exact f11 : n5 = hV H1 285 64).trans ((f8.1.2.1.1 285 64 kF_290v_285_64))
  have e3 : hV H1 285 18 = hV H0 285 18 := (f8.1.2.1.1 285 18 kF_290v_285_18)
  have e4 : hV H1 285 64 = hV H0 285 64 := (f8.1.2.1.1 285 64 kF_290v_285_64)
  have e5 : hV H1 296 = hV H0 296 := fRow f8.1.2.1 296 kR_290v_296
  have e6 : hV H1 298 = hV H0 298 := fRow f8.1.2.1 298 kR_290v_298
  have e7 : hV H1 300 = hV H0 300 := fRow f8.1.2.1 300 kR_290v_300
  have e8 : hV H1 301 = hV H0 301 := fRow f8.1.2.1 301 kR_290v_301
  have e9 : hV H1 303 = hV H0 303 := fRow f8.1.2.1 303 kR_290v_303
  have e10 : hV H1 328 = hV H0 328 := fRow f8.1.2.1 328 kR_290v_328
  have e11 : hV H1 330 = hV H0 330 := fRow f8.1.2.1 330 kR_290v_330
  have e12 : hV H1 331 = hV H0 331 := fRow f8.1.2.1 331 kR_290v_331
  have e13 : hV H1 332 = hV H0 332 := fRow f8.1.2.1 332 kR_290v_332
  have e14 : hV H1 341 = hV H0 341 := fRow f8.1.2.1 341 kR_290v_341
  have e15 : (0 : Int) ≤ hV H0 285 18 ∧ hV H0 285 18 ≤ 8 := bTo e3 (f8.1.2.2 285 18 _ _ kW_285_18)
  have e16 : (0 : Int) ≤ hV H0 285 64 ∧ hV H0 285 64 ≤ 20 := bTo e4 (f8.1.2.2 285 64 _ _ kW_285_64)
  have e17 : (0 : Int) ≤ hV H1 285 65 ∧ hV H1 285 65 ≤ 2147483647 := f8.1.2.2 285 65 _ _ kW_285_65
  try simp only [SO, SS, AC]
  try simp only [e4, e5, e6, e7, e8, e9, e10, e13, e14] at g5
  try simp only [e3, e4, e5, e6, e7, e8, e9, e10, e11, e12, e13, e14]
  have y0 := g4.1
  have y1 := g4.2.1
  have y2 := g4.2.2.1
  have y3 := g4.2.2.2.1
  have y4 := g4.2.2.2.2.1
  have y5 := g4.2.2.2.2.2
  have p0 := g3.1
  have p1 := g3.2.1
  have p2 := g3.2.2.1
  have p3 := g3.2.2.2.1
  have p4 := g3.2.2.2.2
  try simp only [SO] at y0
  try simp only [SS] at y1
  try simp only [AC] at y2
  try simp only [SO] at p0
  try simp only [SS] at p1
  try simp only [AC] at p3
  try simp only [e3, e4, e10, e11, e12, e13] at y0
  try simp only [e14] at y1
  try simp only [e3, e4, e5, e6, e7, e10, e13] at y2
  try simp only [e4, e5, e6, e7, e8, e9, e10, e13, e14] at y3
  try simp only [e4, e5, e6, e7, e8, e9, e10, e13, e14] at y4
  clear g3
  clear g4
  clear f11 e3 e4 e5 e6 e7 e8 e9 e10 e11 e12 e13 e14
  clear f8
  subst e1
  try have sm := SL_made ((y4 (by omega) (n0).toNat (by omega)).mp (by omega)) NX_made
  try have so := (y0 (n0).toNat (by omega)).2.2.2 (by omega)

  refine ⟨?_, fun q hq => ?_⟩
  · exact ⟨y0, y1, y2, by omega, y5⟩
  · have g6 := Option.some.inj hq
    subst g6
    omega
def g_290v_16_1 : vG := ([(31, [3], [], 0), (42, [4, 5], [], 0), (20, [5, 1], [1], 64), (90, [5], [], 0), (91, [5], [], 20), (5000, [0, 1, 2, 3, 4], [0, 1], 16), (0, [0], [], 285), (0, [1], [], 285), (90, [2], [], -2147483648), (91, [2], [], 2147483647), (90, [3], [], 0), (91, [3], [], 1), (90, [4], [], 0), (91, [4], [], 20)], (4000, [1, 2, 3], [1], 4))
theorem c_290v_16_1 {q0 : Nat} : vOkm T0 (eP e_290v L_290v A_290v mu_290v (some q0)) 1 g_290v_16_1 := vOk_inI fun ρ η f0 f1 f2 f3 f4 f5 f6 f7 f8 f9 f10 f11 f12 f13 => q_290v_5 (q0 := q0) (n0 := ρ 4) (n1 := ρ 3) (n2 := ρ 2) (n3 := ρ 1) (n4 := ρ 0) (n5 := ρ 5) (H0 := η 0) (H1 := η 1) f13 f12 f11 f10 f9 f8 f7 f6 f5 f4 f3 f2 f1 f0
theorem q_290v_6 {q0 : Nat} {n0 n1 n2 n3 n4 n5 : Int} {H0 H1 : gH} (f0 : n0 ≤ 20) (f1 : 0 ≤ n0) (f2 : n1 ≤ 1) (f3 : 0 ≤ n1) (f4 : n2 ≤ 2147483647) (f5 : (-2147483648) ≤ n2) (f6 : n3 = 285) (f7 : n4 = 285) (f8 : (hLe T0 H0 H1 ∧ hFr s_290v.2.2.2.2 H0 H1 ∧ hWt T0 H1) ∧ (Ab_290v_16 n4 n3 n2 n1 n0 H0 H1 ∧ preb_290v n4 H0) ∧ some q0 = some (mub_290v_16 n4 n3 n2 n1 n0 H0 H1)) (f9 : n5 ≤ 20) (f10 : 0 ≤ n5) (f11 : n5 = hV H1 (n3).toNat 64) (f12 : n0 < n5) (f13 : n1 = 0) : 0 ≤ n0 ∧ n0 < 20 := by
  have g4 := f8.2.1.1
  unfold Ab_290v_16 at g4
  have g3 := f8.2.1.2
  unfold preb_290v at g3
  have e1 : n5 = hV H0 285 64 := (by rw [f6] at f11; exact f11 : n5 = hV H1 285 64).trans ((f8.1.2.1.1 285 64 kF_290v_285_64))
  have e3 : hV H1 285 18 = hV H0 285 18 := (f8.1.2.1.1 285 18 kF_290v_285_18)
  have e4 : hV H1 285 64 = hV H0 285 64 := (f8.1.2.1.1 285 64 kF_290v_285_64)
  have e5 : hV H1 296 = hV H0 296 := fRow f8.1.2.1 296 kR_290v_296
  have e6 : hV H1 298 = hV H0 298 := fRow f8.1.2.1 298 kR_290v_298
  have e7 : hV H1 300 = hV H0 300 := fRow f8.1.2.1 300 kR_290v_300
  have e8 : hV H1 301 = hV H0 301 := fRow f8.1.2.1 301 kR_290v_301
  have e9 : hV H1 303 = hV H0 303 := fRow f8.1.2.1 303 kR_290v_303
  have e10 : hV H1 328 = hV H0 328 := fRow f8.1.2.1 328 kR_290v_328
  have e11 : hV H1 330 = hV H0 330 := fRow f8.1.2.1 330 kR_290v_330
  have e12 : hV H1 331 = hV H0 331 := fRow f8.1.2.1 331 kR_290v_331
  have e13 : hV H1 332 = hV H0 332 := fRow f8.1.2.1 332 kR_290v_332
  have e14 : hV H1 341 = hV H0 341 := fRow f8.1.2.1 341 kR_290v_341
  have e15 : (0 : Int) ≤ hV H0 285 18 ∧ hV H0 285 18 ≤ 8 := bTo e3 (f8.1.2.2 285 18 _ _ kW_285_18)
  have e16 : (0 : Int) ≤ hV H0 285 64 ∧ hV H0 285 64 ≤ 20 := bTo e4 (f8.1.2.2 285 64 _ _ kW_285_64)
  have e17 : (0 : Int) ≤ hV H1 285 65 ∧ hV H1 285 65 ≤ 2147483647 := f8.1.2.2 285 65 _ _ kW_285_65
  try simp only [SO, SS, AC]
  have y0 := g4.1
  have y1 := g4.2.1
  have y2 := g4.2.2.1
  have y3 := g4.2.2.2.1
  have y4 := g4.2.2.2.2.1
  have y5 := g4.2.2.2.2.2
  have p0 := g3.1
  have p1 := g3.2.1
  have p2 := g3.2.2.1
  have p3 := g3.2.2.2.1
  have p4 := g3.2.2.2.2
  try simp only [SO] at y0
  try simp only [SS] at y1
  try simp only [AC] at y2
  try simp only [SO] at p0
  try simp only [SS] at p1
  try simp only [AC] at p3
  try simp only [e3, e4, e10, e11, e12, e13] at y0
  try simp only [e14] at y1
  try simp only [e3, e4, e5, e6, e7, e10, e13] at y2
  try simp only [e4, e5, e6, e7, e8, e9, e10, e13, e14] at y3
  try simp only [e4, e5, e6, e7, e8, e9, e10, e13, e14] at y4
  clear g3
  clear g4
  clear f11 e3 e4 e5 e6 e7 e8 e9 e10 e11 e12 e13 e14
  clear f8
  subst e1
  try have sm := SL_made ((y4 (by omega) (n0).toNat (by omega)).mp (by omega)) NX_made
  try have so := (y0 (n0).toNat (by omega)).2.2.2 (by omega)
  omega
def g_290v_16_2 : vG := ([(30, [3], [], 0), (42, [4, 5], [], 0), (20, [5, 1], [1], 64), (90, [5], [], 0), (91, [5], [], 20), (5000, [0, 1, 2, 3, 4], [0, 1], 16), (0, [0], [], 285), (0, [1], [], 285), (90, [2], [], -2147483648), (91, [2], [], 2147483647), (90, [3], [], 0), (91, [3], [], 1), (90, [4], [], 0), (91, [4], [], 20)], (70, [4], [], 20))
theorem c_290v_16_2 {q0 : Nat} : vOkm T0 (eP e_290v L_290v A_290v mu_290v (some q0)) 1 g_290v_16_2 := vOk_inI fun ρ η f0 f1 f2 f3 f4 f5 f6 f7 f8 f9 f10 f11 f12 f13 => q_290v_6 (q0 := q0) (n0 := ρ 4) (n1 := ρ 3) (n2 := ρ 2) (n3 := ρ 1) (n4 := ρ 0) (n5 := ρ 5) (H0 := η 0) (H1 := η 1) f13 f12 f11 f10 f9 f8 f7 f6 f5 f4 f3 f2 f1 f0
theorem q_290v_7 {q0 : Nat} {n0 n1 n2 n3 n4 n5 n6 n7 n8 : Int} {H0 H1 : gH} (f0 : n0 ≤ 20) (f1 : 0 ≤ n0) (f2 : n1 ≤ 1) (f3 : 0 ≤ n1) (f4 : n2 ≤ 2147483647) (f5 : (-2147483648) ≤ n2) (f6 : n3 = 285) (f7 : n4 = 285) (f8 : (hLe T0 H0 H1 ∧ hFr s_290v.2.2.2.2 H0 H1 ∧ hWt T0 H1) ∧ (Ab_290v_16 n4 n3 n2 n1 n0 H0 H1 ∧ preb_290v n4 H0) ∧ some q0 = some (mub_290v_16 n4 n3 n2 n1 n0 H0 H1)) (f9 : n5 ≤ 20) (f10 : 0 ≤ n5) (f11 : n5 = hV H1 (n3).toNat 64) (f12 : n0 < n5) (f13 : n1 = 0) (f14 : n6 = 354) (f15 : n6 = hV H1 (n3).toNat 96) (f16 : n7 ≤ 1) (f17 : 0 ≤ n7) (f18 : n7 = hV H1 (n6).toNat (n0).toNat) (f19 : n7 = 0) (f20 : n8 = w32 (n0 + 1)) : 0 ≤ n8 := by
  have g4 := f8.2.1.1
  unfold Ab_290v_16 at g4
  have g3 := f8.2.1.2
  unfold preb_290v at g3
  have e1 : n5 = hV H0 285 64 := (by rw [f6] at f11; exact f11 : n5 = hV H1 285 64).trans ((f8.1.2.1.1 285 64 kF_290v_285_64))
  have e2 : n7 = hV H1 354 (n0).toNat := (by rw [f14] at f18; exact f18 : n7 = hV H1 354 (n0).toNat)
  have e4 : hV H1 285 18 = hV H0 285 18 := (f8.1.2.1.1 285 18 kF_290v_285_18)
  have e5 : hV H1 285 64 = hV H0 285 64 := (f8.1.2.1.1 285 64 kF_290v_285_64)
  have e6 : hV H1 296 = hV H0 296 := fRow f8.1.2.1 296 kR_290v_296
  have e7 : hV H1 298 = hV H0 298 := fRow f8.1.2.1 298 kR_290v_298
  have e8 : hV H1 300 = hV H0 300 := fRow f8.1.2.1 300 kR_290v_300
  have e9 : hV H1 301 = hV H0 301 := fRow f8.1.2.1 301 kR_290v_301
  have e10 : hV H1 303 = hV H0 303 := fRow f8.1.2.1 303 kR_290v_303
  have e11 : hV H1 328 = hV H0 328 := fRow f8.1.2.1 328 kR_290v_328
  have e12 : hV H1 330 = hV H0 330 := fRow f8.1.2.1 330 kR_290v_330
  have e13 : hV H1 331 = hV H0 331 := fRow f8.1.2.1 331 kR_290v_331
  have e14 : hV H1 332 = hV H0 332 := fRow f8.1.2.1 332 kR_290v_332
  have e15 : hV H1 341 = hV H0 341 := fRow f8.1.2.1 341 kR_290v_341
  have e16 : (0 : Int) ≤ hV H0 285 18 ∧ hV H0 285 18 ≤ 8 := bTo e4 (f8.1.2.2 285 18 _ _ kW_285_18)
  have e17 : (0 : Int) ≤ hV H0 285 64 ∧ hV H0 285 64 ≤ 20 := bTo e5 (f8.1.2.2 285 64 _ _ kW_285_64)
  have e18 : (0 : Int) ≤ hV H1 285 65 ∧ hV H1 285 65 ≤ 2147483647 := f8.1.2.2 285 65 _ _ kW_285_65
  try simp only [SO, SS, AC]
  have y0 := g4.1
  have y1 := g4.2.1
  have y2 := g4.2.2.1
  have y3 := g4.2.2.2.1
  have y4 := g4.2.2.2.2.1
  have y5 := g4.2.2.2.2.2
  have p0 := g3.1
  have p1 := g3.2.1
  have p2 := g3.2.2.1
  have p3 := g3.2.2.2.1
  have p4 := g3.2.2.2.2
  try simp only [SO] at y0
  try simp only [SS] at y1
  try simp only [AC] at y2
  try simp only [SO] at p0
  try simp only [SS] at p1
  try simp only [AC] at p3
  try simp only [e4, e5, e11, e12, e13, e14] at y0
  try simp only [e15] at y1
  try simp only [e4, e5, e6, e7, e8, e11, e14] at y2
  try simp only [e5, e6, e7, e8, e9, e10, e11, e14, e15] at y3
  try simp only [e5, e6, e7, e8, e9, e10, e11, e14, e15] at y4
  clear g3
  clear g4
  clear f11 f15 f18 e4 e5 e6 e7 e8 e9 e10 e11 e12 e13 e14 e15
  clear f8
  subst e1
  subst e2
  try have sm := SL_made ((y4 (by omega) (n0).toNat (by omega)).mp (by omega)) NX_made
  try have so := (y0 (n0).toNat (by omega)).2.2.2 (by omega)
  first
  | (have ix0 : n8 = n0 + 1 := Eq.trans f20 (w32_iv (Iad (Iat f1 f0) (IC 1)) (by decide)); subst ix0; clear f20)
  | (have ix0 : n8 = n0 + 1 := Eq.trans f20 (w32_id (by omega) (by omega)); subst ix0; clear f20)
  | (unfold w32 at f20; have ix0 : n8 = n0 + 1 := (by omega); subst ix0)
  | skip
  try unfold w32 at f20
  omega
def g_290v_16_3 : vG := ([(10, [8, 4], [], 1), (30, [7], [], 0), (22, [7, 6, 4], [1], 0), (90, [7], [], 0), (91, [7], [], 1), (20, [6, 1], [1], 96), (0, [6], [], 354), (30, [3], [], 0), (42, [4, 5], [], 0), (20, [5, 1], [1], 64), (90, [5], [], 0), (91, [5], [], 20), (5000, [0, 1, 2, 3, 4], [0, 1], 16), (0, [0], [], 285), (0, [1], [], 285), (90, [2], [], -2147483648), (91, [2], [], 2147483647), (90, [3], [], 0), (91, [3], [], 1), (90, [4], [], 0), (91, [4], [], 20)], (90, [8], [], 0))
theorem c_290v_16_3 {q0 : Nat} : vOkm T0 (eP e_290v L_290v A_290v mu_290v (some q0)) 1 g_290v_16_3 := vOk_inI fun ρ η f0 f1 f2 f3 f4 f5 f6 f7 f8 f9 f10 f11 f12 f13 f14 f15 f16 f17 f18 f19 f20 => q_290v_7 (q0 := q0) (n0 := ρ 4) (n1 := ρ 3) (n2 := ρ 2) (n3 := ρ 1) (n4 := ρ 0) (n5 := ρ 5) (n6 := ρ 6) (n7 := ρ 7) (n8 := ρ 8) (H0 := η 0) (H1 := η 1) f20 f19 f18 f17 f16 f15 f14 f13 f12 f11 f10 f9 f8 f7 f6 f5 f4 f3 f2 f1 f0
theorem q_290v_8 {q0 : Nat} {n0 n1 n2 n3 n4 n5 n6 n7 n8 : Int} {H0 H1 : gH} (f0 : n0 ≤ 20) (f1 : 0 ≤ n0) (f2 : n1 ≤ 1) (f3 : 0 ≤ n1) (f4 : n2 ≤ 2147483647) (f5 : (-2147483648) ≤ n2) (f6 : n3 = 285) (f7 : n4 = 285) (f8 : (hLe T0 H0 H1 ∧ hFr s_290v.2.2.2.2 H0 H1 ∧ hWt T0 H1) ∧ (Ab_290v_16 n4 n3 n2 n1 n0 H0 H1 ∧ preb_290v n4 H0) ∧ some q0 = some (mub_290v_16 n4 n3 n2 n1 n0 H0 H1)) (f9 : n5 ≤ 20) (f10 : 0 ≤ n5) (f11 : n5 = hV H1 (n3).toNat 64) (f12 : n0 < n5) (f13 : n1 = 0) (f14 : n6 = 354) (f15 : n6 = hV H1 (n3).toNat 96) (f16 : n7 ≤ 1) (f17 : 0 ≤ n7) (f18 : n7 = hV H1 (n6).toNat (n0).toNat) (f19 : n7 = 0) (f20 : n8 = w32 (n0 + 1)) : n8 ≤ 20 := by
  have g4 := f8.2.1.1
  unfold Ab_290v_16 at g4
  have g3 := f8.2.1.2
  unfold preb_290v at g3
  have e1 : n5 = hV H0 285 64 := (by rw [f6] at f11; exact f11 : n5 = hV H1 285 64).trans ((f8.1.2.1.1 285 64 kF_290v_285_64))
  have e2 : n7 = hV H1 354 (n0).toNat := (by rw [f14] at f18; exact f18 : n7 = hV H1 354 (n0).toNat)
  have e4 : hV H1 285 18 = hV H0 285 18 := (f8.1.2.1.1 285 18 kF_290v_285_18)
  have e5 : hV H1 285 64 = hV H0 285 64 := (f8.1.2.1.1 285 64 kF_290v_285_64)
  have e6 : hV H1 296 = hV H0 296 := fRow f8.1.2.1 296 kR_290v_296
  have e7 : hV H1 298 = hV H0 298 := fRow f8.1.2.1 298 kR_290v_298
  have e8 : hV H1 300 = hV H0 300 := fRow f8.1.2.1 300 kR_290v_300
  have e9 : hV H1 301 = hV H0 301 := fRow f8.1.2.1 301 kR_290v_301
  have e10 : hV H1 303 = hV H0 303 := fRow f8.1.2.1 303 kR_290v_303
  have e11 : hV H1 328 = hV H0 328 := fRow f8.1.2.1 328 kR_290v_328
  have e12 : hV H1 330 = hV H0 330 := fRow f8.1.2.1 330 kR_290v_330
  have e13 : hV H1 331 = hV H0 331 := fRow f8.1.2.1 331 kR_290v_331
  have e14 : hV H1 332 = hV H0 332 := fRow f8.1.2.1 332 kR_290v_332
  have e15 : hV H1 341 = hV H0 341 := fRow f8.1.2.1 341 kR_290v_341
  have e16 : (0 : Int) ≤ hV H0 285 18 ∧ hV H0 285 18 ≤ 8 := bTo e4 (f8.1.2.2 285 18 _ _ kW_285_18)
  have e17 : (0 : Int) ≤ hV H0 285 64 ∧ hV H0 285 64 ≤ 20 := bTo e5 (f8.1.2.2 285 64 _ _ kW_285_64)
  have e18 : (0 : Int) ≤ hV H1 285 65 ∧ hV H1 285 65 ≤ 2147483647 := f8.1.2.2 285 65 _ _ kW_285_65
  try simp only [SO, SS, AC]
  have y0 := g4.1
  have y1 := g4.2.1
  have y2 := g4.2.2.1
  have y3 := g4.2.2.2.1
  have y4 := g4.2.2.2.2.1
  have y5 := g4.2.2.2.2.2
  have p0 := g3.1
  have p1 := g3.2.1
  have p2 := g3.2.2.1
  have p3 := g3.2.2.2.1
  have p4 := g3.2.2.2.2
  try simp only [SO] at y0
  try simp only [SS] at y1
  try simp only [AC] at y2
  try simp only [SO] at p0
  try simp only [SS] at p1
  try simp only [AC] at p3
  try simp only [e4, e5, e11, e12, e13, e14] at y0
  try simp only [e15] at y1
  try simp only [e4, e5, e6, e7, e8, e11, e14] at y2
  try simp only [e5, e6, e7, e8, e9, e10, e11, e14, e15] at y3
  try simp only [e5, e6, e7, e8, e9, e10, e11, e14, e15] at y4
  clear g3
  clear g4
  clear f11 f15 f18 e4 e5 e6 e7 e8 e9 e10 e11 e12 e13 e14 e15
  clear f8
  subst e1
  subst e2
  try have sm := SL_made ((y4 (by omega) (n0).toNat (by omega)).mp (by omega)) NX_made
  try have so := (y0 (n0).toNat (by omega)).2.2.2 (by omega)
  first
  | (have ix0 : n8 = n0 + 1 := Eq.trans f20 (w32_iv (Iad (Iat f1 f0) (IC 1)) (by decide)); subst ix0; clear f20)
  | (have ix0 : n8 = n0 + 1 := Eq.trans f20 (w32_id (by omega) (by omega)); subst ix0; clear f20)
  | (unfold w32 at f20; have ix0 : n8 = n0 + 1 := (by omega); subst ix0)
  | skip
  try unfold w32 at f20
  omega
def g_290v_16_4 : vG := ([(10, [8, 4], [], 1), (30, [7], [], 0), (22, [7, 6, 4], [1], 0), (90, [7], [], 0), (91, [7], [], 1), (20, [6, 1], [1], 96), (0, [6], [], 354), (30, [3], [], 0), (42, [4, 5], [], 0), (20, [5, 1], [1], 64), (90, [5], [], 0), (91, [5], [], 20), (5000, [0, 1, 2, 3, 4], [0, 1], 16), (0, [0], [], 285), (0, [1], [], 285), (90, [2], [], -2147483648), (91, [2], [], 2147483647), (90, [3], [], 0), (91, [3], [], 1), (90, [4], [], 0), (91, [4], [], 20)], (91, [8], [], 20))
theorem c_290v_16_4 {q0 : Nat} : vOkm T0 (eP e_290v L_290v A_290v mu_290v (some q0)) 1 g_290v_16_4 := vOk_inI fun ρ η f0 f1 f2 f3 f4 f5 f6 f7 f8 f9 f10 f11 f12 f13 f14 f15 f16 f17 f18 f19 f20 => q_290v_8 (q0 := q0) (n0 := ρ 4) (n1 := ρ 3) (n2 := ρ 2) (n3 := ρ 1) (n4 := ρ 0) (n5 := ρ 5) (n6 := ρ 6) (n7 := ρ 7) (n8 := ρ 8) (H0 := η 0) (H1 := η 1) f20 f19 f18 f17 f16 f15 f14 f13 f12 f11 f10 f9 f8 f7 f6 f5 f4 f3 f2 f1 f0
theorem q_290v_9 {q0 : Nat} {n0 n1 n2 n3 n4 n5 n6 n7 n8 : Int} {H0 H1 : gH} (f0 : n0 ≤ 20) (f1 : 0 ≤ n0) (f2 : n1 ≤ 1) (f3 : 0 ≤ n1) (f4 : n2 ≤ 2147483647) (f5 : (-2147483648) ≤ n2) (f6 : n3 = 285) (f7 : n4 = 285) (f8 : (hLe T0 H0 H1 ∧ hFr s_290v.2.2.2.2 H0 H1 ∧ hWt T0 H1) ∧ (Ab_290v_16 n4 n3 n2 n1 n0 H0 H1 ∧ preb_290v n4 H0) ∧ some q0 = some (mub_290v_16 n4 n3 n2 n1 n0 H0 H1)) (f9 : n5 ≤ 20) (f10 : 0 ≤ n5) (f11 : n5 = hV H1 (n3).toNat 64) (f12 : n0 < n5) (f13 : n1 = 0) (f14 : n6 = 354) (f15 : n6 = hV H1 (n3).toNat 96) (f16 : n7 ≤ 1) (f17 : 0 ≤ n7) (f18 : n7 = hV H1 (n6).toNat (n0).toNat) (f19 : n7 = 0) (f20 : n8 = w32 (n0 + 1)) : Ab_290v_16 n4 n3 n2 n1 n8 H0 H1 ∧ ∀ q, some q0 = some q → mub_290v_16 n4 n3 n2 n1 n8 H0 H1 < q := by
  have g4 := f8.2.1.1
  unfold Ab_290v_16 at g4
  have g3 := f8.2.1.2
  unfold preb_290v at g3
  have g5 := Option.some.inj f8.2.2
  unfold mub_290v_16 at g5
  unfold Ab_290v_16
  unfold mub_290v_16
  have e1 : n5 = hV H0 285 64 := (by rw [f6] at f11; exact f11 : n5 = hV H1 285 64).trans ((f8.1.2.1.1 285 64 kF_290v_285_64))
  have e2 : n7 = hV H1 354 (n0).toNat := (by rw [f14] at f18; exact f18 : n7 = hV H1 354 (n0).toNat)
  have e4 : hV H1 285 18 = hV H0 285 18 := (f8.1.2.1.1 285 18 kF_290v_285_18)
  have e5 : hV H1 285 64 = hV H0 285 64 := (f8.1.2.1.1 285 64 kF_290v_285_64)
  have e6 : hV H1 296 = hV H0 296 := fRow f8.1.2.1 296 kR_290v_296
  have e7 : hV H1 298 = hV H0 298 := fRow f8.1.2.1 298 kR_290v_298
  have e8 : hV H1 300 = hV H0 300 := fRow f8.1.2.1 300 kR_290v_300
  have e9 : hV H1 301 = hV H0 301 := fRow f8.1.2.1 301 kR_290v_301
  have e10 : hV H1 303 = hV H0 303 := fRow f8.1.2.1 303 kR_290v_303
  have e11 : hV H1 328 = hV H0 328 := fRow f8.1.2.1 328 kR_290v_328
  have e12 : hV H1 330 = hV H0 330 := fRow f8.1.2.1 330 kR_290v_330
  have e13 : hV H1 331 = hV H0 331 := fRow f8.1.2.1 331 kR_290v_331
  have e14 : hV H1 332 = hV H0 332 := fRow f8.1.2.1 332 kR_290v_332
  have e15 : hV H1 341 = hV H0 341 := fRow f8.1.2.1 341 kR_290v_341
  have e16 : (0 : Int) ≤ hV H0 285 18 ∧ hV H0 285 18 ≤ 8 := bTo e4 (f8.1.2.2 285 18 _ _ kW_285_18)
  have e17 : (0 : Int) ≤ hV H0 285 64 ∧ hV H0 285 64 ≤ 20 := bTo e5 (f8.1.2.2 285 64 _ _ kW_285_64)
  have e18 : (0 : Int) ≤ hV H1 285 65 ∧ hV H1 285 65 ≤ 2147483647 := f8.1.2.2 285 65 _ _ kW_285_65
  try simp only [SO, SS, AC]
  try simp only [e5, e6, e7, e8, e9, e10, e11, e14, e15] at g5
  try simp only [e4, e5, e6, e7, e8, e9, e10, e11, e12, e13, e14, e15]
  have y0 := g4.1
  have y1 := g4.2.1
  have y2 := g4.2.2.1
  have y3 := g4.2.2.2.1
  have y4 := g4.2.2.2.2.1
  have y5 := g4.2.2.2.2.2
  have p0 := g3.1
  have p1 := g3.2.1
  have p2 := g3.2.2.1
  have p3 := g3.2.2.2.1
  have p4 := g3.2.2.2.2
  try simp only [SO] at y0
  try simp only [SS] at y1
  try simp only [AC] at y2
  try simp only [SO] at p0
  try simp only [SS] at p1
  try simp only [AC] at p3
  try simp only [e4, e5, e11, e12, e13, e14] at y0
  try simp only [e15] at y1
  try simp only [e4, e5, e6, e7, e8, e11, e14] at y2
  try simp only [e5, e6, e7, e8, e9, e10, e11, e14, e15] at y3
  try simp only [e5, e6, e7, e8, e9, e10, e11, e14, e15] at y4
  clear g3
  clear g4
  clear f11 f15 f18 e4 e5 e6 e7 e8 e9 e10 e11 e12 e13 e14 e15
  clear f8
  subst e1
  subst e2
  try have sm := SL_made ((y4 (by omega) (n0).toNat (by omega)).mp (by omega)) NX_made
  try have so := (y0 (n0).toNat (by omega)).2.2.2 (by omega)
  first
  | (have ix0 : n8 = n0 + 1 := Eq.trans f20 (w32_iv (Iad (Iat f1 f0) (IC 1)) (by decide)); subst ix0; clear f20)
  | (have ix0 : n8 = n0 + 1 := Eq.trans f20 (w32_id (by omega) (by omega)); subst ix0; clear f20)
  | (unfold w32 at f20; have ix0 : n8 = n0 + 1 := (by omega); subst ix0)
  | skip
  try unfold w32 at f20

  refine ⟨?_, fun q hq => ?_⟩
  · exact ⟨y0, y1, y2, by omega, y4, y5⟩
  · have g6 := Option.some.inj hq
    subst g6
    try clear r0_0
    try clear r0_1
    omega
def g_290v_16_5 : vG := ([(10, [8, 4], [], 1), (30, [7], [], 0), (22, [7, 6, 4], [1], 0), (90, [7], [], 0), (91, [7], [], 1), (20, [6, 1], [1], 96), (0, [6], [], 354), (30, [3], [], 0), (42, [4, 5], [], 0), (20, [5, 1], [1], 64), (90, [5], [], 0), (91, [5], [], 20), (5000, [0, 1, 2, 3, 4], [0, 1], 16), (0, [0], [], 285), (0, [1], [], 285), (90, [2], [], -2147483648), (91, [2], [], 2147483647), (90, [3], [], 0), (91, [3], [], 1), (90, [4], [], 0), (91, [4], [], 20)], (4000, [1, 2, 3, 8], [1], 16))
theorem c_290v_16_5 {q0 : Nat} : vOkm T0 (eP e_290v L_290v A_290v mu_290v (some q0)) 1 g_290v_16_5 := vOk_inI fun ρ η f0 f1 f2 f3 f4 f5 f6 f7 f8 f9 f10 f11 f12 f13 f14 f15 f16 f17 f18 f19 f20 => q_290v_9 (q0 := q0) (n0 := ρ 4) (n1 := ρ 3) (n2 := ρ 2) (n3 := ρ 1) (n4 := ρ 0) (n5 := ρ 5) (n6 := ρ 6) (n7 := ρ 7) (n8 := ρ 8) (H0 := η 0) (H1 := η 1) f20 f19 f18 f17 f16 f15 f14 f13 f12 f11 f10 f9 f8 f7 f6 f5 f4 f3 f2 f1 f0
theorem q_290v_10 {q0 : Nat} {n0 n1 n2 n3 n4 n5 n6 n7 : Int} {H0 H1 : gH} (f0 : n0 ≤ 20) (f1 : 0 ≤ n0) (f2 : n1 ≤ 1) (f3 : 0 ≤ n1) (f4 : n2 ≤ 2147483647) (f5 : (-2147483648) ≤ n2) (f6 : n3 = 285) (f7 : n4 = 285) (f8 : (hLe T0 H0 H1 ∧ hFr s_290v.2.2.2.2 H0 H1 ∧ hWt T0 H1) ∧ (Ab_290v_16 n4 n3 n2 n1 n0 H0 H1 ∧ preb_290v n4 H0) ∧ some q0 = some (mub_290v_16 n4 n3 n2 n1 n0 H0 H1)) (f9 : n5 ≤ 20) (f10 : 0 ≤ n5) (f11 : n5 = hV H1 (n3).toNat 64) (f12 : n0 < n5) (f13 : n1 = 0) (f14 : n6 = 354) (f15 : n6 = hV H1 (n3).toNat 96) (f16 : n7 ≤ 1) (f17 : 0 ≤ n7) (f18 : n7 = hV H1 (n6).toNat (n0).toNat) (f19 : n7 ≠ 0) : n0 ≤ 19 := by
  have g4 := f8.2.1.1
  unfold Ab_290v_16 at g4
  have g3 := f8.2.1.2
  unfold preb_290v at g3
  have e1 : n5 = hV H0 285 64 := (by rw [f6] at f11; exact f11 : n5 = hV H1 285 64).trans ((f8.1.2.1.1 285 64 kF_290v_285_64))
  have e2 : n7 = hV H1 354 (n0).toNat := (by rw [f14] at f18; exact f18 : n7 = hV H1 354 (n0).toNat)
  have e4 : hV H1 285 18 = hV H0 285 18 := (f8.1.2.1.1 285 18 kF_290v_285_18)
  have e5 : hV H1 285 64 = hV H0 285 64 := (f8.1.2.1.1 285 64 kF_290v_285_64)
  have e6 : hV H1 296 = hV H0 296 := fRow f8.1.2.1 296 kR_290v_296
  have e7 : hV H1 298 = hV H0 298 := fRow f8.1.2.1 298 kR_290v_298
  have e8 : hV H1 300 = hV H0 300 := fRow f8.1.2.1 300 kR_290v_300
  have e9 : hV H1 301 = hV H0 301 := fRow f8.1.2.1 301 kR_290v_301
  have e10 : hV H1 303 = hV H0 303 := fRow f8.1.2.1 303 kR_290v_303
  have e11 : hV H1 328 = hV H0 328 := fRow f8.1.2.1 328 kR_290v_328
  have e12 : hV H1 330 = hV H0 330 := fRow f8.1.2.1 330 kR_290v_330
  have e13 : hV H1 331 = hV H0 331 := fRow f8.1.2.1 331 kR_290v_331
  have e14 : hV H1 332 = hV H0 332 := fRow f8.1.2.1 332 kR_290v_332
  have e15 : hV H1 341 = hV H0 341 := fRow f8.1.2.1 341 kR_290v_341
  have e16 : (0 : Int) ≤ hV H0 285 18 ∧ hV H0 285 18 ≤ 8 := bTo e4 (f8.1.2.2 285 18 _ _ kW_285_18)
  have e17 : (0 : Int) ≤ hV H0 285 64 ∧ hV H0 285 64 ≤ 20 := bTo e5 (f8.1.2.2 285 64 _ _ kW_285_64)
  have e18 : (0 : Int) ≤ hV H1 285 65 ∧ hV H1 285 65 ≤ 2147483647 := f8.1.2.2 285 65 _ _ kW_285_65
  try simp only [SO, SS, AC]
  have y0 := g4.1
  have y1 := g4.2.1
  have y2 := g4.2.2.1
  have y3 := g4.2.2.2.1
  have y4 := g4.2.2.2.2.1
  have y5 := g4.2.2.2.2.2
  have p0 := g3.1
  have p1 := g3.2.1
  have p2 := g3.2.2.1
  have p3 := g3.2.2.2.1
  have p4 := g3.2.2.2.2
  try simp only [SO] at y0
  try simp only [SS] at y1
  try simp only [AC] at y2
  try simp only [SO] at p0
  try simp only [SS] at p1
  try simp only [AC] at p3
  try simp only [e4, e5, e11, e12, e13, e14] at y0
  try simp only [e15] at y1
  try simp only [e4, e5, e6, e7, e8, e11, e14] at y2
  try simp only [e5, e6, e7, e8, e9, e10, e11, e14, e15] at y3
  try simp only [e5, e6, e7, e8, e9, e10, e11, e14, e15] at y4
  clear g3
  clear g4
  clear f11 f15 f18 e4 e5 e6 e7 e8 e9 e10 e11 e12 e13 e14 e15
  clear f8
  subst e1
  subst e2
  try have sm := SL_made ((y4 (by omega) (n0).toNat (by omega)).mp (by omega)) NX_made
  try have so := (y0 (n0).toNat (by omega)).2.2.2 (by omega)
  omega
def g_290v_16_6 : vG := ([(31, [7], [], 0), (22, [7, 6, 4], [1], 0), (90, [7], [], 0), (91, [7], [], 1), (20, [6, 1], [1], 96), (0, [6], [], 354), (30, [3], [], 0), (42, [4, 5], [], 0), (20, [5, 1], [1], 64), (90, [5], [], 0), (91, [5], [], 20), (5000, [0, 1, 2, 3, 4], [0, 1], 16), (0, [0], [], 285), (0, [1], [], 285), (90, [2], [], -2147483648), (91, [2], [], 2147483647), (90, [3], [], 0), (91, [3], [], 1), (90, [4], [], 0), (91, [4], [], 20)], (91, [4], [], 19))
theorem c_290v_16_6 {q0 : Nat} : vOkm T0 (eP e_290v L_290v A_290v mu_290v (some q0)) 1 g_290v_16_6 := vOk_inI fun ρ η f0 f1 f2 f3 f4 f5 f6 f7 f8 f9 f10 f11 f12 f13 f14 f15 f16 f17 f18 f19 => q_290v_10 (q0 := q0) (n0 := ρ 4) (n1 := ρ 3) (n2 := ρ 2) (n3 := ρ 1) (n4 := ρ 0) (n5 := ρ 5) (n6 := ρ 6) (n7 := ρ 7) (H0 := η 0) (H1 := η 1) f19 f18 f17 f16 f15 f14 f13 f12 f11 f10 f9 f8 f7 f6 f5 f4 f3 f2 f1 f0
theorem q_290v_11 {q0 : Nat} {n0 n1 n2 n3 n4 n5 n6 n7 : Int} {H0 H1 : gH} (f0 : n0 ≤ 20) (f1 : 0 ≤ n0) (f2 : n1 ≤ 1) (f3 : 0 ≤ n1) (f4 : n2 ≤ 2147483647) (f5 : (-2147483648) ≤ n2) (f6 : n3 = 285) (f7 : n4 = 285) (f8 : (hLe T0 H0 H1 ∧ hFr s_290v.2.2.2.2 H0 H1 ∧ hWt T0 H1) ∧ (Ab_290v_16 n4 n3 n2 n1 n0 H0 H1 ∧ preb_290v n4 H0) ∧ some q0 = some (mub_290v_16 n4 n3 n2 n1 n0 H0 H1)) (f9 : n5 ≤ 20) (f10 : 0 ≤ n5) (f11 : n5 = hV H1 (n3).toNat 64) (f12 : n0 < n5) (f13 : n1 = 0) (f14 : n6 = 354) (f15 : n6 = hV H1 (n3).toNat 96) (f16 : n7 ≤ 1) (f17 : 0 ≤ n7) (f18 : n7 = hV H1 (n6).toNat (n0).toNat) (f19 : n7 ≠ 0) : preb_289 n3 n0 H1 := by
  have g4 := f8.2.1.1
  unfold Ab_290v_16 at g4
  have g3 := f8.2.1.2
  unfold preb_290v at g3
  unfold preb_289
  have e1 : n5 = hV H0 285 64 := (by rw [f6] at f11; exact f11 : n5 = hV H1 285 64).trans ((f8.1.2.1.1 285 64 kF_290v_285_64))
  have e2 : n7 = hV H1 354 (n0).toNat := (by rw [f14] at f18; exact f18 : n7 = hV H1 354 (n0).toNat)
  have e4 : hV H1 285 18 = hV H0 285 18 := (f8.1.2.1.1 285 18 kF_290v_285_18)
  have e5 : hV H1 285 64 = hV H0 285 64 := (f8.1.2.1.1 285 64 kF_290v_285_64)
  have e6 : hV H1 296 = hV H0 296 := fRow f8.1.2.1 296 kR_290v_296
  have e7 : hV H1 298 = hV H0 298 := fRow f8.1.2.1 298 kR_290v_298
  have e8 : hV H1 300 = hV H0 300 := fRow f8.1.2.1 300 kR_290v_300
  have e9 : hV H1 301 = hV H0 301 := fRow f8.1.2.1 301 kR_290v_301
  have e10 : hV H1 303 = hV H0 303 := fRow f8.1.2.1 303 kR_290v_303
  have e11 : hV H1 328 = hV H0 328 := fRow f8.1.2.1 328 kR_290v_328
  have e12 : hV H1 330 = hV H0 330 := fRow f8.1.2.1 330 kR_290v_330
  have e13 : hV H1 331 = hV H0 331 := fRow f8.1.2.1 331 kR_290v_331
  have e14 : hV H1 332 = hV H0 332 := fRow f8.1.2.1 332 kR_290v_332
  have e15 : hV H1 341 = hV H0 341 := fRow f8.1.2.1 341 kR_290v_341
  have e16 : PG H1 = PG H0 := PG_fr f8.1.2.1 (by decide +kernel)
  have e17 : (0 : Int) ≤ hV H0 285 18 ∧ hV H0 285 18 ≤ 8 := bTo e4 (f8.1.2.2 285 18 _ _ kW_285_18)
  have e18 : (0 : Int) ≤ hV H0 285 64 ∧ hV H0 285 64 ≤ 20 := bTo e5 (f8.1.2.2 285 64 _ _ kW_285_64)
  have e19 : (0 : Int) ≤ hV H1 285 65 ∧ hV H1 285 65 ≤ 2147483647 := f8.1.2.2 285 65 _ _ kW_285_65
  try simp only [SO, SS, AC]
  try simp only [e4, e5, e11, e12, e13, e14, e16]
  have y0 := g4.1
  have y1 := g4.2.1
  have y2 := g4.2.2.1
  have y3 := g4.2.2.2.1
  have y4 := g4.2.2.2.2.1
  have y5 := g4.2.2.2.2.2
  have p0 := g3.1
  have p1 := g3.2.1
  have p2 := g3.2.2.1
  have p3 := g3.2.2.2.1
  have p4 := g3.2.2.2.2
  try simp only [SO] at y0
  try simp only [SS] at y1
  try simp only [AC] at y2
  try simp only [SO] at p0
  try simp only [SS] at p1
  try simp only [AC] at p3
  try simp only [e4, e5, e11, e12, e13, e14] at y0
  try simp only [e15] at y1
  try simp only [e4, e5, e6, e7, e8, e11, e14] at y2
  try simp only [e5, e6, e7, e8, e9, e10, e11, e14, e15] at y3
  try simp only [e5, e6, e7, e8, e9, e10, e11, e14, e15] at y4
  clear g3
  clear g4
  clear f11 f15 f18 e4 e5 e6 e7 e8 e9 e10 e11 e12 e13 e14 e15 e16
  clear f8
  subst e1
  subst e2
  try have sm := SL_made ((y4 (by omega) (n0).toNat (by omega)).mp (by omega)) NX_made
  try have so := (y0 (n0).toNat (by omega)).2.2.2 (by omega)
  refine ⟨?_, ?_, ?_⟩ <;> first | assumption | omega | trivial
def g_290v_16_7 : vG := ([(31, [7], [], 0), (22, [7, 6, 4], [1], 0), (90, [7], [], 0), (91, [7], [], 1), (20, [6, 1], [1], 96), (0, [6], [], 354), (30, [3], [], 0), (42, [4, 5], [], 0), (20, [5, 1], [1], 64), (90, [5], [], 0), (91, [5], [], 20), (5000, [0, 1, 2, 3, 4], [0, 1], 16), (0, [0], [], 285), (0, [1], [], 285), (90, [2], [], -2147483648), (91, [2], [], 2147483647), (90, [3], [], 0), (91, [3], [], 1), (90, [4], [], 0), (91, [4], [], 20)], (2289, [1, 4], [1], 0))
theorem c_290v_16_7 {q0 : Nat} : vOkm T0 (eP e_290v L_290v A_290v mu_290v (some q0)) 1 g_290v_16_7 := vOk_inI fun ρ η f0 f1 f2 f3 f4 f5 f6 f7 f8 f9 f10 f11 f12 f13 f14 f15 f16 f17 f18 f19 => q_290v_11 (q0 := q0) (n0 := ρ 4) (n1 := ρ 3) (n2 := ρ 2) (n3 := ρ 1) (n4 := ρ 0) (n5 := ρ 5) (n6 := ρ 6) (n7 := ρ 7) (H0 := η 0) (H1 := η 1) f19 f18 f17 f16 f15 f14 f13 f12 f11 f10 f9 f8 f7 f6 f5 f4 f3 f2 f1 f0
theorem q_290v_12 {q0 : Nat} {n0 n1 n2 n3 n4 n5 n6 n7 n8 : Int} {H0 H1 H2 : gH} (f0 : n0 ≤ 20) (f1 : 0 ≤ n0) (f2 : n1 ≤ 1) (f3 : 0 ≤ n1) (f4 : n2 ≤ 2147483647) (f5 : (-2147483648) ≤ n2) (f6 : n3 = 285) (f7 : n4 = 285) (f8 : (hLe T0 H0 H1 ∧ hFr s_290v.2.2.2.2 H0 H1 ∧ hWt T0 H1) ∧ (Ab_290v_16 n4 n3 n2 n1 n0 H0 H1 ∧ preb_290v n4 H0) ∧ some q0 = some (mub_290v_16 n4 n3 n2 n1 n0 H0 H1)) (f9 : n5 ≤ 20) (f10 : 0 ≤ n5) (f11 : n5 = hV H1 (n3).toNat 64) (f12 : n0 < n5) (f13 : n1 = 0) (f14 : n6 = 354) (f15 : n6 = hV H1 (n3).toNat 96) (f16 : n7 ≤ 1) (f17 : 0 ≤ n7) (f18 : n7 = hV H1 (n6).toNat (n0).toNat) (f19 : n7 ≠ 0) (f20 : n8 ≤ 1) (f21 : 0 ≤ n8) (f22 : (hLe T0 H1 H2 ∧ hFr s_289.2.2.2.2 H1 H2 ∧ ((0 : Int) = 0 → H2.length = H1.length) ∧ hWt T0 H2) ∧ postb_289 n8 n3 n0 H1 H2) (f23 : n8 = 0) : 0 ≤ n0 ∧ n0 < 20 := by
  have g4 := f8.2.1.1
  unfold Ab_290v_16 at g4
  have g3 := f8.2.1.2
  unfold preb_290v at g3
  unfold postb_289 at f22
  have e1 : n5 = hV H0 285 64 := (by rw [f6] at f11; exact f11 : n5 = hV H1 285 64).trans ((f8.1.2.1.1 285 64 kF_290v_285_64))
  have e2 : n7 = hV H1 354 (n0).toNat := (by rw [f14] at f18; exact f18 : n7 = hV H1 354 (n0).toNat)
  have e4 : hV H1 285 18 = hV H0 285 18 := (f8.1.2.1.1 285 18 kF_290v_285_18)
  have e5 : hV H1 285 64 = hV H0 285 64 := (f8.1.2.1.1 285 64 kF_290v_285_64)
  have e6 : hV H1 296 = hV H0 296 := fRow f8.1.2.1 296 kR_290v_296
  have e7 : hV H1 298 = hV H0 298 := fRow f8.1.2.1 298 kR_290v_298
  have e8 : hV H1 300 = hV H0 300 := fRow f8.1.2.1 300 kR_290v_300
  have e9 : hV H1 301 = hV H0 301 := fRow f8.1.2.1 301 kR_290v_301
  have e10 : hV H1 303 = hV H0 303 := fRow f8.1.2.1 303 kR_290v_303
  have e11 : hV H1 328 = hV H0 328 := fRow f8.1.2.1 328 kR_290v_328
  have e12 : hV H1 330 = hV H0 330 := fRow f8.1.2.1 330 kR_290v_330
  have e13 : hV H1 331 = hV H0 331 := fRow f8.1.2.1 331 kR_290v_331
  have e14 : hV H1 332 = hV H0 332 := fRow f8.1.2.1 332 kR_290v_332
  have e15 : hV H1 341 = hV H0 341 := fRow f8.1.2.1 341 kR_290v_341
  have e17 : hV H2 285 64 = hV H0 285 64 := ((f22.1.2.1.1 285 64 kF_289_285_64)).trans (f8.1.2.1.1 285 64 kF_290v_285_64)
  have e19 : hV H2 296 = hV H0 296 := (fRow f22.1.2.1 296 kR_289_296).trans e6
  have e21 : hV H2 298 = hV H0 298 := (fRow f22.1.2.1 298 kR_289_298).trans e7
  have e23 : hV H2 300 = hV H0 300 := (fRow f22.1.2.1 300 kR_289_300).trans e8
  have e25 : hV H2 328 = hV H0 328 := (fRow f22.1.2.1 328 kR_289_328).trans e11
  have e27 : hV H2 332 = hV H0 332 := (fRow f22.1.2.1 332 kR_289_332).trans e14
  have e28 : hV H2 335 = hV H1 335 := fRow f22.1.2.1 335 kR_289_335
  have e29 : hV H2 354 = hV H1 354 := fRow f22.1.2.1 354 kR_289_354
  have e30 : (0 : Int) ≤ hV H0 285 18 ∧ hV H0 285 18 ≤ 8 := bTo e4 (f8.1.2.2 285 18 _ _ kW_285_18)
  have e31 : (0 : Int) ≤ hV H0 285 64 ∧ hV H0 285 64 ≤ 20 := bTo e5 (f8.1.2.2 285 64 _ _ kW_285_64)
  have e32 : (0 : Int) ≤ hV H1 285 65 ∧ hV H1 285 65 ≤ 2147483647 := f8.1.2.2 285 65 _ _ kW_285_65
  try simp only [SO, SS, AC]
  have y0 := g4.1
  have y1 := g4.2.1
  have y2 := g4.2.2.1
  have y3 := g4.2.2.2.1
  have y4 := g4.2.2.2.2.1
  have y5 := g4.2.2.2.2.2
  have p0 := g3.1
  have p1 := g3.2.1
  have p2 := g3.2.2.1
  have p3 := g3.2.2.2.1
  have p4 := g3.2.2.2.2
  have r0_0 := f22.2.1
  have r0_1 := f22.2.2
  try simp only [SO] at y0
  try simp only [SS] at y1
  try simp only [AC] at y2
  try simp only [SO] at p0
  try simp only [SS] at p1
  try simp only [AC] at p3
  try simp only [e4, e5, e11, e12, e13, e14] at y0
  try simp only [e15] at y1
  try simp only [e4, e5, e6, e7, e8, e11, e14] at y2
  try simp only [e5, e6, e7, e8, e9, e10, e11, e14, e15] at y3
  try simp only [e5, e6, e7, e8, e9, e10, e11, e14, e15] at y4
  try simp only [e17, e19, e21, e23, e25, e27, e28, e29] at r0_0
  try simp only [e17, e19, e21, e23, e25, e27, e28, e29] at r0_1
  clear g3
  clear g4
  clear f11 f15 f18 e4 e5 e6 e7 e8 e9 e10 e11 e12 e13 e14 e15 e17 e19 e21 e23 e25 e27 e28 e29
  clear f8 f22
  subst e1
  subst e2
  try have sm := SL_made ((y4 (by omega) (n0).toNat (by omega)).mp (by omega)) NX_made
  try have so := (y0 (n0).toNat (by omega)).2.2.2 (by omega)
  omega
def g_290v_16_8 : vG := ([(30, [8], [], 0), (1289, [8, 1, 4], [1, 2], 0), (90, [8], [], 0), (91, [8], [], 1), (31, [7], [], 0), (22, [7, 6, 4], [1], 0), (90, [7], [], 0), (91, [7], [], 1), (20, [6, 1], [1], 96), (0, [6], [], 354), (30, [3], [], 0), (42, [4, 5], [], 0), (20, [5, 1], [1], 64), (90, [5], [], 0), (91, [5], [], 20), (5000, [0, 1, 2, 3, 4], [0, 1], 16), (0, [0], [], 285), (0, [1], [], 285), (90, [2], [], -2147483648), (91, [2], [], 2147483647), (90, [3], [], 0), (91, [3], [], 1), (90, [4], [], 0), (91, [4], [], 20)], (70, [4], [], 20))
theorem c_290v_16_8 {q0 : Nat} : vOkm T0 (eP e_290v L_290v A_290v mu_290v (some q0)) 1 g_290v_16_8 := vOk_inI fun ρ η f0 f1 f2 f3 f4 f5 f6 f7 f8 f9 f10 f11 f12 f13 f14 f15 f16 f17 f18 f19 f20 f21 f22 f23 => q_290v_12 (q0 := q0) (n0 := ρ 4) (n1 := ρ 3) (n2 := ρ 2) (n3 := ρ 1) (n4 := ρ 0) (n5 := ρ 5) (n6 := ρ 6) (n7 := ρ 7) (n8 := ρ 8) (H0 := η 0) (H1 := η 1) (H2 := η 2) f23 f22 f21 f20 f19 f18 f17 f16 f15 f14 f13 f12 f11 f10 f9 f8 f7 f6 f5 f4 f3 f2 f1 f0
theorem q_290v_13 {q0 : Nat} {n0 n1 n2 n3 n4 n5 n6 n7 n8 n9 n10 : Int} {H0 H1 H2 : gH} (f0 : n0 ≤ 20) (f1 : 0 ≤ n0) (f2 : n1 ≤ 1) (f3 : 0 ≤ n1) (f4 : n2 ≤ 2147483647) (f5 : (-2147483648) ≤ n2) (f6 : n3 = 285) (f7 : n4 = 285) (f8 : (hLe T0 H0 H1 ∧ hFr s_290v.2.2.2.2 H0 H1 ∧ hWt T0 H1) ∧ (Ab_290v_16 n4 n3 n2 n1 n0 H0 H1 ∧ preb_290v n4 H0) ∧ some q0 = some (mub_290v_16 n4 n3 n2 n1 n0 H0 H1)) (f9 : n5 ≤ 20) (f10 : 0 ≤ n5) (f11 : n5 = hV H1 (n3).toNat 64) (f12 : n0 < n5) (f13 : n1 = 0) (f14 : n6 = 354) (f15 : n6 = hV H1 (n3).toNat 96) (f16 : n7 ≤ 1) (f17 : 0 ≤ n7) (f18 : n7 = hV H1 (n6).toNat (n0).toNat) (f19 : n7 ≠ 0) (f20 : n8 ≤ 1) (f21 : 0 ≤ n8) (f22 : (hLe T0 H1 H2 ∧ hFr s_289.2.2.2.2 H1 H2 ∧ ((0 : Int) = 0 → H2.length = H1.length) ∧ hWt T0 H2) ∧ postb_289 n8 n3 n0 H1 H2) (f23 : n8 = 0) (f24 : n9 = 335) (f25 : n9 = hV H2 (n3).toNat 73) (f26 : n10 ≤ 7) (f27 : (-1) ≤ n10) (f28 : n10 = hV H2 (n9).toNat (n0).toNat) : 0 ≤ n0 ∧ n0 < 20 := by
  have g4 := f8.2.1.1
  unfold Ab_290v_16 at g4
  have g3 := f8.2.1.2
  unfold preb_290v at g3
  unfold postb_289 at f22
  have e1 : n5 = hV H0 285 64 := (by rw [f6] at f11; exact f11 : n5 = hV H1 285 64).trans ((f8.1.2.1.1 285 64 kF_290v_285_64))
  have e2 : n7 = hV H1 354 (n0).toNat := (by rw [f14] at f18; exact f18 : n7 = hV H1 354 (n0).toNat)
  have e3 : hV H2 335 = hV H1 335 := fRow f22.1.2.1 335 kR_289_335
  have e4 : n10 = hV H1 335 (n0).toNat := (by rw [f24] at f28; exact f28 : n10 = hV H2 335 (n0).toNat).trans ((congrFun e3 _))
  have e6 : hV H1 285 18 = hV H0 285 18 := (f8.1.2.1.1 285 18 kF_290v_285_18)
  have e7 : hV H1 285 64 = hV H0 285 64 := (f8.1.2.1.1 285 64 kF_290v_285_64)
  have e8 : hV H1 296 = hV H0 296 := fRow f8.1.2.1 296 kR_290v_296
  have e9 : hV H1 298 = hV H0 298 := fRow f8.1.2.1 298 kR_290v_298
  have e10 : hV H1 300 = hV H0 300 := fRow f8.1.2.1 300 kR_290v_300
  have e11 : hV H1 301 = hV H0 301 := fRow f8.1.2.1 301 kR_290v_301
  have e12 : hV H1 303 = hV H0 303 := fRow f8.1.2.1 303 kR_290v_303
  have e13 : hV H1 328 = hV H0 328 := fRow f8.1.2.1 328 kR_290v_328
  have e14 : hV H1 330 = hV H0 330 := fRow f8.1.2.1 330 kR_290v_330
  have e15 : hV H1 331 = hV H0 331 := fRow f8.1.2.1 331 kR_290v_331
  have e16 : hV H1 332 = hV H0 332 := fRow f8.1.2.1 332 kR_290v_332
  have e17 : hV H1 341 = hV H0 341 := fRow f8.1.2.1 341 kR_290v_341
  have e19 : hV H2 285 64 = hV H0 285 64 := ((f22.1.2.1.1 285 64 kF_289_285_64)).trans (f8.1.2.1.1 285 64 kF_290v_285_64)
  have e21 : hV H2 296 = hV H0 296 := (fRow f22.1.2.1 296 kR_289_296).trans e8
  have e23 : hV H2 298 = hV H0 298 := (fRow f22.1.2.1 298 kR_289_298).trans e9
  have e25 : hV H2 300 = hV H0 300 := (fRow f22.1.2.1 300 kR_289_300).trans e10
  have e27 : hV H2 328 = hV H0 328 := (fRow f22.1.2.1 328 kR_289_328).trans e13
  have e29 : hV H2 332 = hV H0 332 := (fRow f22.1.2.1 332 kR_289_332).trans e16
  have e30 : hV H2 354 = hV H1 354 := fRow f22.1.2.1 354 kR_289_354
  have e31 : (0 : Int) ≤ hV H0 285 18 ∧ hV H0 285 18 ≤ 8 := bTo e6 (f8.1.2.2 285 18 _ _ kW_285_18)
  have e32 : (0 : Int) ≤ hV H0 285 64 ∧ hV H0 285 64 ≤ 20 := bTo e7 (f8.1.2.2 285 64 _ _ kW_285_64)
  have e33 : (0 : Int) ≤ hV H1 285 65 ∧ hV H1 285 65 ≤ 2147483647 := f8.1.2.2 285 65 _ _ kW_285_65
  try simp only [SO, SS, AC]
  have y0 := g4.1
  have y1 := g4.2.1
  have y2 := g4.2.2.1
  have y3 := g4.2.2.2.1
  have y4 := g4.2.2.2.2.1
  have y5 := g4.2.2.2.2.2
  have p0 := g3.1
  have p1 := g3.2.1
  have p2 := g3.2.2.1
  have p3 := g3.2.2.2.1
  have p4 := g3.2.2.2.2
  have r0_0 := f22.2.1
  have r0_1 := f22.2.2
  try simp only [SO] at y0
  try simp only [SS] at y1
  try simp only [AC] at y2
  try simp only [SO] at p0
  try simp only [SS] at p1
  try simp only [AC] at p3
  try simp only [e6, e7, e13, e14, e15, e16] at y0
  try simp only [e17] at y1
  try simp only [e6, e7, e8, e9, e10, e13, e16] at y2
  try simp only [e7, e8, e9, e10, e11, e12, e13, e16, e17] at y3
  try simp only [e7, e8, e9, e10, e11, e12, e13, e16, e17] at y4
  try simp only [e19, e21, e23, e25, e27, e29, e3, e30] at r0_0
  try simp only [e19, e21, e23, e25, e27, e29, e3, e30] at r0_1
  clear g3
  clear g4
  clear f11 f15 f18 f25 f28 e3 e6 e7 e8 e9 e10 e11 e12 e13 e14 e15 e16 e17 e19 e21 e23 e25 e27 e29 e30
  clear f8 f22
  subst e1
  subst e2
  subst e4
  try have sm := SL_made ((y4 (by omega) (n0).toNat (by omega)).mp (by omega)) NX_made
  try have so := (y0 (n0).toNat (by omega)).2.2.2 (by omega)
  omega
def g_290v_16_9 : vG := ([(22, [10, 9, 4], [2], 0), (90, [10], [], -1), (91, [10], [], 7), (20, [9, 1], [2], 73), (0, [9], [], 335), (30, [8], [], 0), (1289, [8, 1, 4], [1, 2], 0), (90, [8], [], 0), (91, [8], [], 1), (31, [7], [], 0), (22, [7, 6, 4], [1], 0), (90, [7], [], 0), (91, [7], [], 1), (20, [6, 1], [1], 96), (0, [6], [], 354), (30, [3], [], 0), (42, [4, 5], [], 0), (20, [5, 1], [1], 64), (90, [5], [], 0), (91, [5], [], 20), (5000, [0, 1, 2, 3, 4], [0, 1], 16), (0, [0], [], 285), (0, [1], [], 285), (90, [2], [], -2147483648), (91, [2], [], 2147483647), (90, [3], [], 0), (91, [3], [], 1), (90, [4], [], 0), (91, [4], [], 20)], (70, [4], [], 20))
theorem c_290v_16_9 {q0 : Nat} : vOkm T0 (eP e_290v L_290v A_290v mu_290v (some q0)) 1 g_290v_16_9 := vOk_inI fun ρ η f0 f1 f2 f3 f4 f5 f6 f7 f8 f9 f10 f11 f12 f13 f14 f15 f16 f17 f18 f19 f20 f21 f22 f23 f24 f25 f26 f27 f28 => q_290v_13 (q0 := q0) (n0 := ρ 4) (n1 := ρ 3) (n2 := ρ 2) (n3 := ρ 1) (n4 := ρ 0) (n5 := ρ 5) (n6 := ρ 6) (n7 := ρ 7) (n8 := ρ 8) (n9 := ρ 9) (n10 := ρ 10) (H0 := η 0) (H1 := η 1) (H2 := η 2) f28 f27 f26 f25 f24 f23 f22 f21 f20 f19 f18 f17 f16 f15 f14 f13 f12 f11 f10 f9 f8 f7 f6 f5 f4 f3 f2 f1 f0
theorem q_290v_14 {q0 : Nat} {n0 n1 n2 n3 n4 n5 n6 n7 n8 n9 n10 n11 n12 : Int} {H0 H1 H2 : gH} (f0 : n0 ≤ 20) (f1 : 0 ≤ n0) (f2 : n1 ≤ 1) (f3 : 0 ≤ n1) (f4 : n2 ≤ 2147483647) (f5 : (-2147483648) ≤ n2) (f6 : n3 = 285) (f7 : n4 = 285) (f8 : (hLe T0 H0 H1 ∧ hFr s_290v.2.2.2.2 H0 H1 ∧ hWt T0 H1) ∧ (Ab_290v_16 n4 n3 n2 n1 n0 H0 H1 ∧ preb_290v n4 H0) ∧ some q0 = some (mub_290v_16 n4 n3 n2 n1 n0 H0 H1)) (f9 : n5 ≤ 20) (f10 : 0 ≤ n5) (f11 : n5 = hV H1 (n3).toNat 64) (f12 : n0 < n5) (f13 : n1 = 0) (f14 : n6 = 354) (f15 : n6 = hV H1 (n3).toNat 96) (f16 : n7 ≤ 1) (f17 : 0 ≤ n7) (f18 : n7 = hV H1 (n6).toNat (n0).toNat) (f19 : n7 ≠ 0) (f20 : n8 ≤ 1) (f21 : 0 ≤ n8) (f22 : (hLe T0 H1 H2 ∧ hFr s_289.2.2.2.2 H1 H2 ∧ ((0 : Int) = 0 → H2.length = H1.length) ∧ hWt T0 H2) ∧ postb_289 n8 n3 n0 H1 H2) (f23 : n8 = 0) (f24 : n9 = 335) (f25 : n9 = hV H2 (n3).toNat 73) (f26 : n10 ≤ 7) (f27 : (-1) ≤ n10) (f28 : n10 = hV H2 (n9).toNat (n0).toNat) (f29 : n11 = 336) (f30 : n11 = hV H2 (n3).toNat 74) (f31 : n12 ≤ 5) (f32 : (-1) ≤ n12) (f33 : n12 = hV H2 (n11).toNat (n0).toNat) : n0 ≤ 19 := by
  have g4 := f8.2.1.1
  unfold Ab_290v_16 at g4
  have g3 := f8.2.1.2
  unfold preb_290v at g3
  unfold postb_289 at f22
  have e1 : n5 = hV H0 285 64 := (by rw [f6] at f11; exact f11 : n5 = hV H1 285 64).trans ((f8.1.2.1.1 285 64 kF_290v_285_64))
  have e2 : n7 = hV H1 354 (n0).toNat := (by rw [f14] at f18; exact f18 : n7 = hV H1 354 (n0).toNat)
  have e3 : hV H2 335 = hV H1 335 := fRow f22.1.2.1 335 kR_289_335
  have e4 : n10 = hV H1 335 (n0).toNat := (by rw [f24] at f28; exact f28 : n10 = hV H2 335 (n0).toNat).trans ((congrFun e3 _))
  have e6 : n12 = hV H1 336 (n0).toNat := (by rw [f29] at f33; exact f33 : n12 = hV H2 336 (n0).toNat).trans ((congrFun (fRow f22.1.2.1 336 kR_289_336) _))
  have e8 : hV H1 285 18 = hV H0 285 18 := (f8.1.2.1.1 285 18 kF_290v_285_18)
  have e9 : hV H1 285 64 = hV H0 285 64 := (f8.1.2.1.1 285 64 kF_290v_285_64)
  have e10 : hV H1 296 = hV H0 296 := fRow f8.1.2.1 296 kR_290v_296
  have e11 : hV H1 298 = hV H0 298 := fRow f8.1.2.1 298 kR_290v_298
  have e12 : hV H1 300 = hV H0 300 := fRow f8.1.2.1 300 kR_290v_300
  have e13 : hV H1 301 = hV H0 301 := fRow f8.1.2.1 301 kR_290v_301
  have e14 : hV H1 303 = hV H0 303 := fRow f8.1.2.1 303 kR_290v_303
  have e15 : hV H1 328 = hV H0 328 := fRow f8.1.2.1 328 kR_290v_328
  have e16 : hV H1 330 = hV H0 330 := fRow f8.1.2.1 330 kR_290v_330
  have e17 : hV H1 331 = hV H0 331 := fRow f8.1.2.1 331 kR_290v_331
  have e18 : hV H1 332 = hV H0 332 := fRow f8.1.2.1 332 kR_290v_332
  have e19 : hV H1 341 = hV H0 341 := fRow f8.1.2.1 341 kR_290v_341
  have e21 : hV H2 285 64 = hV H0 285 64 := ((f22.1.2.1.1 285 64 kF_289_285_64)).trans (f8.1.2.1.1 285 64 kF_290v_285_64)
  have e23 : hV H2 296 = hV H0 296 := (fRow f22.1.2.1 296 kR_289_296).trans e10
  have e25 : hV H2 298 = hV H0 298 := (fRow f22.1.2.1 298 kR_289_298).trans e11
  have e27 : hV H2 300 = hV H0 300 := (fRow f22.1.2.1 300 kR_289_300).trans e12
  have e29 : hV H2 328 = hV H0 328 := (fRow f22.1.2.1 328 kR_289_328).trans e15
  have e31 : hV H2 332 = hV H0 332 := (fRow f22.1.2.1 332 kR_289_332).trans e18
  have e32 : hV H2 354 = hV H1 354 := fRow f22.1.2.1 354 kR_289_354
  have e33 : (0 : Int) ≤ hV H0 285 18 ∧ hV H0 285 18 ≤ 8 := bTo e8 (f8.1.2.2 285 18 _ _ kW_285_18)
  have e34 : (0 : Int) ≤ hV H0 285 64 ∧ hV H0 285 64 ≤ 20 := bTo e9 (f8.1.2.2 285 64 _ _ kW_285_64)
  have e35 : (0 : Int) ≤ hV H1 285 65 ∧ hV H1 285 65 ≤ 2147483647 := f8.1.2.2 285 65 _ _ kW_285_65
  try simp only [SO, SS, AC]
  have y0 := g4.1
  have y1 := g4.2.1
  have y2 := g4.2.2.1
  have y3 := g4.2.2.2.1
  have y4 := g4.2.2.2.2.1
  have y5 := g4.2.2.2.2.2
  have p0 := g3.1
  have p1 := g3.2.1
  have p2 := g3.2.2.1
  have p3 := g3.2.2.2.1
  have p4 := g3.2.2.2.2
  have r0_0 := f22.2.1
  have r0_1 := f22.2.2
  try simp only [SO] at y0
  try simp only [SS] at y1
  try simp only [AC] at y2
  try simp only [SO] at p0
  try simp only [SS] at p1
  try simp only [AC] at p3
  try simp only [e8, e9, e15, e16, e17, e18] at y0
  try simp only [e19] at y1
  try simp only [e8, e9, e10, e11, e12, e15, e18] at y2
  try simp only [e9, e10, e11, e12, e13, e14, e15, e18, e19] at y3
  try simp only [e9, e10, e11, e12, e13, e14, e15, e18, e19] at y4
  try simp only [e21, e23, e25, e27, e29, e31, e3, e32] at r0_0
  try simp only [e21, e23, e25, e27, e29, e31, e3, e32] at r0_1
  clear g3
  clear g4
  clear f11 f15 f18 f25 f28 f30 f33 e3 e8 e9 e10 e11 e12 e13 e14 e15 e16 e17 e18 e19 e21 e23 e25 e27 e29 e31 e32
  clear f8 f22
  subst e1
  subst e2
  subst e4
  subst e6
  try have sm := SL_made ((y4 (by omega) (n0).toNat (by omega)).mp (by omega)) NX_made
  try have so := (y0 (n0).toNat (by omega)).2.2.2 (by omega)
  omega
def g_290v_16_10 : vG := ([(22, [12, 11, 4], [2], 0), (90, [12], [], -1), (91, [12], [], 5), (20, [11, 1], [2], 74), (0, [11], [], 336), (22, [10, 9, 4], [2], 0), (90, [10], [], -1), (91, [10], [], 7), (20, [9, 1], [2], 73), (0, [9], [], 335), (30, [8], [], 0), (1289, [8, 1, 4], [1, 2], 0), (90, [8], [], 0), (91, [8], [], 1), (31, [7], [], 0), (22, [7, 6, 4], [1], 0), (90, [7], [], 0), (91, [7], [], 1), (20, [6, 1], [1], 96), (0, [6], [], 354), (30, [3], [], 0), (42, [4, 5], [], 0), (20, [5, 1], [1], 64), (90, [5], [], 0), (91, [5], [], 20), (5000, [0, 1, 2, 3, 4], [0, 1], 16), (0, [0], [], 285), (0, [1], [], 285), (90, [2], [], -2147483648), (91, [2], [], 2147483647), (90, [3], [], 0), (91, [3], [], 1), (90, [4], [], 0), (91, [4], [], 20)], (91, [4], [], 19))
theorem c_290v_16_10 {q0 : Nat} : vOkm T0 (eP e_290v L_290v A_290v mu_290v (some q0)) 1 g_290v_16_10 := vOk_inI fun ρ η f0 f1 f2 f3 f4 f5 f6 f7 f8 f9 f10 f11 f12 f13 f14 f15 f16 f17 f18 f19 f20 f21 f22 f23 f24 f25 f26 f27 f28 f29 f30 f31 f32 f33 => q_290v_14 (q0 := q0) (n0 := ρ 4) (n1 := ρ 3) (n2 := ρ 2) (n3 := ρ 1) (n4 := ρ 0) (n5 := ρ 5) (n6 := ρ 6) (n7 := ρ 7) (n8 := ρ 8) (n9 := ρ 9) (n10 := ρ 10) (n11 := ρ 11) (n12 := ρ 12) (H0 := η 0) (H1 := η 1) (H2 := η 2) f33 f32 f31 f30 f29 f28 f27 f26 f25 f24 f23 f22 f21 f20 f19 f18 f17 f16 f15 f14 f13 f12 f11 f10 f9 f8 f7 f6 f5 f4 f3 f2 f1 f0
theorem q_290v_15 {q0 : Nat} {n0 n1 n2 n3 n4 n5 n6 n7 n8 n9 n10 n11 n12 : Int} {H0 H1 H2 : gH} (f0 : n0 ≤ 20) (f1 : 0 ≤ n0) (f2 : n1 ≤ 1) (f3 : 0 ≤ n1) (f4 : n2 ≤ 2147483647) (f5 : (-2147483648) ≤ n2) (f6 : n3 = 285) (f7 : n4 = 285) (f8 : (hLe T0 H0 H1 ∧ hFr s_290v.2.2.2.2 H0 H1 ∧ hWt T0 H1) ∧ (Ab_290v_16 n4 n3 n2 n1 n0 H0 H1 ∧ preb_290v n4 H0) ∧ some q0 = some (mub_290v_16 n4 n3 n2 n1 n0 H0 H1)) (f9 : n5 ≤ 20) (f10 : 0 ≤ n5) (f11 : n5 = hV H1 (n3).toNat 64) (f12 : n0 < n5) (f13 : n1 = 0) (f14 : n6 = 354) (f15 : n6 = hV H1 (n3).toNat 96) (f16 : n7 ≤ 1) (f17 : 0 ≤ n7) (f18 : n7 = hV H1 (n6).toNat (n0).toNat) (f19 : n7 ≠ 0) (f20 : n8 ≤ 1) (f21 : 0 ≤ n8) (f22 : (hLe T0 H1 H2 ∧ hFr s_289.2.2.2.2 H1 H2 ∧ ((0 : Int) = 0 → H2.length = H1.length) ∧ hWt T0 H2) ∧ postb_289 n8 n3 n0 H1 H2) (f23 : n8 = 0) (f24 : n9 = 335) (f25 : n9 = hV H2 (n3).toNat 73) (f26 : n10 ≤ 7) (f27 : (-1) ≤ n10) (f28 : n10 = hV H2 (n9).toNat (n0).toNat) (f29 : n11 = 336) (f30 : n11 = hV H2 (n3).toNat 74) (f31 : n12 ≤ 5) (f32 : (-1) ≤ n12) (f33 : n12 = hV H2 (n11).toNat (n0).toNat) : 0 ≤ n10 := by
  have g4 := f8.2.1.1
  unfold Ab_290v_16 at g4
  have g3 := f8.2.1.2
  unfold preb_290v at g3
  unfold postb_289 at f22
  have e1 : n5 = hV H0 285 64 := (by rw [f6] at f11; exact f11 : n5 = hV H1 285 64).trans ((f8.1.2.1.1 285 64 kF_290v_285_64))
  have e2 : n7 = hV H1 354 (n0).toNat := (by rw [f14] at f18; exact f18 : n7 = hV H1 354 (n0).toNat)
  have e3 : hV H2 335 = hV H1 335 := fRow f22.1.2.1 335 kR_289_335
  have e4 : n10 = hV H1 335 (n0).toNat := (by rw [f24] at f28; exact f28 : n10 = hV H2 335 (n0).toNat).trans ((congrFun e3 _))
  have e6 : n12 = hV H1 336 (n0).toNat := (by rw [f29] at f33; exact f33 : n12 = hV H2 336 (n0).toNat).trans ((congrFun (fRow f22.1.2.1 336 kR_289_336) _))
  have e8 : hV H1 285 18 = hV H0 285 18 := (f8.1.2.1.1 285 18 kF_290v_285_18)
  have e9 : hV H1 285 64 = hV H0 285 64 := (f8.1.2.1.1 285 64 kF_290v_285_64)
  have e10 : hV H1 296 = hV H0 296 := fRow f8.1.2.1 296 kR_290v_296
  have e11 : hV H1 298 = hV H0 298 := fRow f8.1.2.1 298 kR_290v_298
  have e12 : hV H1 300 = hV H0 300 := fRow f8.1.2.1 300 kR_290v_300
  have e13 : hV H1 301 = hV H0 301 := fRow f8.1.2.1 301 kR_290v_301
  have e14 : hV H1 303 = hV H0 303 := fRow f8.1.2.1 303 kR_290v_303
  have e15 : hV H1 328 = hV H0 328 := fRow f8.1.2.1 328 kR_290v_328
  have e16 : hV H1 330 = hV H0 330 := fRow f8.1.2.1 330 kR_290v_330
  have e17 : hV H1 331 = hV H0 331 := fRow f8.1.2.1 331 kR_290v_331
  have e18 : hV H1 332 = hV H0 332 := fRow f8.1.2.1 332 kR_290v_332
  have e19 : hV H1 341 = hV H0 341 := fRow f8.1.2.1 341 kR_290v_341
  have e21 : hV H2 285 64 = hV H0 285 64 := ((f22.1.2.1.1 285 64 kF_289_285_64)).trans (f8.1.2.1.1 285 64 kF_290v_285_64)
  have e23 : hV H2 296 = hV H0 296 := (fRow f22.1.2.1 296 kR_289_296).trans e10
  have e25 : hV H2 298 = hV H0 298 := (fRow f22.1.2.1 298 kR_289_298).trans e11
  have e27 : hV H2 300 = hV H0 300 := (fRow f22.1.2.1 300 kR_289_300).trans e12
  have e29 : hV H2 328 = hV H0 328 := (fRow f22.1.2.1 328 kR_289_328).trans e15
  have e31 : hV H2 332 = hV H0 332 := (fRow f22.1.2.1 332 kR_289_332).trans e18
  have e32 : hV H2 354 = hV H1 354 := fRow f22.1.2.1 354 kR_289_354
  have e33 : (0 : Int) ≤ hV H0 285 18 ∧ hV H0 285 18 ≤ 8 := bTo e8 (f8.1.2.2 285 18 _ _ kW_285_18)
  have e34 : (0 : Int) ≤ hV H0 285 64 ∧ hV H0 285 64 ≤ 20 := bTo e9 (f8.1.2.2 285 64 _ _ kW_285_64)
  have e35 : (0 : Int) ≤ hV H1 285 65 ∧ hV H1 285 65 ≤ 2147483647 := f8.1.2.2 285 65 _ _ kW_285_65
  try simp only [SO, SS, AC]
  have y0 := g4.1
  have y1 := g4.2.1
  have y2 := g4.2.2.1
  have y3 := g4.2.2.2.1
  have y4 := g4.2.2.2.2.1
  have y5 := g4.2.2.2.2.2
  have p0 := g3.1
  have p1 := g3.2.1
  have p2 := g3.2.2.1
  have p3 := g3.2.2.2.1
  have p4 := g3.2.2.2.2
  have r0_0 := f22.2.1
  have r0_1 := f22.2.2
  try simp only [SO] at y0
  try simp only [SS] at y1
  try simp only [AC] at y2
  try simp only [SO] at p0
  try simp only [SS] at p1
  try simp only [AC] at p3
  try simp only [e8, e9, e15, e16, e17, e18] at y0
  try simp only [e19] at y1
  try simp only [e8, e9, e10, e11, e12, e15, e18] at y2
  try simp only [e9, e10, e11, e12, e13, e14, e15, e18, e19] at y3
  try simp only [e9, e10, e11, e12, e13, e14, e15, e18, e19] at y4
  try simp only [e21, e23, e25, e27, e29, e31, e3, e32] at r0_0
  try simp only [e21, e23, e25, e27, e29, e31, e3, e32] at r0_1
  clear g3
  clear g4
  clear f11 f15 f18 f25 f28 f30 f33 e3 e8 e9 e10 e11 e12 e13 e14 e15 e16 e17 e18 e19 e21 e23 e25 e27 e29 e31 e32
  clear f8 f22
  subst e1
  subst e2
  subst e4
  subst e6
  try have sm := SL_made ((y4 (by omega) (n0).toNat (by omega)).mp (by omega)) NX_made
  try have so := (y0 (n0).toNat (by omega)).2.2.2 (by omega)
  omega
def g_290v_16_11 : vG := ([(22, [12, 11, 4], [2], 0), (90, [12], [], -1), (91, [12], [], 5), (20, [11, 1], [2], 74), (0, [11], [], 336), (22, [10, 9, 4], [2], 0), (90, [10], [], -1), (91, [10], [], 7), (20, [9, 1], [2], 73), (0, [9], [], 335), (30, [8], [], 0), (1289, [8, 1, 4], [1, 2], 0), (90, [8], [], 0), (91, [8], [], 1), (31, [7], [], 0), (22, [7, 6, 4], [1], 0), (90, [7], [], 0), (91, [7], [], 1), (20, [6, 1], [1], 96), (0, [6], [], 354), (30, [3], [], 0), (42, [4, 5], [], 0), (20, [5, 1], [1], 64), (90, [5], [], 0), (91, [5], [], 20), (5000, [0, 1, 2, 3, 4], [0, 1], 16), (0, [0], [], 285), (0, [1], [], 285), (90, [2], [], -2147483648), (91, [2], [], 2147483647), (90, [3], [], 0), (91, [3], [], 1), (90, [4], [], 0), (91, [4], [], 20)], (90, [10], [], 0))
theorem c_290v_16_11 {q0 : Nat} : vOkm T0 (eP e_290v L_290v A_290v mu_290v (some q0)) 1 g_290v_16_11 := vOk_inI fun ρ η f0 f1 f2 f3 f4 f5 f6 f7 f8 f9 f10 f11 f12 f13 f14 f15 f16 f17 f18 f19 f20 f21 f22 f23 f24 f25 f26 f27 f28 f29 f30 f31 f32 f33 => q_290v_15 (q0 := q0) (n0 := ρ 4) (n1 := ρ 3) (n2 := ρ 2) (n3 := ρ 1) (n4 := ρ 0) (n5 := ρ 5) (n6 := ρ 6) (n7 := ρ 7) (n8 := ρ 8) (n9 := ρ 9) (n10 := ρ 10) (n11 := ρ 11) (n12 := ρ 12) (H0 := η 0) (H1 := η 1) (H2 := η 2) f33 f32 f31 f30 f29 f28 f27 f26 f25 f24 f23 f22 f21 f20 f19 f18 f17 f16 f15 f14 f13 f12 f11 f10 f9 f8 f7 f6 f5 f4 f3 f2 f1 f0
theorem q_290v_16 {q0 : Nat} {n0 n1 n2 n3 n4 n5 n6 n7 n8 n9 n10 n11 n12 : Int} {H0 H1 H2 : gH} (f0 : n0 ≤ 20) (f1 : 0 ≤ n0) (f2 : n1 ≤ 1) (f3 : 0 ≤ n1) (f4 : n2 ≤ 2147483647) (f5 : (-2147483648) ≤ n2) (f6 : n3 = 285) (f7 : n4 = 285) (f8 : (hLe T0 H0 H1 ∧ hFr s_290v.2.2.2.2 H0 H1 ∧ hWt T0 H1) ∧ (Ab_290v_16 n4 n3 n2 n1 n0 H0 H1 ∧ preb_290v n4 H0) ∧ some q0 = some (mub_290v_16 n4 n3 n2 n1 n0 H0 H1)) (f9 : n5 ≤ 20) (f10 : 0 ≤ n5) (f11 : n5 = hV H1 (n3).toNat 64) (f12 : n0 < n5) (f13 : n1 = 0) (f14 : n6 = 354) (f15 : n6 = hV H1 (n3).toNat 96) (f16 : n7 ≤ 1) (f17 : 0 ≤ n7) (f18 : n7 = hV H1 (n6).toNat (n0).toNat) (f19 : n7 ≠ 0) (f20 : n8 ≤ 1) (f21 : 0 ≤ n8) (f22 : (hLe T0 H1 H2 ∧ hFr s_289.2.2.2.2 H1 H2 ∧ ((0 : Int) = 0 → H2.length = H1.length) ∧ hWt T0 H2) ∧ postb_289 n8 n3 n0 H1 H2) (f23 : n8 = 0) (f24 : n9 = 335) (f25 : n9 = hV H2 (n3).toNat 73) (f26 : n10 ≤ 7) (f27 : (-1) ≤ n10) (f28 : n10 = hV H2 (n9).toNat (n0).toNat) (f29 : n11 = 336) (f30 : n11 = hV H2 (n3).toNat 74) (f31 : n12 ≤ 5) (f32 : (-1) ≤ n12) (f33 : n12 = hV H2 (n11).toNat (n0).toNat) : 0 ≤ n12 := by
  have g4 := f8.2.1.1
  unfold Ab_290v_16 at g4
  have g3 := f8.2.1.2
  unfold preb_290v at g3
  unfold postb_289 at f22
  have e1 : n5 = hV H0 285 64 := (by rw [f6] at f11; exact f11 : n5 = hV H1 285 64).trans ((f8.1.2.1.1 285 64 kF_290v_285_64))
  have e2 : n7 = hV H1 354 (n0).toNat := (by rw [f14] at f18; exact f18 : n7 = hV H1 354 (n0).toNat)
  have e3 : hV H2 335 = hV H1 335 := fRow f22.1.2.1 335 kR_289_335
  have e4 : n10 = hV H1 335 (n0).toNat := (by rw [f24] at f28; exact f28 : n10 = hV H2 335 (n0).toNat).trans ((congrFun e3 _))
  have e6 : n12 = hV H1 336 (n0).toNat := (by rw [f29] at f33; exact f33 : n12 = hV H2 336 (n0).toNat).trans ((congrFun (fRow f22.1.2.1 336 kR_289_336) _))
  have e8 : hV H1 285 18 = hV H0 285 18 := (f8.1.2.1.1 285 18 kF_290v_285_18)
  have e9 : hV H1 285 64 = hV H0 285 64 := (f8.1.2.1.1 285 64 kF_290v_285_64)
  have e10 : hV H1 296 = hV H0 296 := fRow f8.1.2.1 296 kR_290v_296
  have e11 : hV H1 298 = hV H0 298 := fRow f8.1.2.1 298 kR_290v_298
  have e12 : hV H1 300 = hV H0 300 := fRow f8.1.2.1 300 kR_290v_300
  have e13 : hV H1 301 = hV H0 301 := fRow f8.1.2.1 301 kR_290v_301
  have e14 : hV H1 303 = hV H0 303 := fRow f8.1.2.1 303 kR_290v_303
  have e15 : hV H1 328 = hV H0 328 := fRow f8.1.2.1 328 kR_290v_328
  have e16 : hV H1 330 = hV H0 330 := fRow f8.1.2.1 330 kR_290v_330
  have e17 : hV H1 331 = hV H0 331 := fRow f8.1.2.1 331 kR_290v_331
  have e18 : hV H1 332 = hV H0 332 := fRow f8.1.2.1 332 kR_290v_332
  have e19 : hV H1 341 = hV H0 341 := fRow f8.1.2.1 341 kR_290v_341
  have e21 : hV H2 285 64 = hV H0 285 64 := ((f22.1.2.1.1 285 64 kF_289_285_64)).trans (f8.1.2.1.1 285 64 kF_290v_285_64)
  have e23 : hV H2 296 = hV H0 296 := (fRow f22.1.2.1 296 kR_289_296).trans e10
  have e25 : hV H2 298 = hV H0 298 := (fRow f22.1.2.1 298 kR_289_298).trans e11
  have e27 : hV H2 300 = hV H0 300 := (fRow f22.1.2.1 300 kR_289_300).trans e12
  have e29 : hV H2 328 = hV H0 328 := (fRow f22.1.2.1 328 kR_289_328).trans e15
  have e31 : hV H2 332 = hV H0 332 := (fRow f22.1.2.1 332 kR_289_332).trans e18
  have e32 : hV H2 354 = hV H1 354 := fRow f22.1.2.1 354 kR_289_354
  have e33 : (0 : Int) ≤ hV H0 285 18 ∧ hV H0 285 18 ≤ 8 := bTo e8 (f8.1.2.2 285 18 _ _ kW_285_18)
  have e34 : (0 : Int) ≤ hV H0 285 64 ∧ hV H0 285 64 ≤ 20 := bTo e9 (f8.1.2.2 285 64 _ _ kW_285_64)
  have e35 : (0 : Int) ≤ hV H1 285 65 ∧ hV H1 285 65 ≤ 2147483647 := f8.1.2.2 285 65 _ _ kW_285_65
  try simp only [SO, SS, AC]
  have y0 := g4.1
  have y1 := g4.2.1
  have y2 := g4.2.2.1
  have y3 := g4.2.2.2.1
  have y4 := g4.2.2.2.2.1
  have y5 := g4.2.2.2.2.2
  have p0 := g3.1
  have p1 := g3.2.1
  have p2 := g3.2.2.1
  have p3 := g3.2.2.2.1
  have p4 := g3.2.2.2.2
  have r0_0 := f22.2.1
  have r0_1 := f22.2.2
  try simp only [SO] at y0
  try simp only [SS] at y1
  try simp only [AC] at y2
  try simp only [SO] at p0
  try simp only [SS] at p1
  try simp only [AC] at p3
  try simp only [e8, e9, e15, e16, e17, e18] at y0
  try simp only [e19] at y1
  try simp only [e8, e9, e10, e11, e12, e15, e18] at y2
  try simp only [e9, e10, e11, e12, e13, e14, e15, e18, e19] at y3
  try simp only [e9, e10, e11, e12, e13, e14, e15, e18, e19] at y4
  try simp only [e21, e23, e25, e27, e29, e31, e3, e32] at r0_0
  try simp only [e21, e23, e25, e27, e29, e31, e3, e32] at r0_1
  clear g3
  clear g4
  clear f11 f15 f18 f25 f28 f30 f33 e3 e8 e9 e10 e11 e12 e13 e14 e15 e16 e17 e18 e19 e21 e23 e25 e27 e29 e31 e32
  clear f8 f22
  subst e1
  subst e2
  subst e4
  subst e6
  try have sm := SL_made ((y4 (by omega) (n0).toNat (by omega)).mp (by omega)) NX_made
  try have so := (y0 (n0).toNat (by omega)).2.2.2 (by omega)
  omega
def g_290v_16_12 : vG := ([(22, [12, 11, 4], [2], 0), (90, [12], [], -1), (91, [12], [], 5), (20, [11, 1], [2], 74), (0, [11], [], 336), (22, [10, 9, 4], [2], 0), (90, [10], [], -1), (91, [10], [], 7), (20, [9, 1], [2], 73), (0, [9], [], 335), (30, [8], [], 0), (1289, [8, 1, 4], [1, 2], 0), (90, [8], [], 0), (91, [8], [], 1), (31, [7], [], 0), (22, [7, 6, 4], [1], 0), (90, [7], [], 0), (91, [7], [], 1), (20, [6, 1], [1], 96), (0, [6], [], 354), (30, [3], [], 0), (42, [4, 5], [], 0), (20, [5, 1], [1], 64), (90, [5], [], 0), (91, [5], [], 20), (5000, [0, 1, 2, 3, 4], [0, 1], 16), (0, [0], [], 285), (0, [1], [], 285), (90, [2], [], -2147483648), (91, [2], [], 2147483647), (90, [3], [], 0), (91, [3], [], 1), (90, [4], [], 0), (91, [4], [], 20)], (90, [12], [], 0))
theorem c_290v_16_12 {q0 : Nat} : vOkm T0 (eP e_290v L_290v A_290v mu_290v (some q0)) 1 g_290v_16_12 := vOk_inI fun ρ η f0 f1 f2 f3 f4 f5 f6 f7 f8 f9 f10 f11 f12 f13 f14 f15 f16 f17 f18 f19 f20 f21 f22 f23 f24 f25 f26 f27 f28 f29 f30 f31 f32 f33 => q_290v_16 (q0 := q0) (n0 := ρ 4) (n1 := ρ 3) (n2 := ρ 2) (n3 := ρ 1) (n4 := ρ 0) (n5 := ρ 5) (n6 := ρ 6) (n7 := ρ 7) (n8 := ρ 8) (n9 := ρ 9) (n10 := ρ 10) (n11 := ρ 11) (n12 := ρ 12) (H0 := η 0) (H1 := η 1) (H2 := η 2) f33 f32 f31 f30 f29 f28 f27 f26 f25 f24 f23 f22 f21 f20 f19 f18 f17 f16 f15 f14 f13 f12 f11 f10 f9 f8 f7 f6 f5 f4 f3 f2 f1 f0
theorem q_290v_17 {q0 : Nat} {n0 n1 n2 n3 n4 n5 n6 n7 n8 n9 n10 n11 n12 : Int} {H0 H1 H2 : gH} (f0 : n0 ≤ 20) (f1 : 0 ≤ n0) (f2 : n1 ≤ 1) (f3 : 0 ≤ n1) (f4 : n2 ≤ 2147483647) (f5 : (-2147483648) ≤ n2) (f6 : n3 = 285) (f7 : n4 = 285) (f8 : (hLe T0 H0 H1 ∧ hFr s_290v.2.2.2.2 H0 H1 ∧ hWt T0 H1) ∧ (Ab_290v_16 n4 n3 n2 n1 n0 H0 H1 ∧ preb_290v n4 H0) ∧ some q0 = some (mub_290v_16 n4 n3 n2 n1 n0 H0 H1)) (f9 : n5 ≤ 20) (f10 : 0 ≤ n5) (f11 : n5 = hV H1 (n3).toNat 64) (f12 : n0 < n5) (f13 : n1 = 0) (f14 : n6 = 354) (f15 : n6 = hV H1 (n3).toNat 96) (f16 : n7 ≤ 1) (f17 : 0 ≤ n7) (f18 : n7 = hV H1 (n6).toNat (n0).toNat) (f19 : n7 ≠ 0) (f20 : n8 ≤ 1) (f21 : 0 ≤ n8) (f22 : (hLe T0 H1 H2 ∧ hFr s_289.2.2.2.2 H1 H2 ∧ ((0 : Int) = 0 → H2.length = H1.length) ∧ hWt T0 H2) ∧ postb_289 n8 n3 n0 H1 H2) (f23 : n8 = 0) (f24 : n9 = 335) (f25 : n9 = hV H2 (n3).toNat 73) (f26 : n10 ≤ 7) (f27 : (-1) ≤ n10) (f28 : n10 = hV H2 (n9).toNat (n0).toNat) (f29 : n11 = 336) (f30 : n11 = hV H2 (n3).toNat 74) (f31 : n12 ≤ 5) (f32 : (-1) ≤ n12) (f33 : n12 = hV H2 (n11).toNat (n0).toNat) : preb_283v n3 n0 n10 n12 H2 := by
  have g4 := f8.2.1.1
  unfold Ab_290v_16 at g4
  have g3 := f8.2.1.2
  unfold preb_290v at g3
  unfold postb_289 at f22
  unfold preb_283v
  have e1 : n5 = hV H0 285 64 := (by rw [f6] at f11; exact f11 : n5 = hV H1 285 64).trans ((f8.1.2.1.1 285 64 kF_290v_285_64))
  have e2 : n7 = hV H1 354 (n0).toNat := (by rw [f14] at f18; exact f18 : n7 = hV H1 354 (n0).toNat)
  have e3 : hV H2 335 = hV H1 335 := fRow f22.1.2.1 335 kR_289_335
  have e4 : n10 = hV H1 335 (n0).toNat := (by rw [f24] at f28; exact f28 : n10 = hV H2 335 (n0).toNat).trans ((congrFun e3 _))
  have e5 : hV H2 336 = hV H1 336 := fRow f22.1.2.1 336 kR_289_336
  have e6 : n12 = hV H1 336 (n0).toNat := (by rw [f29] at f33; exact f33 : n12 = hV H2 336 (n0).toNat).trans ((congrFun e5 _))
  have e8 : hV H1 285 18 = hV H0 285 18 := (f8.1.2.1.1 285 18 kF_290v_285_18)
  have e9 : hV H1 285 64 = hV H0 285 64 := (f8.1.2.1.1 285 64 kF_290v_285_64)
  have e10 : hV H1 296 = hV H0 296 := fRow f8.1.2.1 296 kR_290v_296
  have e11 : hV H1 298 = hV H0 298 := fRow f8.1.2.1 298 kR_290v_298
  have e12 : hV H1 300 = hV H0 300 := fRow f8.1.2.1 300 kR_290v_300
  have e13 : hV H1 301 = hV H0 301 := fRow f8.1.2.1 301 kR_290v_301
  have e14 : hV H1 303 = hV H0 303 := fRow f8.1.2.1 303 kR_290v_303
  have e15 : hV H1 328 = hV H0 328 := fRow f8.1.2.1 328 kR_290v_328
  have e16 : hV H1 330 = hV H0 330 := fRow f8.1.2.1 330 kR_290v_330
  have e17 : hV H1 331 = hV H0 331 := fRow f8.1.2.1 331 kR_290v_331
  have e18 : hV H1 332 = hV H0 332 := fRow f8.1.2.1 332 kR_290v_332
  have e19 : hV H1 341 = hV H0 341 := fRow f8.1.2.1 341 kR_290v_341
  have e21 : hV H2 285 18 = hV H0 285 18 := ((f22.1.2.1.1 285 18 kF_289_285_18)).trans (f8.1.2.1.1 285 18 kF_290v_285_18)
  have e23 : hV H2 285 64 = hV H0 285 64 := ((f22.1.2.1.1 285 64 kF_289_285_64)).trans (f8.1.2.1.1 285 64 kF_290v_285_64)
  have e25 : hV H2 285 65 = hV H1 285 65 := (f22.1.2.1.1 285 65 kF_289_285_65)
  have e27 : hV H2 296 = hV H0 296 := (fRow f22.1.2.1 296 kR_289_296).trans e10
  have e29 : hV H2 298 = hV H0 298 := (fRow f22.1.2.1 298 kR_289_298).trans e11
  have e31 : hV H2 300 = hV H0 300 := (fRow f22.1.2.1 300 kR_289_300).trans e12
  have e33 : hV H2 328 = hV H0 328 := (fRow f22.1.2.1 328 kR_289_328).trans e15
  have e35 : hV H2 330 = hV H0 330 := (fRow f22.1.2.1 330 kR_289_330).trans e16
  have e37 : hV H2 331 = hV H0 331 := (fRow f22.1.2.1 331 kR_289_331).trans e17
  have e39 : hV H2 332 = hV H0 332 := (fRow f22.1.2.1 332 kR_289_332).trans e18
  have e40 : hV H2 333 = hV H1 333 := fRow f22.1.2.1 333 kR_289_333
  have e41 : hV H2 334 = hV H1 334 := fRow f22.1.2.1 334 kR_289_334
  have e43 : hV H2 341 = hV H0 341 := (fRow f22.1.2.1 341 kR_289_341).trans e19
  have e44 : hV H2 354 = hV H1 354 := fRow f22.1.2.1 354 kR_289_354
  have e45 : PG H1 = PG H0 := PG_fr f8.1.2.1 (by decide +kernel)
  have e46 : PG H2 = PG H1 := PG_fr f22.1.2.1 (by decide +kernel)
  have e47 : PG H2 = PG H0 := e46.trans e45
  have e48 : (0 : Int) ≤ hV H0 285 18 ∧ hV H0 285 18 ≤ 8 := bTo e8 (f8.1.2.2 285 18 _ _ kW_285_18)
  have e49 : (0 : Int) ≤ hV H0 285 64 ∧ hV H0 285 64 ≤ 20 := bTo e9 (f8.1.2.2 285 64 _ _ kW_285_64)
  have e50 : (0 : Int) ≤ hV H1 285 65 ∧ hV H1 285 65 ≤ 2147483647 := f8.1.2.2 285 65 _ _ kW_285_65
  try simp only [SO, SS, AC]
  try simp only [e21, e23, e25, e33, e35, e37, e39, e40, e41, e3, e5, e43, e47]
  have y0 := g4.1
  have y1 := g4.2.1
  have y2 := g4.2.2.1
  have y3 := g4.2.2.2.1
  have y4 := g4.2.2.2.2.1
  have y5 := g4.2.2.2.2.2
  have p0 := g3.1
  have p1 := g3.2.1
  have p2 := g3.2.2.1
  have p3 := g3.2.2.2.1
  have p4 := g3.2.2.2.2
  have r0_0 := f22.2.1
  have r0_1 := f22.2.2
  try simp only [SO] at y0
  try simp only [SS] at y1
  try simp only [AC] at y2
  try simp only [SO] at p0
  try simp only [SS] at p1
  try simp only [AC] at p3
  try simp only [e8, e9, e15, e16, e17, e18] at y0
  try simp only [e19] at y1
  try simp only [e8, e9, e10, e11, e12, e15, e18] at y2
  try simp only [e9, e10, e11, e12, e13, e14, e15, e18, e19] at y3
  try simp only [e9, e10, e11, e12, e13, e14, e15, e18, e19] at y4
  try simp only [e23, e27, e29, e31, e33, e39, e3, e44] at r0_0
  try simp only [e23, e27, e29, e31, e33, e39, e3, e44] at r0_1
  clear g3
  clear g4
  clear f11 f15 f18 f25 f28 f30 f33 e3 e5 e8 e9 e10 e11 e12 e13 e14 e15 e16 e17 e18 e19 e21 e23 e25 e27 e29 e31 e33 e35 e37 e39 e40 e41 e43 e44 e45 e46 e47
  clear f8 f22
  subst e1
  subst e2
  subst e4
  subst e6
  try have sm := SL_made ((y4 (by omega) (n0).toNat (by omega)).mp (by omega)) NX_made
  try have so := (y0 (n0).toNat (by omega)).2.2.2 (by omega)
  refine ⟨?_, ?_, ?_, ?_, ?_, ?_, ?_⟩ <;> first | assumption | omega | trivial
def g_290v_16_13 : vG := ([(22, [12, 11, 4], [2], 0), (90, [12], [], -1), (91, [12], [], 5), (20, [11, 1], [2], 74), (0, [11], [], 336), (22, [10, 9, 4], [2], 0), (90, [10], [], -1), (91, [10], [], 7), (20, [9, 1], [2], 73), (0, [9], [], 335), (30, [8], [], 0), (1289, [8, 1, 4], [1, 2], 0), (90, [8], [], 0), (91, [8], [], 1), (31, [7], [], 0), (22, [7, 6, 4], [1], 0), (90, [7], [], 0), (91, [7], [], 1), (20, [6, 1], [1], 96), (0, [6], [], 354), (30, [3], [], 0), (42, [4, 5], [], 0), (20, [5, 1], [1], 64), (90, [5], [], 0), (91, [5], [], 20), (5000, [0, 1, 2, 3, 4], [0, 1], 16), (0, [0], [], 285), (0, [1], [], 285), (90, [2], [], -2147483648), (91, [2], [], 2147483647), (90, [3], [], 0), (91, [3], [], 1), (90, [4], [], 0), (91, [4], [], 20)], (2283, [1, 4, 10, 12], [2], 0))
theorem c_290v_16_13 {q0 : Nat} : vOkm T0 (eP e_290v L_290v A_290v mu_290v (some q0)) 1 g_290v_16_13 := vOk_inI fun ρ η f0 f1 f2 f3 f4 f5 f6 f7 f8 f9 f10 f11 f12 f13 f14 f15 f16 f17 f18 f19 f20 f21 f22 f23 f24 f25 f26 f27 f28 f29 f30 f31 f32 f33 => q_290v_17 (q0 := q0) (n0 := ρ 4) (n1 := ρ 3) (n2 := ρ 2) (n3 := ρ 1) (n4 := ρ 0) (n5 := ρ 5) (n6 := ρ 6) (n7 := ρ 7) (n8 := ρ 8) (n9 := ρ 9) (n10 := ρ 10) (n11 := ρ 11) (n12 := ρ 12) (H0 := η 0) (H1 := η 1) (H2 := η 2) f33 f32 f31 f30 f29 f28 f27 f26 f25 f24 f23 f22 f21 f20 f19 f18 f17 f16 f15 f14 f13 f12 f11 f10 f9 f8 f7 f6 f5 f4 f3 f2 f1 f0
theorem kR_289_329 : vFreeR s_289.2.2.2.2 329 = true := by decide +kernel
theorem q_290v_18 {q0 : Nat} {n0 n1 n2 n3 n4 n5 n6 n7 n8 n9 n10 n11 n12 n13 n14 n15 n16 : Int} {H0 H1 H2 H3 : gH} (f0 : n0 ≤ 20) (f1 : 0 ≤ n0) (f2 : n1 ≤ 1) (f3 : 0 ≤ n1) (f4 : n2 ≤ 2147483647) (f5 : (-2147483648) ≤ n2) (f6 : n3 = 285) (f7 : n4 = 285) (f8 : (hLe T0 H0 H1 ∧ hFr s_290v.2.2.2.2 H0 H1 ∧ hWt T0 H1) ∧ (Ab_290v_16 n4 n3 n2 n1 n0 H0 H1 ∧ preb_290v n4 H0) ∧ some q0 = some (mub_290v_16 n4 n3 n2 n1 n0 H0 H1)) (f9 : n5 ≤ 20) (f10 : 0 ≤ n5) (f11 : n5 = hV H1 (n3).toNat 64) (f12 : n0 < n5) (f13 : n1 = 0) (f14 : n6 = 354) (f15 : n6 = hV H1 (n3).toNat 96) (f16 : n7 ≤ 1) (f17 : 0 ≤ n7) (f18 : n7 = hV H1 (n6).toNat (n0).toNat) (f19 : n7 ≠ 0) (f20 : n8 ≤ 1) (f21 : 0 ≤ n8) (f22 : (hLe T0 H1 H2 ∧ hFr s_289.2.2.2.2 H1 H2 ∧ ((0 : Int) = 0 → H2.length = H1.length) ∧ hWt T0 H2) ∧ postb_289 n8 n3 n0 H1 H2) (f23 : n8 = 0) (f24 : n9 = 335) (f25 : n9 = hV H2 (n3).toNat 73) (f26 : n10 ≤ 7) (f27 : (-1) ≤ n10) (f28 : n10 = hV H2 (n9).toNat (n0).toNat) (f29 : n11 = 336) (f30 : n11 = hV H2 (n3).toNat 74) (f31 : n12 ≤ 5) (f32 : (-1) ≤ n12) (f33 : n12 = hV H2 (n11).toNat (n0).toNat) (f34 : n13 ≤ 2147483647) (f35 : (-2147483648) ≤ n13) (f36 : (hLe T0 H2 H3 ∧ hFr s_283v.2.2.2.2 H2 H3 ∧ ((0 : Int) = 0 → H3.length = H2.length) ∧ hWt T0 H3) ∧ postb_283v n13 n3 n0 n10 n12 H2 H3) (f37 : n13 ≤ 0) (f38 : n14 = 0) (f39 : n15 = w32 (n2 + n14)) (f40 : n16 = w32 (n0 + 1)) : 0 ≤ n16 := by
  have g4 := f8.2.1.1
  unfold Ab_290v_16 at g4
  have g3 := f8.2.1.2
  unfold preb_290v at g3
  unfold postb_289 at f22
  unfold postb_283v at f36
  have e1 : n5 = hV H0 285 64 := (by rw [f6] at f11; exact f11 : n5 = hV H1 285 64).trans ((f8.1.2.1.1 285 64 kF_290v_285_64))
  have e2 : n7 = hV H1 354 (n0).toNat := (by rw [f14] at f18; exact f18 : n7 = hV H1 354 (n0).toNat)
  have e3 : hV H2 335 = hV H1 335 := fRow f22.1.2.1 335 kR_289_335
  have e4 : n10 = hV H1 335 (n0).toNat := (by rw [f24] at f28; exact f28 : n10 = hV H2 335 (n0).toNat).trans ((congrFun e3 _))
  have e6 : n12 = hV H1 336 (n0).toNat := (by rw [f29] at f33; exact f33 : n12 = hV H2 336 (n0).toNat).trans ((congrFun (fRow f22.1.2.1 336 kR_289_336) _))
  have e8 : hV H1 285 18 = hV H0 285 18 := (f8.1.2.1.1 285 18 kF_290v_285_18)
  have e9 : hV H1 285 64 = hV H0 285 64 := (f8.1.2.1.1 285 64 kF_290v_285_64)
  have e10 : hV H1 296 = hV H0 296 := fRow f8.1.2.1 296 kR_290v_296
  have e11 : hV H1 298 = hV H0 298 := fRow f8.1.2.1 298 kR_290v_298
  have e12 : hV H1 300 = hV H0 300 := fRow f8.1.2.1 300 kR_290v_300
  have e13 : hV H1 301 = hV H0 301 := fRow f8.1.2.1 301 kR_290v_301
  have e14 : hV H1 303 = hV H0 303 := fRow f8.1.2.1 303 kR_290v_303
  have e15 : hV H1 328 = hV H0 328 := fRow f8.1.2.1 328 kR_290v_328
  have e16 : hV H1 330 = hV H0 330 := fRow f8.1.2.1 330 kR_290v_330
  have e17 : hV H1 331 = hV H0 331 := fRow f8.1.2.1 331 kR_290v_331
  have e18 : hV H1 332 = hV H0 332 := fRow f8.1.2.1 332 kR_290v_332
  have e19 : hV H1 341 = hV H0 341 := fRow f8.1.2.1 341 kR_290v_341
  have e21 : hV H2 285 64 = hV H0 285 64 := ((f22.1.2.1.1 285 64 kF_289_285_64)).trans (f8.1.2.1.1 285 64 kF_290v_285_64)
  have e23 : hV H2 285 65 = hV H1 285 65 := (f22.1.2.1.1 285 65 kF_289_285_65)
  have e25 : hV H2 296 = hV H0 296 := (fRow f22.1.2.1 296 kR_289_296).trans e10
  have e27 : hV H2 298 = hV H0 298 := (fRow f22.1.2.1 298 kR_289_298).trans e11
  have e29 : hV H2 300 = hV H0 300 := (fRow f22.1.2.1 300 kR_289_300).trans e12
  have e31 : hV H2 328 = hV H0 328 := (fRow f22.1.2.1 328 kR_289_328).trans e15
  have e32 : hV H2 329 = hV H1 329 := fRow f22.1.2.1 329 kR_289_329
  have e34 : hV H2 332 = hV H0 332 := (fRow f22.1.2.1 332 kR_289_332).trans e18
  have e35 : hV H2 333 = hV H1 333 := fRow f22.1.2.1 333 kR_289_333
  have e36 : hV H2 354 = hV H1 354 := fRow f22.1.2.1 354 kR_289_354
  have e39 : hV H3 285 18 = hV H0 285 18 := ((f36.1.2.1.1 285 18 kF_283v_285_18)).trans (((f22.1.2.1.1 285 18 kF_289_285_18)).trans (f8.1.2.1.1 285 18 kF_290v_285_18))
  have e41 : hV H3 285 64 = hV H0 285 64 := ((f36.1.2.1.1 285 64 kF_283v_285_64)).trans (((f22.1.2.1.1 285 64 kF_289_285_64)).trans (f8.1.2.1.1 285 64 kF_290v_285_64))
  have e43 : hV H3 328 = hV H0 328 := (fRow f36.1.2.1 328 kR_283v_328).trans e31
  have e47 : hV H3 330 = hV H0 330 := (fRow f36.1.2.1 330 kR_283v_330).trans ((fRow f22.1.2.1 330 kR_289_330).trans e16)
  have e51 : hV H3 331 = hV H0 331 := (fRow f36.1.2.1 331 kR_283v_331).trans ((fRow f22.1.2.1 331 kR_289_331).trans e17)
  have e53 : hV H3 332 = hV H0 332 := (fRow f36.1.2.1 332 kR_283v_332).trans e34
  have e57 : hV H3 341 = hV H0 341 := (fRow f36.1.2.1 341 kR_283v_341).trans ((fRow f22.1.2.1 341 kR_289_341).trans e19)
  have e58 : (0 : Int) ≤ hV H0 285 18 ∧ hV H0 285 18 ≤ 8 := bTo e8 (f8.1.2.2 285 18 _ _ kW_285_18)
  have e59 : (0 : Int) ≤ hV H0 285 64 ∧ hV H0 285 64 ≤ 20 := bTo e9 (f8.1.2.2 285 64 _ _ kW_285_64)
  have e60 : (0 : Int) ≤ hV H1 285 65 ∧ hV H1 285 65 ≤ 2147483647 := f8.1.2.2 285 65 _ _ kW_285_65
  have e65 : (0 : Int) ≤ hV H3 285 65 ∧ hV H3 285 65 ≤ 2147483647 := f36.1.2.2.2 285 65 _ _ kW_285_65
  try simp only [SO, SS, AC]
  have y0 := g4.1
  have y1 := g4.2.1
  have y2 := g4.2.2.1
  have y3 := g4.2.2.2.1
  have y4 := g4.2.2.2.2.1
  have y5 := g4.2.2.2.2.2
  have p0 := g3.1
  have p1 := g3.2.1
  have p2 := g3.2.2.1
  have p3 := g3.2.2.2.1
  have p4 := g3.2.2.2.2
  have r0_0 := f22.2.1
  have r0_1 := f22.2.2
  have r1_0 := f36.2.1
  have r1_1 := f36.2.2.1
  have r1_2 := f36.2.2.2.1
  have r1_3 := f36.2.2.2.2.1
  have r1_4 := f36.2.2.2.2.2.1
  have r1_5 := f36.2.2.2.2.2.2
  try simp only [SO] at y0
  try simp only [SS] at y1
  try simp only [AC] at y2
  try simp only [SO] at p0
  try simp only [SS] at p1
  try simp only [AC] at p3
  try simp only [SO] at r1_0
  try simp only [SS] at r1_1
  try simp only [e8, e9, e15, e16, e17, e18] at y0
  try simp only [e19] at y1
  try simp only [e8, e9, e10, e11, e12, e15, e18] at y2
  try simp only [e9, e10, e11, e12, e13, e14, e15, e18, e19] at y3
  try simp only [e9, e10, e11, e12, e13, e14, e15, e18, e19] at y4
  try simp only [e21, e25, e27, e29, e31, e34, e3, e36] at r0_0
  try simp only [e21, e25, e27, e29, e31, e34, e3, e36] at r0_1
  try simp only [e39, e41, e43, e47, e51, e53] at r1_0
  try simp only [e57] at r1_1
  try simp only [e23] at r1_2
  try simp only [e35] at r1_3
  try simp only [e3] at r1_4
  try simp only [e32] at r1_5
  clear g3
  clear g4
  clear f11 f15 f18 f25 f28 f30 f33 e3 e8 e9 e10 e11 e12 e13 e14 e15 e16 e17 e18 e19 e21 e23 e25 e27 e29 e31 e32 e34 e35 e36 e39 e41 e43 e47 e51 e53 e57
  clear f8 f22 f36
  subst e1
  subst e2
  subst e4
  subst e6
  try have sm := SL_made ((y4 (by omega) (n0).toNat (by omega)).mp (by omega)) NX_made
  try have so := (y0 (n0).toNat (by omega)).2.2.2 (by omega)
  first
  | (have ix0 : n16 = n0 + 1 := Eq.trans f40 (w32_iv (Iad (Iat f1 f0) (IC 1)) (by decide)); subst ix0; clear f40)
  | (have ix0 : n16 = n0 + 1 := Eq.trans f40 (w32_id (by omega) (by omega)); subst ix0; clear f40)
  | (unfold w32 at f40; have ix0 : n16 = n0 + 1 := (by omega); subst ix0)
  | skip
  try unfold w32 at f39
  try unfold w32 at f40
  omega
def g_290v_16_14 : vG := ([(10, [17, 4], [], 1), (1, [15, 2, 14], [], 0), (0, [14], [], 0), (35, [13], [], 0), (1283, [13, 1, 4, 10, 12], [2, 3], 0), (90, [13], [], -2147483648), (91, [13], [], 2147483647), (22, [12, 11, 4], [2], 0), (90, [12], [], -1), (91, [12], [], 5), (20, [11, 1], [2], 74), (0, [11], [], 336), (22, [10, 9, 4], [2], 0), (90, [10], [], -1), (91, [10], [], 7), (20, [9, 1], [2], 73), (0, [9], [], 335), (30, [8], [], 0), (1289, [8, 1, 4], [1, 2], 0), (90, [8], [], 0), (91, [8], [], 1), (31, [7], [], 0), (22, [7, 6, 4], [1], 0), (90, [7], [], 0), (91, [7], [], 1), (20, [6, 1], [1], 96), (0, [6], [], 354), (30, [3], [], 0), (42, [4, 5], [], 0), (20, [5, 1], [1], 64), (90, [5], [], 0), (91, [5], [], 20), (5000, [0, 1, 2, 3, 4], [0, 1], 16), (0, [0], [], 285), (0, [1], [], 285), (90, [2], [], -2147483648), (91, [2], [], 2147483647), (90, [3], [], 0), (91, [3], [], 1), (90, [4], [], 0), (91, [4], [], 20)], (90, [17], [], 0))
theorem c_290v_16_14 {q0 : Nat} : vOkm T0 (eP e_290v L_290v A_290v mu_290v (some q0)) 1 g_290v_16_14 := vOk_inI fun ρ η f0 f1 f2 f3 f4 f5 f6 f7 f8 f9 f10 f11 f12 f13 f14 f15 f16 f17 f18 f19 f20 f21 f22 f23 f24 f25 f26 f27 f28 f29 f30 f31 f32 f33 f34 f35 f36 f37 f38 f39 f40 => q_290v_18 (q0 := q0) (n0 := ρ 4) (n1 := ρ 3) (n2 := ρ 2) (n3 := ρ 1) (n4 := ρ 0) (n5 := ρ 5) (n6 := ρ 6) (n7 := ρ 7) (n8 := ρ 8) (n9 := ρ 9) (n10 := ρ 10) (n11 := ρ 11) (n12 := ρ 12) (n13 := ρ 13) (n14 := ρ 14) (n15 := ρ 15) (n16 := ρ 17) (H0 := η 0) (H1 := η 1) (H2 := η 2) (H3 := η 3) f40 f39 f38 f37 f36 f35 f34 f33 f32 f31 f30 f29 f28 f27 f26 f25 f24 f23 f22 f21 f20 f19 f18 f17 f16 f15 f14 f13 f12 f11 f10 f9 f8 f7 f6 f5 f4 f3 f2 f1 f0
theorem q_290v_19 {q0 : Nat} {n0 n1 n2 n3 n4 n5 n6 n7 n8 n9 n10 n11 n12 n13 n14 n15 n16 : Int} {H0 H1 H2 H3 : gH} (f0 : n0 ≤ 20) (f1 : 0 ≤ n0) (f2 : n1 ≤ 1) (f3 : 0 ≤ n1) (f4 : n2 ≤ 2147483647) (f5 : (-2147483648) ≤ n2) (f6 : n3 = 285) (f7 : n4 = 285) (f8 : (hLe T0 H0 H1 ∧ hFr s_290v.2.2.2.2 H0 H1 ∧ hWt T0 H1) ∧ (Ab_290v_16 n4 n3 n2 n1 n0 H0 H1 ∧ preb_290v n4 H0) ∧ some q0 = some (mub_290v_16 n4 n3 n2 n1 n0 H0 H1)) (f9 : n5 ≤ 20) (f10 : 0 ≤ n5) (f11 : n5 = hV H1 (n3).toNat 64) (f12 : n0 < n5) (f13 : n1 = 0) (f14 : n6 = 354) (f15 : n6 = hV H1 (n3).toNat 96) (f16 : n7 ≤ 1) (f17 : 0 ≤ n7) (f18 : n7 = hV H1 (n6).toNat (n0).toNat) (f19 : n7 ≠ 0) (f20 : n8 ≤ 1) (f21 : 0 ≤ n8) (f22 : (hLe T0 H1 H2 ∧ hFr s_289.2.2.2.2 H1 H2 ∧ ((0 : Int) = 0 → H2.length = H1.length) ∧ hWt T0 H2) ∧ postb_289 n8 n3 n0 H1 H2) (f23 : n8 = 0) (f24 : n9 = 335) (f25 : n9 = hV H2 (n3).toNat 73) (f26 : n10 ≤ 7) (f27 : (-1) ≤ n10) (f28 : n10 = hV H2 (n9).toNat (n0).toNat) (f29 : n11 = 336) (f30 : n11 = hV H2 (n3).toNat 74) (f31 : n12 ≤ 5) (f32 : (-1) ≤ n12) (f33 : n12 = hV H2 (n11).toNat (n0).toNat) (f34 : n13 ≤ 2147483647) (f35 : (-2147483648) ≤ n13) (f36 : (hLe T0 H2 H3 ∧ hFr s_283v.2.2.2.2 H2 H3 ∧ ((0 : Int) = 0 → H3.length = H2.length) ∧ hWt T0 H3) ∧ postb_283v n13 n3 n0 n10 n12 H2 H3) (f37 : n13 ≤ 0) (f38 : n14 = 0) (f39 : n15 = w32 (n2 + n14)) (f40 : n16 = w32 (n0 + 1)) : n16 ≤ 20 := by
  have g4 := f8.2.1.1
  unfold Ab_290v_16 at g4
  have g3 := f8.2.1.2
  unfold preb_290v at g3
  unfold postb_289 at f22
  unfold postb_283v at f36
  have e1 : n5 = hV H0 285 64 := (by rw [f6] at f11; exact f11 : n5 = hV H1 285 64).trans ((f8.1.2.1.1 285 64 kF_290v_285_64))
  have e2 : n7 = hV H1 354 (n0).toNat := (by rw [f14] at f18; exact f18 : n7 = hV H1 354 (n0).toNat)
  have e3 : hV H2 335 = hV H1 335 := fRow f22.1.2.1 335 kR_289_335
  have e4 : n10 = hV H1 335 (n0).toNat := (by rw [f24] at f28; exact f28 : n10 = hV H2 335 (n0).toNat).trans ((congrFun e3 _))
  have e6 : n12 = hV H1 336 (n0).toNat := (by rw [f29] at f33; exact f33 : n12 = hV H2 336 (n0).toNat).trans ((congrFun (fRow f22.1.2.1 336 kR_289_336) _))
  have e8 : hV H1 285 18 = hV H0 285 18 := (f8.1.2.1.1 285 18 kF_290v_285_18)
  have e9 : hV H1 285 64 = hV H0 285 64 := (f8.1.2.1.1 285 64 kF_290v_285_64)
  have e10 : hV H1 296 = hV H0 296 := fRow f8.1.2.1 296 kR_290v_296
  have e11 : hV H1 298 = hV H0 298 := fRow f8.1.2.1 298 kR_290v_298
  have e12 : hV H1 300 = hV H0 300 := fRow f8.1.2.1 300 kR_290v_300
  have e13 : hV H1 301 = hV H0 301 := fRow f8.1.2.1 301 kR_290v_301
  have e14 : hV H1 303 = hV H0 303 := fRow f8.1.2.1 303 kR_290v_303
  have e15 : hV H1 328 = hV H0 328 := fRow f8.1.2.1 328 kR_290v_328
  have e16 : hV H1 330 = hV H0 330 := fRow f8.1.2.1 330 kR_290v_330
  have e17 : hV H1 331 = hV H0 331 := fRow f8.1.2.1 331 kR_290v_331
  have e18 : hV H1 332 = hV H0 332 := fRow f8.1.2.1 332 kR_290v_332
  have e19 : hV H1 341 = hV H0 341 := fRow f8.1.2.1 341 kR_290v_341
  have e21 : hV H2 285 64 = hV H0 285 64 := ((f22.1.2.1.1 285 64 kF_289_285_64)).trans (f8.1.2.1.1 285 64 kF_290v_285_64)
  have e23 : hV H2 285 65 = hV H1 285 65 := (f22.1.2.1.1 285 65 kF_289_285_65)
  have e25 : hV H2 296 = hV H0 296 := (fRow f22.1.2.1 296 kR_289_296).trans e10
  have e27 : hV H2 298 = hV H0 298 := (fRow f22.1.2.1 298 kR_289_298).trans e11
  have e29 : hV H2 300 = hV H0 300 := (fRow f22.1.2.1 300 kR_289_300).trans e12
  have e31 : hV H2 328 = hV H0 328 := (fRow f22.1.2.1 328 kR_289_328).trans e15
  have e32 : hV H2 329 = hV H1 329 := fRow f22.1.2.1 329 kR_289_329
  have e34 : hV H2 332 = hV H0 332 := (fRow f22.1.2.1 332 kR_289_332).trans e18
  have e35 : hV H2 333 = hV H1 333 := fRow f22.1.2.1 333 kR_289_333
  have e36 : hV H2 354 = hV H1 354 := fRow f22.1.2.1 354 kR_289_354
  have e39 : hV H3 285 18 = hV H0 285 18 := ((f36.1.2.1.1 285 18 kF_283v_285_18)).trans (((f22.1.2.1.1 285 18 kF_289_285_18)).trans (f8.1.2.1.1 285 18 kF_290v_285_18))
  have e41 : hV H3 285 64 = hV H0 285 64 := ((f36.1.2.1.1 285 64 kF_283v_285_64)).trans (((f22.1.2.1.1 285 64 kF_289_285_64)).trans (f8.1.2.1.1 285 64 kF_290v_285_64))
  have e43 : hV H3 328 = hV H0 328 := (fRow f36.1.2.1 328 kR_283v_328).trans e31
  have e47 : hV H3 330 = hV H0 330 := (fRow f36.1.2.1 330 kR_283v_330).trans ((fRow f22.1.2.1 330 kR_289_330).trans e16)
  have e51 : hV H3 331 = hV H0 331 := (fRow f36.1.2.1 331 kR_283v_331).trans ((fRow f22.1.2.1 331 kR_289_331).trans e17)
  have e53 : hV H3 332 = hV H0 332 := (fRow f36.1.2.1 332 kR_283v_332).trans e34
  have e57 : hV H3 341 = hV H0 341 := (fRow f36.1.2.1 341 kR_283v_341).trans ((fRow f22.1.2.1 341 kR_289_341).trans e19)
  have e58 : (0 : Int) ≤ hV H0 285 18 ∧ hV H0 285 18 ≤ 8 := bTo e8 (f8.1.2.2 285 18 _ _ kW_285_18)
  have e59 : (0 : Int) ≤ hV H0 285 64 ∧ hV H0 285 64 ≤ 20 := bTo e9 (f8.1.2.2 285 64 _ _ kW_285_64)
  have e60 : (0 : Int) ≤ hV H1 285 65 ∧ hV H1 285 65 ≤ 2147483647 := f8.1.2.2 285 65 _ _ kW_285_65
  have e65 : (0 : Int) ≤ hV H3 285 65 ∧ hV H3 285 65 ≤ 2147483647 := f36.1.2.2.2 285 65 _ _ kW_285_65
  try simp only [SO, SS, AC]
  have y0 := g4.1
  have y1 := g4.2.1
  have y2 := g4.2.2.1
  have y3 := g4.2.2.2.1
  have y4 := g4.2.2.2.2.1
  have y5 := g4.2.2.2.2.2
  have p0 := g3.1
  have p1 := g3.2.1
  have p2 := g3.2.2.1
  have p3 := g3.2.2.2.1
  have p4 := g3.2.2.2.2
  have r0_0 := f22.2.1
  have r0_1 := f22.2.2
  have r1_0 := f36.2.1
  have r1_1 := f36.2.2.1
  have r1_2 := f36.2.2.2.1
  have r1_3 := f36.2.2.2.2.1
  have r1_4 := f36.2.2.2.2.2.1
  have r1_5 := f36.2.2.2.2.2.2
  try simp only [SO] at y0
  try simp only [SS] at y1
  try simp only [AC] at y2
  try simp only [SO] at p0
  try simp only [SS] at p1
  try simp only [AC] at p3
  try simp only [SO] at r1_0
  try simp only [SS] at r1_1
  try simp only [e8, e9, e15, e16, e17, e18] at y0
  try simp only [e19] at y1
  try simp only [e8, e9, e10, e11, e12, e15, e18] at y2
  try simp only [e9, e10, e11, e12, e13, e14, e15, e18, e19] at y3
  try simp only [e9, e10, e11, e12, e13, e14, e15, e18, e19] at y4
  try simp only [e21, e25, e27, e29, e31, e34, e3, e36] at r0_0
  try simp only [e21, e25, e27, e29, e31, e34, e3, e36] at r0_1
  try simp only [e39, e41, e43, e47, e51, e53] at r1_0
  try simp only [e57] at r1_1
  try simp only [e23] at r1_2
  try simp only [e35] at r1_3
  try simp only [e3] at r1_4
  try simp only [e32] at r1_5
  clear g3
  clear g4
  clear f11 f15 f18 f25 f28 f30 f33 e3 e8 e9 e10 e11 e12 e13 e14 e15 e16 e17 e18 e19 e21 e23 e25 e27 e29 e31 e32 e34 e35 e36 e39 e41 e43 e47 e51 e53 e57
  clear f8 f22 f36
  subst e1
  subst e2
  subst e4
  subst e6
  try have sm := SL_made ((y4 (by omega) (n0).toNat (by omega)).mp (by omega)) NX_made
  try have so := (y0 (n0).toNat (by omega)).2.2.2 (by omega)
  first
  | (have ix0 : n16 = n0 + 1 := Eq.trans f40 (w32_iv (Iad (Iat f1 f0) (IC 1)) (by decide)); subst ix0; clear f40)
  | (have ix0 : n16 = n0 + 1 := Eq.trans f40 (w32_id (by omega) (by omega)); subst ix0; clear f40)
  | (unfold w32 at f40; have ix0 : n16 = n0 + 1 := (by omega); subst ix0)
  | skip
  try unfold w32 at f39
  try unfold w32 at f40
  omega
def g_290v_16_15 : vG := ([(10, [17, 4], [], 1), (1, [15, 2, 14], [], 0), (0, [14], [], 0), (35, [13], [], 0), (1283, [13, 1, 4, 10, 12], [2, 3], 0), (90, [13], [], -2147483648), (91, [13], [], 2147483647), (22, [12, 11, 4], [2], 0), (90, [12], [], -1), (91, [12], [], 5), (20, [11, 1], [2], 74), (0, [11], [], 336), (22, [10, 9, 4], [2], 0), (90, [10], [], -1), (91, [10], [], 7), (20, [9, 1], [2], 73), (0, [9], [], 335), (30, [8], [], 0), (1289, [8, 1, 4], [1, 2], 0), (90, [8], [], 0), (91, [8], [], 1), (31, [7], [], 0), (22, [7, 6, 4], [1], 0), (90, [7], [], 0), (91, [7], [], 1), (20, [6, 1], [1], 96), (0, [6], [], 354), (30, [3], [], 0), (42, [4, 5], [], 0), (20, [5, 1], [1], 64), (90, [5], [], 0), (91, [5], [], 20), (5000, [0, 1, 2, 3, 4], [0, 1], 16), (0, [0], [], 285), (0, [1], [], 285), (90, [2], [], -2147483648), (91, [2], [], 2147483647), (90, [3], [], 0), (91, [3], [], 1), (90, [4], [], 0), (91, [4], [], 20)], (91, [17], [], 20))
theorem c_290v_16_15 {q0 : Nat} : vOkm T0 (eP e_290v L_290v A_290v mu_290v (some q0)) 1 g_290v_16_15 := vOk_inI fun ρ η f0 f1 f2 f3 f4 f5 f6 f7 f8 f9 f10 f11 f12 f13 f14 f15 f16 f17 f18 f19 f20 f21 f22 f23 f24 f25 f26 f27 f28 f29 f30 f31 f32 f33 f34 f35 f36 f37 f38 f39 f40 => q_290v_19 (q0 := q0) (n0 := ρ 4) (n1 := ρ 3) (n2 := ρ 2) (n3 := ρ 1) (n4 := ρ 0) (n5 := ρ 5) (n6 := ρ 6) (n7 := ρ 7) (n8 := ρ 8) (n9 := ρ 9) (n10 := ρ 10) (n11 := ρ 11) (n12 := ρ 12) (n13 := ρ 13) (n14 := ρ 14) (n15 := ρ 15) (n16 := ρ 17) (H0 := η 0) (H1 := η 1) (H2 := η 2) (H3 := η 3) f40 f39 f38 f37 f36 f35 f34 f33 f32 f31 f30 f29 f28 f27 f26 f25 f24 f23 f22 f21 f20 f19 f18 f17 f16 f15 f14 f13 f12 f11 f10 f9 f8 f7 f6 f5 f4 f3 f2 f1 f0
theorem kR_283v_354 : vFreeR s_283v.2.2.2.2 354 = true := by decide +kernel
theorem q_290v_20 {q0 : Nat} {n0 n1 n2 n3 n4 n5 n6 n7 n8 n9 n10 n11 n12 n13 n14 n15 n16 n17 : Int} {H0 H1 H2 H3 : gH} (f0 : n0 ≤ 20) (f1 : 0 ≤ n0) (f2 : n1 ≤ 1) (f3 : 0 ≤ n1) (f4 : n2 ≤ 2147483647) (f5 : (-2147483648) ≤ n2) (f6 : n3 = 285) (f7 : n4 = 285) (f8 : (hLe T0 H0 H1 ∧ hFr s_290v.2.2.2.2 H0 H1 ∧ hWt T0 H1) ∧ (Ab_290v_16 n4 n3 n2 n1 n0 H0 H1 ∧ preb_290v n4 H0) ∧ some q0 = some (mub_290v_16 n4 n3 n2 n1 n0 H0 H1)) (f9 : n5 ≤ 20) (f10 : 0 ≤ n5) (f11 : n5 = hV H1 (n3).toNat 64) (f12 : n0 < n5) (f13 : n1 = 0) (f14 : n6 = 354) (f15 : n6 = hV H1 (n3).toNat 96) (f16 : n7 ≤ 1) (f17 : 0 ≤ n7) (f18 : n7 = hV H1 (n6).toNat (n0).toNat) (f19 : n7 ≠ 0) (f20 : n8 ≤ 1) (f21 : 0 ≤ n8) (f22 : (hLe T0 H1 H2 ∧ hFr s_289.2.2.2.2 H1 H2 ∧ ((0 : Int) = 0 → H2.length = H1.length) ∧ hWt T0 H2) ∧ postb_289 n8 n3 n0 H1 H2) (f23 : n8 = 0) (f24 : n9 = 335) (f25 : n9 = hV H2 (n3).toNat 73) (f26 : n10 ≤ 7) (f27 : (-1) ≤ n10) (f28 : n10 = hV H2 (n9).toNat (n0).toNat) (f29 : n11 = 336) (f30 : n11 = hV H2 (n3).toNat 74) (f31 : n12 ≤ 5) (f32 : (-1) ≤ n12) (f33 : n12 = hV H2 (n11).toNat (n0).toNat) (f34 : n13 ≤ 2147483647) (f35 : (-2147483648) ≤ n13) (f36 : (hLe T0 H2 H3 ∧ hFr s_283v.2.2.2.2 H2 H3 ∧ ((0 : Int) = 0 → H3.length = H2.length) ∧ hWt T0 H3) ∧ postb_283v n13 n3 n0 n10 n12 H2 H3) (f37 : n13 ≤ 0) (f38 : n14 = 0) (f39 : n15 = w32 (n2 + n14)) (f40 : n16 = 1) (f41 : n17 = w32 (n0 + 1)) : Ab_290v_16 n4 n3 n15 n16 n17 H0 H3 ∧ ∀ q, some q0 = some q → mub_290v_16 n4 n3 n15 n16 n17 H0 H3 < q := by
  have g4 := f8.2.1.1
  unfold Ab_290v_16 at g4
  have g3 := f8.2.1.2
  unfold preb_290v at g3
  have g5 := Option.some.inj f8.2.2
  unfold mub_290v_16 at g5
  unfold postb_289 at f22
  unfold postb_283v at f36
  unfold Ab_290v_16
  unfold mub_290v_16
  have e1 : n5 = hV H0 285 64 := (by rw [f6] at f11; exact f11 : n5 = hV H1 285 64).trans ((f8.1.2.1.1 285 64 kF_290v_285_64))
  have e2 : n7 = hV H1 354 (n0).toNat := (by rw [f14] at f18; exact f18 : n7 = hV H1 354 (n0).toNat)
  have e3 : hV H2 335 = hV H1 335 := fRow f22.1.2.1 335 kR_289_335
  have e4 : n10 = hV H1 335 (n0).toNat := (by rw [f24] at f28; exact f28 : n10 = hV H2 335 (n0).toNat).trans ((congrFun e3 _))
  have e5 : hV H2 336 = hV H1 336 := fRow f22.1.2.1 336 kR_289_336
  have e6 : n12 = hV H1 336 (n0).toNat := (by rw [f29] at f33; exact f33 : n12 = hV H2 336 (n0).toNat).trans ((congrFun e5 _))
  have e8 : hV H1 285 18 = hV H0 285 18 := (f8.1.2.1.1 285 18 kF_290v_285_18)
  have e9 : hV H1 285 64 = hV H0 285 64 := (f8.1.2.1.1 285 64 kF_290v_285_64)
  have e10 : hV H1 296 = hV H0 296 := fRow f8.1.2.1 296 kR_290v_296
  have e11 : hV H1 298 = hV H0 298 := fRow f8.1.2.1 298 kR_290v_298
  have e12 : hV H1 300 = hV H0 300 := fRow f8.1.2.1 300 kR_290v_300
  have e13 : hV H1 301 = hV H0 301 := fRow f8.1.2.1 301 kR_290v_301
  have e14 : hV H1 303 = hV H0 303 := fRow f8.1.2.1 303 kR_290v_303
  have e15 : hV H1 328 = hV H0 328 := fRow f8.1.2.1 328 kR_290v_328
  have e16 : hV H1 330 = hV H0 330 := fRow f8.1.2.1 330 kR_290v_330
  have e17 : hV H1 331 = hV H0 331 := fRow f8.1.2.1 331 kR_290v_331
  have e18 : hV H1 332 = hV H0 332 := fRow f8.1.2.1 332 kR_290v_332
  have e19 : hV H1 341 = hV H0 341 := fRow f8.1.2.1 341 kR_290v_341
  have e21 : hV H2 285 64 = hV H0 285 64 := ((f22.1.2.1.1 285 64 kF_289_285_64)).trans (f8.1.2.1.1 285 64 kF_290v_285_64)
  have e23 : hV H2 285 65 = hV H1 285 65 := (f22.1.2.1.1 285 65 kF_289_285_65)
  have e25 : hV H2 296 = hV H0 296 := (fRow f22.1.2.1 296 kR_289_296).trans e10
  have e27 : hV H2 298 = hV H0 298 := (fRow f22.1.2.1 298 kR_289_298).trans e11
  have e29 : hV H2 300 = hV H0 300 := (fRow f22.1.2.1 300 kR_289_300).trans e12
  have e31 : hV H2 328 = hV H0 328 := (fRow f22.1.2.1 328 kR_289_328).trans e15
  have e32 : hV H2 329 = hV H1 329 := fRow f22.1.2.1 329 kR_289_329
  have e34 : hV H2 332 = hV H0 332 := (fRow f22.1.2.1 332 kR_289_332).trans e18
  have e35 : hV H2 333 = hV H1 333 := fRow f22.1.2.1 333 kR_289_333
  have e36 : hV H2 354 = hV H1 354 := fRow f22.1.2.1 354 kR_289_354
  have e39 : hV H3 285 18 = hV H0 285 18 := ((f36.1.2.1.1 285 18 kF_283v_285_18)).trans (((f22.1.2.1.1 285 18 kF_289_285_18)).trans (f8.1.2.1.1 285 18 kF_290v_285_18))
  have e41 : hV H3 285 64 = hV H0 285 64 := ((f36.1.2.1.1 285 64 kF_283v_285_64)).trans (((f22.1.2.1.1 285 64 kF_289_285_64)).trans (f8.1.2.1.1 285 64 kF_290v_285_64))
  have e43 : hV H3 296 = hV H0 296 := (fRow f36.1.2.1 296 kR_283v_296).trans e25
  have e45 : hV H3 298 = hV H0 298 := (fRow f36.1.2.1 298 kR_283v_298).trans e27
  have e47 : hV H3 300 = hV H0 300 := (fRow f36.1.2.1 300 kR_283v_300).trans e29
  have e51 : hV H3 301 = hV H0 301 := (fRow f36.1.2.1 301 kR_283v_301).trans ((fRow f22.1.2.1 301 kR_289_301).trans e13)
  have e55 : hV H3 303 = hV H0 303 := (fRow f36.1.2.1 303 kR_283v_303).trans ((fRow f22.1.2.1 303 kR_289_303).trans e14)
  have e57 : hV H3 328 = hV H0 328 := (fRow f36.1.2.1 328 kR_283v_328).trans e31
  have e61 : hV H3 330 = hV H0 330 := (fRow f36.1.2.1 330 kR_283v_330).trans ((fRow f22.1.2.1 330 kR_289_330).trans e16)
  have e65 : hV H3 331 = hV H0 331 := (fRow f36.1.2.1 331 kR_283v_331).trans ((fRow f22.1.2.1 331 kR_289_331).trans e17)
  have e67 : hV H3 332 = hV H0 332 := (fRow f36.1.2.1 332 kR_283v_332).trans e34
  have e71 : hV H3 341 = hV H0 341 := (fRow f36.1.2.1 341 kR_283v_341).trans ((fRow f22.1.2.1 341 kR_289_341).trans e19)
  have e73 : hV H3 354 = hV H1 354 := (fRow f36.1.2.1 354 kR_283v_354).trans e36
  have e74 : (0 : Int) ≤ hV H0 285 18 ∧ hV H0 285 18 ≤ 8 := bTo e8 (f8.1.2.2 285 18 _ _ kW_285_18)
  have e75 : (0 : Int) ≤ hV H0 285 64 ∧ hV H0 285 64 ≤ 20 := bTo e9 (f8.1.2.2 285 64 _ _ kW_285_64)
  have e76 : (0 : Int) ≤ hV H1 285 65 ∧ hV H1 285 65 ≤ 2147483647 := f8.1.2.2 285 65 _ _ kW_285_65
  have e81 : (0 : Int) ≤ hV H3 285 65 ∧ hV H3 285 65 ≤ 2147483647 := f36.1.2.2.2 285 65 _ _ kW_285_65
  try simp only [SO, SS, AC]
  try simp only [e9, e10, e11, e12, e13, e14, e15, e18, e19] at g5
  try simp only [e39, e41, e43, e45, e47, e51, e55, e57, e61, e65, e67, e71, e73]
  have y0 := g4.1
  have y1 := g4.2.1
  have y2 := g4.2.2.1
  have y3 := g4.2.2.2.1
  have y4 := g4.2.2.2.2.1
  have y5 := g4.2.2.2.2.2
  have p0 := g3.1
  have p1 := g3.2.1
  have p2 := g3.2.2.1
  have p3 := g3.2.2.2.1
  have p4 := g3.2.2.2.2
  have r0_0 := f22.2.1
  have r0_1 := f22.2.2
  have r1_0 := f36.2.1
  have r1_1 := f36.2.2.1
  have r1_2 := f36.2.2.2.1
  have r1_3 := f36.2.2.2.2.1
  have r1_4 := f36.2.2.2.2.2.1
  have r1_5 := f36.2.2.2.2.2.2
  try simp only [SO] at y0
  try simp only [SS] at y1
  try simp only [AC] at y2
  try simp only [SO] at p0
  try simp only [SS] at p1
  try simp only [AC] at p3
  try simp only [SO] at r1_0
  try simp only [SS] at r1_1
  try simp only [e8, e9, e15, e16, e17, e18] at y0
  try simp only [e19] at y1
  try simp only [e8, e9, e10, e11, e12, e15, e18] at y2
  try simp only [e9, e10, e11, e12, e13, e14, e15, e18, e19] at y3
  try simp only [e9, e10, e11, e12, e13, e14, e15, e18, e19] at y4
  try simp only [e21, e25, e27, e29, e31, e34, e3, e36] at r0_0
  try simp only [e21, e25, e27, e29, e31, e34, e3, e36] at r0_1
  try simp only [e39, e41, e57, e61, e65, e67] at r1_0
  try simp only [e71] at r1_1
  try simp only [e23] at r1_2
  try simp only [e35] at r1_3
  try simp only [e3] at r1_4
  try simp only [e32] at r1_5
  clear g3
  clear g4
  clear f11 f15 f18 f25 f28 f30 f33 e3 e5 e8 e9 e10 e11 e12 e13 e14 e15 e16 e17 e18 e19 e21 e23 e25 e27 e29 e31 e32 e34 e35 e36 e39 e41 e43 e45 e47 e51 e55 e57 e61 e65 e67 e71 e73
  clear f8 f22 f36
  subst e1
  subst e2
  subst e4
  subst e6
  try have sm := SL_made ((y4 (by omega) (n0).toNat (by omega)).mp (by omega)) NX_made
  try have so := (y0 (n0).toNat (by omega)).2.2.2 (by omega)
  first
  | (have ix0 : n15 = n2 + 0 := Eq.trans f39 (w32_iv (Iad (Iat f5 f4) (IC 0)) (by decide)); subst ix0; clear f39)
  | (have ix0 : n15 = n2 + 0 := Eq.trans f39 (w32_id (by omega) (by omega)); subst ix0; clear f39)
  | (unfold w32 at f39; have ix0 : n15 = n2 + 0 := (by omega); subst ix0)
  | skip
  first
  | (have ix1 : n17 = n0 + 1 := Eq.trans f41 (w32_iv (Iad (Iat f1 f0) (IC 1)) (by decide)); subst ix1; clear f41)
  | (have ix1 : n17 = n0 + 1 := Eq.trans f41 (w32_id (by omega) (by omega)); subst ix1; clear f41)
  | (unfold w32 at f41; have ix1 : n17 = n0 + 1 := (by omega); subst ix1)
  | skip
  try unfold w32 at f39
  try unfold w32 at f41

  obtain ⟨sm1, sm2, sm3⟩ := SL_made ((y4 (by omega) (n0).toNat (by omega)).mp (by omega)) NX_made
  have ms := uF_same (f := hV H1 335) (i := n0) (w := hV H1 335 (n0).toNat) rfl
  have e4 := r1_4
  rw [ms] at e4
  have e5 := r1_3
  rw [r1_2] at e5
  have less := SN_less (S := hV H0 285 64) (w := hV H1 285 65 + 1) (i := n0) (by omega) (s := (n0).toNat) (by omega) ((y4 (by omega) (n0).toNat (by omega)).mp (by omega)) (fun k hk hl z => absurd (r0_1 (by omega) k hk hl) ((y4 (by omega) k hk).mpr z)) (Classical.choose_spec y2.2) (by omega) (fun k hk => by have := (y1.1 k hk).1; omega) (fun k hk k6 k0 => by have := MK_le (p2 (hV H1 335 k).toNat (by have := y2.1 k hk k6 k0; omega)) y1 (by omega); omega)
  refine ⟨?_, fun q hq => ?_⟩
  · exact ⟨r1_0, r1_1, (by rw [e4]; exact y2), (by rw [e4, e5]; omega), fun z => by omega, fun s hs => by
      have hq := r1_5 s (fun e => hs (by rw [show s = (n0).toNat by omega]; first | exact sm1 | omega))
      rw [hq]
      exact y5 s hs⟩
  · have g6 := Option.some.inj hq
    subst g6
    rw [e4, e5]
    try clear r0_0
    omega
def g_290v_16_16 : vG := ([(10, [17, 4], [], 1), (0, [16], [], 1), (1, [15, 2, 14], [], 0), (0, [14], [], 0), (35, [13], [], 0), (1283, [13, 1, 4, 10, 12], [2, 3], 0), (90, [13], [], -2147483648), (91, [13], [], 2147483647), (22, [12, 11, 4], [2], 0), (90, [12], [], -1), (91, [12], [], 5), (20, [11, 1], [2], 74), (0, [11], [], 336), (22, [10, 9, 4], [2], 0), (90, [10], [], -1), (91, [10], [], 7), (20, [9, 1], [2], 73), (0, [9], [], 335), (30, [8], [], 0), (1289, [8, 1, 4], [1, 2], 0), (90, [8], [], 0), (91, [8], [], 1), (31, [7], [], 0), (22, [7, 6, 4], [1], 0), (90, [7], [], 0), (91, [7], [], 1), (20, [6, 1], [1], 96), (0, [6], [], 354), (30, [3], [], 0), (42, [4, 5], [], 0), (20, [5, 1], [1], 64), (90, [5], [], 0), (91, [5], [], 20), (5000, [0, 1, 2, 3, 4], [0, 1], 16), (0, [0], [], 285), (0, [1], [], 285), (90, [2], [], -2147483648), (91, [2], [], 2147483647), (90, [3], [], 0), (91, [3], [], 1), (90, [4], [], 0), (91, [4], [], 20)], (4000, [1, 15, 16, 17], [3], 16))
theorem c_290v_16_16 {q0 : Nat} : vOkm T0 (eP e_290v L_290v A_290v mu_290v (some q0)) 1 g_290v_16_16 := vOk_inI fun ρ η f0 f1 f2 f3 f4 f5 f6 f7 f8 f9 f10 f11 f12 f13 f14 f15 f16 f17 f18 f19 f20 f21 f22 f23 f24 f25 f26 f27 f28 f29 f30 f31 f32 f33 f34 f35 f36 f37 f38 f39 f40 f41 => q_290v_20 (q0 := q0) (n0 := ρ 4) (n1 := ρ 3) (n2 := ρ 2) (n3 := ρ 1) (n4 := ρ 0) (n5 := ρ 5) (n6 := ρ 6) (n7 := ρ 7) (n8 := ρ 8) (n9 := ρ 9) (n10 := ρ 10) (n11 := ρ 11) (n12 := ρ 12) (n13 := ρ 13) (n14 := ρ 14) (n15 := ρ 15) (n16 := ρ 16) (n17 := ρ 17) (H0 := η 0) (H1 := η 1) (H2 := η 2) (H3 := η 3) f41 f40 f39 f38 f37 f36 f35 f34 f33 f32 f31 f30 f29 f28 f27 f26 f25 f24 f23 f22 f21 f20 f19 f18 f17 f16 f15 f14 f13 f12 f11 f10 f9 f8 f7 f6 f5 f4 f3 f2 f1 f0
theorem q_290v_21 {q0 : Nat} {n0 n1 n2 n3 n4 n5 n6 n7 n8 n9 n10 n11 n12 n13 n14 n15 n16 : Int} {H0 H1 H2 H3 : gH} (f0 : n0 ≤ 20) (f1 : 0 ≤ n0) (f2 : n1 ≤ 1) (f3 : 0 ≤ n1) (f4 : n2 ≤ 2147483647) (f5 : (-2147483648) ≤ n2) (f6 : n3 = 285) (f7 : n4 = 285) (f8 : (hLe T0 H0 H1 ∧ hFr s_290v.2.2.2.2 H0 H1 ∧ hWt T0 H1) ∧ (Ab_290v_16 n4 n3 n2 n1 n0 H0 H1 ∧ preb_290v n4 H0) ∧ some q0 = some (mub_290v_16 n4 n3 n2 n1 n0 H0 H1)) (f9 : n5 ≤ 20) (f10 : 0 ≤ n5) (f11 : n5 = hV H1 (n3).toNat 64) (f12 : n0 < n5) (f13 : n1 = 0) (f14 : n6 = 354) (f15 : n6 = hV H1 (n3).toNat 96) (f16 : n7 ≤ 1) (f17 : 0 ≤ n7) (f18 : n7 = hV H1 (n6).toNat (n0).toNat) (f19 : n7 ≠ 0) (f20 : n8 ≤ 1) (f21 : 0 ≤ n8) (f22 : (hLe T0 H1 H2 ∧ hFr s_289.2.2.2.2 H1 H2 ∧ ((0 : Int) = 0 → H2.length = H1.length) ∧ hWt T0 H2) ∧ postb_289 n8 n3 n0 H1 H2) (f23 : n8 = 0) (f24 : n9 = 335) (f25 : n9 = hV H2 (n3).toNat 73) (f26 : n10 ≤ 7) (f27 : (-1) ≤ n10) (f28 : n10 = hV H2 (n9).toNat (n0).toNat) (f29 : n11 = 336) (f30 : n11 = hV H2 (n3).toNat 74) (f31 : n12 ≤ 5) (f32 : (-1) ≤ n12) (f33 : n12 = hV H2 (n11).toNat (n0).toNat) (f34 : n13 ≤ 2147483647) (f35 : (-2147483648) ≤ n13) (f36 : (hLe T0 H2 H3 ∧ hFr s_283v.2.2.2.2 H2 H3 ∧ ((0 : Int) = 0 → H3.length = H2.length) ∧ hWt T0 H3) ∧ postb_283v n13 n3 n0 n10 n12 H2 H3) (f37 : 0 < n13) (f38 : n14 = 1) (f39 : n15 = w32 (n2 + n14)) (f40 : n16 = w32 (n0 + 1)) : 0 ≤ n16 := by
  have g4 := f8.2.1.1
  unfold Ab_290v_16 at g4
  have g3 := f8.2.1.2
  unfold preb_290v at g3
  unfold postb_289 at f22
  unfold postb_283v at f36
  have e1 : n5 = hV H0 285 64 := (by rw [f6] at f11; exact f11 : n5 = hV H1 285 64).trans ((f8.1.2.1.1 285 64 kF_290v_285_64))
  have e2 : n7 = hV H1 354 (n0).toNat := (by rw [f14] at f18; exact f18 : n7 = hV H1 354 (n0).toNat)
  have e3 : hV H2 335 = hV H1 335 := fRow f22.1.2.1 335 kR_289_335
  have e4 : n10 = hV H1 335 (n0).toNat := (by rw [f24] at f28; exact f28 : n10 = hV H2 335 (n0).toNat).trans ((congrFun e3 _))
  have e6 : n12 = hV H1 336 (n0).toNat := (by rw [f29] at f33; exact f33 : n12 = hV H2 336 (n0).toNat).trans ((congrFun (fRow f22.1.2.1 336 kR_289_336) _))
  have e8 : hV H1 285 18 = hV H0 285 18 := (f8.1.2.1.1 285 18 kF_290v_285_18)
  have e9 : hV H1 285 64 = hV H0 285 64 := (f8.1.2.1.1 285 64 kF_290v_285_64)
  have e10 : hV H1 296 = hV H0 296 := fRow f8.1.2.1 296 kR_290v_296
  have e11 : hV H1 298 = hV H0 298 := fRow f8.1.2.1 298 kR_290v_298
  have e12 : hV H1 300 = hV H0 300 := fRow f8.1.2.1 300 kR_290v_300
  have e13 : hV H1 301 = hV H0 301 := fRow f8.1.2.1 301 kR_290v_301
  have e14 : hV H1 303 = hV H0 303 := fRow f8.1.2.1 303 kR_290v_303
  have e15 : hV H1 328 = hV H0 328 := fRow f8.1.2.1 328 kR_290v_328
  have e16 : hV H1 330 = hV H0 330 := fRow f8.1.2.1 330 kR_290v_330
  have e17 : hV H1 331 = hV H0 331 := fRow f8.1.2.1 331 kR_290v_331
  have e18 : hV H1 332 = hV H0 332 := fRow f8.1.2.1 332 kR_290v_332
  have e19 : hV H1 341 = hV H0 341 := fRow f8.1.2.1 341 kR_290v_341
  have e21 : hV H2 285 64 = hV H0 285 64 := ((f22.1.2.1.1 285 64 kF_289_285_64)).trans (f8.1.2.1.1 285 64 kF_290v_285_64)
  have e23 : hV H2 285 65 = hV H1 285 65 := (f22.1.2.1.1 285 65 kF_289_285_65)
  have e25 : hV H2 296 = hV H0 296 := (fRow f22.1.2.1 296 kR_289_296).trans e10
  have e27 : hV H2 298 = hV H0 298 := (fRow f22.1.2.1 298 kR_289_298).trans e11
  have e29 : hV H2 300 = hV H0 300 := (fRow f22.1.2.1 300 kR_289_300).trans e12
  have e31 : hV H2 328 = hV H0 328 := (fRow f22.1.2.1 328 kR_289_328).trans e15
  have e32 : hV H2 329 = hV H1 329 := fRow f22.1.2.1 329 kR_289_329
  have e34 : hV H2 332 = hV H0 332 := (fRow f22.1.2.1 332 kR_289_332).trans e18
  have e35 : hV H2 333 = hV H1 333 := fRow f22.1.2.1 333 kR_289_333
  have e36 : hV H2 354 = hV H1 354 := fRow f22.1.2.1 354 kR_289_354
  have e39 : hV H3 285 18 = hV H0 285 18 := ((f36.1.2.1.1 285 18 kF_283v_285_18)).trans (((f22.1.2.1.1 285 18 kF_289_285_18)).trans (f8.1.2.1.1 285 18 kF_290v_285_18))
  have e41 : hV H3 285 64 = hV H0 285 64 := ((f36.1.2.1.1 285 64 kF_283v_285_64)).trans (((f22.1.2.1.1 285 64 kF_289_285_64)).trans (f8.1.2.1.1 285 64 kF_290v_285_64))
  have e43 : hV H3 328 = hV H0 328 := (fRow f36.1.2.1 328 kR_283v_328).trans e31
  have e47 : hV H3 330 = hV H0 330 := (fRow f36.1.2.1 330 kR_283v_330).trans ((fRow f22.1.2.1 330 kR_289_330).trans e16)
  have e51 : hV H3 331 = hV H0 331 := (fRow f36.1.2.1 331 kR_283v_331).trans ((fRow f22.1.2.1 331 kR_289_331).trans e17)
  have e53 : hV H3 332 = hV H0 332 := (fRow f36.1.2.1 332 kR_283v_332).trans e34
  have e57 : hV H3 341 = hV H0 341 := (fRow f36.1.2.1 341 kR_283v_341).trans ((fRow f22.1.2.1 341 kR_289_341).trans e19)
  have e58 : (0 : Int) ≤ hV H0 285 18 ∧ hV H0 285 18 ≤ 8 := bTo e8 (f8.1.2.2 285 18 _ _ kW_285_18)
  have e59 : (0 : Int) ≤ hV H0 285 64 ∧ hV H0 285 64 ≤ 20 := bTo e9 (f8.1.2.2 285 64 _ _ kW_285_64)
  have e60 : (0 : Int) ≤ hV H1 285 65 ∧ hV H1 285 65 ≤ 2147483647 := f8.1.2.2 285 65 _ _ kW_285_65
  have e65 : (0 : Int) ≤ hV H3 285 65 ∧ hV H3 285 65 ≤ 2147483647 := f36.1.2.2.2 285 65 _ _ kW_285_65
  try simp only [SO, SS, AC]
  have y0 := g4.1
  have y1 := g4.2.1
  have y2 := g4.2.2.1
  have y3 := g4.2.2.2.1
  have y4 := g4.2.2.2.2.1
  have y5 := g4.2.2.2.2.2
  have p0 := g3.1
  have p1 := g3.2.1
  have p2 := g3.2.2.1
  have p3 := g3.2.2.2.1
  have p4 := g3.2.2.2.2
  have r0_0 := f22.2.1
  have r0_1 := f22.2.2
  have r1_0 := f36.2.1
  have r1_1 := f36.2.2.1
  have r1_2 := f36.2.2.2.1
  have r1_3 := f36.2.2.2.2.1
  have r1_4 := f36.2.2.2.2.2.1
  have r1_5 := f36.2.2.2.2.2.2
  try simp only [SO] at y0
  try simp only [SS] at y1
  try simp only [AC] at y2
  try simp only [SO] at p0
  try simp only [SS] at p1
  try simp only [AC] at p3
  try simp only [SO] at r1_0
  try simp only [SS] at r1_1
  try simp only [e8, e9, e15, e16, e17, e18] at y0
  try simp only [e19] at y1
  try simp only [e8, e9, e10, e11, e12, e15, e18] at y2
  try simp only [e9, e10, e11, e12, e13, e14, e15, e18, e19] at y3
  try simp only [e9, e10, e11, e12, e13, e14, e15, e18, e19] at y4
  try simp only [e21, e25, e27, e29, e31, e34, e3, e36] at r0_0
  try simp only [e21, e25, e27, e29, e31, e34, e3, e36] at r0_1
  try simp only [e39, e41, e43, e47, e51, e53] at r1_0
  try simp only [e57] at r1_1
  try simp only [e23] at r1_2
  try simp only [e35] at r1_3
  try simp only [e3] at r1_4
  try simp only [e32] at r1_5
  clear g3
  clear g4
  clear f11 f15 f18 f25 f28 f30 f33 e3 e8 e9 e10 e11 e12 e13 e14 e15 e16 e17 e18 e19 e21 e23 e25 e27 e29 e31 e32 e34 e35 e36 e39 e41 e43 e47 e51 e53 e57
  clear f8 f22 f36
  subst e1
  subst e2
  subst e4
  subst e6
  try have sm := SL_made ((y4 (by omega) (n0).toNat (by omega)).mp (by omega)) NX_made
  try have so := (y0 (n0).toNat (by omega)).2.2.2 (by omega)
  first
  | (have ix0 : n16 = n0 + 1 := Eq.trans f40 (w32_iv (Iad (Iat f1 f0) (IC 1)) (by decide)); subst ix0; clear f40)
  | (have ix0 : n16 = n0 + 1 := Eq.trans f40 (w32_id (by omega) (by omega)); subst ix0; clear f40)
  | (unfold w32 at f40; have ix0 : n16 = n0 + 1 := (by omega); subst ix0)
  | skip
  try unfold w32 at f39
  try unfold w32 at f40
  omega
def g_290v_16_17 : vG := ([(10, [17, 4], [], 1), (1, [15, 2, 14], [], 0), (0, [14], [], 1), (34, [13], [], 0), (1283, [13, 1, 4, 10, 12], [2, 3], 0), (90, [13], [], -2147483648), (91, [13], [], 2147483647), (22, [12, 11, 4], [2], 0), (90, [12], [], -1), (91, [12], [], 5), (20, [11, 1], [2], 74), (0, [11], [], 336), (22, [10, 9, 4], [2], 0), (90, [10], [], -1), (91, [10], [], 7), (20, [9, 1], [2], 73), (0, [9], [], 335), (30, [8], [], 0), (1289, [8, 1, 4], [1, 2], 0), (90, [8], [], 0), (91, [8], [], 1), (31, [7], [], 0), (22, [7, 6, 4], [1], 0), (90, [7], [], 0), (91, [7], [], 1), (20, [6, 1], [1], 96), (0, [6], [], 354), (30, [3], [], 0), (42, [4, 5], [], 0), (20, [5, 1], [1], 64), (90, [5], [], 0), (91, [5], [], 20), (5000, [0, 1, 2, 3, 4], [0, 1], 16), (0, [0], [], 285), (0, [1], [], 285), (90, [2], [], -2147483648), (91, [2], [], 2147483647), (90, [3], [], 0), (91, [3], [], 1), (90, [4], [], 0), (91, [4], [], 20)], (90, [17], [], 0))
theorem c_290v_16_17 {q0 : Nat} : vOkm T0 (eP e_290v L_290v A_290v mu_290v (some q0)) 1 g_290v_16_17 := vOk_inI fun ρ η f0 f1 f2 f3 f4 f5 f6 f7 f8 f9 f10 f11 f12 f13 f14 f15 f16 f17 f18 f19 f20 f21 f22 f23 f24 f25 f26 f27 f28 f29 f30 f31 f32 f33 f34 f35 f36 f37 f38 f39 f40 => q_290v_21 (q0 := q0) (n0 := ρ 4) (n1 := ρ 3) (n2 := ρ 2) (n3 := ρ 1) (n4 := ρ 0) (n5 := ρ 5) (n6 := ρ 6) (n7 := ρ 7) (n8 := ρ 8) (n9 := ρ 9) (n10 := ρ 10) (n11 := ρ 11) (n12 := ρ 12) (n13 := ρ 13) (n14 := ρ 14) (n15 := ρ 15) (n16 := ρ 17) (H0 := η 0) (H1 := η 1) (H2 := η 2) (H3 := η 3) f40 f39 f38 f37 f36 f35 f34 f33 f32 f31 f30 f29 f28 f27 f26 f25 f24 f23 f22 f21 f20 f19 f18 f17 f16 f15 f14 f13 f12 f11 f10 f9 f8 f7 f6 f5 f4 f3 f2 f1 f0
theorem q_290v_22 {q0 : Nat} {n0 n1 n2 n3 n4 n5 n6 n7 n8 n9 n10 n11 n12 n13 n14 n15 n16 : Int} {H0 H1 H2 H3 : gH} (f0 : n0 ≤ 20) (f1 : 0 ≤ n0) (f2 : n1 ≤ 1) (f3 : 0 ≤ n1) (f4 : n2 ≤ 2147483647) (f5 : (-2147483648) ≤ n2) (f6 : n3 = 285) (f7 : n4 = 285) (f8 : (hLe T0 H0 H1 ∧ hFr s_290v.2.2.2.2 H0 H1 ∧ hWt T0 H1) ∧ (Ab_290v_16 n4 n3 n2 n1 n0 H0 H1 ∧ preb_290v n4 H0) ∧ some q0 = some (mub_290v_16 n4 n3 n2 n1 n0 H0 H1)) (f9 : n5 ≤ 20) (f10 : 0 ≤ n5) (f11 : n5 = hV H1 (n3).toNat 64) (f12 : n0 < n5) (f13 : n1 = 0) (f14 : n6 = 354) (f15 : n6 = hV H1 (n3).toNat 96) (f16 : n7 ≤ 1) (f17 : 0 ≤ n7) (f18 : n7 = hV H1 (n6).toNat (n0).toNat) (f19 : n7 ≠ 0) (f20 : n8 ≤ 1) (f21 : 0 ≤ n8) (f22 : (hLe T0 H1 H2 ∧ hFr s_289.2.2.2.2 H1 H2 ∧ ((0 : Int) = 0 → H2.length = H1.length) ∧ hWt T0 H2) ∧ postb_289 n8 n3 n0 H1 H2) (f23 : n8 = 0) (f24 : n9 = 335) (f25 : n9 = hV H2 (n3).toNat 73) (f26 : n10 ≤ 7) (f27 : (-1) ≤ n10) (f28 : n10 = hV H2 (n9).toNat (n0).toNat) (f29 : n11 = 336) (f30 : n11 = hV H2 (n3).toNat 74) (f31 : n12 ≤ 5) (f32 : (-1) ≤ n12) (f33 : n12 = hV H2 (n11).toNat (n0).toNat) (f34 : n13 ≤ 2147483647) (f35 : (-2147483648) ≤ n13) (f36 : (hLe T0 H2 H3 ∧ hFr s_283v.2.2.2.2 H2 H3 ∧ ((0 : Int) = 0 → H3.length = H2.length) ∧ hWt T0 H3) ∧ postb_283v n13 n3 n0 n10 n12 H2 H3) (f37 : 0 < n13) (f38 : n14 = 1) (f39 : n15 = w32 (n2 + n14)) (f40 : n16 = w32 (n0 + 1)) : n16 ≤ 20 := by
  have g4 := f8.2.1.1
  unfold Ab_290v_16 at g4
  have g3 := f8.2.1.2
  unfold preb_290v at g3
  unfold postb_289 at f22
  unfold postb_283v at f36
  have e1 : n5 = hV H0 285 64 := (by rw [f6] at f11; exact f11 : n5 = hV H1 285 64).trans ((f8.1.2.1.1 285 64 kF_290v_285_64))
  have e2 : n7 = hV H1 354 (n0).toNat := (by rw [f14] at f18; exact f18 : n7 = hV H1 354 (n0).toNat)
  have e3 : hV H2 335 = hV H1 335 := fRow f22.1.2.1 335 kR_289_335
  have e4 : n10 = hV H1 335 (n0).toNat := (by rw [f24] at f28; exact f28 : n10 = hV H2 335 (n0).toNat).trans ((congrFun e3 _))
  have e6 : n12 = hV H1 336 (n0).toNat := (by rw [f29] at f33; exact f33 : n12 = hV H2 336 (n0).toNat).trans ((congrFun (fRow f22.1.2.1 336 kR_289_336) _))
  have e8 : hV H1 285 18 = hV H0 285 18 := (f8.1.2.1.1 285 18 kF_290v_285_18)
  have e9 : hV H1 285 64 = hV H0 285 64 := (f8.1.2.1.1 285 64 kF_290v_285_64)
  have e10 : hV H1 296 = hV H0 296 := fRow f8.1.2.1 296 kR_290v_296
  have e11 : hV H1 298 = hV H0 298 := fRow f8.1.2.1 298 kR_290v_298
  have e12 : hV H1 300 = hV H0 300 := fRow f8.1.2.1 300 kR_290v_300
  have e13 : hV H1 301 = hV H0 301 := fRow f8.1.2.1 301 kR_290v_301
  have e14 : hV H1 303 = hV H0 303 := fRow f8.1.2.1 303 kR_290v_303
  have e15 : hV H1 328 = hV H0 328 := fRow f8.1.2.1 328 kR_290v_328
  have e16 : hV H1 330 = hV H0 330 := fRow f8.1.2.1 330 kR_290v_330
  have e17 : hV H1 331 = hV H0 331 := fRow f8.1.2.1 331 kR_290v_331
  have e18 : hV H1 332 = hV H0 332 := fRow f8.1.2.1 332 kR_290v_332
  have e19 : hV H1 341 = hV H0 341 := fRow f8.1.2.1 341 kR_290v_341
  have e21 : hV H2 285 64 = hV H0 285 64 := ((f22.1.2.1.1 285 64 kF_289_285_64)).trans (f8.1.2.1.1 285 64 kF_290v_285_64)
  have e23 : hV H2 285 65 = hV H1 285 65 := (f22.1.2.1.1 285 65 kF_289_285_65)
  have e25 : hV H2 296 = hV H0 296 := (fRow f22.1.2.1 296 kR_289_296).trans e10
  have e27 : hV H2 298 = hV H0 298 := (fRow f22.1.2.1 298 kR_289_298).trans e11
  have e29 : hV H2 300 = hV H0 300 := (fRow f22.1.2.1 300 kR_289_300).trans e12
  have e31 : hV H2 328 = hV H0 328 := (fRow f22.1.2.1 328 kR_289_328).trans e15
  have e32 : hV H2 329 = hV H1 329 := fRow f22.1.2.1 329 kR_289_329
  have e34 : hV H2 332 = hV H0 332 := (fRow f22.1.2.1 332 kR_289_332).trans e18
  have e35 : hV H2 333 = hV H1 333 := fRow f22.1.2.1 333 kR_289_333
  have e36 : hV H2 354 = hV H1 354 := fRow f22.1.2.1 354 kR_289_354
  have e39 : hV H3 285 18 = hV H0 285 18 := ((f36.1.2.1.1 285 18 kF_283v_285_18)).trans (((f22.1.2.1.1 285 18 kF_289_285_18)).trans (f8.1.2.1.1 285 18 kF_290v_285_18))
  have e41 : hV H3 285 64 = hV H0 285 64 := ((f36.1.2.1.1 285 64 kF_283v_285_64)).trans (((f22.1.2.1.1 285 64 kF_289_285_64)).trans (f8.1.2.1.1 285 64 kF_290v_285_64))
  have e43 : hV H3 328 = hV H0 328 := (fRow f36.1.2.1 328 kR_283v_328).trans e31
  have e47 : hV H3 330 = hV H0 330 := (fRow f36.1.2.1 330 kR_283v_330).trans ((fRow f22.1.2.1 330 kR_289_330).trans e16)
  have e51 : hV H3 331 = hV H0 331 := (fRow f36.1.2.1 331 kR_283v_331).trans ((fRow f22.1.2.1 331 kR_289_331).trans e17)
  have e53 : hV H3 332 = hV H0 332 := (fRow f36.1.2.1 332 kR_283v_332).trans e34
  have e57 : hV H3 341 = hV H0 341 := (fRow f36.1.2.1 341 kR_283v_341).trans ((fRow f22.1.2.1 341 kR_289_341).trans e19)
  have e58 : (0 : Int) ≤ hV H0 285 18 ∧ hV H0 285 18 ≤ 8 := bTo e8 (f8.1.2.2 285 18 _ _ kW_285_18)
  have e59 : (0 : Int) ≤ hV H0 285 64 ∧ hV H0 285 64 ≤ 20 := bTo e9 (f8.1.2.2 285 64 _ _ kW_285_64)
  have e60 : (0 : Int) ≤ hV H1 285 65 ∧ hV H1 285 65 ≤ 2147483647 := f8.1.2.2 285 65 _ _ kW_285_65
  have e65 : (0 : Int) ≤ hV H3 285 65 ∧ hV H3 285 65 ≤ 2147483647 := f36.1.2.2.2 285 65 _ _ kW_285_65
  try simp only [SO, SS, AC]
  have y0 := g4.1
  have y1 := g4.2.1
  have y2 := g4.2.2.1
  have y3 := g4.2.2.2.1
  have y4 := g4.2.2.2.2.1
  have y5 := g4.2.2.2.2.2
  have p0 := g3.1
  have p1 := g3.2.1
  have p2 := g3.2.2.1
  have p3 := g3.2.2.2.1
  have p4 := g3.2.2.2.2
  have r0_0 := f22.2.1
  have r0_1 := f22.2.2
  have r1_0 := f36.2.1
  have r1_1 := f36.2.2.1
  have r1_2 := f36.2.2.2.1
  have r1_3 := f36.2.2.2.2.1
  have r1_4 := f36.2.2.2.2.2.1
  have r1_5 := f36.2.2.2.2.2.2
  try simp only [SO] at y0
  try simp only [SS] at y1
  try simp only [AC] at y2
  try simp only [SO] at p0
  try simp only [SS] at p1
  try simp only [AC] at p3
  try simp only [SO] at r1_0
  try simp only [SS] at r1_1
  try simp only [e8, e9, e15, e16, e17, e18] at y0
  try simp only [e19] at y1
  try simp only [e8, e9, e10, e11, e12, e15, e18] at y2
  try simp only [e9, e10, e11, e12, e13, e14, e15, e18, e19] at y3
  try simp only [e9, e10, e11, e12, e13, e14, e15, e18, e19] at y4
  try simp only [e21, e25, e27, e29, e31, e34, e3, e36] at r0_0
  try simp only [e21, e25, e27, e29, e31, e34, e3, e36] at r0_1
  try simp only [e39, e41, e43, e47, e51, e53] at r1_0
  try simp only [e57] at r1_1
  try simp only [e23] at r1_2
  try simp only [e35] at r1_3
  try simp only [e3] at r1_4
  try simp only [e32] at r1_5
  clear g3
  clear g4
  clear f11 f15 f18 f25 f28 f30 f33 e3 e8 e9 e10 e11 e12 e13 e14 e15 e16 e17 e18 e19 e21 e23 e25 e27 e29 e31 e32 e34 e35 e36 e39 e41 e43 e47 e51 e53 e57
  clear f8 f22 f36
  subst e1
  subst e2
  subst e4
  subst e6
  try have sm := SL_made ((y4 (by omega) (n0).toNat (by omega)).mp (by omega)) NX_made
  try have so := (y0 (n0).toNat (by omega)).2.2.2 (by omega)
  first
  | (have ix0 : n16 = n0 + 1 := Eq.trans f40 (w32_iv (Iad (Iat f1 f0) (IC 1)) (by decide)); subst ix0; clear f40)
  | (have ix0 : n16 = n0 + 1 := Eq.trans f40 (w32_id (by omega) (by omega)); subst ix0; clear f40)
  | (unfold w32 at f40; have ix0 : n16 = n0 + 1 := (by omega); subst ix0)
  | skip
  try unfold w32 at f39
  try unfold w32 at f40
  omega
def g_290v_16_18 : vG := ([(10, [17, 4], [], 1), (1, [15, 2, 14], [], 0), (0, [14], [], 1), (34, [13], [], 0), (1283, [13, 1, 4, 10, 12], [2, 3], 0), (90, [13], [], -2147483648), (91, [13], [], 2147483647), (22, [12, 11, 4], [2], 0), (90, [12], [], -1), (91, [12], [], 5), (20, [11, 1], [2], 74), (0, [11], [], 336), (22, [10, 9, 4], [2], 0), (90, [10], [], -1), (91, [10], [], 7), (20, [9, 1], [2], 73), (0, [9], [], 335), (30, [8], [], 0), (1289, [8, 1, 4], [1, 2], 0), (90, [8], [], 0), (91, [8], [], 1), (31, [7], [], 0), (22, [7, 6, 4], [1], 0), (90, [7], [], 0), (91, [7], [], 1), (20, [6, 1], [1], 96), (0, [6], [], 354), (30, [3], [], 0), (42, [4, 5], [], 0), (20, [5, 1], [1], 64), (90, [5], [], 0), (91, [5], [], 20), (5000, [0, 1, 2, 3, 4], [0, 1], 16), (0, [0], [], 285), (0, [1], [], 285), (90, [2], [], -2147483648), (91, [2], [], 2147483647), (90, [3], [], 0), (91, [3], [], 1), (90, [4], [], 0), (91, [4], [], 20)], (91, [17], [], 20))
theorem c_290v_16_18 {q0 : Nat} : vOkm T0 (eP e_290v L_290v A_290v mu_290v (some q0)) 1 g_290v_16_18 := vOk_inI fun ρ η f0 f1 f2 f3 f4 f5 f6 f7 f8 f9 f10 f11 f12 f13 f14 f15 f16 f17 f18 f19 f20 f21 f22 f23 f24 f25 f26 f27 f28 f29 f30 f31 f32 f33 f34 f35 f36 f37 f38 f39 f40 => q_290v_22 (q0 := q0) (n0 := ρ 4) (n1 := ρ 3) (n2 := ρ 2) (n3 := ρ 1) (n4 := ρ 0) (n5 := ρ 5) (n6 := ρ 6) (n7 := ρ 7) (n8 := ρ 8) (n9 := ρ 9) (n10 := ρ 10) (n11 := ρ 11) (n12 := ρ 12) (n13 := ρ 13) (n14 := ρ 14) (n15 := ρ 15) (n16 := ρ 17) (H0 := η 0) (H1 := η 1) (H2 := η 2) (H3 := η 3) f40 f39 f38 f37 f36 f35 f34 f33 f32 f31 f30 f29 f28 f27 f26 f25 f24 f23 f22 f21 f20 f19 f18 f17 f16 f15 f14 f13 f12 f11 f10 f9 f8 f7 f6 f5 f4 f3 f2 f1 f0
theorem q_290v_23 {q0 : Nat} {n0 n1 n2 n3 n4 n5 n6 n7 n8 n9 n10 n11 n12 n13 n14 n15 n16 n17 : Int} {H0 H1 H2 H3 : gH} (f0 : n0 ≤ 20) (f1 : 0 ≤ n0) (f2 : n1 ≤ 1) (f3 : 0 ≤ n1) (f4 : n2 ≤ 2147483647) (f5 : (-2147483648) ≤ n2) (f6 : n3 = 285) (f7 : n4 = 285) (f8 : (hLe T0 H0 H1 ∧ hFr s_290v.2.2.2.2 H0 H1 ∧ hWt T0 H1) ∧ (Ab_290v_16 n4 n3 n2 n1 n0 H0 H1 ∧ preb_290v n4 H0) ∧ some q0 = some (mub_290v_16 n4 n3 n2 n1 n0 H0 H1)) (f9 : n5 ≤ 20) (f10 : 0 ≤ n5) (f11 : n5 = hV H1 (n3).toNat 64) (f12 : n0 < n5) (f13 : n1 = 0) (f14 : n6 = 354) (f15 : n6 = hV H1 (n3).toNat 96) (f16 : n7 ≤ 1) (f17 : 0 ≤ n7) (f18 : n7 = hV H1 (n6).toNat (n0).toNat) (f19 : n7 ≠ 0) (f20 : n8 ≤ 1) (f21 : 0 ≤ n8) (f22 : (hLe T0 H1 H2 ∧ hFr s_289.2.2.2.2 H1 H2 ∧ ((0 : Int) = 0 → H2.length = H1.length) ∧ hWt T0 H2) ∧ postb_289 n8 n3 n0 H1 H2) (f23 : n8 = 0) (f24 : n9 = 335) (f25 : n9 = hV H2 (n3).toNat 73) (f26 : n10 ≤ 7) (f27 : (-1) ≤ n10) (f28 : n10 = hV H2 (n9).toNat (n0).toNat) (f29 : n11 = 336) (f30 : n11 = hV H2 (n3).toNat 74) (f31 : n12 ≤ 5) (f32 : (-1) ≤ n12) (f33 : n12 = hV H2 (n11).toNat (n0).toNat) (f34 : n13 ≤ 2147483647) (f35 : (-2147483648) ≤ n13) (f36 : (hLe T0 H2 H3 ∧ hFr s_283v.2.2.2.2 H2 H3 ∧ ((0 : Int) = 0 → H3.length = H2.length) ∧ hWt T0 H3) ∧ postb_283v n13 n3 n0 n10 n12 H2 H3) (f37 : 0 < n13) (f38 : n14 = 1) (f39 : n15 = w32 (n2 + n14)) (f40 : n16 = 1) (f41 : n17 = w32 (n0 + 1)) : Ab_290v_16 n4 n3 n15 n16 n17 H0 H3 ∧ ∀ q, some q0 = some q → mub_290v_16 n4 n3 n15 n16 n17 H0 H3 < q := by
  have g4 := f8.2.1.1
  unfold Ab_290v_16 at g4
  have g3 := f8.2.1.2
  unfold preb_290v at g3
  have g5 := Option.some.inj f8.2.2
  unfold mub_290v_16 at g5
  unfold postb_289 at f22
  unfold postb_283v at f36
  unfold Ab_290v_16
  unfold mub_290v_16
  have e1 : n5 = hV H0 285 64 := (by rw [f6] at f11; exact f11 : n5 = hV H1 285 64).trans ((f8.1.2.1.1 285 64 kF_290v_285_64))
  have e2 : n7 = hV H1 354 (n0).toNat := (by rw [f14] at f18; exact f18 : n7 = hV H1 354 (n0).toNat)
  have e3 : hV H2 335 = hV H1 335 := fRow f22.1.2.1 335 kR_289_335
  have e4 : n10 = hV H1 335 (n0).toNat := (by rw [f24] at f28; exact f28 : n10 = hV H2 335 (n0).toNat).trans ((congrFun e3 _))
  have e5 : hV H2 336 = hV H1 336 := fRow f22.1.2.1 336 kR_289_336
  have e6 : n12 = hV H1 336 (n0).toNat := (by rw [f29] at f33; exact f33 : n12 = hV H2 336 (n0).toNat).trans ((congrFun e5 _))
  have e8 : hV H1 285 18 = hV H0 285 18 := (f8.1.2.1.1 285 18 kF_290v_285_18)
  have e9 : hV H1 285 64 = hV H0 285 64 := (f8.1.2.1.1 285 64 kF_290v_285_64)
  have e10 : hV H1 296 = hV H0 296 := fRow f8.1.2.1 296 kR_290v_296
  have e11 : hV H1 298 = hV H0 298 := fRow f8.1.2.1 298 kR_290v_298
  have e12 : hV H1 300 = hV H0 300 := fRow f8.1.2.1 300 kR_290v_300
  have e13 : hV H1 301 = hV H0 301 := fRow f8.1.2.1 301 kR_290v_301
  have e14 : hV H1 303 = hV H0 303 := fRow f8.1.2.1 303 kR_290v_303
  have e15 : hV H1 328 = hV H0 328 := fRow f8.1.2.1 328 kR_290v_328
  have e16 : hV H1 330 = hV H0 330 := fRow f8.1.2.1 330 kR_290v_330
  have e17 : hV H1 331 = hV H0 331 := fRow f8.1.2.1 331 kR_290v_331
  have e18 : hV H1 332 = hV H0 332 := fRow f8.1.2.1 332 kR_290v_332
  have e19 : hV H1 341 = hV H0 341 := fRow f8.1.2.1 341 kR_290v_341
  have e21 : hV H2 285 64 = hV H0 285 64 := ((f22.1.2.1.1 285 64 kF_289_285_64)).trans (f8.1.2.1.1 285 64 kF_290v_285_64)
  have e23 : hV H2 285 65 = hV H1 285 65 := (f22.1.2.1.1 285 65 kF_289_285_65)
  have e25 : hV H2 296 = hV H0 296 := (fRow f22.1.2.1 296 kR_289_296).trans e10
  have e27 : hV H2 298 = hV H0 298 := (fRow f22.1.2.1 298 kR_289_298).trans e11
  have e29 : hV H2 300 = hV H0 300 := (fRow f22.1.2.1 300 kR_289_300).trans e12
  have e31 : hV H2 328 = hV H0 328 := (fRow f22.1.2.1 328 kR_289_328).trans e15
  have e32 : hV H2 329 = hV H1 329 := fRow f22.1.2.1 329 kR_289_329
  have e34 : hV H2 332 = hV H0 332 := (fRow f22.1.2.1 332 kR_289_332).trans e18
  have e35 : hV H2 333 = hV H1 333 := fRow f22.1.2.1 333 kR_289_333
  have e36 : hV H2 354 = hV H1 354 := fRow f22.1.2.1 354 kR_289_354
  have e39 : hV H3 285 18 = hV H0 285 18 := ((f36.1.2.1.1 285 18 kF_283v_285_18)).trans (((f22.1.2.1.1 285 18 kF_289_285_18)).trans (f8.1.2.1.1 285 18 kF_290v_285_18))
  have e41 : hV H3 285 64 = hV H0 285 64 := ((f36.1.2.1.1 285 64 kF_283v_285_64)).trans (((f22.1.2.1.1 285 64 kF_289_285_64)).trans (f8.1.2.1.1 285 64 kF_290v_285_64))
  have e43 : hV H3 296 = hV H0 296 := (fRow f36.1.2.1 296 kR_283v_296).trans e25
  have e45 : hV H3 298 = hV H0 298 := (fRow f36.1.2.1 298 kR_283v_298).trans e27
  have e47 : hV H3 300 = hV H0 300 := (fRow f36.1.2.1 300 kR_283v_300).trans e29
  have e51 : hV H3 301 = hV H0 301 := (fRow f36.1.2.1 301 kR_283v_301).trans ((fRow f22.1.2.1 301 kR_289_301).trans e13)
  have e55 : hV H3 303 = hV H0 303 := (fRow f36.1.2.1 303 kR_283v_303).trans ((fRow f22.1.2.1 303 kR_289_303).trans e14)
  have e57 : hV H3 328 = hV H0 328 := (fRow f36.1.2.1 328 kR_283v_328).trans e31
  have e61 : hV H3 330 = hV H0 330 := (fRow f36.1.2.1 330 kR_283v_330).trans ((fRow f22.1.2.1 330 kR_289_330).trans e16)
  have e65 : hV H3 331 = hV H0 331 := (fRow f36.1.2.1 331 kR_283v_331).trans ((fRow f22.1.2.1 331 kR_289_331).trans e17)
  have e67 : hV H3 332 = hV H0 332 := (fRow f36.1.2.1 332 kR_283v_332).trans e34
  have e71 : hV H3 341 = hV H0 341 := (fRow f36.1.2.1 341 kR_283v_341).trans ((fRow f22.1.2.1 341 kR_289_341).trans e19)
  have e73 : hV H3 354 = hV H1 354 := (fRow f36.1.2.1 354 kR_283v_354).trans e36
  have e74 : (0 : Int) ≤ hV H0 285 18 ∧ hV H0 285 18 ≤ 8 := bTo e8 (f8.1.2.2 285 18 _ _ kW_285_18)
  have e75 : (0 : Int) ≤ hV H0 285 64 ∧ hV H0 285 64 ≤ 20 := bTo e9 (f8.1.2.2 285 64 _ _ kW_285_64)
  have e76 : (0 : Int) ≤ hV H1 285 65 ∧ hV H1 285 65 ≤ 2147483647 := f8.1.2.2 285 65 _ _ kW_285_65
  have e81 : (0 : Int) ≤ hV H3 285 65 ∧ hV H3 285 65 ≤ 2147483647 := f36.1.2.2.2 285 65 _ _ kW_285_65
  try simp only [SO, SS, AC]
  try simp only [e9, e10, e11, e12, e13, e14, e15, e18, e19] at g5
  try simp only [e39, e41, e43, e45, e47, e51, e55, e57, e61, e65, e67, e71, e73]
  have y0 := g4.1
  have y1 := g4.2.1
  have y2 := g4.2.2.1
  have y3 := g4.2.2.2.1
  have y4 := g4.2.2.2.2.1
  have y5 := g4.2.2.2.2.2
  have p0 := g3.1
  have p1 := g3.2.1
  have p2 := g3.2.2.1
  have p3 := g3.2.2.2.1
  have p4 := g3.2.2.2.2
  have r0_0 := f22.2.1
  have r0_1 := f22.2.2
  have r1_0 := f36.2.1
  have r1_1 := f36.2.2.1
  have r1_2 := f36.2.2.2.1
  have r1_3 := f36.2.2.2.2.1
  have r1_4 := f36.2.2.2.2.2.1
  have r1_5 := f36.2.2.2.2.2.2
  try simp only [SO] at y0
  try simp only [SS] at y1
  try simp only [AC] at y2
  try simp only [SO] at p0
  try simp only [SS] at p1
  try simp only [AC] at p3
  try simp only [SO] at r1_0
  try simp only [SS] at r1_1
  try simp only [e8, e9, e15, e16, e17, e18] at y0
  try simp only [e19] at y1
  try simp only [e8, e9, e10, e11, e12, e15, e18] at y2
  try simp only [e9, e10, e11, e12, e13, e14, e15, e18, e19] at y3
  try simp only [e9, e10, e11, e12, e13, e14, e15, e18, e19] at y4
  try simp only [e21, e25, e27, e29, e31, e34, e3, e36] at r0_0
  try simp only [e21, e25, e27, e29, e31, e34, e3, e36] at r0_1
  try simp only [e39, e41, e57, e61, e65, e67] at r1_0
  try simp only [e71] at r1_1
  try simp only [e23] at r1_2
  try simp only [e35] at r1_3
  try simp only [e3] at r1_4
  try simp only [e32] at r1_5
  clear g3
  clear g4
  clear f11 f15 f18 f25 f28 f30 f33 e3 e5 e8 e9 e10 e11 e12 e13 e14 e15 e16 e17 e18 e19 e21 e23 e25 e27 e29 e31 e32 e34 e35 e36 e39 e41 e43 e45 e47 e51 e55 e57 e61 e65 e67 e71 e73
  clear f8 f22 f36
  subst e1
  subst e2
  subst e4
  subst e6
  try have sm := SL_made ((y4 (by omega) (n0).toNat (by omega)).mp (by omega)) NX_made
  try have so := (y0 (n0).toNat (by omega)).2.2.2 (by omega)
  first
  | (have ix0 : n15 = n2 + 1 := Eq.trans f39 (w32_id (by omega) (by omega)); subst ix0; clear f39)
  | (unfold w32 at f39; have ix0 : n15 = n2 + 1 := (by omega); subst ix0)
  | skip
  first
  | (have ix1 : n17 = n0 + 1 := Eq.trans f41 (w32_iv (Iad (Iat f1 f0) (IC 1)) (by decide)); subst ix1; clear f41)
  | (have ix1 : n17 = n0 + 1 := Eq.trans f41 (w32_id (by omega) (by omega)); subst ix1; clear f41)
  | (unfold w32 at f41; have ix1 : n17 = n0 + 1 := (by omega); subst ix1)
  | skip
  try unfold w32 at f39
  try unfold w32 at f41

  obtain ⟨sm1, sm2, sm3⟩ := SL_made ((y4 (by omega) (n0).toNat (by omega)).mp (by omega)) NX_made
  have ms := uF_same (f := hV H1 335) (i := n0) (w := hV H1 335 (n0).toNat) rfl
  have e4 := r1_4
  rw [ms] at e4
  have e5 := r1_3
  rw [r1_2] at e5
  have less := SN_less (S := hV H0 285 64) (w := hV H1 285 65 + 1) (i := n0) (by omega) (s := (n0).toNat) (by omega) ((y4 (by omega) (n0).toNat (by omega)).mp (by omega)) (fun k hk hl z => absurd (r0_1 (by omega) k hk hl) ((y4 (by omega) k hk).mpr z)) (Classical.choose_spec y2.2) (by omega) (fun k hk => by have := (y1.1 k hk).1; omega) (fun k hk k6 k0 => by have := MK_le (p2 (hV H1 335 k).toNat (by have := y2.1 k hk k6 k0; omega)) y1 (by omega); omega)
  refine ⟨?_, fun q hq => ?_⟩
  · exact ⟨r1_0, r1_1, (by rw [e4]; exact y2), (by rw [e4, e5]; omega), fun z => by omega, fun s hs => by
      have hq := r1_5 s (fun e => hs (by rw [show s = (n0).toNat by omega]; first | exact sm1 | omega))
      rw [hq]
      exact y5 s hs⟩
  · have g6 := Option.some.inj hq
    subst g6
    rw [e4, e5]
    try clear r0_0
    omega
def g_290v_16_19 : vG := ([(10, [17, 4], [], 1), (0, [16], [], 1), (1, [15, 2, 14], [], 0), (0, [14], [], 1), (34, [13], [], 0), (1283, [13, 1, 4, 10, 12], [2, 3], 0), (90, [13], [], -2147483648), (91, [13], [], 2147483647), (22, [12, 11, 4], [2], 0), (90, [12], [], -1), (91, [12], [], 5), (20, [11, 1], [2], 74), (0, [11], [], 336), (22, [10, 9, 4], [2], 0), (90, [10], [], -1), (91, [10], [], 7), (20, [9, 1], [2], 73), (0, [9], [], 335), (30, [8], [], 0), (1289, [8, 1, 4], [1, 2], 0), (90, [8], [], 0), (91, [8], [], 1), (31, [7], [], 0), (22, [7, 6, 4], [1], 0), (90, [7], [], 0), (91, [7], [], 1), (20, [6, 1], [1], 96), (0, [6], [], 354), (30, [3], [], 0), (42, [4, 5], [], 0), (20, [5, 1], [1], 64), (90, [5], [], 0), (91, [5], [], 20), (5000, [0, 1, 2, 3, 4], [0, 1], 16), (0, [0], [], 285), (0, [1], [], 285), (90, [2], [], -2147483648), (91, [2], [], 2147483647), (90, [3], [], 0), (91, [3], [], 1), (90, [4], [], 0), (91, [4], [], 20)], (4000, [1, 15, 16, 17], [3], 16))
theorem c_290v_16_19 {q0 : Nat} : vOkm T0 (eP e_290v L_290v A_290v mu_290v (some q0)) 1 g_290v_16_19 := vOk_inI fun ρ η f0 f1 f2 f3 f4 f5 f6 f7 f8 f9 f10 f11 f12 f13 f14 f15 f16 f17 f18 f19 f20 f21 f22 f23 f24 f25 f26 f27 f28 f29 f30 f31 f32 f33 f34 f35 f36 f37 f38 f39 f40 f41 => q_290v_23 (q0 := q0) (n0 := ρ 4) (n1 := ρ 3) (n2 := ρ 2) (n3 := ρ 1) (n4 := ρ 0) (n5 := ρ 5) (n6 := ρ 6) (n7 := ρ 7) (n8 := ρ 8) (n9 := ρ 9) (n10 := ρ 10) (n11 := ρ 11) (n12 := ρ 12) (n13 := ρ 13) (n14 := ρ 14) (n15 := ρ 15) (n16 := ρ 16) (n17 := ρ 17) (H0 := η 0) (H1 := η 1) (H2 := η 2) (H3 := η 3) f41 f40 f39 f38 f37 f36 f35 f34 f33 f32 f31 f30 f29 f28 f27 f26 f25 f24 f23 f22 f21 f20 f19 f18 f17 f16 f15 f14 f13 f12 f11 f10 f9 f8 f7 f6 f5 f4 f3 f2 f1 f0
theorem q_290v_24 {q0 : Nat} {n0 n1 n2 n3 n4 n5 n6 n7 n8 n9 : Int} {H0 H1 H2 : gH} (f0 : n0 ≤ 20) (f1 : 0 ≤ n0) (f2 : n1 ≤ 1) (f3 : 0 ≤ n1) (f4 : n2 ≤ 2147483647) (f5 : (-2147483648) ≤ n2) (f6 : n3 = 285) (f7 : n4 = 285) (f8 : (hLe T0 H0 H1 ∧ hFr s_290v.2.2.2.2 H0 H1 ∧ hWt T0 H1) ∧ (Ab_290v_16 n4 n3 n2 n1 n0 H0 H1 ∧ preb_290v n4 H0) ∧ some q0 = some (mub_290v_16 n4 n3 n2 n1 n0 H0 H1)) (f9 : n5 ≤ 20) (f10 : 0 ≤ n5) (f11 : n5 = hV H1 (n3).toNat 64) (f12 : n0 < n5) (f13 : n1 = 0) (f14 : n6 = 354) (f15 : n6 = hV H1 (n3).toNat 96) (f16 : n7 ≤ 1) (f17 : 0 ≤ n7) (f18 : n7 = hV H1 (n6).toNat (n0).toNat) (f19 : n7 ≠ 0) (f20 : n8 ≤ 1) (f21 : 0 ≤ n8) (f22 : (hLe T0 H1 H2 ∧ hFr s_289.2.2.2.2 H1 H2 ∧ ((0 : Int) = 0 → H2.length = H1.length) ∧ hWt T0 H2) ∧ postb_289 n8 n3 n0 H1 H2) (f23 : n8 ≠ 0) (f24 : n9 = w32 (n0 + 1)) : 0 ≤ n9 := by
  have g4 := f8.2.1.1
  unfold Ab_290v_16 at g4
  have g3 := f8.2.1.2
  unfold preb_290v at g3
  unfold postb_289 at f22
  have e1 : n5 = hV H0 285 64 := (by rw [f6] at f11; exact f11 : n5 = hV H1 285 64).trans ((f8.1.2.1.1 285 64 kF_290v_285_64))
  have e2 : n7 = hV H1 354 (n0).toNat := (by rw [f14] at f18; exact f18 : n7 = hV H1 354 (n0).toNat)
  have e4 : hV H1 285 18 = hV H0 285 18 := (f8.1.2.1.1 285 18 kF_290v_285_18)
  have e5 : hV H1 285 64 = hV H0 285 64 := (f8.1.2.1.1 285 64 kF_290v_285_64)
  have e6 : hV H1 296 = hV H0 296 := fRow f8.1.2.1 296 kR_290v_296
  have e7 : hV H1 298 = hV H0 298 := fRow f8.1.2.1 298 kR_290v_298
  have e8 : hV H1 300 = hV H0 300 := fRow f8.1.2.1 300 kR_290v_300
  have e9 : hV H1 301 = hV H0 301 := fRow f8.1.2.1 301 kR_290v_301
  have e10 : hV H1 303 = hV H0 303 := fRow f8.1.2.1 303 kR_290v_303
  have e11 : hV H1 328 = hV H0 328 := fRow f8.1.2.1 328 kR_290v_328
  have e12 : hV H1 330 = hV H0 330 := fRow f8.1.2.1 330 kR_290v_330
  have e13 : hV H1 331 = hV H0 331 := fRow f8.1.2.1 331 kR_290v_331
  have e14 : hV H1 332 = hV H0 332 := fRow f8.1.2.1 332 kR_290v_332
  have e15 : hV H1 341 = hV H0 341 := fRow f8.1.2.1 341 kR_290v_341
  have e17 : hV H2 285 64 = hV H0 285 64 := ((f22.1.2.1.1 285 64 kF_289_285_64)).trans (f8.1.2.1.1 285 64 kF_290v_285_64)
  have e19 : hV H2 296 = hV H0 296 := (fRow f22.1.2.1 296 kR_289_296).trans e6
  have e21 : hV H2 298 = hV H0 298 := (fRow f22.1.2.1 298 kR_289_298).trans e7
  have e23 : hV H2 300 = hV H0 300 := (fRow f22.1.2.1 300 kR_289_300).trans e8
  have e25 : hV H2 328 = hV H0 328 := (fRow f22.1.2.1 328 kR_289_328).trans e11
  have e27 : hV H2 332 = hV H0 332 := (fRow f22.1.2.1 332 kR_289_332).trans e14
  have e28 : hV H2 335 = hV H1 335 := fRow f22.1.2.1 335 kR_289_335
  have e29 : hV H2 354 = hV H1 354 := fRow f22.1.2.1 354 kR_289_354
  have e30 : (0 : Int) ≤ hV H0 285 18 ∧ hV H0 285 18 ≤ 8 := bTo e4 (f8.1.2.2 285 18 _ _ kW_285_18)
  have e31 : (0 : Int) ≤ hV H0 285 64 ∧ hV H0 285 64 ≤ 20 := bTo e5 (f8.1.2.2 285 64 _ _ kW_285_64)
  have e32 : (0 : Int) ≤ hV H1 285 65 ∧ hV H1 285 65 ≤ 2147483647 := f8.1.2.2 285 65 _ _ kW_285_65
  try simp only [SO, SS, AC]
  have y0 := g4.1
  have y1 := g4.2.1
  have y2 := g4.2.2.1
  have y3 := g4.2.2.2.1
  have y4 := g4.2.2.2.2.1
  have y5 := g4.2.2.2.2.2
  have p0 := g3.1
  have p1 := g3.2.1
  have p2 := g3.2.2.1
  have p3 := g3.2.2.2.1
  have p4 := g3.2.2.2.2
  have r0_0 := f22.2.1
  have r0_1 := f22.2.2
  try simp only [SO] at y0
  try simp only [SS] at y1
  try simp only [AC] at y2
  try simp only [SO] at p0
  try simp only [SS] at p1
  try simp only [AC] at p3
  try simp only [e4, e5, e11, e12, e13, e14] at y0
  try simp only [e15] at y1
  try simp only [e4, e5, e6, e7, e8, e11, e14] at y2
  try simp only [e5, e6, e7, e8, e9, e10, e11, e14, e15] at y3
  try simp only [e5, e6, e7, e8, e9, e10, e11, e14, e15] at y4
  try simp only [e17, e19, e21, e23, e25, e27, e28, e29] at r0_0
  try simp only [e17, e19, e21, e23, e25, e27, e28, e29] at r0_1
  clear g3
  clear g4
  clear f11 f15 f18 e4 e5 e6 e7 e8 e9 e10 e11 e12 e13 e14 e15 e17 e19 e21 e23 e25 e27 e28 e29
  clear f8 f22
  subst e1
  subst e2
  try have sm := SL_made ((y4 (by omega) (n0).toNat (by omega)).mp (by omega)) NX_made
  try have so := (y0 (n0).toNat (by omega)).2.2.2 (by omega)
  first
  | (have ix0 : n9 = n0 + 1 := Eq.trans f24 (w32_iv (Iad (Iat f1 f0) (IC 1)) (by decide)); subst ix0; clear f24)
  | (have ix0 : n9 = n0 + 1 := Eq.trans f24 (w32_id (by omega) (by omega)); subst ix0; clear f24)
  | (unfold w32 at f24; have ix0 : n9 = n0 + 1 := (by omega); subst ix0)
  | skip
  try unfold w32 at f24
  omega
def g_290v_16_20 : vG := ([(10, [9, 4], [], 1), (31, [8], [], 0), (1289, [8, 1, 4], [1, 2], 0), (90, [8], [], 0), (91, [8], [], 1), (31, [7], [], 0), (22, [7, 6, 4], [1], 0), (90, [7], [], 0), (91, [7], [], 1), (20, [6, 1], [1], 96), (0, [6], [], 354), (30, [3], [], 0), (42, [4, 5], [], 0), (20, [5, 1], [1], 64), (90, [5], [], 0), (91, [5], [], 20), (5000, [0, 1, 2, 3, 4], [0, 1], 16), (0, [0], [], 285), (0, [1], [], 285), (90, [2], [], -2147483648), (91, [2], [], 2147483647), (90, [3], [], 0), (91, [3], [], 1), (90, [4], [], 0), (91, [4], [], 20)], (90, [9], [], 0))
theorem c_290v_16_20 {q0 : Nat} : vOkm T0 (eP e_290v L_290v A_290v mu_290v (some q0)) 1 g_290v_16_20 := vOk_inI fun ρ η f0 f1 f2 f3 f4 f5 f6 f7 f8 f9 f10 f11 f12 f13 f14 f15 f16 f17 f18 f19 f20 f21 f22 f23 f24 => q_290v_24 (q0 := q0) (n0 := ρ 4) (n1 := ρ 3) (n2 := ρ 2) (n3 := ρ 1) (n4 := ρ 0) (n5 := ρ 5) (n6 := ρ 6) (n7 := ρ 7) (n8 := ρ 8) (n9 := ρ 9) (H0 := η 0) (H1 := η 1) (H2 := η 2) f24 f23 f22 f21 f20 f19 f18 f17 f16 f15 f14 f13 f12 f11 f10 f9 f8 f7 f6 f5 f4 f3 f2 f1 f0
theorem q_290v_25 {q0 : Nat} {n0 n1 n2 n3 n4 n5 n6 n7 n8 n9 : Int} {H0 H1 H2 : gH} (f0 : n0 ≤ 20) (f1 : 0 ≤ n0) (f2 : n1 ≤ 1) (f3 : 0 ≤ n1) (f4 : n2 ≤ 2147483647) (f5 : (-2147483648) ≤ n2) (f6 : n3 = 285) (f7 : n4 = 285) (f8 : (hLe T0 H0 H1 ∧ hFr s_290v.2.2.2.2 H0 H1 ∧ hWt T0 H1) ∧ (Ab_290v_16 n4 n3 n2 n1 n0 H0 H1 ∧ preb_290v n4 H0) ∧ some q0 = some (mub_290v_16 n4 n3 n2 n1 n0 H0 H1)) (f9 : n5 ≤ 20) (f10 : 0 ≤ n5) (f11 : n5 = hV H1 (n3).toNat 64) (f12 : n0 < n5) (f13 : n1 = 0) (f14 : n6 = 354) (f15 : n6 = hV H1 (n3).toNat 96) (f16 : n7 ≤ 1) (f17 : 0 ≤ n7) (f18 : n7 = hV H1 (n6).toNat (n0).toNat) (f19 : n7 ≠ 0) (f20 : n8 ≤ 1) (f21 : 0 ≤ n8) (f22 : (hLe T0 H1 H2 ∧ hFr s_289.2.2.2.2 H1 H2 ∧ ((0 : Int) = 0 → H2.length = H1.length) ∧ hWt T0 H2) ∧ postb_289 n8 n3 n0 H1 H2) (f23 : n8 ≠ 0) (f24 : n9 = w32 (n0 + 1)) : n9 ≤ 20 := by
  have g4 := f8.2.1.1
  unfold Ab_290v_16 at g4
  have g3 := f8.2.1.2
  unfold preb_290v at g3
  unfold postb_289 at f22
  have e1 : n5 = hV H0 285 64 := (by rw [f6] at f11; exact f11 : n5 = hV H1 285 64).trans ((f8.1.2.1.1 285 64 kF_290v_285_64))
  have e2 : n7 = hV H1 354 (n0).toNat := (by rw [f14] at f18; exact f18 : n7 = hV H1 354 (n0).toNat)
  have e4 : hV H1 285 18 = hV H0 285 18 := (f8.1.2.1.1 285 18 kF_290v_285_18)
  have e5 : hV H1 285 64 = hV H0 285 64 := (f8.1.2.1.1 285 64 kF_290v_285_64)
  have e6 : hV H1 296 = hV H0 296 := fRow f8.1.2.1 296 kR_290v_296
  have e7 : hV H1 298 = hV H0 298 := fRow f8.1.2.1 298 kR_290v_298
  have e8 : hV H1 300 = hV H0 300 := fRow f8.1.2.1 300 kR_290v_300
  have e9 : hV H1 301 = hV H0 301 := fRow f8.1.2.1 301 kR_290v_301
  have e10 : hV H1 303 = hV H0 303 := fRow f8.1.2.1 303 kR_290v_303
  have e11 : hV H1 328 = hV H0 328 := fRow f8.1.2.1 328 kR_290v_328
  have e12 : hV H1 330 = hV H0 330 := fRow f8.1.2.1 330 kR_290v_330
  have e13 : hV H1 331 = hV H0 331 := fRow f8.1.2.1 331 kR_290v_331
  have e14 : hV H1 332 = hV H0 332 := fRow f8.1.2.1 332 kR_290v_332
  have e15 : hV H1 341 = hV H0 341 := fRow f8.1.2.1 341 kR_290v_341
  have e17 : hV H2 285 64 = hV H0 285 64 := ((f22.1.2.1.1 285 64 kF_289_285_64)).trans (f8.1.2.1.1 285 64 kF_290v_285_64)
  have e19 : hV H2 296 = hV H0 296 := (fRow f22.1.2.1 296 kR_289_296).trans e6
  have e21 : hV H2 298 = hV H0 298 := (fRow f22.1.2.1 298 kR_289_298).trans e7
  have e23 : hV H2 300 = hV H0 300 := (fRow f22.1.2.1 300 kR_289_300).trans e8
  have e25 : hV H2 328 = hV H0 328 := (fRow f22.1.2.1 328 kR_289_328).trans e11
  have e27 : hV H2 332 = hV H0 332 := (fRow f22.1.2.1 332 kR_289_332).trans e14
  have e28 : hV H2 335 = hV H1 335 := fRow f22.1.2.1 335 kR_289_335
  have e29 : hV H2 354 = hV H1 354 := fRow f22.1.2.1 354 kR_289_354
  have e30 : (0 : Int) ≤ hV H0 285 18 ∧ hV H0 285 18 ≤ 8 := bTo e4 (f8.1.2.2 285 18 _ _ kW_285_18)
  have e31 : (0 : Int) ≤ hV H0 285 64 ∧ hV H0 285 64 ≤ 20 := bTo e5 (f8.1.2.2 285 64 _ _ kW_285_64)
  have e32 : (0 : Int) ≤ hV H1 285 65 ∧ hV H1 285 65 ≤ 2147483647 := f8.1.2.2 285 65 _ _ kW_285_65
  try simp only [SO, SS, AC]
  have y0 := g4.1
  have y1 := g4.2.1
  have y2 := g4.2.2.1
  have y3 := g4.2.2.2.1
  have y4 := g4.2.2.2.2.1
  have y5 := g4.2.2.2.2.2
  have p0 := g3.1
  have p1 := g3.2.1
  have p2 := g3.2.2.1
  have p3 := g3.2.2.2.1
  have p4 := g3.2.2.2.2
  have r0_0 := f22.2.1
  have r0_1 := f22.2.2
  try simp only [SO] at y0
  try simp only [SS] at y1
  try simp only [AC] at y2
  try simp only [SO] at p0
  try simp only [SS] at p1
  try simp only [AC] at p3
  try simp only [e4, e5, e11, e12, e13, e14] at y0
  try simp only [e15] at y1
  try simp only [e4, e5, e6, e7, e8, e11, e14] at y2
  try simp only [e5, e6, e7, e8, e9, e10, e11, e14, e15] at y3
  try simp only [e5, e6, e7, e8, e9, e10, e11, e14, e15] at y4
  try simp only [e17, e19, e21, e23, e25, e27, e28, e29] at r0_0
  try simp only [e17, e19, e21, e23, e25, e27, e28, e29] at r0_1
  clear g3
  clear g4
  clear f11 f15 f18 e4 e5 e6 e7 e8 e9 e10 e11 e12 e13 e14 e15 e17 e19 e21 e23 e25 e27 e28 e29
  clear f8 f22
  subst e1
  subst e2
  try have sm := SL_made ((y4 (by omega) (n0).toNat (by omega)).mp (by omega)) NX_made
  try have so := (y0 (n0).toNat (by omega)).2.2.2 (by omega)
  first
  | (have ix0 : n9 = n0 + 1 := Eq.trans f24 (w32_iv (Iad (Iat f1 f0) (IC 1)) (by decide)); subst ix0; clear f24)
  | (have ix0 : n9 = n0 + 1 := Eq.trans f24 (w32_id (by omega) (by omega)); subst ix0; clear f24)
  | (unfold w32 at f24; have ix0 : n9 = n0 + 1 := (by omega); subst ix0)
  | skip
  try unfold w32 at f24
  omega
def g_290v_16_21 : vG := ([(10, [9, 4], [], 1), (31, [8], [], 0), (1289, [8, 1, 4], [1, 2], 0), (90, [8], [], 0), (91, [8], [], 1), (31, [7], [], 0), (22, [7, 6, 4], [1], 0), (90, [7], [], 0), (91, [7], [], 1), (20, [6, 1], [1], 96), (0, [6], [], 354), (30, [3], [], 0), (42, [4, 5], [], 0), (20, [5, 1], [1], 64), (90, [5], [], 0), (91, [5], [], 20), (5000, [0, 1, 2, 3, 4], [0, 1], 16), (0, [0], [], 285), (0, [1], [], 285), (90, [2], [], -2147483648), (91, [2], [], 2147483647), (90, [3], [], 0), (91, [3], [], 1), (90, [4], [], 0), (91, [4], [], 20)], (91, [9], [], 20))
theorem c_290v_16_21 {q0 : Nat} : vOkm T0 (eP e_290v L_290v A_290v mu_290v (some q0)) 1 g_290v_16_21 := vOk_inI fun ρ η f0 f1 f2 f3 f4 f5 f6 f7 f8 f9 f10 f11 f12 f13 f14 f15 f16 f17 f18 f19 f20 f21 f22 f23 f24 => q_290v_25 (q0 := q0) (n0 := ρ 4) (n1 := ρ 3) (n2 := ρ 2) (n3 := ρ 1) (n4 := ρ 0) (n5 := ρ 5) (n6 := ρ 6) (n7 := ρ 7) (n8 := ρ 8) (n9 := ρ 9) (H0 := η 0) (H1 := η 1) (H2 := η 2) f24 f23 f22 f21 f20 f19 f18 f17 f16 f15 f14 f13 f12 f11 f10 f9 f8 f7 f6 f5 f4 f3 f2 f1 f0
theorem q_290v_26 {q0 : Nat} {n0 n1 n2 n3 n4 n5 n6 n7 n8 n9 : Int} {H0 H1 H2 : gH} (f0 : n0 ≤ 20) (f1 : 0 ≤ n0) (f2 : n1 ≤ 1) (f3 : 0 ≤ n1) (f4 : n2 ≤ 2147483647) (f5 : (-2147483648) ≤ n2) (f6 : n3 = 285) (f7 : n4 = 285) (f8 : (hLe T0 H0 H1 ∧ hFr s_290v.2.2.2.2 H0 H1 ∧ hWt T0 H1) ∧ (Ab_290v_16 n4 n3 n2 n1 n0 H0 H1 ∧ preb_290v n4 H0) ∧ some q0 = some (mub_290v_16 n4 n3 n2 n1 n0 H0 H1)) (f9 : n5 ≤ 20) (f10 : 0 ≤ n5) (f11 : n5 = hV H1 (n3).toNat 64) (f12 : n0 < n5) (f13 : n1 = 0) (f14 : n6 = 354) (f15 : n6 = hV H1 (n3).toNat 96) (f16 : n7 ≤ 1) (f17 : 0 ≤ n7) (f18 : n7 = hV H1 (n6).toNat (n0).toNat) (f19 : n7 ≠ 0) (f20 : n8 ≤ 1) (f21 : 0 ≤ n8) (f22 : (hLe T0 H1 H2 ∧ hFr s_289.2.2.2.2 H1 H2 ∧ ((0 : Int) = 0 → H2.length = H1.length) ∧ hWt T0 H2) ∧ postb_289 n8 n3 n0 H1 H2) (f23 : n8 ≠ 0) (f24 : n9 = w32 (n0 + 1)) : Ab_290v_16 n4 n3 n2 n1 n9 H0 H2 ∧ ∀ q, some q0 = some q → mub_290v_16 n4 n3 n2 n1 n9 H0 H2 < q := by
  have g4 := f8.2.1.1
  unfold Ab_290v_16 at g4
  have g3 := f8.2.1.2
  unfold preb_290v at g3
  have g5 := Option.some.inj f8.2.2
  unfold mub_290v_16 at g5
  unfold postb_289 at f22
  unfold Ab_290v_16
  unfold mub_290v_16
  have e1 : n5 = hV H0 285 64 := (by rw [f6] at f11; exact f11 : n5 = hV H1 285 64).trans ((f8.1.2.1.1 285 64 kF_290v_285_64))
  have e2 : n7 = hV H1 354 (n0).toNat := (by rw [f14] at f18; exact f18 : n7 = hV H1 354 (n0).toNat)
  have e4 : hV H1 285 18 = hV H0 285 18 := (f8.1.2.1.1 285 18 kF_290v_285_18)
  have e5 : hV H1 285 64 = hV H0 285 64 := (f8.1.2.1.1 285 64 kF_290v_285_64)
  have e6 : hV H1 296 = hV H0 296 := fRow f8.1.2.1 296 kR_290v_296
  have e7 : hV H1 298 = hV H0 298 := fRow f8.1.2.1 298 kR_290v_298
  have e8 : hV H1 300 = hV H0 300 := fRow f8.1.2.1 300 kR_290v_300
  have e9 : hV H1 301 = hV H0 301 := fRow f8.1.2.1 301 kR_290v_301
  have e10 : hV H1 303 = hV H0 303 := fRow f8.1.2.1 303 kR_290v_303
  have e11 : hV H1 328 = hV H0 328 := fRow f8.1.2.1 328 kR_290v_328
  have e12 : hV H1 330 = hV H0 330 := fRow f8.1.2.1 330 kR_290v_330
  have e13 : hV H1 331 = hV H0 331 := fRow f8.1.2.1 331 kR_290v_331
  have e14 : hV H1 332 = hV H0 332 := fRow f8.1.2.1 332 kR_290v_332
  have e15 : hV H1 341 = hV H0 341 := fRow f8.1.2.1 341 kR_290v_341
  have e17 : hV H2 285 18 = hV H0 285 18 := ((f22.1.2.1.1 285 18 kF_289_285_18)).trans (f8.1.2.1.1 285 18 kF_290v_285_18)
  have e19 : hV H2 285 64 = hV H0 285 64 := ((f22.1.2.1.1 285 64 kF_289_285_64)).trans (f8.1.2.1.1 285 64 kF_290v_285_64)
  have e21 : hV H2 285 65 = hV H1 285 65 := (f22.1.2.1.1 285 65 kF_289_285_65)
  have e23 : hV H2 296 = hV H0 296 := (fRow f22.1.2.1 296 kR_289_296).trans e6
  have e25 : hV H2 298 = hV H0 298 := (fRow f22.1.2.1 298 kR_289_298).trans e7
  have e27 : hV H2 300 = hV H0 300 := (fRow f22.1.2.1 300 kR_289_300).trans e8
  have e29 : hV H2 301 = hV H0 301 := (fRow f22.1.2.1 301 kR_289_301).trans e9
  have e31 : hV H2 303 = hV H0 303 := (fRow f22.1.2.1 303 kR_289_303).trans e10
  have e33 : hV H2 328 = hV H0 328 := (fRow f22.1.2.1 328 kR_289_328).trans e11
  have e34 : hV H2 329 = hV H1 329 := fRow f22.1.2.1 329 kR_289_329
  have e36 : hV H2 330 = hV H0 330 := (fRow f22.1.2.1 330 kR_289_330).trans e12
  have e38 : hV H2 331 = hV H0 331 := (fRow f22.1.2.1 331 kR_289_331).trans e13
  have e40 : hV H2 332 = hV H0 332 := (fRow f22.1.2.1 332 kR_289_332).trans e14
  have e41 : hV H2 333 = hV H1 333 := fRow f22.1.2.1 333 kR_289_333
  have e42 : hV H2 334 = hV H1 334 := fRow f22.1.2.1 334 kR_289_334
  have e43 : hV H2 335 = hV H1 335 := fRow f22.1.2.1 335 kR_289_335
  have e44 : hV H2 336 = hV H1 336 := fRow f22.1.2.1 336 kR_289_336
  have e46 : hV H2 341 = hV H0 341 := (fRow f22.1.2.1 341 kR_289_341).trans e15
  have e47 : hV H2 354 = hV H1 354 := fRow f22.1.2.1 354 kR_289_354
  have e48 : (0 : Int) ≤ hV H0 285 18 ∧ hV H0 285 18 ≤ 8 := bTo e4 (f8.1.2.2 285 18 _ _ kW_285_18)
  have e49 : (0 : Int) ≤ hV H0 285 64 ∧ hV H0 285 64 ≤ 20 := bTo e5 (f8.1.2.2 285 64 _ _ kW_285_64)
  have e50 : (0 : Int) ≤ hV H1 285 65 ∧ hV H1 285 65 ≤ 2147483647 := f8.1.2.2 285 65 _ _ kW_285_65
  try simp only [SO, SS, AC]
  try simp only [e5, e6, e7, e8, e9, e10, e11, e14, e15] at g5
  try simp only [e17, e19, e21, e23, e25, e27, e29, e31, e33, e34, e36, e38, e40, e41, e42, e43, e44, e46, e47]
  have y0 := g4.1
  have y1 := g4.2.1
  have y2 := g4.2.2.1
  have y3 := g4.2.2.2.1
  have y4 := g4.2.2.2.2.1
  have y5 := g4.2.2.2.2.2
  have p0 := g3.1
  have p1 := g3.2.1
  have p2 := g3.2.2.1
  have p3 := g3.2.2.2.1
  have p4 := g3.2.2.2.2
  have r0_0 := f22.2.1
  have r0_1 := f22.2.2
  try simp only [SO] at y0
  try simp only [SS] at y1
  try simp only [AC] at y2
  try simp only [SO] at p0
  try simp only [SS] at p1
  try simp only [AC] at p3
  try simp only [e4, e5, e11, e12, e13, e14] at y0
  try simp only [e15] at y1
  try simp only [e4, e5, e6, e7, e8, e11, e14] at y2
  try simp only [e5, e6, e7, e8, e9, e10, e11, e14, e15] at y3
  try simp only [e5, e6, e7, e8, e9, e10, e11, e14, e15] at y4
  try simp only [e19, e23, e25, e27, e33, e40, e43, e47] at r0_0
  try simp only [e19, e23, e25, e27, e33, e40, e43, e47] at r0_1
  clear g3
  clear g4
  clear f11 f15 f18 e4 e5 e6 e7 e8 e9 e10 e11 e12 e13 e14 e15 e17 e19 e21 e23 e25 e27 e29 e31 e33 e34 e36 e38 e40 e41 e42 e43 e44 e46 e47
  clear f8 f22
  subst e1
  subst e2
  try have sm := SL_made ((y4 (by omega) (n0).toNat (by omega)).mp (by omega)) NX_made
  try have so := (y0 (n0).toNat (by omega)).2.2.2 (by omega)
  first
  | (have ix0 : n9 = n0 + 1 := Eq.trans f24 (w32_iv (Iad (Iat f1 f0) (IC 1)) (by decide)); subst ix0; clear f24)
  | (have ix0 : n9 = n0 + 1 := Eq.trans f24 (w32_id (by omega) (by omega)); subst ix0; clear f24)
  | (unfold w32 at f24; have ix0 : n9 = n0 + 1 := (by omega); subst ix0)
  | skip
  try unfold w32 at f24

  refine ⟨?_, fun q hq => ?_⟩
  · exact ⟨y0, y1, y2, by omega, y4, y5⟩
  · have g6 := Option.some.inj hq
    subst g6
    try clear r0_0
    try clear r0_1
    omega
def g_290v_16_22 : vG := ([(10, [9, 4], [], 1), (31, [8], [], 0), (1289, [8, 1, 4], [1, 2], 0), (90, [8], [], 0), (91, [8], [], 1), (31, [7], [], 0), (22, [7, 6, 4], [1], 0), (90, [7], [], 0), (91, [7], [], 1), (20, [6, 1], [1], 96), (0, [6], [], 354), (30, [3], [], 0), (42, [4, 5], [], 0), (20, [5, 1], [1], 64), (90, [5], [], 0), (91, [5], [], 20), (5000, [0, 1, 2, 3, 4], [0, 1], 16), (0, [0], [], 285), (0, [1], [], 285), (90, [2], [], -2147483648), (91, [2], [], 2147483647), (90, [3], [], 0), (91, [3], [], 1), (90, [4], [], 0), (91, [4], [], 20)], (4000, [1, 2, 3, 9], [2], 16))
theorem c_290v_16_22 {q0 : Nat} : vOkm T0 (eP e_290v L_290v A_290v mu_290v (some q0)) 1 g_290v_16_22 := vOk_inI fun ρ η f0 f1 f2 f3 f4 f5 f6 f7 f8 f9 f10 f11 f12 f13 f14 f15 f16 f17 f18 f19 f20 f21 f22 f23 f24 => q_290v_26 (q0 := q0) (n0 := ρ 4) (n1 := ρ 3) (n2 := ρ 2) (n3 := ρ 1) (n4 := ρ 0) (n5 := ρ 5) (n6 := ρ 6) (n7 := ρ 7) (n8 := ρ 8) (n9 := ρ 9) (H0 := η 0) (H1 := η 1) (H2 := η 2) f24 f23 f22 f21 f20 f19 f18 f17 f16 f15 f14 f13 f12 f11 f10 f9 f8 f7 f6 f5 f4 f3 f2 f1 f0
def p_290v_16 : List vG := [g_290v_16_0,
  g_290v_16_1,
  g_290v_16_2,
  g_290v_16_3,
  g_290v_16_4,
  g_290v_16_5,
  g_290v_16_6,
  g_290v_16_7,
  g_290v_16_8,
  g_290v_16_9,
  g_290v_16_10,
  g_290v_16_11,
  g_290v_16_12,
  g_290v_16_13,
  g_290v_16_14,
  g_290v_16_15,
  g_290v_16_16,
  g_290v_16_17,
  g_290v_16_18,
  g_290v_16_19,
  g_290v_16_20,
  g_290v_16_21,
  g_290v_16_22]
theorem r_290v_16 : vCovO false (eRc e_290v L_290v cs_290v 2000 (16, [(0, (3, 12, 285, 0)), (1, (0, -2147483648, 2147483647, 0)), (2, (0, 0, 1, 0)), (3, (0, 0, 20, 0))])) p_290v_16 = true := by decide +kernel
theorem m_290v (d : Nat) : eC e_290v (d + 8) := eC_ok (e := e_290v) (L := L_290v) (cs := cs_290v) (n := 2000) (d := d + 7) (A := A_290v) (μ := mu_290v) (tp := false) (p0 := p_290v_s) rfl ⟨m_283v (d + 2), ⟨m_288 d, ⟨m_289 (d + 1), trivial⟩⟩⟩ rfl (.inl rfl) (by decide +kernel) (fun z => nomatch z) r_290v_s (allC c_290v_s_0 allN) (allC (.inl ⟨p_290v_4, r_290v_4, fun q0 => (allC c_290v_4_0 (allC c_290v_4_1 (allC c_290v_4_2 allN)))⟩) (allC (.inl ⟨p_290v_16, r_290v_16, fun q0 => (allC c_290v_16_0 (allC c_290v_16_1 (allC c_290v_16_2 (allC c_290v_16_3 (allC c_290v_16_4 (allC c_290v_16_5 (allC c_290v_16_6 (allC c_290v_16_7 (allC c_290v_16_8 (allC c_290v_16_9 (allC c_290v_16_10 (allC c_290v_16_11 (allC c_290v_16_12 (allC c_290v_16_13 (allC c_290v_16_14 (allC c_290v_16_15 (allC c_290v_16_16 (allC c_290v_16_17 (allC c_290v_16_18 (allC c_290v_16_19 (allC c_290v_16_20 (allC c_290v_16_21 (allC c_290v_16_22 allN)))))))))))))))))))))))⟩) allN))
