/-! CONTRACTS of methods (printed by wip/gen/emit.py). -/
/- MixStageModel.make (III)I -/
noncomputable def s_285 : vM := ([(3, 12, 285, 0), (0, -2147483648, 2147483647, 0), (0, -2147483648, 2147483647, 0), (0, -2147483648, 2147483647, 0)], (0, -2147483648, 2147483647, 0), 1, 0, [(12, 65), (12, 82), (12, 88), (12, 93), (460, 0), (492, 0), (500, 0), (508, 0), (516, 0), (524, 0), (572, 0), (580, 0), (588, 0), (596, 0), (604, 0), (612, 0), (621, 0), (631, 0), (637, 0), (644, 0)])
def preb_285 (a0 a1 a2 a3 : Int) (h : gH) : Prop := SO h ∧ SS h ∧ PG h ∧ AC h ∧ hV h 285 65 ≤ 20000
def pre_285 : List Int → gH → Prop := fun xs h => match xs with
  | [a0, a1, a2, a3] => preb_285 a0 a1 a2 a3 h
  | _ => False
def postb_285 (r a0 a1 a2 a3 : Int) (h0 h : gH) : Prop := SO h ∧ SS h ∧ AC h ∧ hV h 285 65 ≤ hV h0 285 65 + 1
def post_285 : List Int → gH → gH → Prop := fun xs h0 h => match xs with
  | [r, a0, a1, a2, a3] => postb_285 r a0 a1 a2 a3 h0 h
  | _ => True
noncomputable def e_285 : vE := (285, s_285, pre_285, post_285)
noncomputable def L_285 : List vE := [e_250, e_278, e_280, e_283, e_284]
def cs_285 : List vC := [(64, [(0, (3, 12, 285, 0)), (1, (0, -2147483648, 2147483647, 0)), (2, (0, -2147483648, 2147483647, 0)), (3, (0, -2147483648, 2147483647, 0)), (4, (0, -2147483648, 2147483647, 0)), (5, (0, 0, 20, 0))])]
def Ab_285_64 (a0 a1 a2 a3 x0 x1 x2 x3 x4 x5 : Int) (h0 h : gH) : Prop := x1 = a1 ∧ x2 = a2 ∧ x3 = a3 ∧ BTS x4 (LYp (hV h 296) (hV h 298) (hV h 300) (a2).toNat) ∧ MAp (hV h 285 64) (NXp (hV h 328) (hV h 332) (hV h 335) (hV h 296) (hV h 298) (hV h 300)) (LYp (hV h 296) (hV h 298) (hV h 300) (a2).toNat) (a1).toNat x5 ∧ (∀ j : Nat, LYp (hV h 296) (hV h 298) (hV h 300) (a2).toNat j → (j : Int) < hV h 285 64) ∧ ¬ LYp (hV h 296) (hV h 298) (hV h 300) (a2).toNat (a1).toNat ∧ 0 ≤ a1 ∧ a1 < hV h 285 64 ∧ hV h 328 ((a1).toNat) = 6 ∧ 0 ≤ a2 ∧ a2 < hV h 285 18 ∧ 0 ≤ a3 ∧ a3 ≤ 5 ∧ SO h ∧ SS h ∧ AC h ∧ hV h 285 65 = hV h0 285 65
def mub_285_64 (a0 a1 a2 a3 x0 x1 x2 x3 x4 x5 : Int) (h0 h : gH) : Nat := (2147483648 - x5).toNat
def A_285 : Int → List Int → gH → gH → Prop := fun c xs h0 h => match c.toNat with
  | 64 => (match xs with
    | [a0, a1, a2, a3, x0, x1, x2, x3, x4, x5] => Ab_285_64 a0 a1 a2 a3 x0 x1 x2 x3 x4 x5 h0 h
    | _ => False)
  | _ => True
def mu_285 : Int → List Int → gH → gH → Nat := fun c xs h0 h => match c.toNat with
  | 64 => (match xs with
    | [a0, a1, a2, a3, x0, x1, x2, x3, x4, x5] => mub_285_64 a0 a1 a2 a3 x0 x1 x2 x3 x4 x5 h0 h
    | _ => 0)
  | _ => 0
theorem q_285_0 {n0 n1 n2 n3 n4 n5 : Int} {H0 H1 : gH} (f0 : n0 ≤ 2147483647) (f1 : (-2147483648) ≤ n0) (f2 : n1 ≤ 2147483647) (f3 : (-2147483648) ≤ n1) (f4 : n2 ≤ 2147483647) (f5 : (-2147483648) ≤ n2) (f6 : n3 = 285) (f7 : hWt T0 H0 ∧ preb_285 n3 n2 n1 n0 H0) (f8 : n4 ≤ 1) (f9 : 0 ≤ n4) (f10 : (hLe T0 H0 H1 ∧ hFr s_250.2.2.2.2 H0 H1 ∧ ((0 : Int) = 0 → H1.length = H0.length) ∧ hWt T0 H1) ∧ postb_250 n4 n3 n2 H0 H1) (f11 : n4 = 0) (f12 : n5 = (-1)) : postb_285 n5 n3 n2 n1 n0 H0 H1 := by
  unfold preb_285 at f7
  unfold postb_250 at f10
  unfold postb_285
  have e1 : hV H1 285 64 = hV H0 285 64 := (f10.1.2.1.1 285 64 kF_250_285_64)
  have e3 : hV H1 285 65 = hV H0 285 65 := (f10.1.2.1.1 285 65 kF_250_285_65)
  have e4 : AC H1 = AC H0 := AC_fr f10.1.2.1 (by decide +kernel)
  have e5 : SO H1 = SO H0 := SO_fr f10.1.2.1 (by decide +kernel)
  have e6 : SS H1 = SS H0 := SS_fr f10.1.2.1 (by decide +kernel)
  have e7 : (0 : Int) ≤ hV H0 285 65 ∧ hV H0 285 65 ≤ 2147483647 := f7.1 285 65 _ _ kW_285_65
  have e8 : (0 : Int) ≤ hV H0 285 64 ∧ hV H0 285 64 ≤ 20 := bTo e1 (f10.1.2.2.2 285 64 _ _ kW_285_64)
  try simp only [e3, e4, e5, e6]
  have p0 := f7.2.1
  have p1 := f7.2.2.1
  have p2 := f7.2.2.2.1
  have p3 := f7.2.2.2.2.1
  have p4 := f7.2.2.2.2.2
  have r0_0 := f10.2
  try simp only [e1] at r0_0
  clear e1 e3 e4 e5 e6
  clear f7 f10
  try (have wx := r1_0 (by omega); obtain ⟨w0, w1, w2, w3⟩ := wx)

  exact ⟨p0, p1, p3, by omega⟩
def g_285_s_0 : vG := ([(0, [5], [], -1), (30, [4], [], 0), (1250, [4, 0, 1], [0, 1], 0), (90, [4], [], 0), (91, [4], [], 1), (6000, [0, 1, 2, 3], [0], 0), (0, [0], [], 285), (90, [1], [], -2147483648), (91, [1], [], 2147483647), (90, [2], [], -2147483648), (91, [2], [], 2147483647), (90, [3], [], -2147483648), (91, [3], [], 2147483647)], (3000, [5], [1], 29))
theorem c_285_s_0 : vOkm T0 (eP e_285 L_285 A_285 mu_285 none) 4 g_285_s_0 := vOk_inI fun ρ η f0 f1 f2 f3 f4 f5 f6 f7 f8 f9 f10 f11 f12 => q_285_0 (n0 := ρ 3) (n1 := ρ 2) (n2 := ρ 1) (n3 := ρ 0) (n4 := ρ 4) (n5 := ρ 5) (H0 := η 0) (H1 := η 1) f12 f11 f10 f9 f8 f7 f6 f5 f4 f3 f2 f1 f0
theorem q_285_1 {n0 n1 n2 n3 n4 : Int} {H0 H1 : gH} (f0 : n0 = 285) (f1 : hWt T0 H0 ∧ preb_285 n0 n1 n2 n3 H0) (f2 : (hLe T0 H0 H1 ∧ hFr s_250.2.2.2.2 H0 H1 ∧ ((0 : Int) = 0 → H1.length = H0.length) ∧ hWt T0 H1) ∧ postb_250 n4 n0 n1 H0 H1) (f3 : n4 ≠ 0) : 0 ≤ n1 ∧ n1 < 20 := by
  unfold preb_285 at f1
  unfold postb_250 at f2
  have e1 : hV H1 285 64 = hV H0 285 64 := (f2.1.2.1.1 285 64 kF_250_285_64)
  have e2 : (0 : Int) ≤ hV H0 285 65 ∧ hV H0 285 65 ≤ 2147483647 := f1.1 285 65 _ _ kW_285_65
  have e3 : (0 : Int) ≤ hV H0 285 64 ∧ hV H0 285 64 ≤ 20 := bTo e1 (f2.1.2.2.2 285 64 _ _ kW_285_64)
  have p0 := f1.2.1
  have p1 := f1.2.2.1
  have p2 := f1.2.2.2.1
  have p3 := f1.2.2.2.2.1
  have p4 := f1.2.2.2.2.2
  have r0_0 := f2.2
  try simp only [e1] at r0_0
  clear e1
  clear f1 f2
  omega
def g_285_s_1 : vG := ([(31, [4], [], 0), (1250, [4, 0, 1], [0, 1], 0), (6000, [0, 1, 2, 3], [0], 0), (0, [0], [], 285)], (70, [1], [], 20))
theorem c_285_s_1 : vOkm T0 (eP e_285 L_285 A_285 mu_285 none) 4 g_285_s_1 := vOk_inI fun ρ η f0 f1 f2 f3 => q_285_1 (n0 := ρ 0) (n1 := ρ 1) (n2 := ρ 2) (n3 := ρ 3) (n4 := ρ 4) (H0 := η 0) (H1 := η 1) f3 f2 f1 f0
theorem q_285_2 {n0 n1 n2 n3 n4 n5 n6 n7 n8 : Int} {H0 H1 : gH} (f0 : n0 ≤ 2147483647) (f1 : (-2147483648) ≤ n0) (f2 : n1 ≤ 2147483647) (f3 : (-2147483648) ≤ n1) (f4 : n2 ≤ 2147483647) (f5 : (-2147483648) ≤ n2) (f6 : n3 = 285) (f7 : hWt T0 H0 ∧ preb_285 n3 n2 n1 n0 H0) (f8 : n4 ≤ 1) (f9 : 0 ≤ n4) (f10 : (hLe T0 H0 H1 ∧ hFr s_250.2.2.2.2 H0 H1 ∧ ((0 : Int) = 0 → H1.length = H0.length) ∧ hWt T0 H1) ∧ postb_250 n4 n3 n2 H0 H1) (f11 : n4 ≠ 0) (f12 : n5 = 328) (f13 : n5 = hV H1 (n3).toNat 66) (f14 : n6 ≤ 6) (f15 : 0 ≤ n6) (f16 : n6 = hV H1 (n5).toNat (n2).toNat) (f17 : n7 = 6) (f18 : n6 ≠ n7) (f19 : n8 = (-1)) : postb_285 n8 n3 n2 n1 n0 H0 H1 := by
  unfold preb_285 at f7
  unfold postb_250 at f10
  unfold postb_285
  have e1 : n6 = hV H0 328 (n2).toNat := (by rw [f12] at f16; exact f16 : n6 = hV H1 328 (n2).toNat).trans ((congrFun (fRow f10.1.2.1 328 kR_250_328) _))
  have e3 : hV H1 285 64 = hV H0 285 64 := (f10.1.2.1.1 285 64 kF_250_285_64)
  have e5 : hV H1 285 65 = hV H0 285 65 := (f10.1.2.1.1 285 65 kF_250_285_65)
  have e6 : AC H1 = AC H0 := AC_fr f10.1.2.1 (by decide +kernel)
  have e7 : SO H1 = SO H0 := SO_fr f10.1.2.1 (by decide +kernel)
  have e8 : SS H1 = SS H0 := SS_fr f10.1.2.1 (by decide +kernel)
  have e9 : (0 : Int) ≤ hV H0 285 65 ∧ hV H0 285 65 ≤ 2147483647 := f7.1 285 65 _ _ kW_285_65
  have e10 : (0 : Int) ≤ hV H0 285 64 ∧ hV H0 285 64 ≤ 20 := bTo e3 (f10.1.2.2.2 285 64 _ _ kW_285_64)
  try simp only [e5, e6, e7, e8]
  have p0 := f7.2.1
  have p1 := f7.2.2.1
  have p2 := f7.2.2.2.1
  have p3 := f7.2.2.2.2.1
  have p4 := f7.2.2.2.2.2
  have r0_0 := f10.2
  try simp only [e3] at r0_0
  clear f13 f16 e3 e5 e6 e7 e8
  clear f7 f10
  subst e1
  try (have wx := r1_0 (by omega); obtain ⟨w0, w1, w2, w3⟩ := wx)

  exact ⟨p0, p1, p3, by omega⟩
def g_285_s_2 : vG := ([(0, [8], [], -1), (41, [6, 7], [], 0), (0, [7], [], 6), (22, [6, 5, 1], [1], 0), (90, [6], [], 0), (91, [6], [], 6), (20, [5, 0], [1], 66), (0, [5], [], 328), (31, [4], [], 0), (1250, [4, 0, 1], [0, 1], 0), (90, [4], [], 0), (91, [4], [], 1), (6000, [0, 1, 2, 3], [0], 0), (0, [0], [], 285), (90, [1], [], -2147483648), (91, [1], [], 2147483647), (90, [2], [], -2147483648), (91, [2], [], 2147483647), (90, [3], [], -2147483648), (91, [3], [], 2147483647)], (3000, [8], [1], 29))
theorem c_285_s_2 : vOkm T0 (eP e_285 L_285 A_285 mu_285 none) 4 g_285_s_2 := vOk_inI fun ρ η f0 f1 f2 f3 f4 f5 f6 f7 f8 f9 f10 f11 f12 f13 f14 f15 f16 f17 f18 f19 => q_285_2 (n0 := ρ 3) (n1 := ρ 2) (n2 := ρ 1) (n3 := ρ 0) (n4 := ρ 4) (n5 := ρ 5) (n6 := ρ 6) (n7 := ρ 7) (n8 := ρ 8) (H0 := η 0) (H1 := η 1) f19 f18 f17 f16 f15 f14 f13 f12 f11 f10 f9 f8 f7 f6 f5 f4 f3 f2 f1 f0
theorem q_285_3 {n0 n1 n2 n3 : Int} {H0 H1 H2 : gH} (f0 : n0 = 285) (f1 : (hLe T0 H1 H2 ∧ hFr s_284.2.2.2.2 H1 H2 ∧ ((0 : Int) = 0 → H2.length = H1.length) ∧ hWt T0 H2) ∧ postb_284 n1 n0 n2 n3 H1 H2) (f2 : n1 ≠ 0) : 0 ≤ n2 := by
  unfold postb_284 at f1
  have e1 : hV H2 285 18 = hV H1 285 18 := (f1.1.2.1.1 285 18 kF_284_285_18)
  have e3 : hV H2 285 60 = hV H1 285 60 := (f1.1.2.1.1 285 60 kF_284_285_60)
  have e4 : (0 : Int) ≤ hV H1 285 18 ∧ hV H1 285 18 ≤ 8 := bTo e1 (f1.1.2.2.2 285 18 _ _ kW_285_18)
  have e5 : (1 : Int) ≤ hV H1 285 60 ∧ hV H1 285 60 ≤ 6 := bTo e3 (f1.1.2.2.2 285 60 _ _ kW_285_60)
  have r0_0 := f1.2
  try simp only [e1, e3] at r0_0
  clear e1 e3
  clear f1
  omega
def g_285_s_3 : vG := ([(31, [8], [], 0), (1284, [8, 0, 2, 3], [1, 2], 0), (0, [0], [], 285)], (90, [2], [], 0))
theorem c_285_s_3 : vOkm T0 (eP e_285 L_285 A_285 mu_285 none) 4 g_285_s_3 := vOk_inI fun ρ η f0 f1 f2 => q_285_3 (n0 := ρ 0) (n1 := ρ 8) (n2 := ρ 2) (n3 := ρ 3) (H0 := η 0) (H1 := η 1) (H2 := η 2) f2 f1 f0
theorem q_285_4 {n0 n1 n2 n3 n4 : Int} {H0 H1 H2 : gH} (f0 : n0 = 285) (f1 : hWt T0 H0 ∧ preb_285 n0 n1 n2 n3 H0) (f2 : (hLe T0 H1 H2 ∧ hFr s_284.2.2.2.2 H1 H2 ∧ ((0 : Int) = 0 → H2.length = H1.length) ∧ hWt T0 H2) ∧ postb_284 n4 n0 n2 n3 H1 H2) (f3 : n4 ≠ 0) : n2 ≤ 7 := by
  unfold preb_285 at f1
  unfold postb_284 at f2
  have e1 : hV H2 285 18 = hV H1 285 18 := (f2.1.2.1.1 285 18 kF_284_285_18)
  have e3 : hV H2 285 60 = hV H1 285 60 := (f2.1.2.1.1 285 60 kF_284_285_60)
  have e4 : (0 : Int) ≤ hV H0 285 65 ∧ hV H0 285 65 ≤ 2147483647 := f1.1 285 65 _ _ kW_285_65
  have e5 : (0 : Int) ≤ hV H1 285 18 ∧ hV H1 285 18 ≤ 8 := bTo e1 (f2.1.2.2.2 285 18 _ _ kW_285_18)
  have e6 : (1 : Int) ≤ hV H1 285 60 ∧ hV H1 285 60 ≤ 6 := bTo e3 (f2.1.2.2.2 285 60 _ _ kW_285_60)
  have p0 := f1.2.1
  have p1 := f1.2.2.1
  have p2 := f1.2.2.2.1
  have p3 := f1.2.2.2.2.1
  have p4 := f1.2.2.2.2.2
  have r0_0 := f2.2
  try simp only [e1, e3] at r0_0
  clear e1 e3
  clear f1 f2
  omega
def g_285_s_4 : vG := ([(31, [8], [], 0), (1284, [8, 0, 2, 3], [1, 2], 0), (6000, [0, 1, 2, 3], [0], 0), (0, [0], [], 285)], (91, [2], [], 7))
theorem c_285_s_4 : vOkm T0 (eP e_285 L_285 A_285 mu_285 none) 4 g_285_s_4 := vOk_inI fun ρ η f0 f1 f2 f3 => q_285_4 (n0 := ρ 0) (n1 := ρ 1) (n2 := ρ 2) (n3 := ρ 3) (n4 := ρ 8) (H0 := η 0) (H1 := η 1) (H2 := η 2) f3 f2 f1 f0
theorem q_285_5 {n0 n1 n2 n3 n4 n5 n6 n7 n8 : Int} {H0 H1 H2 : gH} (f0 : n0 ≤ 2147483647) (f1 : (-2147483648) ≤ n0) (f2 : n1 ≤ 2147483647) (f3 : (-2147483648) ≤ n1) (f4 : n2 ≤ 2147483647) (f5 : (-2147483648) ≤ n2) (f6 : n3 = 285) (f7 : hWt T0 H0 ∧ preb_285 n3 n2 n1 n0 H0) (f8 : n4 ≤ 1) (f9 : 0 ≤ n4) (f10 : (hLe T0 H0 H1 ∧ hFr s_250.2.2.2.2 H0 H1 ∧ ((0 : Int) = 0 → H1.length = H0.length) ∧ hWt T0 H1) ∧ postb_250 n4 n3 n2 H0 H1) (f11 : n4 ≠ 0) (f12 : n5 = 328) (f13 : n5 = hV H1 (n3).toNat 66) (f14 : n6 ≤ 6) (f15 : 0 ≤ n6) (f16 : n6 = hV H1 (n5).toNat (n2).toNat) (f17 : n7 = 6) (f18 : n6 = n7) (f19 : n8 ≤ 1) (f20 : 0 ≤ n8) (f21 : (hLe T0 H1 H2 ∧ hFr s_284.2.2.2.2 H1 H2 ∧ ((0 : Int) = 0 → H2.length = H1.length) ∧ hWt T0 H2) ∧ postb_284 n8 n3 n1 n0 H1 H2) (f22 : n8 ≠ 0) : preb_278 n3 n1 H2 := by
  unfold preb_285 at f7
  unfold postb_250 at f10
  unfold postb_284 at f21
  unfold preb_278
  have e1 : n6 = hV H0 328 (n2).toNat := (by rw [f12] at f16; exact f16 : n6 = hV H1 328 (n2).toNat).trans ((congrFun (fRow f10.1.2.1 328 kR_250_328) _))
  have e3 : hV H1 285 64 = hV H0 285 64 := (f10.1.2.1.1 285 64 kF_250_285_64)
  have e6 : hV H2 285 18 = hV H0 285 18 := ((f21.1.2.1.1 285 18 kF_284_285_18)).trans (f10.1.2.1.1 285 18 kF_250_285_18)
  have e9 : hV H2 285 60 = hV H0 285 60 := ((f21.1.2.1.1 285 60 kF_284_285_60)).trans (f10.1.2.1.1 285 60 kF_250_285_60)
  have e10 : PG H1 = PG H0 := PG_fr f10.1.2.1 (by decide +kernel)
  have e11 : PG H2 = PG H1 := PG_fr f21.1.2.1 (by decide +kernel)
  have e12 : PG H2 = PG H0 := e11.trans e10
  have e13 : (0 : Int) ≤ hV H0 285 65 ∧ hV H0 285 65 ≤ 2147483647 := f7.1 285 65 _ _ kW_285_65
  have e14 : (0 : Int) ≤ hV H0 285 64 ∧ hV H0 285 64 ≤ 20 := bTo e3 (f10.1.2.2.2 285 64 _ _ kW_285_64)
  have e16 : (0 : Int) ≤ hV H0 285 18 ∧ hV H0 285 18 ≤ 8 := bTo e6 (f21.1.2.2.2 285 18 _ _ kW_285_18)
  have e18 : (1 : Int) ≤ hV H0 285 60 ∧ hV H0 285 60 ≤ 6 := bTo e9 (f21.1.2.2.2 285 60 _ _ kW_285_60)
  try simp only [e6, e12]
  have p0 := f7.2.1
  have p1 := f7.2.2.1
  have p2 := f7.2.2.2.1
  have p3 := f7.2.2.2.2.1
  have p4 := f7.2.2.2.2.2
  have r0_0 := f10.2
  have r1_0 := f21.2
  try simp only [e3] at r0_0
  try simp only [e6, e9] at r1_0
  clear f13 f16 e3 e6 e9 e10 e11 e12
  clear f7 f10 f21
  subst e1
  try (have wx := r1_0 (by omega); obtain ⟨w0, w1, w2, w3⟩ := wx)
  refine ⟨?_, ?_⟩ <;> first | assumption | omega | trivial
def g_285_s_5 : vG := ([(31, [8], [], 0), (1284, [8, 0, 2, 3], [1, 2], 0), (90, [8], [], 0), (91, [8], [], 1), (40, [6, 7], [], 0), (0, [7], [], 6), (22, [6, 5, 1], [1], 0), (90, [6], [], 0), (91, [6], [], 6), (20, [5, 0], [1], 66), (0, [5], [], 328), (31, [4], [], 0), (1250, [4, 0, 1], [0, 1], 0), (90, [4], [], 0), (91, [4], [], 1), (6000, [0, 1, 2, 3], [0], 0), (0, [0], [], 285), (90, [1], [], -2147483648), (91, [1], [], 2147483647), (90, [2], [], -2147483648), (91, [2], [], 2147483647), (90, [3], [], -2147483648), (91, [3], [], 2147483647)], (2278, [0, 2], [2], 0))
theorem c_285_s_5 : vOkm T0 (eP e_285 L_285 A_285 mu_285 none) 4 g_285_s_5 := vOk_inI fun ρ η f0 f1 f2 f3 f4 f5 f6 f7 f8 f9 f10 f11 f12 f13 f14 f15 f16 f17 f18 f19 f20 f21 f22 => q_285_5 (n0 := ρ 3) (n1 := ρ 2) (n2 := ρ 1) (n3 := ρ 0) (n4 := ρ 4) (n5 := ρ 5) (n6 := ρ 6) (n7 := ρ 7) (n8 := ρ 8) (H0 := η 0) (H1 := η 1) (H2 := η 2) f22 f21 f20 f19 f18 f17 f16 f15 f14 f13 f12 f11 f10 f9 f8 f7 f6 f5 f4 f3 f2 f1 f0
theorem kR_284_296 : vFreeR s_284.2.2.2.2 296 = true := by decide +kernel
theorem kR_250_296 : vFreeR s_250.2.2.2.2 296 = true := by decide +kernel
theorem kR_284_300 : vFreeR s_284.2.2.2.2 300 = true := by decide +kernel
theorem kF_278_285_64 : vFree s_278.2.2.2.2 285 64 = true := by decide +kernel
theorem kF_278_285_65 : vFree s_278.2.2.2.2 285 65 = true := by decide +kernel
theorem kF_284_285_65 : vFree s_284.2.2.2.2 285 65 = true := by decide +kernel
theorem q_285_6 {n0 n1 n2 n3 n4 n5 n6 n7 n8 n9 n10 n11 n12 n13 : Int} {H0 H1 H2 H3 : gH} (f0 : n0 ≤ 2147483647) (f1 : (-2147483648) ≤ n0) (f2 : n1 ≤ 2147483647) (f3 : (-2147483648) ≤ n1) (f4 : n2 ≤ 2147483647) (f5 : (-2147483648) ≤ n2) (f6 : n3 = 285) (f7 : hWt T0 H0 ∧ preb_285 n3 n2 n1 n0 H0) (f8 : n4 ≤ 1) (f9 : 0 ≤ n4) (f10 : (hLe T0 H0 H1 ∧ hFr s_250.2.2.2.2 H0 H1 ∧ ((0 : Int) = 0 → H1.length = H0.length) ∧ hWt T0 H1) ∧ postb_250 n4 n3 n2 H0 H1) (f11 : n4 ≠ 0) (f12 : n5 = 328) (f13 : n5 = hV H1 (n3).toNat 66) (f14 : n6 ≤ 6) (f15 : 0 ≤ n6) (f16 : n6 = hV H1 (n5).toNat (n2).toNat) (f17 : n7 = 6) (f18 : n6 = n7) (f19 : n8 ≤ 1) (f20 : 0 ≤ n8) (f21 : (hLe T0 H1 H2 ∧ hFr s_284.2.2.2.2 H1 H2 ∧ ((0 : Int) = 0 → H2.length = H1.length) ∧ hWt T0 H2) ∧ postb_284 n8 n3 n1 n0 H1 H2) (f22 : n8 ≠ 0) (f23 : n9 ≤ 2147483647) (f24 : (-2147483648) ≤ n9) (f25 : (hLe T0 H2 H3 ∧ hFr s_278.2.2.2.2 H2 H3 ∧ ((0 : Int) = 0 → H3.length = H2.length) ∧ hWt T0 H3) ∧ postb_278 n9 n3 n1 H2 H3) (f26 : n10 = 1) (f27 : n11 ≤ 20) (f28 : 0 ≤ n11) (f29 : n11 = hV H3 (n3).toNat 64) (f30 : n12 = o32 (fun x y => x <<< (y &&& 31)) n10 n11) (f31 : n12 ≤ n9) (f32 : n13 = (-2)) : postb_285 n13 n3 n2 n1 n0 H0 H3 := by
  unfold preb_285 at f7
  unfold postb_250 at f10
  unfold postb_284 at f21
  unfold postb_278 at f25
  unfold postb_285
  have e1 : n6 = hV H0 328 (n2).toNat := (by rw [f12] at f16; exact f16 : n6 = hV H1 328 (n2).toNat).trans ((congrFun (fRow f10.1.2.1 328 kR_250_328) _))
  have e5 : n11 = hV H0 285 64 := (by rw [f6] at f29; exact f29 : n11 = hV H3 285 64).trans (((f25.1.2.1.1 285 64 kF_278_285_64)).trans (((f21.1.2.1.1 285 64 kF_284_285_64)).trans (f10.1.2.1.1 285 64 kF_250_285_64)))
  have e6 : hV H1 285 64 = hV H0 285 64 := (f10.1.2.1.1 285 64 kF_250_285_64)
  have e9 : hV H2 285 18 = hV H0 285 18 := ((f21.1.2.1.1 285 18 kF_284_285_18)).trans (f10.1.2.1.1 285 18 kF_250_285_18)
  have e12 : hV H2 285 60 = hV H0 285 60 := ((f21.1.2.1.1 285 60 kF_284_285_60)).trans (f10.1.2.1.1 285 60 kF_250_285_60)
  have e16 : hV H3 285 65 = hV H0 285 65 := ((f25.1.2.1.1 285 65 kF_278_285_65)).trans (((f21.1.2.1.1 285 65 kF_284_285_65)).trans (f10.1.2.1.1 285 65 kF_250_285_65))
  have e21 : hV H3 296 = hV H0 296 := (fRow f25.1.2.1 296 kR_278_296).trans ((fRow f21.1.2.1 296 kR_284_296).trans (fRow f10.1.2.1 296 kR_250_296))
  have e26 : hV H3 298 = hV H0 298 := (fRow f25.1.2.1 298 kR_278_298).trans ((fRow f21.1.2.1 298 kR_284_298).trans (fRow f10.1.2.1 298 kR_250_298))
  have e31 : hV H3 300 = hV H0 300 := (fRow f25.1.2.1 300 kR_278_300).trans ((fRow f21.1.2.1 300 kR_284_300).trans (fRow f10.1.2.1 300 kR_250_300))
  have e32 : AC H1 = AC H0 := AC_fr f10.1.2.1 (by decide +kernel)
  have e33 : AC H2 = AC H1 := AC_fr f21.1.2.1 (by decide +kernel)
  have e34 : AC H2 = AC H0 := e33.trans e32
  have e35 : AC H3 = AC H2 := AC_fr f25.1.2.1 (by decide +kernel)
  have e36 : AC H3 = AC H0 := e35.trans e34
  have e37 : SO H1 = SO H0 := SO_fr f10.1.2.1 (by decide +kernel)
  have e38 : SO H2 = SO H1 := SO_fr f21.1.2.1 (by decide +kernel)
  have e39 : SO H2 = SO H0 := e38.trans e37
  have e40 : SO H3 = SO H2 := SO_fr f25.1.2.1 (by decide +kernel)
  have e41 : SO H3 = SO H0 := e40.trans e39
  have e42 : SS H1 = SS H0 := SS_fr f10.1.2.1 (by decide +kernel)
  have e43 : SS H2 = SS H1 := SS_fr f21.1.2.1 (by decide +kernel)
  have e44 : SS H2 = SS H0 := e43.trans e42
  have e45 : SS H3 = SS H2 := SS_fr f25.1.2.1 (by decide +kernel)
  have e46 : SS H3 = SS H0 := e45.trans e44
  have e47 : (0 : Int) ≤ hV H0 285 65 ∧ hV H0 285 65 ≤ 2147483647 := f7.1 285 65 _ _ kW_285_65
  have e48 : (0 : Int) ≤ hV H0 285 64 ∧ hV H0 285 64 ≤ 20 := bTo e6 (f10.1.2.2.2 285 64 _ _ kW_285_64)
  have e50 : (0 : Int) ≤ hV H0 285 18 ∧ hV H0 285 18 ≤ 8 := bTo e9 (f21.1.2.2.2 285 18 _ _ kW_285_18)
  have e52 : (1 : Int) ≤ hV H0 285 60 ∧ hV H0 285 60 ≤ 6 := bTo e12 (f21.1.2.2.2 285 60 _ _ kW_285_60)
  try simp only [e16, e36, e41, e46]
  have p0 := f7.2.1
  have p1 := f7.2.2.1
  have p2 := f7.2.2.2.1
  have p3 := f7.2.2.2.2.1
  have p4 := f7.2.2.2.2.2
  have r0_0 := f10.2
  have r1_0 := f21.2
  have r2_0 := f25.2
  try simp only [e6] at r0_0
  try simp only [e9, e12] at r1_0
  try simp only [e21, e26, e31] at r2_0
  clear f13 f16 f29 e6 e9 e12 e16 e21 e26 e31 e32 e33 e34 e35 e36 e37 e38 e39 e40 e41 e42 e43 e44 e45 e46
  clear f7 f10 f21 f25
  subst e1
  subst e5
  try (have wx := r1_0 (by omega); obtain ⟨w0, w1, w2, w3⟩ := wx)

  exact ⟨p0, p1, p3, by omega⟩
def g_285_s_6 : vG := ([(0, [13], [], -2), (43, [9, 12], [], 0), (7, [12, 10, 11], [], 0), (20, [11, 0], [3], 64), (90, [11], [], 0), (91, [11], [], 20), (0, [10], [], 1), (1278, [9, 0, 2], [2, 3], 0), (90, [9], [], -2147483648), (91, [9], [], 2147483647), (31, [8], [], 0), (1284, [8, 0, 2, 3], [1, 2], 0), (90, [8], [], 0), (91, [8], [], 1), (40, [6, 7], [], 0), (0, [7], [], 6), (22, [6, 5, 1], [1], 0), (90, [6], [], 0), (91, [6], [], 6), (20, [5, 0], [1], 66), (0, [5], [], 328), (31, [4], [], 0), (1250, [4, 0, 1], [0, 1], 0), (90, [4], [], 0), (91, [4], [], 1), (6000, [0, 1, 2, 3], [0], 0), (0, [0], [], 285), (90, [1], [], -2147483648), (91, [1], [], 2147483647), (90, [2], [], -2147483648), (91, [2], [], 2147483647), (90, [3], [], -2147483648), (91, [3], [], 2147483647)], (3000, [13], [3], 60))
theorem c_285_s_6 : vOkm T0 (eP e_285 L_285 A_285 mu_285 none) 4 g_285_s_6 := vOk_inI fun ρ η f0 f1 f2 f3 f4 f5 f6 f7 f8 f9 f10 f11 f12 f13 f14 f15 f16 f17 f18 f19 f20 f21 f22 f23 f24 f25 f26 f27 f28 f29 f30 f31 f32 => q_285_6 (n0 := ρ 3) (n1 := ρ 2) (n2 := ρ 1) (n3 := ρ 0) (n4 := ρ 4) (n5 := ρ 5) (n6 := ρ 6) (n7 := ρ 7) (n8 := ρ 8) (n9 := ρ 9) (n10 := ρ 10) (n11 := ρ 11) (n12 := ρ 12) (n13 := ρ 13) (H0 := η 0) (H1 := η 1) (H2 := η 2) (H3 := η 3) f32 f31 f30 f29 f28 f27 f26 f25 f24 f23 f22 f21 f20 f19 f18 f17 f16 f15 f14 f13 f12 f11 f10 f9 f8 f7 f6 f5 f4 f3 f2 f1 f0
theorem kR_284_328 : vFreeR s_284.2.2.2.2 328 = true := by decide +kernel
theorem kR_284_332 : vFreeR s_284.2.2.2.2 332 = true := by decide +kernel
theorem kR_284_335 : vFreeR s_284.2.2.2.2 335 = true := by decide +kernel
theorem kR_250_335 : vFreeR s_250.2.2.2.2 335 = true := by decide +kernel
theorem q_285_7 {n0 n1 n2 n3 n4 n5 n6 n7 n8 n9 n10 n11 n12 n13 n14 n15 n16 n17 : Int} {H0 H1 H2 H3 : gH} (f0 : n0 ≤ 2147483647) (f1 : (-2147483648) ≤ n0) (f2 : n1 ≤ 2147483647) (f3 : (-2147483648) ≤ n1) (f4 : n2 ≤ 2147483647) (f5 : (-2147483648) ≤ n2) (f6 : n3 = 285) (f7 : hWt T0 H0 ∧ preb_285 n3 n2 n1 n0 H0) (f8 : n4 ≤ 1) (f9 : 0 ≤ n4) (f10 : (hLe T0 H0 H1 ∧ hFr s_250.2.2.2.2 H0 H1 ∧ ((0 : Int) = 0 → H1.length = H0.length) ∧ hWt T0 H1) ∧ postb_250 n4 n3 n2 H0 H1) (f11 : n4 ≠ 0) (f12 : n5 = 328) (f13 : n5 = hV H1 (n3).toNat 66) (f14 : n6 ≤ 6) (f15 : 0 ≤ n6) (f16 : n6 = hV H1 (n5).toNat (n2).toNat) (f17 : n7 = 6) (f18 : n6 = n7) (f19 : n8 ≤ 1) (f20 : 0 ≤ n8) (f21 : (hLe T0 H1 H2 ∧ hFr s_284.2.2.2.2 H1 H2 ∧ ((0 : Int) = 0 → H2.length = H1.length) ∧ hWt T0 H2) ∧ postb_284 n8 n3 n1 n0 H1 H2) (f22 : n8 ≠ 0) (f23 : n9 ≤ 2147483647) (f24 : (-2147483648) ≤ n9) (f25 : (hLe T0 H2 H3 ∧ hFr s_278.2.2.2.2 H2 H3 ∧ ((0 : Int) = 0 → H3.length = H2.length) ∧ hWt T0 H3) ∧ postb_278 n9 n3 n1 H2 H3) (f26 : n10 = 1) (f27 : n11 ≤ 20) (f28 : 0 ≤ n11) (f29 : n11 = hV H3 (n3).toNat 64) (f30 : n12 = o32 (fun x y => x <<< (y &&& 31)) n10 n11) (f31 : n9 < n12) (f32 : n13 = o32 (fun x y => x >>> (y &&& 31)) n9 n2) (f33 : n14 = 1) (f34 : n15 = o32 (fun x y => x &&& y) n13 n14) (f35 : n16 = 1) (f36 : n15 ≠ n16) (f37 : n17 = 0) : Ab_285_64 n3 n2 n1 n0 n3 n2 n1 n0 n9 n17 H0 H3 ∧ ∀ q, none = some q → mub_285_64 n3 n2 n1 n0 n3 n2 n1 n0 n9 n17 H0 H3 < q := by
  unfold preb_285 at f7
  unfold postb_250 at f10
  unfold postb_284 at f21
  unfold postb_278 at f25
  unfold Ab_285_64
  have e1 : n6 = hV H0 328 (n2).toNat := (by rw [f12] at f16; exact f16 : n6 = hV H1 328 (n2).toNat).trans ((congrFun (fRow f10.1.2.1 328 kR_250_328) _))
  have e5 : n11 = hV H0 285 64 := (by rw [f6] at f29; exact f29 : n11 = hV H3 285 64).trans (((f25.1.2.1.1 285 64 kF_278_285_64)).trans (((f21.1.2.1.1 285 64 kF_284_285_64)).trans (f10.1.2.1.1 285 64 kF_250_285_64)))
  have e6 : hV H1 285 64 = hV H0 285 64 := (f10.1.2.1.1 285 64 kF_250_285_64)
  have e9 : hV H2 285 18 = hV H0 285 18 := ((f21.1.2.1.1 285 18 kF_284_285_18)).trans (f10.1.2.1.1 285 18 kF_250_285_18)
  have e12 : hV H2 285 60 = hV H0 285 60 := ((f21.1.2.1.1 285 60 kF_284_285_60)).trans (f10.1.2.1.1 285 60 kF_250_285_60)
  have e14 : hV H3 285 18 = hV H0 285 18 := ((f25.1.2.1.1 285 18 kF_278_285_18)).trans (((f21.1.2.1.1 285 18 kF_284_285_18)).trans (f10.1.2.1.1 285 18 kF_250_285_18))
  have e15 : hV H3 285 64 = hV H0 285 64 := ((f25.1.2.1.1 285 64 kF_278_285_64)).trans (((f21.1.2.1.1 285 64 kF_284_285_64)).trans (f10.1.2.1.1 285 64 kF_250_285_64))
  have e19 : hV H3 285 65 = hV H0 285 65 := ((f25.1.2.1.1 285 65 kF_278_285_65)).trans (((f21.1.2.1.1 285 65 kF_284_285_65)).trans (f10.1.2.1.1 285 65 kF_250_285_65))
  have e24 : hV H3 296 = hV H0 296 := (fRow f25.1.2.1 296 kR_278_296).trans ((fRow f21.1.2.1 296 kR_284_296).trans (fRow f10.1.2.1 296 kR_250_296))
  have e29 : hV H3 298 = hV H0 298 := (fRow f25.1.2.1 298 kR_278_298).trans ((fRow f21.1.2.1 298 kR_284_298).trans (fRow f10.1.2.1 298 kR_250_298))
  have e34 : hV H3 300 = hV H0 300 := (fRow f25.1.2.1 300 kR_278_300).trans ((fRow f21.1.2.1 300 kR_284_300).trans (fRow f10.1.2.1 300 kR_250_300))
  have e38 : hV H3 328 = hV H0 328 := (fRow f25.1.2.1 328 kR_278_328).trans ((fRow f21.1.2.1 328 kR_284_328).trans (fRow f10.1.2.1 328 kR_250_328))
  have e43 : hV H3 332 = hV H0 332 := (fRow f25.1.2.1 332 kR_278_332).trans ((fRow f21.1.2.1 332 kR_284_332).trans (fRow f10.1.2.1 332 kR_250_332))
  have e48 : hV H3 335 = hV H0 335 := (fRow f25.1.2.1 335 kR_278_335).trans ((fRow f21.1.2.1 335 kR_284_335).trans (fRow f10.1.2.1 335 kR_250_335))
  have e49 : AC H1 = AC H0 := AC_fr f10.1.2.1 (by decide +kernel)
  have e50 : AC H2 = AC H1 := AC_fr f21.1.2.1 (by decide +kernel)
  have e51 : AC H2 = AC H0 := e50.trans e49
  have e52 : AC H3 = AC H2 := AC_fr f25.1.2.1 (by decide +kernel)
  have e53 : AC H3 = AC H0 := e52.trans e51
  have e54 : SO H1 = SO H0 := SO_fr f10.1.2.1 (by decide +kernel)
  have e55 : SO H2 = SO H1 := SO_fr f21.1.2.1 (by decide +kernel)
  have e56 : SO H2 = SO H0 := e55.trans e54
  have e57 : SO H3 = SO H2 := SO_fr f25.1.2.1 (by decide +kernel)
  have e58 : SO H3 = SO H0 := e57.trans e56
  have e59 : SS H1 = SS H0 := SS_fr f10.1.2.1 (by decide +kernel)
  have e60 : SS H2 = SS H1 := SS_fr f21.1.2.1 (by decide +kernel)
  have e61 : SS H2 = SS H0 := e60.trans e59
  have e62 : SS H3 = SS H2 := SS_fr f25.1.2.1 (by decide +kernel)
  have e63 : SS H3 = SS H0 := e62.trans e61
  have e64 : (0 : Int) ≤ hV H0 285 65 ∧ hV H0 285 65 ≤ 2147483647 := f7.1 285 65 _ _ kW_285_65
  have e65 : (0 : Int) ≤ hV H0 285 64 ∧ hV H0 285 64 ≤ 20 := bTo e6 (f10.1.2.2.2 285 64 _ _ kW_285_64)
  have e67 : (0 : Int) ≤ hV H0 285 18 ∧ hV H0 285 18 ≤ 8 := bTo e9 (f21.1.2.2.2 285 18 _ _ kW_285_18)
  have e69 : (1 : Int) ≤ hV H0 285 60 ∧ hV H0 285 60 ≤ 6 := bTo e12 (f21.1.2.2.2 285 60 _ _ kW_285_60)
  try simp only [e14, e15, e19, e24, e29, e34, e38, e43, e48, e53, e58, e63]
  have p0 := f7.2.1
  have p1 := f7.2.2.1
  have p2 := f7.2.2.2.1
  have p3 := f7.2.2.2.2.1
  have p4 := f7.2.2.2.2.2
  have r0_0 := f10.2
  have r1_0 := f21.2
  have r2_0 := f25.2
  try simp only [e6] at r0_0
  try simp only [e9, e12] at r1_0
  try simp only [e24, e29, e34] at r2_0
  clear f13 f16 f29 e6 e9 e12 e14 e15 e19 e24 e29 e34 e38 e43 e48 e49 e50 e51 e52 e53 e54 e55 e56 e57 e58 e59 e60 e61 e62 e63
  clear f7 f10 f21 f25
  subst e1
  subst e5
  have b34 := o32_and_r f34 (by omega) (by omega)
  try (have wx := r1_0 (by omega); obtain ⟨w0, w1, w2, w3⟩ := wx)

  obtain ⟨w0, w1, w2, w3⟩ := r1_0 (by omega)
  have pg := p2 (n1).toNat (by omega)
  have tb := bt_test f32 f34 (by omega) (by omega) (by omega)
  refine ⟨?_, fun q hq => ?_⟩
  · exact ⟨by first | omega | trivial, by first | omega | trivial, by first | omega | trivial, r2_0, (fun j hj => by omega), set_lt r2_0 (LY_lt pg) (by omega) (by omega) f30 (by omega) (by omega) (by omega) (by omega), (fun z => by have := tb.1.mpr ((r2_0 _ (by omega)).mpr z); omega), by omega, by omega, by omega, by omega, by omega, by omega, by omega, p0, p1, p3, by first | omega | trivial⟩
  · exact nomatch hq
def g_285_s_7 : vG := ([(0, [17], [], 0), (41, [15, 16], [], 0), (0, [16], [], 1), (4, [15, 13, 14], [], 0), (0, [14], [], 1), (8, [13, 9, 1], [], 0), (42, [9, 12], [], 0), (7, [12, 10, 11], [], 0), (20, [11, 0], [3], 64), (90, [11], [], 0), (91, [11], [], 20), (0, [10], [], 1), (1278, [9, 0, 2], [2, 3], 0), (90, [9], [], -2147483648), (91, [9], [], 2147483647), (31, [8], [], 0), (1284, [8, 0, 2, 3], [1, 2], 0), (90, [8], [], 0), (91, [8], [], 1), (40, [6, 7], [], 0), (0, [7], [], 6), (22, [6, 5, 1], [1], 0), (90, [6], [], 0), (91, [6], [], 6), (20, [5, 0], [1], 66), (0, [5], [], 328), (31, [4], [], 0), (1250, [4, 0, 1], [0, 1], 0), (90, [4], [], 0), (91, [4], [], 1), (6000, [0, 1, 2, 3], [0], 0), (0, [0], [], 285), (90, [1], [], -2147483648), (91, [1], [], 2147483647), (90, [2], [], -2147483648), (91, [2], [], 2147483647), (90, [3], [], -2147483648), (91, [3], [], 2147483647)], (4000, [0, 1, 2, 3, 9, 17], [3], 64))
theorem c_285_s_7 : vOkm T0 (eP e_285 L_285 A_285 mu_285 none) 4 g_285_s_7 := vOk_inI fun ρ η f0 f1 f2 f3 f4 f5 f6 f7 f8 f9 f10 f11 f12 f13 f14 f15 f16 f17 f18 f19 f20 f21 f22 f23 f24 f25 f26 f27 f28 f29 f30 f31 f32 f33 f34 f35 f36 f37 => q_285_7 (n0 := ρ 3) (n1 := ρ 2) (n2 := ρ 1) (n3 := ρ 0) (n4 := ρ 4) (n5 := ρ 5) (n6 := ρ 6) (n7 := ρ 7) (n8 := ρ 8) (n9 := ρ 9) (n10 := ρ 10) (n11 := ρ 11) (n12 := ρ 12) (n13 := ρ 13) (n14 := ρ 14) (n15 := ρ 15) (n16 := ρ 16) (n17 := ρ 17) (H0 := η 0) (H1 := η 1) (H2 := η 2) (H3 := η 3) f37 f36 f35 f34 f33 f32 f31 f30 f29 f28 f27 f26 f25 f24 f23 f22 f21 f20 f19 f18 f17 f16 f15 f14 f13 f12 f11 f10 f9 f8 f7 f6 f5 f4 f3 f2 f1 f0
theorem q_285_8 {n0 n1 n2 n3 n4 n5 n6 n7 n8 n9 n10 n11 n12 n13 n14 n15 n16 n17 : Int} {H0 H1 H2 H3 : gH} (f0 : n0 ≤ 2147483647) (f1 : (-2147483648) ≤ n0) (f2 : n1 ≤ 2147483647) (f3 : (-2147483648) ≤ n1) (f4 : n2 ≤ 2147483647) (f5 : (-2147483648) ≤ n2) (f6 : n3 = 285) (f7 : hWt T0 H0 ∧ preb_285 n3 n2 n1 n0 H0) (f8 : n4 ≤ 1) (f9 : 0 ≤ n4) (f10 : (hLe T0 H0 H1 ∧ hFr s_250.2.2.2.2 H0 H1 ∧ ((0 : Int) = 0 → H1.length = H0.length) ∧ hWt T0 H1) ∧ postb_250 n4 n3 n2 H0 H1) (f11 : n4 ≠ 0) (f12 : n5 = 328) (f13 : n5 = hV H1 (n3).toNat 66) (f14 : n6 ≤ 6) (f15 : 0 ≤ n6) (f16 : n6 = hV H1 (n5).toNat (n2).toNat) (f17 : n7 = 6) (f18 : n6 = n7) (f19 : n8 ≤ 1) (f20 : 0 ≤ n8) (f21 : (hLe T0 H1 H2 ∧ hFr s_284.2.2.2.2 H1 H2 ∧ ((0 : Int) = 0 → H2.length = H1.length) ∧ hWt T0 H2) ∧ postb_284 n8 n3 n1 n0 H1 H2) (f22 : n8 ≠ 0) (f23 : n9 ≤ 2147483647) (f24 : (-2147483648) ≤ n9) (f25 : (hLe T0 H2 H3 ∧ hFr s_278.2.2.2.2 H2 H3 ∧ ((0 : Int) = 0 → H3.length = H2.length) ∧ hWt T0 H3) ∧ postb_278 n9 n3 n1 H2 H3) (f26 : n10 = 1) (f27 : n11 ≤ 20) (f28 : 0 ≤ n11) (f29 : n11 = hV H3 (n3).toNat 64) (f30 : n12 = o32 (fun x y => x <<< (y &&& 31)) n10 n11) (f31 : n9 < n12) (f32 : n13 = o32 (fun x y => x >>> (y &&& 31)) n9 n2) (f33 : n14 = 1) (f34 : n15 = o32 (fun x y => x &&& y) n13 n14) (f35 : n16 = 1) (f36 : n15 = n16) (f37 : n17 = (-2)) : postb_285 n17 n3 n2 n1 n0 H0 H3 := by
  unfold preb_285 at f7
  unfold postb_250 at f10
  unfold postb_284 at f21
  unfold postb_278 at f25
  unfold postb_285
  have e1 : n6 = hV H0 328 (n2).toNat := (by rw [f12] at f16; exact f16 : n6 = hV H1 328 (n2).toNat).trans ((congrFun (fRow f10.1.2.1 328 kR_250_328) _))
  have e5 : n11 = hV H0 285 64 := (by rw [f6] at f29; exact f29 : n11 = hV H3 285 64).trans (((f25.1.2.1.1 285 64 kF_278_285_64)).trans (((f21.1.2.1.1 285 64 kF_284_285_64)).trans (f10.1.2.1.1 285 64 kF_250_285_64)))
  have e6 : hV H1 285 64 = hV H0 285 64 := (f10.1.2.1.1 285 64 kF_250_285_64)
  have e9 : hV H2 285 18 = hV H0 285 18 := ((f21.1.2.1.1 285 18 kF_284_285_18)).trans (f10.1.2.1.1 285 18 kF_250_285_18)
  have e12 : hV H2 285 60 = hV H0 285 60 := ((f21.1.2.1.1 285 60 kF_284_285_60)).trans (f10.1.2.1.1 285 60 kF_250_285_60)
  have e16 : hV H3 285 65 = hV H0 285 65 := ((f25.1.2.1.1 285 65 kF_278_285_65)).trans (((f21.1.2.1.1 285 65 kF_284_285_65)).trans (f10.1.2.1.1 285 65 kF_250_285_65))
  have e21 : hV H3 296 = hV H0 296 := (fRow f25.1.2.1 296 kR_278_296).trans ((fRow f21.1.2.1 296 kR_284_296).trans (fRow f10.1.2.1 296 kR_250_296))
  have e26 : hV H3 298 = hV H0 298 := (fRow f25.1.2.1 298 kR_278_298).trans ((fRow f21.1.2.1 298 kR_284_298).trans (fRow f10.1.2.1 298 kR_250_298))
  have e31 : hV H3 300 = hV H0 300 := (fRow f25.1.2.1 300 kR_278_300).trans ((fRow f21.1.2.1 300 kR_284_300).trans (fRow f10.1.2.1 300 kR_250_300))
  have e32 : AC H1 = AC H0 := AC_fr f10.1.2.1 (by decide +kernel)
  have e33 : AC H2 = AC H1 := AC_fr f21.1.2.1 (by decide +kernel)
  have e34 : AC H2 = AC H0 := e33.trans e32
  have e35 : AC H3 = AC H2 := AC_fr f25.1.2.1 (by decide +kernel)
  have e36 : AC H3 = AC H0 := e35.trans e34
  have e37 : SO H1 = SO H0 := SO_fr f10.1.2.1 (by decide +kernel)
  have e38 : SO H2 = SO H1 := SO_fr f21.1.2.1 (by decide +kernel)
  have e39 : SO H2 = SO H0 := e38.trans e37
  have e40 : SO H3 = SO H2 := SO_fr f25.1.2.1 (by decide +kernel)
  have e41 : SO H3 = SO H0 := e40.trans e39
  have e42 : SS H1 = SS H0 := SS_fr f10.1.2.1 (by decide +kernel)
  have e43 : SS H2 = SS H1 := SS_fr f21.1.2.1 (by decide +kernel)
  have e44 : SS H2 = SS H0 := e43.trans e42
  have e45 : SS H3 = SS H2 := SS_fr f25.1.2.1 (by decide +kernel)
  have e46 : SS H3 = SS H0 := e45.trans e44
  have e47 : (0 : Int) ≤ hV H0 285 65 ∧ hV H0 285 65 ≤ 2147483647 := f7.1 285 65 _ _ kW_285_65
  have e48 : (0 : Int) ≤ hV H0 285 64 ∧ hV H0 285 64 ≤ 20 := bTo e6 (f10.1.2.2.2 285 64 _ _ kW_285_64)
  have e50 : (0 : Int) ≤ hV H0 285 18 ∧ hV H0 285 18 ≤ 8 := bTo e9 (f21.1.2.2.2 285 18 _ _ kW_285_18)
  have e52 : (1 : Int) ≤ hV H0 285 60 ∧ hV H0 285 60 ≤ 6 := bTo e12 (f21.1.2.2.2 285 60 _ _ kW_285_60)
  try simp only [e16, e36, e41, e46]
  have p0 := f7.2.1
  have p1 := f7.2.2.1
  have p2 := f7.2.2.2.1
  have p3 := f7.2.2.2.2.1
  have p4 := f7.2.2.2.2.2
  have r0_0 := f10.2
  have r1_0 := f21.2
  have r2_0 := f25.2
  try simp only [e6] at r0_0
  try simp only [e9, e12] at r1_0
  try simp only [e21, e26, e31] at r2_0
  clear f13 f16 f29 e6 e9 e12 e16 e21 e26 e31 e32 e33 e34 e35 e36 e37 e38 e39 e40 e41 e42 e43 e44 e45 e46
  clear f7 f10 f21 f25
  subst e1
  subst e5
  have b34 := o32_and_r f34 (by omega) (by omega)
  try (have wx := r1_0 (by omega); obtain ⟨w0, w1, w2, w3⟩ := wx)

  exact ⟨p0, p1, p3, by omega⟩
def g_285_s_8 : vG := ([(0, [17], [], -2), (40, [15, 16], [], 0), (0, [16], [], 1), (4, [15, 13, 14], [], 0), (0, [14], [], 1), (8, [13, 9, 1], [], 0), (42, [9, 12], [], 0), (7, [12, 10, 11], [], 0), (20, [11, 0], [3], 64), (90, [11], [], 0), (91, [11], [], 20), (0, [10], [], 1), (1278, [9, 0, 2], [2, 3], 0), (90, [9], [], -2147483648), (91, [9], [], 2147483647), (31, [8], [], 0), (1284, [8, 0, 2, 3], [1, 2], 0), (90, [8], [], 0), (91, [8], [], 1), (40, [6, 7], [], 0), (0, [7], [], 6), (22, [6, 5, 1], [1], 0), (90, [6], [], 0), (91, [6], [], 6), (20, [5, 0], [1], 66), (0, [5], [], 328), (31, [4], [], 0), (1250, [4, 0, 1], [0, 1], 0), (90, [4], [], 0), (91, [4], [], 1), (6000, [0, 1, 2, 3], [0], 0), (0, [0], [], 285), (90, [1], [], -2147483648), (91, [1], [], 2147483647), (90, [2], [], -2147483648), (91, [2], [], 2147483647), (90, [3], [], -2147483648), (91, [3], [], 2147483647)], (3000, [17], [3], 60))
theorem c_285_s_8 : vOkm T0 (eP e_285 L_285 A_285 mu_285 none) 4 g_285_s_8 := vOk_inI fun ρ η f0 f1 f2 f3 f4 f5 f6 f7 f8 f9 f10 f11 f12 f13 f14 f15 f16 f17 f18 f19 f20 f21 f22 f23 f24 f25 f26 f27 f28 f29 f30 f31 f32 f33 f34 f35 f36 f37 => q_285_8 (n0 := ρ 3) (n1 := ρ 2) (n2 := ρ 1) (n3 := ρ 0) (n4 := ρ 4) (n5 := ρ 5) (n6 := ρ 6) (n7 := ρ 7) (n8 := ρ 8) (n9 := ρ 9) (n10 := ρ 10) (n11 := ρ 11) (n12 := ρ 12) (n13 := ρ 13) (n14 := ρ 14) (n15 := ρ 15) (n16 := ρ 16) (n17 := ρ 17) (H0 := η 0) (H1 := η 1) (H2 := η 2) (H3 := η 3) f37 f36 f35 f34 f33 f32 f31 f30 f29 f28 f27 f26 f25 f24 f23 f22 f21 f20 f19 f18 f17 f16 f15 f14 f13 f12 f11 f10 f9 f8 f7 f6 f5 f4 f3 f2 f1 f0
theorem q_285_9 {n0 n1 n2 n3 n4 n5 n6 n7 n8 n9 : Int} {H0 H1 H2 : gH} (f0 : n0 ≤ 2147483647) (f1 : (-2147483648) ≤ n0) (f2 : n1 ≤ 2147483647) (f3 : (-2147483648) ≤ n1) (f4 : n2 ≤ 2147483647) (f5 : (-2147483648) ≤ n2) (f6 : n3 = 285) (f7 : hWt T0 H0 ∧ preb_285 n3 n2 n1 n0 H0) (f8 : n4 ≤ 1) (f9 : 0 ≤ n4) (f10 : (hLe T0 H0 H1 ∧ hFr s_250.2.2.2.2 H0 H1 ∧ ((0 : Int) = 0 → H1.length = H0.length) ∧ hWt T0 H1) ∧ postb_250 n4 n3 n2 H0 H1) (f11 : n4 ≠ 0) (f12 : n5 = 328) (f13 : n5 = hV H1 (n3).toNat 66) (f14 : n6 ≤ 6) (f15 : 0 ≤ n6) (f16 : n6 = hV H1 (n5).toNat (n2).toNat) (f17 : n7 = 6) (f18 : n6 = n7) (f19 : n8 ≤ 1) (f20 : 0 ≤ n8) (f21 : (hLe T0 H1 H2 ∧ hFr s_284.2.2.2.2 H1 H2 ∧ ((0 : Int) = 0 → H2.length = H1.length) ∧ hWt T0 H2) ∧ postb_284 n8 n3 n1 n0 H1 H2) (f22 : n8 = 0) (f23 : n9 = (-1)) : postb_285 n9 n3 n2 n1 n0 H0 H2 := by
  unfold preb_285 at f7
  unfold postb_250 at f10
  unfold postb_284 at f21
  unfold postb_285
  have e1 : n6 = hV H0 328 (n2).toNat := (by rw [f12] at f16; exact f16 : n6 = hV H1 328 (n2).toNat).trans ((congrFun (fRow f10.1.2.1 328 kR_250_328) _))
  have e3 : hV H1 285 64 = hV H0 285 64 := (f10.1.2.1.1 285 64 kF_250_285_64)
  have e6 : hV H2 285 18 = hV H0 285 18 := ((f21.1.2.1.1 285 18 kF_284_285_18)).trans (f10.1.2.1.1 285 18 kF_250_285_18)
  have e9 : hV H2 285 60 = hV H0 285 60 := ((f21.1.2.1.1 285 60 kF_284_285_60)).trans (f10.1.2.1.1 285 60 kF_250_285_60)
  have e12 : hV H2 285 65 = hV H0 285 65 := ((f21.1.2.1.1 285 65 kF_284_285_65)).trans (f10.1.2.1.1 285 65 kF_250_285_65)
  have e13 : AC H1 = AC H0 := AC_fr f10.1.2.1 (by decide +kernel)
  have e14 : AC H2 = AC H1 := AC_fr f21.1.2.1 (by decide +kernel)
  have e15 : AC H2 = AC H0 := e14.trans e13
  have e16 : SO H1 = SO H0 := SO_fr f10.1.2.1 (by decide +kernel)
  have e17 : SO H2 = SO H1 := SO_fr f21.1.2.1 (by decide +kernel)
  have e18 : SO H2 = SO H0 := e17.trans e16
  have e19 : SS H1 = SS H0 := SS_fr f10.1.2.1 (by decide +kernel)
  have e20 : SS H2 = SS H1 := SS_fr f21.1.2.1 (by decide +kernel)
  have e21 : SS H2 = SS H0 := e20.trans e19
  have e22 : (0 : Int) ≤ hV H0 285 65 ∧ hV H0 285 65 ≤ 2147483647 := f7.1 285 65 _ _ kW_285_65
  have e23 : (0 : Int) ≤ hV H0 285 64 ∧ hV H0 285 64 ≤ 20 := bTo e3 (f10.1.2.2.2 285 64 _ _ kW_285_64)
  have e25 : (0 : Int) ≤ hV H0 285 18 ∧ hV H0 285 18 ≤ 8 := bTo e6 (f21.1.2.2.2 285 18 _ _ kW_285_18)
  have e27 : (1 : Int) ≤ hV H0 285 60 ∧ hV H0 285 60 ≤ 6 := bTo e9 (f21.1.2.2.2 285 60 _ _ kW_285_60)
  try simp only [e12, e15, e18, e21]
  have p0 := f7.2.1
  have p1 := f7.2.2.1
  have p2 := f7.2.2.2.1
  have p3 := f7.2.2.2.2.1
  have p4 := f7.2.2.2.2.2
  have r0_0 := f10.2
  have r1_0 := f21.2
  try simp only [e3] at r0_0
  try simp only [e6, e9] at r1_0
  clear f13 f16 e3 e6 e9 e12 e13 e14 e15 e16 e17 e18 e19 e20 e21
  clear f7 f10 f21
  subst e1
  try (have wx := r1_0 (by omega); obtain ⟨w0, w1, w2, w3⟩ := wx)

  exact ⟨p0, p1, p3, by omega⟩
def g_285_s_9 : vG := ([(0, [9], [], -1), (30, [8], [], 0), (1284, [8, 0, 2, 3], [1, 2], 0), (90, [8], [], 0), (91, [8], [], 1), (40, [6, 7], [], 0), (0, [7], [], 6), (22, [6, 5, 1], [1], 0), (90, [6], [], 0), (91, [6], [], 6), (20, [5, 0], [1], 66), (0, [5], [], 328), (31, [4], [], 0), (1250, [4, 0, 1], [0, 1], 0), (90, [4], [], 0), (91, [4], [], 1), (6000, [0, 1, 2, 3], [0], 0), (0, [0], [], 285), (90, [1], [], -2147483648), (91, [1], [], 2147483647), (90, [2], [], -2147483648), (91, [2], [], 2147483647), (90, [3], [], -2147483648), (91, [3], [], 2147483647)], (3000, [9], [2], 29))
theorem c_285_s_9 : vOkm T0 (eP e_285 L_285 A_285 mu_285 none) 4 g_285_s_9 := vOk_inI fun ρ η f0 f1 f2 f3 f4 f5 f6 f7 f8 f9 f10 f11 f12 f13 f14 f15 f16 f17 f18 f19 f20 f21 f22 f23 => q_285_9 (n0 := ρ 3) (n1 := ρ 2) (n2 := ρ 1) (n3 := ρ 0) (n4 := ρ 4) (n5 := ρ 5) (n6 := ρ 6) (n7 := ρ 7) (n8 := ρ 8) (n9 := ρ 9) (H0 := η 0) (H1 := η 1) (H2 := η 2) f23 f22 f21 f20 f19 f18 f17 f16 f15 f14 f13 f12 f11 f10 f9 f8 f7 f6 f5 f4 f3 f2 f1 f0
def p_285_s : List vG := [g_285_s_0,
  g_285_s_1,
  g_285_s_2,
  g_285_s_3,
  g_285_s_4,
  g_285_s_5,
  g_285_s_6,
  g_285_s_7,
  g_285_s_8,
  g_285_s_9]
theorem r_285_s : vCovO false (eR0 e_285 L_285 cs_285 2000) p_285_s = true := by decide +kernel
theorem kR_285_296 : vFreeR s_285.2.2.2.2 296 = true := by decide +kernel
theorem kR_285_298 : vFreeR s_285.2.2.2.2 298 = true := by decide +kernel
theorem kR_285_300 : vFreeR s_285.2.2.2.2 300 = true := by decide +kernel
theorem kR_285_328 : vFreeR s_285.2.2.2.2 328 = true := by decide +kernel
theorem kR_285_332 : vFreeR s_285.2.2.2.2 332 = true := by decide +kernel
theorem kF_285_285_18 : vFree s_285.2.2.2.2 285 18 = true := by decide +kernel
theorem kF_285_285_64 : vFree s_285.2.2.2.2 285 64 = true := by decide +kernel
theorem q_285_10 {q0 : Nat} {n0 n1 n2 n3 n4 n5 n6 n7 n8 n9 : Int} {H0 H1 : gH} (f0 : n0 = 285) (f1 : n1 = 285) (f2 : (hLe T0 H0 H1 ∧ hFr s_285.2.2.2.2 H0 H1 ∧ hWt T0 H1) ∧ (Ab_285_64 n1 n2 n3 n4 n0 n5 n6 n7 n8 n9 H0 H1 ∧ preb_285 n1 n2 n3 n4 H0) ∧ some q0 = some (mub_285_64 n1 n2 n3 n4 n0 n5 n6 n7 n8 n9 H0 H1)) : 0 ≤ n5 := by
  have g4 := f2.2.1.1
  unfold Ab_285_64 at g4
  have g3 := f2.2.1.2
  unfold preb_285 at g3
  have e1 : hV H1 285 18 = hV H0 285 18 := (f2.1.2.1.1 285 18 kF_285_285_18)
  have e3 : hV H1 285 64 = hV H0 285 64 := (f2.1.2.1.1 285 64 kF_285_285_64)
  have e4 : hV H1 296 = hV H0 296 := fRow f2.1.2.1 296 kR_285_296
  have e5 : hV H1 298 = hV H0 298 := fRow f2.1.2.1 298 kR_285_298
  have e6 : hV H1 300 = hV H0 300 := fRow f2.1.2.1 300 kR_285_300
  have e7 : hV H1 328 = hV H0 328 := fRow f2.1.2.1 328 kR_285_328
  have e8 : hV H1 332 = hV H0 332 := fRow f2.1.2.1 332 kR_285_332
  have e9 : (0 : Int) ≤ hV H0 285 18 ∧ hV H0 285 18 ≤ 8 := bTo e1 (f2.1.2.2 285 18 _ _ kW_285_18)
  have e10 : (0 : Int) ≤ hV H0 285 64 ∧ hV H0 285 64 ≤ 20 := bTo e3 (f2.1.2.2 285 64 _ _ kW_285_64)
  have e11 : (0 : Int) ≤ hV H1 285 65 ∧ hV H1 285 65 ≤ 2147483647 := f2.1.2.2 285 65 _ _ kW_285_65
  have k0 := g4.1
  have k1 := g4.2.1
  have k2 := g4.2.2.1
  have y0 := g4.2.2.2.1
  have y1 := g4.2.2.2.2.1
  have y2 := g4.2.2.2.2.2.1
  have y3 := g4.2.2.2.2.2.2.1
  have y4 := g4.2.2.2.2.2.2.2.1
  have y5 := g4.2.2.2.2.2.2.2.2.1
  have y6 := g4.2.2.2.2.2.2.2.2.2.1
  have y7 := g4.2.2.2.2.2.2.2.2.2.2.1
  have y8 := g4.2.2.2.2.2.2.2.2.2.2.2.1
  have y9 := g4.2.2.2.2.2.2.2.2.2.2.2.2.1
  have y10 := g4.2.2.2.2.2.2.2.2.2.2.2.2.2.1
  have y11 := g4.2.2.2.2.2.2.2.2.2.2.2.2.2.2.1
  have y12 := g4.2.2.2.2.2.2.2.2.2.2.2.2.2.2.2.1
  have y13 := g4.2.2.2.2.2.2.2.2.2.2.2.2.2.2.2.2.1
  have y14 := g4.2.2.2.2.2.2.2.2.2.2.2.2.2.2.2.2.2
  have p0 := g3.1
  have p1 := g3.2.1
  have p2 := g3.2.2.1
  have p3 := g3.2.2.2.1
  have p4 := g3.2.2.2.2
  try simp only [e4, e5, e6] at y0
  try simp only [e3, e4, e5, e6, e7, e8] at y1
  try simp only [e3, e4, e5, e6] at y2
  try simp only [e4, e5, e6] at y3
  try simp only [e3] at y5
  try simp only [e7] at y6
  try simp only [e1] at y8
  clear g3
  clear g4
  clear e1 e3 e4 e5 e6 e7 e8
  clear f2
  try subst k2
  try subst k1
  try subst k0
  omega
def g_285_64_0 : vG := ([(5000, [0, 1, 2, 3, 4, 5, 6, 7, 8, 9], [0, 1], 64), (0, [0], [], 285), (0, [4], [], 285)], (90, [5], [], 0))
theorem c_285_64_0 {q0 : Nat} : vOkm T0 (eP e_285 L_285 A_285 mu_285 (some q0)) 4 g_285_64_0 := vOk_inI fun ρ η f0 f1 f2 => q_285_10 (q0 := q0) (n0 := ρ 4) (n1 := ρ 0) (n2 := ρ 1) (n3 := ρ 2) (n4 := ρ 3) (n5 := ρ 5) (n6 := ρ 6) (n7 := ρ 7) (n8 := ρ 8) (n9 := ρ 9) (H0 := η 0) (H1 := η 1) f2 f1 f0
theorem q_285_11 {q0 : Nat} {n0 n1 n2 n3 n4 n5 n6 n7 n8 n9 n10 : Int} {H0 H1 : gH} (f0 : n0 = 285) (f1 : n1 = 285) (f2 : (hLe T0 H0 H1 ∧ hFr s_285.2.2.2.2 H0 H1 ∧ hWt T0 H1) ∧ (Ab_285_64 n1 n2 n3 n4 n0 n5 n6 n7 n8 n9 H0 H1 ∧ preb_285 n1 n2 n3 n4 H0) ∧ some q0 = some (mub_285_64 n1 n2 n3 n4 n0 n5 n6 n7 n8 n9 H0 H1)) (f3 : n10 ≤ 20) (f4 : n10 = hV H1 (n0).toNat 64) : n5 ≤ 19 := by
  have g4 := f2.2.1.1
  unfold Ab_285_64 at g4
  have g3 := f2.2.1.2
  unfold preb_285 at g3
  have e1 : n10 = hV H0 285 64 := (by rw [f0] at f4; exact f4 : n10 = hV H1 285 64).trans ((f2.1.2.1.1 285 64 kF_285_285_64))
  have e3 : hV H1 285 18 = hV H0 285 18 := (f2.1.2.1.1 285 18 kF_285_285_18)
  have e4 : hV H1 285 64 = hV H0 285 64 := (f2.1.2.1.1 285 64 kF_285_285_64)
  have e5 : hV H1 296 = hV H0 296 := fRow f2.1.2.1 296 kR_285_296
  have e6 : hV H1 298 = hV H0 298 := fRow f2.1.2.1 298 kR_285_298
  have e7 : hV H1 300 = hV H0 300 := fRow f2.1.2.1 300 kR_285_300
  have e8 : hV H1 328 = hV H0 328 := fRow f2.1.2.1 328 kR_285_328
  have e9 : hV H1 332 = hV H0 332 := fRow f2.1.2.1 332 kR_285_332
  have e10 : (0 : Int) ≤ hV H0 285 18 ∧ hV H0 285 18 ≤ 8 := bTo e3 (f2.1.2.2 285 18 _ _ kW_285_18)
  have e11 : (0 : Int) ≤ hV H0 285 64 ∧ hV H0 285 64 ≤ 20 := bTo e4 (f2.1.2.2 285 64 _ _ kW_285_64)
  have e12 : (0 : Int) ≤ hV H1 285 65 ∧ hV H1 285 65 ≤ 2147483647 := f2.1.2.2 285 65 _ _ kW_285_65
  have k0 := g4.1
  have k1 := g4.2.1
  have k2 := g4.2.2.1
  have y0 := g4.2.2.2.1
  have y1 := g4.2.2.2.2.1
  have y2 := g4.2.2.2.2.2.1
  have y3 := g4.2.2.2.2.2.2.1
  have y4 := g4.2.2.2.2.2.2.2.1
  have y5 := g4.2.2.2.2.2.2.2.2.1
  have y6 := g4.2.2.2.2.2.2.2.2.2.1
  have y7 := g4.2.2.2.2.2.2.2.2.2.2.1
  have y8 := g4.2.2.2.2.2.2.2.2.2.2.2.1
  have y9 := g4.2.2.2.2.2.2.2.2.2.2.2.2.1
  have y10 := g4.2.2.2.2.2.2.2.2.2.2.2.2.2.1
  have y11 := g4.2.2.2.2.2.2.2.2.2.2.2.2.2.2.1
  have y12 := g4.2.2.2.2.2.2.2.2.2.2.2.2.2.2.2.1
  have y13 := g4.2.2.2.2.2.2.2.2.2.2.2.2.2.2.2.2.1
  have y14 := g4.2.2.2.2.2.2.2.2.2.2.2.2.2.2.2.2.2
  have p0 := g3.1
  have p1 := g3.2.1
  have p2 := g3.2.2.1
  have p3 := g3.2.2.2.1
  have p4 := g3.2.2.2.2
  try simp only [e5, e6, e7] at y0
  try simp only [e4, e5, e6, e7, e8, e9] at y1
  try simp only [e4, e5, e6, e7] at y2
  try simp only [e5, e6, e7] at y3
  try simp only [e4] at y5
  try simp only [e8] at y6
  try simp only [e3] at y8
  clear g3
  clear g4
  clear f4 e3 e4 e5 e6 e7 e8 e9
  clear f2
  subst e1
  try subst k2
  try subst k1
  try subst k0
  omega
def g_285_64_1 : vG := ([(20, [10, 4], [1], 64), (91, [10], [], 20), (5000, [0, 1, 2, 3, 4, 5, 6, 7, 8, 9], [0, 1], 64), (0, [0], [], 285), (0, [4], [], 285)], (91, [5], [], 19))
theorem c_285_64_1 {q0 : Nat} : vOkm T0 (eP e_285 L_285 A_285 mu_285 (some q0)) 4 g_285_64_1 := vOk_inI fun ρ η f0 f1 f2 f3 f4 => q_285_11 (q0 := q0) (n0 := ρ 4) (n1 := ρ 0) (n2 := ρ 1) (n3 := ρ 2) (n4 := ρ 3) (n5 := ρ 5) (n6 := ρ 6) (n7 := ρ 7) (n8 := ρ 8) (n9 := ρ 9) (n10 := ρ 10) (H0 := η 0) (H1 := η 1) f4 f3 f2 f1 f0
theorem q_285_12 {q0 : Nat} {n0 n1 n2 n3 n4 n5 n6 n7 n8 n9 : Int} {H0 H1 : gH} (f0 : n0 = 285) (f1 : n1 = 285) (f2 : (hLe T0 H0 H1 ∧ hFr s_285.2.2.2.2 H0 H1 ∧ hWt T0 H1) ∧ (Ab_285_64 n1 n2 n3 n4 n0 n5 n6 n7 n8 n9 H0 H1 ∧ preb_285 n1 n2 n3 n4 H0) ∧ some q0 = some (mub_285_64 n1 n2 n3 n4 n0 n5 n6 n7 n8 n9 H0 H1)) : 0 ≤ n6 := by
  have g4 := f2.2.1.1
  unfold Ab_285_64 at g4
  have g3 := f2.2.1.2
  unfold preb_285 at g3
  have e1 : hV H1 285 18 = hV H0 285 18 := (f2.1.2.1.1 285 18 kF_285_285_18)
  have e3 : hV H1 285 64 = hV H0 285 64 := (f2.1.2.1.1 285 64 kF_285_285_64)
  have e4 : hV H1 296 = hV H0 296 := fRow f2.1.2.1 296 kR_285_296
  have e5 : hV H1 298 = hV H0 298 := fRow f2.1.2.1 298 kR_285_298
  have e6 : hV H1 300 = hV H0 300 := fRow f2.1.2.1 300 kR_285_300
  have e7 : hV H1 328 = hV H0 328 := fRow f2.1.2.1 328 kR_285_328
  have e8 : hV H1 332 = hV H0 332 := fRow f2.1.2.1 332 kR_285_332
  have e9 : (0 : Int) ≤ hV H0 285 18 ∧ hV H0 285 18 ≤ 8 := bTo e1 (f2.1.2.2 285 18 _ _ kW_285_18)
  have e10 : (0 : Int) ≤ hV H0 285 64 ∧ hV H0 285 64 ≤ 20 := bTo e3 (f2.1.2.2 285 64 _ _ kW_285_64)
  have e11 : (0 : Int) ≤ hV H1 285 65 ∧ hV H1 285 65 ≤ 2147483647 := f2.1.2.2 285 65 _ _ kW_285_65
  have k0 := g4.1
  have k1 := g4.2.1
  have k2 := g4.2.2.1
  have y0 := g4.2.2.2.1
  have y1 := g4.2.2.2.2.1
  have y2 := g4.2.2.2.2.2.1
  have y3 := g4.2.2.2.2.2.2.1
  have y4 := g4.2.2.2.2.2.2.2.1
  have y5 := g4.2.2.2.2.2.2.2.2.1
  have y6 := g4.2.2.2.2.2.2.2.2.2.1
  have y7 := g4.2.2.2.2.2.2.2.2.2.2.1
  have y8 := g4.2.2.2.2.2.2.2.2.2.2.2.1
  have y9 := g4.2.2.2.2.2.2.2.2.2.2.2.2.1
  have y10 := g4.2.2.2.2.2.2.2.2.2.2.2.2.2.1
  have y11 := g4.2.2.2.2.2.2.2.2.2.2.2.2.2.2.1
  have y12 := g4.2.2.2.2.2.2.2.2.2.2.2.2.2.2.2.1
  have y13 := g4.2.2.2.2.2.2.2.2.2.2.2.2.2.2.2.2.1
  have y14 := g4.2.2.2.2.2.2.2.2.2.2.2.2.2.2.2.2.2
  have p0 := g3.1
  have p1 := g3.2.1
  have p2 := g3.2.2.1
  have p3 := g3.2.2.2.1
  have p4 := g3.2.2.2.2
  try simp only [e4, e5, e6] at y0
  try simp only [e3, e4, e5, e6, e7, e8] at y1
  try simp only [e3, e4, e5, e6] at y2
  try simp only [e4, e5, e6] at y3
  try simp only [e3] at y5
  try simp only [e7] at y6
  try simp only [e1] at y8
  clear g3
  clear g4
  clear e1 e3 e4 e5 e6 e7 e8
  clear f2
  try subst k2
  try subst k1
  try subst k0
  omega
def g_285_64_2 : vG := ([(5000, [0, 1, 2, 3, 4, 5, 6, 7, 8, 9], [0, 1], 64), (0, [0], [], 285), (0, [4], [], 285)], (90, [6], [], 0))
theorem c_285_64_2 {q0 : Nat} : vOkm T0 (eP e_285 L_285 A_285 mu_285 (some q0)) 4 g_285_64_2 := vOk_inI fun ρ η f0 f1 f2 => q_285_12 (q0 := q0) (n0 := ρ 4) (n1 := ρ 0) (n2 := ρ 1) (n3 := ρ 2) (n4 := ρ 3) (n5 := ρ 5) (n6 := ρ 6) (n7 := ρ 7) (n8 := ρ 8) (n9 := ρ 9) (H0 := η 0) (H1 := η 1) f2 f1 f0
theorem q_285_13 {q0 : Nat} {n0 n1 n2 n3 n4 n5 n6 n7 n8 n9 n10 : Int} {H0 H1 : gH} (f0 : n0 ≤ 20) (f1 : 0 ≤ n0) (f2 : n1 ≤ 2147483647) (f3 : (-2147483648) ≤ n1) (f4 : n2 ≤ 2147483647) (f5 : (-2147483648) ≤ n2) (f6 : n3 ≤ 2147483647) (f7 : (-2147483648) ≤ n3) (f8 : n4 ≤ 2147483647) (f9 : (-2147483648) ≤ n4) (f10 : n5 = 285) (f11 : n6 ≤ 2147483647) (f12 : (-2147483648) ≤ n6) (f13 : n7 ≤ 2147483647) (f14 : (-2147483648) ≤ n7) (f15 : n8 ≤ 2147483647) (f16 : (-2147483648) ≤ n8) (f17 : n9 = 285) (f18 : (hLe T0 H0 H1 ∧ hFr s_285.2.2.2.2 H0 H1 ∧ hWt T0 H1) ∧ (Ab_285_64 n9 n8 n7 n6 n5 n4 n3 n2 n1 n0 H0 H1 ∧ preb_285 n9 n8 n7 n6 H0) ∧ some q0 = some (mub_285_64 n9 n8 n7 n6 n5 n4 n3 n2 n1 n0 H0 H1)) (f19 : n10 ≤ 20) (f20 : 0 ≤ n10) (f21 : n10 = hV H1 (n5).toNat 64) (f22 : n10 ≤ n0) : n3 ≤ 7 := by
  have g4 := f18.2.1.1
  unfold Ab_285_64 at g4
  have g3 := f18.2.1.2
  unfold preb_285 at g3
  have e1 : n10 = hV H0 285 64 := (by rw [f10] at f21; exact f21 : n10 = hV H1 285 64).trans ((f18.1.2.1.1 285 64 kF_285_285_64))
  have e3 : hV H1 285 18 = hV H0 285 18 := (f18.1.2.1.1 285 18 kF_285_285_18)
  have e4 : hV H1 285 64 = hV H0 285 64 := (f18.1.2.1.1 285 64 kF_285_285_64)
  have e5 : hV H1 296 = hV H0 296 := fRow f18.1.2.1 296 kR_285_296
  have e6 : hV H1 298 = hV H0 298 := fRow f18.1.2.1 298 kR_285_298
  have e7 : hV H1 300 = hV H0 300 := fRow f18.1.2.1 300 kR_285_300
  have e8 : hV H1 328 = hV H0 328 := fRow f18.1.2.1 328 kR_285_328
  have e9 : hV H1 332 = hV H0 332 := fRow f18.1.2.1 332 kR_285_332
  have e10 : (0 : Int) ≤ hV H0 285 18 ∧ hV H0 285 18 ≤ 8 := bTo e3 (f18.1.2.2 285 18 _ _ kW_285_18)
  have e11 : (0 : Int) ≤ hV H0 285 64 ∧ hV H0 285 64 ≤ 20 := bTo e4 (f18.1.2.2 285 64 _ _ kW_285_64)
  have e12 : (0 : Int) ≤ hV H1 285 65 ∧ hV H1 285 65 ≤ 2147483647 := f18.1.2.2 285 65 _ _ kW_285_65
  have k0 := g4.1
  have k1 := g4.2.1
  have k2 := g4.2.2.1
  have y0 := g4.2.2.2.1
  have y1 := g4.2.2.2.2.1
  have y2 := g4.2.2.2.2.2.1
  have y3 := g4.2.2.2.2.2.2.1
  have y4 := g4.2.2.2.2.2.2.2.1
  have y5 := g4.2.2.2.2.2.2.2.2.1
  have y6 := g4.2.2.2.2.2.2.2.2.2.1
  have y7 := g4.2.2.2.2.2.2.2.2.2.2.1
  have y8 := g4.2.2.2.2.2.2.2.2.2.2.2.1
  have y9 := g4.2.2.2.2.2.2.2.2.2.2.2.2.1
  have y10 := g4.2.2.2.2.2.2.2.2.2.2.2.2.2.1
  have y11 := g4.2.2.2.2.2.2.2.2.2.2.2.2.2.2.1
  have y12 := g4.2.2.2.2.2.2.2.2.2.2.2.2.2.2.2.1
  have y13 := g4.2.2.2.2.2.2.2.2.2.2.2.2.2.2.2.2.1
  have y14 := g4.2.2.2.2.2.2.2.2.2.2.2.2.2.2.2.2.2
  have p0 := g3.1
  have p1 := g3.2.1
  have p2 := g3.2.2.1
  have p3 := g3.2.2.2.1
  have p4 := g3.2.2.2.2
  try simp only [e5, e6, e7] at y0
  try simp only [e4, e5, e6, e7, e8, e9] at y1
  try simp only [e4, e5, e6, e7] at y2
  try simp only [e5, e6, e7] at y3
  try simp only [e4] at y5
  try simp only [e8] at y6
  try simp only [e3] at y8
  clear g3
  clear g4
  clear f21 e3 e4 e5 e6 e7 e8 e9
  clear f18
  subst e1
  try subst k2
  try subst k1
  try subst k0
  omega
def g_285_64_3 : vG := ([(43, [9, 10], [], 0), (20, [10, 4], [1], 64), (90, [10], [], 0), (91, [10], [], 20), (5000, [0, 1, 2, 3, 4, 5, 6, 7, 8, 9], [0, 1], 64), (0, [0], [], 285), (90, [1], [], -2147483648), (91, [1], [], 2147483647), (90, [2], [], -2147483648), (91, [2], [], 2147483647), (90, [3], [], -2147483648), (91, [3], [], 2147483647), (0, [4], [], 285), (90, [5], [], -2147483648), (91, [5], [], 2147483647), (90, [6], [], -2147483648), (91, [6], [], 2147483647), (90, [7], [], -2147483648), (91, [7], [], 2147483647), (90, [8], [], -2147483648), (91, [8], [], 2147483647), (90, [9], [], 0), (91, [9], [], 20)], (91, [6], [], 7))
theorem c_285_64_3 {q0 : Nat} : vOkm T0 (eP e_285 L_285 A_285 mu_285 (some q0)) 4 g_285_64_3 := vOk_inI fun ρ η f0 f1 f2 f3 f4 f5 f6 f7 f8 f9 f10 f11 f12 f13 f14 f15 f16 f17 f18 f19 f20 f21 f22 => q_285_13 (q0 := q0) (n0 := ρ 9) (n1 := ρ 8) (n2 := ρ 7) (n3 := ρ 6) (n4 := ρ 5) (n5 := ρ 4) (n6 := ρ 3) (n7 := ρ 2) (n8 := ρ 1) (n9 := ρ 0) (n10 := ρ 10) (H0 := η 0) (H1 := η 1) f22 f21 f20 f19 f18 f17 f16 f15 f14 f13 f12 f11 f10 f9 f8 f7 f6 f5 f4 f3 f2 f1 f0
theorem q_285_14 {q0 : Nat} {n0 n1 n2 n3 n4 n5 n6 n7 n8 n9 : Int} {H0 H1 : gH} (f0 : n0 = 285) (f1 : n1 = 285) (f2 : (hLe T0 H0 H1 ∧ hFr s_285.2.2.2.2 H0 H1 ∧ hWt T0 H1) ∧ (Ab_285_64 n1 n2 n3 n4 n0 n5 n6 n7 n8 n9 H0 H1 ∧ preb_285 n1 n2 n3 n4 H0) ∧ some q0 = some (mub_285_64 n1 n2 n3 n4 n0 n5 n6 n7 n8 n9 H0 H1)) : 0 ≤ n7 := by
  have g4 := f2.2.1.1
  unfold Ab_285_64 at g4
  have g3 := f2.2.1.2
  unfold preb_285 at g3
  have e1 : hV H1 285 18 = hV H0 285 18 := (f2.1.2.1.1 285 18 kF_285_285_18)
  have e3 : hV H1 285 64 = hV H0 285 64 := (f2.1.2.1.1 285 64 kF_285_285_64)
  have e4 : hV H1 296 = hV H0 296 := fRow f2.1.2.1 296 kR_285_296
  have e5 : hV H1 298 = hV H0 298 := fRow f2.1.2.1 298 kR_285_298
  have e6 : hV H1 300 = hV H0 300 := fRow f2.1.2.1 300 kR_285_300
  have e7 : hV H1 328 = hV H0 328 := fRow f2.1.2.1 328 kR_285_328
  have e8 : hV H1 332 = hV H0 332 := fRow f2.1.2.1 332 kR_285_332
  have e9 : (0 : Int) ≤ hV H0 285 18 ∧ hV H0 285 18 ≤ 8 := bTo e1 (f2.1.2.2 285 18 _ _ kW_285_18)
  have e10 : (0 : Int) ≤ hV H0 285 64 ∧ hV H0 285 64 ≤ 20 := bTo e3 (f2.1.2.2 285 64 _ _ kW_285_64)
  have e11 : (0 : Int) ≤ hV H1 285 65 ∧ hV H1 285 65 ≤ 2147483647 := f2.1.2.2 285 65 _ _ kW_285_65
  have k0 := g4.1
  have k1 := g4.2.1
  have k2 := g4.2.2.1
  have y0 := g4.2.2.2.1
  have y1 := g4.2.2.2.2.1
  have y2 := g4.2.2.2.2.2.1
  have y3 := g4.2.2.2.2.2.2.1
  have y4 := g4.2.2.2.2.2.2.2.1
  have y5 := g4.2.2.2.2.2.2.2.2.1
  have y6 := g4.2.2.2.2.2.2.2.2.2.1
  have y7 := g4.2.2.2.2.2.2.2.2.2.2.1
  have y8 := g4.2.2.2.2.2.2.2.2.2.2.2.1
  have y9 := g4.2.2.2.2.2.2.2.2.2.2.2.2.1
  have y10 := g4.2.2.2.2.2.2.2.2.2.2.2.2.2.1
  have y11 := g4.2.2.2.2.2.2.2.2.2.2.2.2.2.2.1
  have y12 := g4.2.2.2.2.2.2.2.2.2.2.2.2.2.2.2.1
  have y13 := g4.2.2.2.2.2.2.2.2.2.2.2.2.2.2.2.2.1
  have y14 := g4.2.2.2.2.2.2.2.2.2.2.2.2.2.2.2.2.2
  have p0 := g3.1
  have p1 := g3.2.1
  have p2 := g3.2.2.1
  have p3 := g3.2.2.2.1
  have p4 := g3.2.2.2.2
  try simp only [e4, e5, e6] at y0
  try simp only [e3, e4, e5, e6, e7, e8] at y1
  try simp only [e3, e4, e5, e6] at y2
  try simp only [e4, e5, e6] at y3
  try simp only [e3] at y5
  try simp only [e7] at y6
  try simp only [e1] at y8
  clear g3
  clear g4
  clear e1 e3 e4 e5 e6 e7 e8
  clear f2
  try subst k2
  try subst k1
  try subst k0
  omega
def g_285_64_4 : vG := ([(5000, [0, 1, 2, 3, 4, 5, 6, 7, 8, 9], [0, 1], 64), (0, [0], [], 285), (0, [4], [], 285)], (90, [7], [], 0))
theorem c_285_64_4 {q0 : Nat} : vOkm T0 (eP e_285 L_285 A_285 mu_285 (some q0)) 4 g_285_64_4 := vOk_inI fun ρ η f0 f1 f2 => q_285_14 (q0 := q0) (n0 := ρ 4) (n1 := ρ 0) (n2 := ρ 1) (n3 := ρ 2) (n4 := ρ 3) (n5 := ρ 5) (n6 := ρ 6) (n7 := ρ 7) (n8 := ρ 8) (n9 := ρ 9) (H0 := η 0) (H1 := η 1) f2 f1 f0
theorem q_285_15 {q0 : Nat} {n0 n1 n2 n3 n4 n5 n6 n7 n8 n9 : Int} {H0 H1 : gH} (f0 : n0 = 285) (f1 : n1 = 285) (f2 : (hLe T0 H0 H1 ∧ hFr s_285.2.2.2.2 H0 H1 ∧ hWt T0 H1) ∧ (Ab_285_64 n1 n2 n3 n4 n0 n5 n6 n7 n8 n9 H0 H1 ∧ preb_285 n1 n2 n3 n4 H0) ∧ some q0 = some (mub_285_64 n1 n2 n3 n4 n0 n5 n6 n7 n8 n9 H0 H1)) : n7 ≤ 5 := by
  have g4 := f2.2.1.1
  unfold Ab_285_64 at g4
  have g3 := f2.2.1.2
  unfold preb_285 at g3
  have e1 : hV H1 285 18 = hV H0 285 18 := (f2.1.2.1.1 285 18 kF_285_285_18)
  have e3 : hV H1 285 64 = hV H0 285 64 := (f2.1.2.1.1 285 64 kF_285_285_64)
  have e4 : hV H1 296 = hV H0 296 := fRow f2.1.2.1 296 kR_285_296
  have e5 : hV H1 298 = hV H0 298 := fRow f2.1.2.1 298 kR_285_298
  have e6 : hV H1 300 = hV H0 300 := fRow f2.1.2.1 300 kR_285_300
  have e7 : hV H1 328 = hV H0 328 := fRow f2.1.2.1 328 kR_285_328
  have e8 : hV H1 332 = hV H0 332 := fRow f2.1.2.1 332 kR_285_332
  have e9 : (0 : Int) ≤ hV H0 285 18 ∧ hV H0 285 18 ≤ 8 := bTo e1 (f2.1.2.2 285 18 _ _ kW_285_18)
  have e10 : (0 : Int) ≤ hV H0 285 64 ∧ hV H0 285 64 ≤ 20 := bTo e3 (f2.1.2.2 285 64 _ _ kW_285_64)
  have e11 : (0 : Int) ≤ hV H1 285 65 ∧ hV H1 285 65 ≤ 2147483647 := f2.1.2.2 285 65 _ _ kW_285_65
  have k0 := g4.1
  have k1 := g4.2.1
  have k2 := g4.2.2.1
  have y0 := g4.2.2.2.1
  have y1 := g4.2.2.2.2.1
  have y2 := g4.2.2.2.2.2.1
  have y3 := g4.2.2.2.2.2.2.1
  have y4 := g4.2.2.2.2.2.2.2.1
  have y5 := g4.2.2.2.2.2.2.2.2.1
  have y6 := g4.2.2.2.2.2.2.2.2.2.1
  have y7 := g4.2.2.2.2.2.2.2.2.2.2.1
  have y8 := g4.2.2.2.2.2.2.2.2.2.2.2.1
  have y9 := g4.2.2.2.2.2.2.2.2.2.2.2.2.1
  have y10 := g4.2.2.2.2.2.2.2.2.2.2.2.2.2.1
  have y11 := g4.2.2.2.2.2.2.2.2.2.2.2.2.2.2.1
  have y12 := g4.2.2.2.2.2.2.2.2.2.2.2.2.2.2.2.1
  have y13 := g4.2.2.2.2.2.2.2.2.2.2.2.2.2.2.2.2.1
  have y14 := g4.2.2.2.2.2.2.2.2.2.2.2.2.2.2.2.2.2
  have p0 := g3.1
  have p1 := g3.2.1
  have p2 := g3.2.2.1
  have p3 := g3.2.2.2.1
  have p4 := g3.2.2.2.2
  try simp only [e4, e5, e6] at y0
  try simp only [e3, e4, e5, e6, e7, e8] at y1
  try simp only [e3, e4, e5, e6] at y2
  try simp only [e4, e5, e6] at y3
  try simp only [e3] at y5
  try simp only [e7] at y6
  try simp only [e1] at y8
  clear g3
  clear g4
  clear e1 e3 e4 e5 e6 e7 e8
  clear f2
  try subst k2
  try subst k1
  try subst k0
  omega
def g_285_64_5 : vG := ([(5000, [0, 1, 2, 3, 4, 5, 6, 7, 8, 9], [0, 1], 64), (0, [0], [], 285), (0, [4], [], 285)], (91, [7], [], 5))
theorem c_285_64_5 {q0 : Nat} : vOkm T0 (eP e_285 L_285 A_285 mu_285 (some q0)) 4 g_285_64_5 := vOk_inI fun ρ η f0 f1 f2 => q_285_15 (q0 := q0) (n0 := ρ 4) (n1 := ρ 0) (n2 := ρ 1) (n3 := ρ 2) (n4 := ρ 3) (n5 := ρ 5) (n6 := ρ 6) (n7 := ρ 7) (n8 := ρ 8) (n9 := ρ 9) (H0 := η 0) (H1 := η 1) f2 f1 f0
theorem q_285_16 {q0 : Nat} {n0 n1 n2 n3 n4 n5 n6 n7 n8 n9 n10 : Int} {H0 H1 : gH} (f0 : n0 ≤ 20) (f1 : 0 ≤ n0) (f2 : n1 ≤ 2147483647) (f3 : (-2147483648) ≤ n1) (f4 : n2 ≤ 2147483647) (f5 : (-2147483648) ≤ n2) (f6 : n3 ≤ 2147483647) (f7 : (-2147483648) ≤ n3) (f8 : n4 ≤ 2147483647) (f9 : (-2147483648) ≤ n4) (f10 : n5 = 285) (f11 : n6 ≤ 2147483647) (f12 : (-2147483648) ≤ n6) (f13 : n7 ≤ 2147483647) (f14 : (-2147483648) ≤ n7) (f15 : n8 ≤ 2147483647) (f16 : (-2147483648) ≤ n8) (f17 : n9 = 285) (f18 : (hLe T0 H0 H1 ∧ hFr s_285.2.2.2.2 H0 H1 ∧ hWt T0 H1) ∧ (Ab_285_64 n9 n8 n7 n6 n5 n4 n3 n2 n1 n0 H0 H1 ∧ preb_285 n9 n8 n7 n6 H0) ∧ some q0 = some (mub_285_64 n9 n8 n7 n6 n5 n4 n3 n2 n1 n0 H0 H1)) (f19 : n10 ≤ 20) (f20 : 0 ≤ n10) (f21 : n10 = hV H1 (n5).toNat 64) (f22 : n10 ≤ n0) : preb_283 n5 n4 n3 n2 H1 := by
  have g4 := f18.2.1.1
  unfold Ab_285_64 at g4
  have g3 := f18.2.1.2
  unfold preb_285 at g3
  unfold preb_283
  have e1 : n10 = hV H0 285 64 := (by rw [f10] at f21; exact f21 : n10 = hV H1 285 64).trans ((f18.1.2.1.1 285 64 kF_285_285_64))
  have e3 : hV H1 285 18 = hV H0 285 18 := (f18.1.2.1.1 285 18 kF_285_285_18)
  have e4 : hV H1 285 64 = hV H0 285 64 := (f18.1.2.1.1 285 64 kF_285_285_64)
  have e5 : hV H1 296 = hV H0 296 := fRow f18.1.2.1 296 kR_285_296
  have e6 : hV H1 298 = hV H0 298 := fRow f18.1.2.1 298 kR_285_298
  have e7 : hV H1 300 = hV H0 300 := fRow f18.1.2.1 300 kR_285_300
  have e8 : hV H1 328 = hV H0 328 := fRow f18.1.2.1 328 kR_285_328
  have e9 : hV H1 332 = hV H0 332 := fRow f18.1.2.1 332 kR_285_332
  have e10 : PG H1 = PG H0 := PG_fr f18.1.2.1 (by decide +kernel)
  have e11 : (0 : Int) ≤ hV H0 285 18 ∧ hV H0 285 18 ≤ 8 := bTo e3 (f18.1.2.2 285 18 _ _ kW_285_18)
  have e12 : (0 : Int) ≤ hV H0 285 64 ∧ hV H0 285 64 ≤ 20 := bTo e4 (f18.1.2.2 285 64 _ _ kW_285_64)
  have e13 : (0 : Int) ≤ hV H1 285 65 ∧ hV H1 285 65 ≤ 2147483647 := f18.1.2.2 285 65 _ _ kW_285_65
  try simp only [e3, e4, e8, e10]
  have k0 := g4.1
  have k1 := g4.2.1
  have k2 := g4.2.2.1
  have y0 := g4.2.2.2.1
  have y1 := g4.2.2.2.2.1
  have y2 := g4.2.2.2.2.2.1
  have y3 := g4.2.2.2.2.2.2.1
  have y4 := g4.2.2.2.2.2.2.2.1
  have y5 := g4.2.2.2.2.2.2.2.2.1
  have y6 := g4.2.2.2.2.2.2.2.2.2.1
  have y7 := g4.2.2.2.2.2.2.2.2.2.2.1
  have y8 := g4.2.2.2.2.2.2.2.2.2.2.2.1
  have y9 := g4.2.2.2.2.2.2.2.2.2.2.2.2.1
  have y10 := g4.2.2.2.2.2.2.2.2.2.2.2.2.2.1
  have y11 := g4.2.2.2.2.2.2.2.2.2.2.2.2.2.2.1
  have y12 := g4.2.2.2.2.2.2.2.2.2.2.2.2.2.2.2.1
  have y13 := g4.2.2.2.2.2.2.2.2.2.2.2.2.2.2.2.2.1
  have y14 := g4.2.2.2.2.2.2.2.2.2.2.2.2.2.2.2.2.2
  have p0 := g3.1
  have p1 := g3.2.1
  have p2 := g3.2.2.1
  have p3 := g3.2.2.2.1
  have p4 := g3.2.2.2.2
  try simp only [e5, e6, e7] at y0
  try simp only [e4, e5, e6, e7, e8, e9] at y1
  try simp only [e4, e5, e6, e7] at y2
  try simp only [e5, e6, e7] at y3
  try simp only [e4] at y5
  try simp only [e8] at y6
  try simp only [e3] at y8
  clear g3
  clear g4
  clear f21 e3 e4 e5 e6 e7 e8 e9 e10
  clear f18
  subst e1
  try subst k2
  try subst k1
  try subst k0
  refine ⟨?_, ?_, ?_, ?_, ?_, ?_, ?_⟩ <;> first | assumption | omega | trivial
def g_285_64_6 : vG := ([(43, [9, 10], [], 0), (20, [10, 4], [1], 64), (90, [10], [], 0), (91, [10], [], 20), (5000, [0, 1, 2, 3, 4, 5, 6, 7, 8, 9], [0, 1], 64), (0, [0], [], 285), (90, [1], [], -2147483648), (91, [1], [], 2147483647), (90, [2], [], -2147483648), (91, [2], [], 2147483647), (90, [3], [], -2147483648), (91, [3], [], 2147483647), (0, [4], [], 285), (90, [5], [], -2147483648), (91, [5], [], 2147483647), (90, [6], [], -2147483648), (91, [6], [], 2147483647), (90, [7], [], -2147483648), (91, [7], [], 2147483647), (90, [8], [], -2147483648), (91, [8], [], 2147483647), (90, [9], [], 0), (91, [9], [], 20)], (2283, [4, 5, 6, 7], [1], 0))
theorem c_285_64_6 {q0 : Nat} : vOkm T0 (eP e_285 L_285 A_285 mu_285 (some q0)) 4 g_285_64_6 := vOk_inI fun ρ η f0 f1 f2 f3 f4 f5 f6 f7 f8 f9 f10 f11 f12 f13 f14 f15 f16 f17 f18 f19 f20 f21 f22 => q_285_16 (q0 := q0) (n0 := ρ 9) (n1 := ρ 8) (n2 := ρ 7) (n3 := ρ 6) (n4 := ρ 5) (n5 := ρ 4) (n6 := ρ 3) (n7 := ρ 2) (n8 := ρ 1) (n9 := ρ 0) (n10 := ρ 10) (H0 := η 0) (H1 := η 1) f22 f21 f20 f19 f18 f17 f16 f15 f14 f13 f12 f11 f10 f9 f8 f7 f6 f5 f4 f3 f2 f1 f0
theorem kR_283_296 : vFreeR s_283.2.2.2.2 296 = true := by decide +kernel
theorem q_285_17 {q0 : Nat} {n0 n1 n2 n3 n4 n5 n6 n7 n8 n9 n10 n11 : Int} {H0 H1 H2 : gH} (f0 : n0 ≤ 20) (f1 : 0 ≤ n0) (f2 : n1 ≤ 2147483647) (f3 : (-2147483648) ≤ n1) (f4 : n2 ≤ 2147483647) (f5 : (-2147483648) ≤ n2) (f6 : n3 ≤ 2147483647) (f7 : (-2147483648) ≤ n3) (f8 : n4 ≤ 2147483647) (f9 : (-2147483648) ≤ n4) (f10 : n5 = 285) (f11 : n6 ≤ 2147483647) (f12 : (-2147483648) ≤ n6) (f13 : n7 ≤ 2147483647) (f14 : (-2147483648) ≤ n7) (f15 : n8 ≤ 2147483647) (f16 : (-2147483648) ≤ n8) (f17 : n9 = 285) (f18 : (hLe T0 H0 H1 ∧ hFr s_285.2.2.2.2 H0 H1 ∧ hWt T0 H1) ∧ (Ab_285_64 n9 n8 n7 n6 n5 n4 n3 n2 n1 n0 H0 H1 ∧ preb_285 n9 n8 n7 n6 H0) ∧ some q0 = some (mub_285_64 n9 n8 n7 n6 n5 n4 n3 n2 n1 n0 H0 H1)) (f19 : n10 ≤ 20) (f20 : 0 ≤ n10) (f21 : n10 = hV H1 (n5).toNat 64) (f22 : n10 ≤ n0) (f23 : n11 ≤ 2147483647) (f24 : (-2147483648) ≤ n11) (f25 : (hLe T0 H1 H2 ∧ hFr s_283.2.2.2.2 H1 H2 ∧ ((0 : Int) = 0 → H2.length = H1.length) ∧ hWt T0 H2) ∧ postb_283 n11 n5 n4 n3 n2 H1 H2) : postb_285 n11 n9 n8 n7 n6 H0 H2 := by
  have g4 := f18.2.1.1
  unfold Ab_285_64 at g4
  have g3 := f18.2.1.2
  unfold preb_285 at g3
  unfold postb_283 at f25
  unfold postb_285
  have e1 : n10 = hV H0 285 64 := (by rw [f10] at f21; exact f21 : n10 = hV H1 285 64).trans ((f18.1.2.1.1 285 64 kF_285_285_64))
  have e3 : hV H1 285 18 = hV H0 285 18 := (f18.1.2.1.1 285 18 kF_285_285_18)
  have e4 : hV H1 285 64 = hV H0 285 64 := (f18.1.2.1.1 285 64 kF_285_285_64)
  have e5 : hV H1 296 = hV H0 296 := fRow f18.1.2.1 296 kR_285_296
  have e6 : hV H1 298 = hV H0 298 := fRow f18.1.2.1 298 kR_285_298
  have e7 : hV H1 300 = hV H0 300 := fRow f18.1.2.1 300 kR_285_300
  have e8 : hV H1 328 = hV H0 328 := fRow f18.1.2.1 328 kR_285_328
  have e9 : hV H1 332 = hV H0 332 := fRow f18.1.2.1 332 kR_285_332
  have e11 : hV H2 285 18 = hV H0 285 18 := ((f25.1.2.1.1 285 18 kF_283_285_18)).trans (f18.1.2.1.1 285 18 kF_285_285_18)
  have e13 : hV H2 285 64 = hV H0 285 64 := ((f25.1.2.1.1 285 64 kF_283_285_64)).trans (f18.1.2.1.1 285 64 kF_285_285_64)
  have e15 : hV H2 296 = hV H0 296 := (fRow f25.1.2.1 296 kR_283_296).trans e5
  have e17 : hV H2 298 = hV H0 298 := (fRow f25.1.2.1 298 kR_283_298).trans e6
  have e19 : hV H2 300 = hV H0 300 := (fRow f25.1.2.1 300 kR_283_300).trans e7
  have e21 : hV H2 328 = hV H0 328 := (fRow f25.1.2.1 328 kR_283_328).trans e8
  have e23 : hV H2 332 = hV H0 332 := (fRow f25.1.2.1 332 kR_283_332).trans e9
  have e24 : (0 : Int) ≤ hV H0 285 18 ∧ hV H0 285 18 ≤ 8 := bTo e3 (f18.1.2.2 285 18 _ _ kW_285_18)
  have e25 : (0 : Int) ≤ hV H0 285 64 ∧ hV H0 285 64 ≤ 20 := bTo e4 (f18.1.2.2 285 64 _ _ kW_285_64)
  have e26 : (0 : Int) ≤ hV H1 285 65 ∧ hV H1 285 65 ≤ 2147483647 := f18.1.2.2 285 65 _ _ kW_285_65
  have e29 : (0 : Int) ≤ hV H2 285 65 ∧ hV H2 285 65 ≤ 2147483647 := f25.1.2.2.2 285 65 _ _ kW_285_65
  try simp only [AC]
  try simp only [e11, e13, e15, e17, e19, e21, e23]
  have k0 := g4.1
  have k1 := g4.2.1
  have k2 := g4.2.2.1
  have y0 := g4.2.2.2.1
  have y1 := g4.2.2.2.2.1
  have y2 := g4.2.2.2.2.2.1
  have y3 := g4.2.2.2.2.2.2.1
  have y4 := g4.2.2.2.2.2.2.2.1
  have y5 := g4.2.2.2.2.2.2.2.2.1
  have y6 := g4.2.2.2.2.2.2.2.2.2.1
  have y7 := g4.2.2.2.2.2.2.2.2.2.2.1
  have y8 := g4.2.2.2.2.2.2.2.2.2.2.2.1
  have y9 := g4.2.2.2.2.2.2.2.2.2.2.2.2.1
  have y10 := g4.2.2.2.2.2.2.2.2.2.2.2.2.2.1
  have y11 := g4.2.2.2.2.2.2.2.2.2.2.2.2.2.2.1
  have y12 := g4.2.2.2.2.2.2.2.2.2.2.2.2.2.2.2.1
  have y13 := g4.2.2.2.2.2.2.2.2.2.2.2.2.2.2.2.2.1
  have y14 := g4.2.2.2.2.2.2.2.2.2.2.2.2.2.2.2.2.2
  have p0 := g3.1
  have p1 := g3.2.1
  have p2 := g3.2.2.1
  have p3 := g3.2.2.2.1
  have p4 := g3.2.2.2.2
  have r0_0 := f25.2.1
  have r0_1 := f25.2.2.1
  have r0_2 := f25.2.2.2.1
  have r0_3 := f25.2.2.2.2.1
  have r0_4 := f25.2.2.2.2.2
  try simp only [AC] at y13
  try simp only [AC] at p3
  try simp only [e5, e6, e7] at y0
  try simp only [e4, e5, e6, e7, e8, e9] at y1
  try simp only [e4, e5, e6, e7] at y2
  try simp only [e5, e6, e7] at y3
  try simp only [e4] at y5
  try simp only [e8] at y6
  try simp only [e3] at y8
  try simp only [e3, e4, e5, e6, e7, e8, e9] at y13
  clear g3
  clear g4
  clear f21 e3 e4 e5 e6 e7 e8 e9 e11 e13 e15 e17 e19 e21 e23
  clear f18 f25
  subst e1

  refine ⟨r0_0, r0_1, ?_, by omega⟩
  rw [r0_4]
  exact AC_make y13 (s := (n8).toNat) (p := (n7).toNat) (by omega) (by omega) (by omega) (by omega) (by omega) (fun j hj => ⟨y2 j hj, (fun e => y3 (by rw [← e]; exact hj)), y1 j (by have := y2 j hj; omega) hj⟩)
def g_285_64_7 : vG := ([(1283, [11, 4, 5, 6, 7], [1, 2], 0), (90, [11], [], -2147483648), (91, [11], [], 2147483647), (43, [9, 10], [], 0), (20, [10, 4], [1], 64), (90, [10], [], 0), (91, [10], [], 20), (5000, [0, 1, 2, 3, 4, 5, 6, 7, 8, 9], [0, 1], 64), (0, [0], [], 285), (90, [1], [], -2147483648), (91, [1], [], 2147483647), (90, [2], [], -2147483648), (91, [2], [], 2147483647), (90, [3], [], -2147483648), (91, [3], [], 2147483647), (0, [4], [], 285), (90, [5], [], -2147483648), (91, [5], [], 2147483647), (90, [6], [], -2147483648), (91, [6], [], 2147483647), (90, [7], [], -2147483648), (91, [7], [], 2147483647), (90, [8], [], -2147483648), (91, [8], [], 2147483647), (90, [9], [], 0), (91, [9], [], 20)], (3000, [11], [2], 114))
theorem c_285_64_7 {q0 : Nat} : vOkm T0 (eP e_285 L_285 A_285 mu_285 (some q0)) 4 g_285_64_7 := vOk_inI fun ρ η f0 f1 f2 f3 f4 f5 f6 f7 f8 f9 f10 f11 f12 f13 f14 f15 f16 f17 f18 f19 f20 f21 f22 f23 f24 f25 => q_285_17 (q0 := q0) (n0 := ρ 9) (n1 := ρ 8) (n2 := ρ 7) (n3 := ρ 6) (n4 := ρ 5) (n5 := ρ 4) (n6 := ρ 3) (n7 := ρ 2) (n8 := ρ 1) (n9 := ρ 0) (n10 := ρ 10) (n11 := ρ 11) (H0 := η 0) (H1 := η 1) (H2 := η 2) f25 f24 f23 f22 f21 f20 f19 f18 f17 f16 f15 f14 f13 f12 f11 f10 f9 f8 f7 f6 f5 f4 f3 f2 f1 f0
theorem q_285_18 {q0 : Nat} {n0 n1 n2 : Int} {H0 : gH} (f0 : 0 ≤ n0) (f1 : n1 ≤ 20) (f2 : n0 < n1) (f3 : n2 = w32 (n0 + 1)) : 0 ≤ n2 := by
  first
  | (have ix0 : n2 = n0 + 1 := Eq.trans f3 (w32_id (by omega) (by omega)); subst ix0; clear f3)
  | (unfold w32 at f3; have ix0 : n2 = n0 + 1 := (by omega); subst ix0)
  | skip
  try unfold w32 at f3
  omega
def g_285_64_8 : vG := ([(10, [15, 9], [], 1), (42, [9, 10], [], 0), (91, [10], [], 20), (90, [9], [], 0)], (90, [15], [], 0))
theorem c_285_64_8 {q0 : Nat} : vOkm T0 (eP e_285 L_285 A_285 mu_285 (some q0)) 4 g_285_64_8 := vOk_inI fun ρ η f0 f1 f2 f3 => q_285_18 (q0 := q0) (n0 := ρ 9) (n1 := ρ 10) (n2 := ρ 15) (H0 := η 0) f3 f2 f1 f0
theorem q_285_19 {q0 : Nat} {n0 n1 n2 : Int} {H0 : gH} (f0 : 0 ≤ n0) (f1 : n1 ≤ 20) (f2 : n0 < n1) (f3 : n2 = w32 (n0 + 1)) : n2 ≤ 20 := by
  first
  | (have ix0 : n2 = n0 + 1 := Eq.trans f3 (w32_id (by omega) (by omega)); subst ix0; clear f3)
  | (unfold w32 at f3; have ix0 : n2 = n0 + 1 := (by omega); subst ix0)
  | skip
  try unfold w32 at f3
  omega
def g_285_64_9 : vG := ([(10, [15, 9], [], 1), (42, [9, 10], [], 0), (91, [10], [], 20), (90, [9], [], 0)], (91, [15], [], 20))
theorem c_285_64_9 {q0 : Nat} : vOkm T0 (eP e_285 L_285 A_285 mu_285 (some q0)) 4 g_285_64_9 := vOk_inI fun ρ η f0 f1 f2 f3 => q_285_19 (q0 := q0) (n0 := ρ 9) (n1 := ρ 10) (n2 := ρ 15) (H0 := η 0) f3 f2 f1 f0
theorem q_285_20 {q0 : Nat} {n0 n1 n2 n3 n4 n5 n6 n7 n8 n9 n10 n11 n12 n13 n14 n15 : Int} {H0 H1 : gH} (f0 : n0 ≤ 20) (f1 : 0 ≤ n0) (f2 : n1 ≤ 2147483647) (f3 : (-2147483648) ≤ n1) (f4 : n2 ≤ 2147483647) (f5 : (-2147483648) ≤ n2) (f6 : n3 ≤ 2147483647) (f7 : (-2147483648) ≤ n3) (f8 : n4 ≤ 2147483647) (f9 : (-2147483648) ≤ n4) (f10 : n5 = 285) (f11 : n6 ≤ 2147483647) (f12 : (-2147483648) ≤ n6) (f13 : n7 ≤ 2147483647) (f14 : (-2147483648) ≤ n7) (f15 : n8 ≤ 2147483647) (f16 : (-2147483648) ≤ n8) (f17 : n9 = 285) (f18 : (hLe T0 H0 H1 ∧ hFr s_285.2.2.2.2 H0 H1 ∧ hWt T0 H1) ∧ (Ab_285_64 n9 n8 n7 n6 n5 n4 n3 n2 n1 n0 H0 H1 ∧ preb_285 n9 n8 n7 n6 H0) ∧ some q0 = some (mub_285_64 n9 n8 n7 n6 n5 n4 n3 n2 n1 n0 H0 H1)) (f19 : n10 ≤ 20) (f20 : 0 ≤ n10) (f21 : n10 = hV H1 (n5).toNat 64) (f22 : n0 < n10) (f23 : n11 = o32 (fun x y => x >>> (y &&& 31)) n1 n0) (f24 : n12 = 1) (f25 : n13 = o32 (fun x y => x &&& y) n11 n12) (f26 : n14 = 1) (f27 : n13 ≠ n14) (f28 : n15 = w32 (n0 + 1)) : Ab_285_64 n9 n8 n7 n6 n5 n4 n3 n2 n1 n15 H0 H1 ∧ ∀ q, some q0 = some q → mub_285_64 n9 n8 n7 n6 n5 n4 n3 n2 n1 n15 H0 H1 < q := by
  have g4 := f18.2.1.1
  unfold Ab_285_64 at g4
  have g3 := f18.2.1.2
  unfold preb_285 at g3
  have g5 := Option.some.inj f18.2.2
  unfold mub_285_64 at g5
  unfold Ab_285_64
  unfold mub_285_64
  have e1 : n10 = hV H0 285 64 := (by rw [f10] at f21; exact f21 : n10 = hV H1 285 64).trans ((f18.1.2.1.1 285 64 kF_285_285_64))
  have e3 : hV H1 285 18 = hV H0 285 18 := (f18.1.2.1.1 285 18 kF_285_285_18)
  have e4 : hV H1 285 64 = hV H0 285 64 := (f18.1.2.1.1 285 64 kF_285_285_64)
  have e5 : hV H1 296 = hV H0 296 := fRow f18.1.2.1 296 kR_285_296
  have e6 : hV H1 298 = hV H0 298 := fRow f18.1.2.1 298 kR_285_298
  have e7 : hV H1 300 = hV H0 300 := fRow f18.1.2.1 300 kR_285_300
  have e8 : hV H1 328 = hV H0 328 := fRow f18.1.2.1 328 kR_285_328
  have e9 : hV H1 332 = hV H0 332 := fRow f18.1.2.1 332 kR_285_332
  have e10 : (0 : Int) ≤ hV H0 285 18 ∧ hV H0 285 18 ≤ 8 := bTo e3 (f18.1.2.2 285 18 _ _ kW_285_18)
  have e11 : (0 : Int) ≤ hV H0 285 64 ∧ hV H0 285 64 ≤ 20 := bTo e4 (f18.1.2.2 285 64 _ _ kW_285_64)
  have e12 : (0 : Int) ≤ hV H1 285 65 ∧ hV H1 285 65 ≤ 2147483647 := f18.1.2.2 285 65 _ _ kW_285_65
  try simp only [e3, e4, e5, e6, e7, e8, e9]
  have k0 := g4.1
  have k1 := g4.2.1
  have k2 := g4.2.2.1
  have y0 := g4.2.2.2.1
  have y1 := g4.2.2.2.2.1
  have y2 := g4.2.2.2.2.2.1
  have y3 := g4.2.2.2.2.2.2.1
  have y4 := g4.2.2.2.2.2.2.2.1
  have y5 := g4.2.2.2.2.2.2.2.2.1
  have y6 := g4.2.2.2.2.2.2.2.2.2.1
  have y7 := g4.2.2.2.2.2.2.2.2.2.2.1
  have y8 := g4.2.2.2.2.2.2.2.2.2.2.2.1
  have y9 := g4.2.2.2.2.2.2.2.2.2.2.2.2.1
  have y10 := g4.2.2.2.2.2.2.2.2.2.2.2.2.2.1
  have y11 := g4.2.2.2.2.2.2.2.2.2.2.2.2.2.2.1
  have y12 := g4.2.2.2.2.2.2.2.2.2.2.2.2.2.2.2.1
  have y13 := g4.2.2.2.2.2.2.2.2.2.2.2.2.2.2.2.2.1
  have y14 := g4.2.2.2.2.2.2.2.2.2.2.2.2.2.2.2.2.2
  have p0 := g3.1
  have p1 := g3.2.1
  have p2 := g3.2.2.1
  have p3 := g3.2.2.2.1
  have p4 := g3.2.2.2.2
  try simp only [e5, e6, e7] at y0
  try simp only [e4, e5, e6, e7, e8, e9] at y1
  try simp only [e4, e5, e6, e7] at y2
  try simp only [e5, e6, e7] at y3
  try simp only [e4] at y5
  try simp only [e8] at y6
  try simp only [e3] at y8
  clear g3
  clear g4
  clear f21 e3 e4 e5 e6 e7 e8 e9
  clear f18
  subst e1
  have b25 := o32_and_r f25 (by omega) (by omega)
  first
  | (have ix0 : n15 = n0 + 1 := Eq.trans f28 (w32_iv (Iad (Iat f1 f0) (IC 1)) (by decide)); subst ix0; clear f28)
  | (have ix0 : n15 = n0 + 1 := Eq.trans f28 (w32_id (by omega) (by omega)); subst ix0; clear f28)
  | (unfold w32 at f28; have ix0 : n15 = n0 + 1 := (by omega); subst ix0)
  | skip
  try unfold w32 at f28

  try subst k2
  try subst k1
  try subst k0
  have tb := bt_test f23 f25 (by omega) (by omega) (by omega)
  refine ⟨?_, fun q hq => ?_⟩
  · exact ⟨by first | omega | trivial, by first | omega | trivial, by first | omega | trivial, y0, MA_step y1 (by omega) (by omega) (fun z => by have := tb.1.mpr ((y0 _ (by omega)).mpr z); omega), y2, y3, by omega, by omega, by omega, by omega, by omega, by omega, by omega, y11, y12, y13, by omega⟩
  · have g6 := Option.some.inj hq
    subst g6
    omega
def g_285_64_10 : vG := ([(10, [15, 9], [], 1), (41, [13, 14], [], 0), (0, [14], [], 1), (4, [13, 11, 12], [], 0), (0, [12], [], 1), (8, [11, 8, 9], [], 0), (42, [9, 10], [], 0), (20, [10, 4], [1], 64), (90, [10], [], 0), (91, [10], [], 20), (5000, [0, 1, 2, 3, 4, 5, 6, 7, 8, 9], [0, 1], 64), (0, [0], [], 285), (90, [1], [], -2147483648), (91, [1], [], 2147483647), (90, [2], [], -2147483648), (91, [2], [], 2147483647), (90, [3], [], -2147483648), (91, [3], [], 2147483647), (0, [4], [], 285), (90, [5], [], -2147483648), (91, [5], [], 2147483647), (90, [6], [], -2147483648), (91, [6], [], 2147483647), (90, [7], [], -2147483648), (91, [7], [], 2147483647), (90, [8], [], -2147483648), (91, [8], [], 2147483647), (90, [9], [], 0), (91, [9], [], 20)], (4000, [4, 5, 6, 7, 8, 15], [1], 64))
theorem c_285_64_10 {q0 : Nat} : vOkm T0 (eP e_285 L_285 A_285 mu_285 (some q0)) 4 g_285_64_10 := vOk_inI fun ρ η f0 f1 f2 f3 f4 f5 f6 f7 f8 f9 f10 f11 f12 f13 f14 f15 f16 f17 f18 f19 f20 f21 f22 f23 f24 f25 f26 f27 f28 => q_285_20 (q0 := q0) (n0 := ρ 9) (n1 := ρ 8) (n2 := ρ 7) (n3 := ρ 6) (n4 := ρ 5) (n5 := ρ 4) (n6 := ρ 3) (n7 := ρ 2) (n8 := ρ 1) (n9 := ρ 0) (n10 := ρ 10) (n11 := ρ 11) (n12 := ρ 12) (n13 := ρ 13) (n14 := ρ 14) (n15 := ρ 15) (H0 := η 0) (H1 := η 1) f28 f27 f26 f25 f24 f23 f22 f21 f20 f19 f18 f17 f16 f15 f14 f13 f12 f11 f10 f9 f8 f7 f6 f5 f4 f3 f2 f1 f0
theorem q_285_21 {q0 : Nat} {n0 n1 : Int} {H0 : gH} (f0 : n0 ≤ 20) (f1 : n1 < n0) : n1 ≤ 19 := by
  omega
def g_285_64_11 : vG := ([(42, [9, 10], [], 0), (91, [10], [], 20)], (91, [9], [], 19))
theorem c_285_64_11 {q0 : Nat} : vOkm T0 (eP e_285 L_285 A_285 mu_285 (some q0)) 4 g_285_64_11 := vOk_inI fun ρ η f0 f1 => q_285_21 (q0 := q0) (n0 := ρ 10) (n1 := ρ 9) (H0 := η 0) f1 f0
theorem q_285_22 {q0 : Nat} {n0 n1 n2 n3 n4 n5 n6 n7 n8 n9 n10 n11 n12 n13 n14 : Int} {H0 H1 : gH} (f0 : n0 ≤ 20) (f1 : 0 ≤ n0) (f2 : n1 ≤ 2147483647) (f3 : (-2147483648) ≤ n1) (f4 : n2 ≤ 2147483647) (f5 : (-2147483648) ≤ n2) (f6 : n3 ≤ 2147483647) (f7 : (-2147483648) ≤ n3) (f8 : n4 ≤ 2147483647) (f9 : (-2147483648) ≤ n4) (f10 : n5 = 285) (f11 : n6 ≤ 2147483647) (f12 : (-2147483648) ≤ n6) (f13 : n7 ≤ 2147483647) (f14 : (-2147483648) ≤ n7) (f15 : n8 ≤ 2147483647) (f16 : (-2147483648) ≤ n8) (f17 : n9 = 285) (f18 : (hLe T0 H0 H1 ∧ hFr s_285.2.2.2.2 H0 H1 ∧ hWt T0 H1) ∧ (Ab_285_64 n9 n8 n7 n6 n5 n4 n3 n2 n1 n0 H0 H1 ∧ preb_285 n9 n8 n7 n6 H0) ∧ some q0 = some (mub_285_64 n9 n8 n7 n6 n5 n4 n3 n2 n1 n0 H0 H1)) (f19 : n10 ≤ 20) (f20 : 0 ≤ n10) (f21 : n10 = hV H1 (n5).toNat 64) (f22 : n0 < n10) (f23 : n11 = o32 (fun x y => x >>> (y &&& 31)) n1 n0) (f24 : n12 = 1) (f25 : n13 = o32 (fun x y => x &&& y) n11 n12) (f26 : n14 = 1) (f27 : n13 = n14) : preb_280 n5 n0 H1 := by
  have g4 := f18.2.1.1
  unfold Ab_285_64 at g4
  have g3 := f18.2.1.2
  unfold preb_285 at g3
  unfold preb_280
  have e1 : n10 = hV H0 285 64 := (by rw [f10] at f21; exact f21 : n10 = hV H1 285 64).trans ((f18.1.2.1.1 285 64 kF_285_285_64))
  have e3 : hV H1 285 18 = hV H0 285 18 := (f18.1.2.1.1 285 18 kF_285_285_18)
  have e4 : hV H1 285 64 = hV H0 285 64 := (f18.1.2.1.1 285 64 kF_285_285_64)
  have e5 : hV H1 296 = hV H0 296 := fRow f18.1.2.1 296 kR_285_296
  have e6 : hV H1 298 = hV H0 298 := fRow f18.1.2.1 298 kR_285_298
  have e7 : hV H1 300 = hV H0 300 := fRow f18.1.2.1 300 kR_285_300
  have e8 : hV H1 328 = hV H0 328 := fRow f18.1.2.1 328 kR_285_328
  have e9 : hV H1 332 = hV H0 332 := fRow f18.1.2.1 332 kR_285_332
  have e10 : PG H1 = PG H0 := PG_fr f18.1.2.1 (by decide +kernel)
  have e11 : (0 : Int) ≤ hV H0 285 18 ∧ hV H0 285 18 ≤ 8 := bTo e3 (f18.1.2.2 285 18 _ _ kW_285_18)
  have e12 : (0 : Int) ≤ hV H0 285 64 ∧ hV H0 285 64 ≤ 20 := bTo e4 (f18.1.2.2 285 64 _ _ kW_285_64)
  have e13 : (0 : Int) ≤ hV H1 285 65 ∧ hV H1 285 65 ≤ 2147483647 := f18.1.2.2 285 65 _ _ kW_285_65
  try simp only [e4, e10]
  have k0 := g4.1
  have k1 := g4.2.1
  have k2 := g4.2.2.1
  have y0 := g4.2.2.2.1
  have y1 := g4.2.2.2.2.1
  have y2 := g4.2.2.2.2.2.1
  have y3 := g4.2.2.2.2.2.2.1
  have y4 := g4.2.2.2.2.2.2.2.1
  have y5 := g4.2.2.2.2.2.2.2.2.1
  have y6 := g4.2.2.2.2.2.2.2.2.2.1
  have y7 := g4.2.2.2.2.2.2.2.2.2.2.1
  have y8 := g4.2.2.2.2.2.2.2.2.2.2.2.1
  have y9 := g4.2.2.2.2.2.2.2.2.2.2.2.2.1
  have y10 := g4.2.2.2.2.2.2.2.2.2.2.2.2.2.1
  have y11 := g4.2.2.2.2.2.2.2.2.2.2.2.2.2.2.1
  have y12 := g4.2.2.2.2.2.2.2.2.2.2.2.2.2.2.2.1
  have y13 := g4.2.2.2.2.2.2.2.2.2.2.2.2.2.2.2.2.1
  have y14 := g4.2.2.2.2.2.2.2.2.2.2.2.2.2.2.2.2.2
  have p0 := g3.1
  have p1 := g3.2.1
  have p2 := g3.2.2.1
  have p3 := g3.2.2.2.1
  have p4 := g3.2.2.2.2
  try simp only [e5, e6, e7] at y0
  try simp only [e4, e5, e6, e7, e8, e9] at y1
  try simp only [e4, e5, e6, e7] at y2
  try simp only [e5, e6, e7] at y3
  try simp only [e4] at y5
  try simp only [e8] at y6
  try simp only [e3] at y8
  clear g3
  clear g4
  clear f21 e3 e4 e5 e6 e7 e8 e9 e10
  clear f18
  subst e1
  have b25 := o32_and_r f25 (by omega) (by omega)
  try subst k2
  try subst k1
  try subst k0
  refine ⟨?_, ?_, ?_⟩ <;> first | assumption | omega | trivial
def g_285_64_12 : vG := ([(40, [13, 14], [], 0), (0, [14], [], 1), (4, [13, 11, 12], [], 0), (0, [12], [], 1), (8, [11, 8, 9], [], 0), (42, [9, 10], [], 0), (20, [10, 4], [1], 64), (90, [10], [], 0), (91, [10], [], 20), (5000, [0, 1, 2, 3, 4, 5, 6, 7, 8, 9], [0, 1], 64), (0, [0], [], 285), (90, [1], [], -2147483648), (91, [1], [], 2147483647), (90, [2], [], -2147483648), (91, [2], [], 2147483647), (90, [3], [], -2147483648), (91, [3], [], 2147483647), (0, [4], [], 285), (90, [5], [], -2147483648), (91, [5], [], 2147483647), (90, [6], [], -2147483648), (91, [6], [], 2147483647), (90, [7], [], -2147483648), (91, [7], [], 2147483647), (90, [8], [], -2147483648), (91, [8], [], 2147483647), (90, [9], [], 0), (91, [9], [], 20)], (2280, [4, 9], [1], 0))
theorem c_285_64_12 {q0 : Nat} : vOkm T0 (eP e_285 L_285 A_285 mu_285 (some q0)) 4 g_285_64_12 := vOk_inI fun ρ η f0 f1 f2 f3 f4 f5 f6 f7 f8 f9 f10 f11 f12 f13 f14 f15 f16 f17 f18 f19 f20 f21 f22 f23 f24 f25 f26 f27 => q_285_22 (q0 := q0) (n0 := ρ 9) (n1 := ρ 8) (n2 := ρ 7) (n3 := ρ 6) (n4 := ρ 5) (n5 := ρ 4) (n6 := ρ 3) (n7 := ρ 2) (n8 := ρ 1) (n9 := ρ 0) (n10 := ρ 10) (n11 := ρ 11) (n12 := ρ 12) (n13 := ρ 13) (n14 := ρ 14) (H0 := η 0) (H1 := η 1) f27 f26 f25 f24 f23 f22 f21 f20 f19 f18 f17 f16 f15 f14 f13 f12 f11 f10 f9 f8 f7 f6 f5 f4 f3 f2 f1 f0
def g_285_64_13 : vG := ([(10, [20, 9], [], 1), (42, [9, 10], [], 0), (91, [10], [], 20), (90, [9], [], 0)], (90, [20], [], 0))
theorem c_285_64_13 {q0 : Nat} : vOkm T0 (eP e_285 L_285 A_285 mu_285 (some q0)) 4 g_285_64_13 := vOk_inI fun ρ η f0 f1 f2 f3 => q_285_18 (q0 := q0) (n0 := ρ 9) (n1 := ρ 10) (n2 := ρ 20) (H0 := η 0) f3 f2 f1 f0
def g_285_64_14 : vG := ([(10, [20, 9], [], 1), (42, [9, 10], [], 0), (91, [10], [], 20), (90, [9], [], 0)], (91, [20], [], 20))
theorem c_285_64_14 {q0 : Nat} : vOkm T0 (eP e_285 L_285 A_285 mu_285 (some q0)) 4 g_285_64_14 := vOk_inI fun ρ η f0 f1 f2 f3 => q_285_19 (q0 := q0) (n0 := ρ 9) (n1 := ρ 10) (n2 := ρ 20) (H0 := η 0) f3 f2 f1 f0
theorem kF_280_285_18 : vFree s_280.2.2.2.2 285 18 = true := by decide +kernel
theorem kF_280_285_65 : vFree s_280.2.2.2.2 285 65 = true := by decide +kernel
theorem q_285_23 {q0 : Nat} {n0 n1 n2 n3 n4 n5 n6 n7 n8 n9 n10 n11 n12 n13 n14 n15 n16 n17 n18 n19 n20 : Int} {H0 H1 H2 : gH} (f0 : n0 ≤ 20) (f1 : 0 ≤ n0) (f2 : n1 ≤ 2147483647) (f3 : (-2147483648) ≤ n1) (f4 : n2 ≤ 2147483647) (f5 : (-2147483648) ≤ n2) (f6 : n3 ≤ 2147483647) (f7 : (-2147483648) ≤ n3) (f8 : n4 ≤ 2147483647) (f9 : (-2147483648) ≤ n4) (f10 : n5 = 285) (f11 : n6 ≤ 2147483647) (f12 : (-2147483648) ≤ n6) (f13 : n7 ≤ 2147483647) (f14 : (-2147483648) ≤ n7) (f15 : n8 ≤ 2147483647) (f16 : (-2147483648) ≤ n8) (f17 : n9 = 285) (f18 : (hLe T0 H0 H1 ∧ hFr s_285.2.2.2.2 H0 H1 ∧ hWt T0 H1) ∧ (Ab_285_64 n9 n8 n7 n6 n5 n4 n3 n2 n1 n0 H0 H1 ∧ preb_285 n9 n8 n7 n6 H0) ∧ some q0 = some (mub_285_64 n9 n8 n7 n6 n5 n4 n3 n2 n1 n0 H0 H1)) (f19 : n10 ≤ 20) (f20 : 0 ≤ n10) (f21 : n10 = hV H1 (n5).toNat 64) (f22 : n0 < n10) (f23 : n11 = o32 (fun x y => x >>> (y &&& 31)) n1 n0) (f24 : n12 = 1) (f25 : n13 = o32 (fun x y => x &&& y) n11 n12) (f26 : n14 = 1) (f27 : n13 = n14) (f28 : n15 ≤ 2147483647) (f29 : (-2147483648) ≤ n15) (f30 : (hLe T0 H1 H2 ∧ hFr s_280.2.2.2.2 H1 H2 ∧ ((0 : Int) = 0 → H2.length = H1.length) ∧ hWt T0 H2) ∧ postb_280 n15 n5 n0 H1 H2) (f31 : n16 = o32 (fun x y => x >>> (y &&& 31)) n15 n4) (f32 : n17 = 1) (f33 : n18 = o32 (fun x y => x &&& y) n16 n17) (f34 : n19 = 1) (f35 : n18 ≠ n19) (f36 : n20 = w32 (n0 + 1)) : Ab_285_64 n9 n8 n7 n6 n5 n4 n3 n2 n1 n20 H0 H2 ∧ ∀ q, some q0 = some q → mub_285_64 n9 n8 n7 n6 n5 n4 n3 n2 n1 n20 H0 H2 < q := by
  have g4 := f18.2.1.1
  unfold Ab_285_64 at g4
  have g3 := f18.2.1.2
  unfold preb_285 at g3
  have g5 := Option.some.inj f18.2.2
  unfold mub_285_64 at g5
  unfold postb_280 at f30
  unfold Ab_285_64
  unfold mub_285_64
  have e1 : n10 = hV H0 285 64 := (by rw [f10] at f21; exact f21 : n10 = hV H1 285 64).trans ((f18.1.2.1.1 285 64 kF_285_285_64))
  have e3 : hV H1 285 18 = hV H0 285 18 := (f18.1.2.1.1 285 18 kF_285_285_18)
  have e4 : hV H1 285 64 = hV H0 285 64 := (f18.1.2.1.1 285 64 kF_285_285_64)
  have e5 : hV H1 296 = hV H0 296 := fRow f18.1.2.1 296 kR_285_296
  have e6 : hV H1 298 = hV H0 298 := fRow f18.1.2.1 298 kR_285_298
  have e7 : hV H1 300 = hV H0 300 := fRow f18.1.2.1 300 kR_285_300
  have e8 : hV H1 328 = hV H0 328 := fRow f18.1.2.1 328 kR_285_328
  have e9 : hV H1 332 = hV H0 332 := fRow f18.1.2.1 332 kR_285_332
  have e11 : hV H2 285 18 = hV H0 285 18 := ((f30.1.2.1.1 285 18 kF_280_285_18)).trans (f18.1.2.1.1 285 18 kF_285_285_18)
  have e13 : hV H2 285 64 = hV H0 285 64 := ((f30.1.2.1.1 285 64 kF_280_285_64)).trans (f18.1.2.1.1 285 64 kF_285_285_64)
  have e15 : hV H2 285 65 = hV H1 285 65 := (f30.1.2.1.1 285 65 kF_280_285_65)
  have e17 : hV H2 296 = hV H0 296 := (fRow f30.1.2.1 296 kR_280_296).trans e5
  have e19 : hV H2 298 = hV H0 298 := (fRow f30.1.2.1 298 kR_280_298).trans e6
  have e21 : hV H2 300 = hV H0 300 := (fRow f30.1.2.1 300 kR_280_300).trans e7
  have e23 : hV H2 328 = hV H0 328 := (fRow f30.1.2.1 328 kR_280_328).trans e8
  have e25 : hV H2 332 = hV H0 332 := (fRow f30.1.2.1 332 kR_280_332).trans e9
  have e26 : hV H2 335 = hV H1 335 := fRow f30.1.2.1 335 kR_280_335
  have e27 : AC H2 = AC H1 := AC_fr f30.1.2.1 (by decide +kernel)
  have e28 : SO H2 = SO H1 := SO_fr f30.1.2.1 (by decide +kernel)
  have e29 : SS H2 = SS H1 := SS_fr f30.1.2.1 (by decide +kernel)
  have e30 : (0 : Int) ≤ hV H0 285 18 ∧ hV H0 285 18 ≤ 8 := bTo e3 (f18.1.2.2 285 18 _ _ kW_285_18)
  have e31 : (0 : Int) ≤ hV H0 285 64 ∧ hV H0 285 64 ≤ 20 := bTo e4 (f18.1.2.2 285 64 _ _ kW_285_64)
  have e32 : (0 : Int) ≤ hV H1 285 65 ∧ hV H1 285 65 ≤ 2147483647 := f18.1.2.2 285 65 _ _ kW_285_65
  try simp only [e11, e13, e15, e17, e19, e21, e23, e25, e26, e27, e28, e29]
  have k0 := g4.1
  have k1 := g4.2.1
  have k2 := g4.2.2.1
  have y0 := g4.2.2.2.1
  have y1 := g4.2.2.2.2.1
  have y2 := g4.2.2.2.2.2.1
  have y3 := g4.2.2.2.2.2.2.1
  have y4 := g4.2.2.2.2.2.2.2.1
  have y5 := g4.2.2.2.2.2.2.2.2.1
  have y6 := g4.2.2.2.2.2.2.2.2.2.1
  have y7 := g4.2.2.2.2.2.2.2.2.2.2.1
  have y8 := g4.2.2.2.2.2.2.2.2.2.2.2.1
  have y9 := g4.2.2.2.2.2.2.2.2.2.2.2.2.1
  have y10 := g4.2.2.2.2.2.2.2.2.2.2.2.2.2.1
  have y11 := g4.2.2.2.2.2.2.2.2.2.2.2.2.2.2.1
  have y12 := g4.2.2.2.2.2.2.2.2.2.2.2.2.2.2.2.1
  have y13 := g4.2.2.2.2.2.2.2.2.2.2.2.2.2.2.2.2.1
  have y14 := g4.2.2.2.2.2.2.2.2.2.2.2.2.2.2.2.2.2
  have p0 := g3.1
  have p1 := g3.2.1
  have p2 := g3.2.2.1
  have p3 := g3.2.2.2.1
  have p4 := g3.2.2.2.2
  have r0_0 := f30.2
  try simp only [e5, e6, e7] at y0
  try simp only [e4, e5, e6, e7, e8, e9] at y1
  try simp only [e4, e5, e6, e7] at y2
  try simp only [e5, e6, e7] at y3
  try simp only [e4] at y5
  try simp only [e8] at y6
  try simp only [e3] at y8
  try simp only [e13, e17, e19, e21, e23, e25, e26] at r0_0
  clear g3
  clear g4
  clear f21 e3 e4 e5 e6 e7 e8 e9 e11 e13 e15 e17 e19 e21 e23 e25 e26 e27 e28 e29
  clear f18 f30
  subst e1
  have b25 := o32_and_r f25 (by omega) (by omega)
  have b33 := o32_and_r f33 (by omega) (by omega)
  first
  | (have ix0 : n20 = n0 + 1 := Eq.trans f36 (w32_iv (Iad (Iat f1 f0) (IC 1)) (by decide)); subst ix0; clear f36)
  | (have ix0 : n20 = n0 + 1 := Eq.trans f36 (w32_id (by omega) (by omega)); subst ix0; clear f36)
  | (unfold w32 at f36; have ix0 : n20 = n0 + 1 := (by omega); subst ix0)
  | skip
  try unfold w32 at f36

  try subst k2
  try subst k1
  try subst k0
  have tb := bt_test f23 f25 (by omega) (by omega) (by omega)
  have tc := bt_test f31 f33 (by omega) (by omega) (by omega)
  refine ⟨?_, fun q hq => ?_⟩
  · exact ⟨by first | omega | trivial, by first | omega | trivial, by first | omega | trivial, y0, MA_step y1 (by omega) (by omega) (fun _ z => by have := tc.1.mpr ((r0_0 _ (by omega)).mpr z); omega), y2, y3, by omega, by omega, by omega, by omega, by omega, by omega, by omega, y11, y12, y13, by omega⟩
  · have g6 := Option.some.inj hq
    subst g6
    omega
def g_285_64_15 : vG := ([(10, [20, 9], [], 1), (41, [18, 19], [], 0), (0, [19], [], 1), (4, [18, 16, 17], [], 0), (0, [17], [], 1), (8, [16, 15, 5], [], 0), (1280, [15, 4, 9], [1, 2], 0), (90, [15], [], -2147483648), (91, [15], [], 2147483647), (40, [13, 14], [], 0), (0, [14], [], 1), (4, [13, 11, 12], [], 0), (0, [12], [], 1), (8, [11, 8, 9], [], 0), (42, [9, 10], [], 0), (20, [10, 4], [1], 64), (90, [10], [], 0), (91, [10], [], 20), (5000, [0, 1, 2, 3, 4, 5, 6, 7, 8, 9], [0, 1], 64), (0, [0], [], 285), (90, [1], [], -2147483648), (91, [1], [], 2147483647), (90, [2], [], -2147483648), (91, [2], [], 2147483647), (90, [3], [], -2147483648), (91, [3], [], 2147483647), (0, [4], [], 285), (90, [5], [], -2147483648), (91, [5], [], 2147483647), (90, [6], [], -2147483648), (91, [6], [], 2147483647), (90, [7], [], -2147483648), (91, [7], [], 2147483647), (90, [8], [], -2147483648), (91, [8], [], 2147483647), (90, [9], [], 0), (91, [9], [], 20)], (4000, [4, 5, 6, 7, 8, 20], [2], 64))
theorem c_285_64_15 {q0 : Nat} : vOkm T0 (eP e_285 L_285 A_285 mu_285 (some q0)) 4 g_285_64_15 := vOk_inI fun ρ η f0 f1 f2 f3 f4 f5 f6 f7 f8 f9 f10 f11 f12 f13 f14 f15 f16 f17 f18 f19 f20 f21 f22 f23 f24 f25 f26 f27 f28 f29 f30 f31 f32 f33 f34 f35 f36 => q_285_23 (q0 := q0) (n0 := ρ 9) (n1 := ρ 8) (n2 := ρ 7) (n3 := ρ 6) (n4 := ρ 5) (n5 := ρ 4) (n6 := ρ 3) (n7 := ρ 2) (n8 := ρ 1) (n9 := ρ 0) (n10 := ρ 10) (n11 := ρ 11) (n12 := ρ 12) (n13 := ρ 13) (n14 := ρ 14) (n15 := ρ 15) (n16 := ρ 16) (n17 := ρ 17) (n18 := ρ 18) (n19 := ρ 19) (n20 := ρ 20) (H0 := η 0) (H1 := η 1) (H2 := η 2) f36 f35 f34 f33 f32 f31 f30 f29 f28 f27 f26 f25 f24 f23 f22 f21 f20 f19 f18 f17 f16 f15 f14 f13 f12 f11 f10 f9 f8 f7 f6 f5 f4 f3 f2 f1 f0
theorem q_285_24 {q0 : Nat} {n0 n1 n2 n3 n4 n5 n6 n7 n8 n9 n10 n11 n12 n13 n14 n15 n16 n17 n18 n19 n20 : Int} {H0 H1 H2 : gH} (f0 : n0 ≤ 20) (f1 : 0 ≤ n0) (f2 : n1 ≤ 2147483647) (f3 : (-2147483648) ≤ n1) (f4 : n2 ≤ 2147483647) (f5 : (-2147483648) ≤ n2) (f6 : n3 ≤ 2147483647) (f7 : (-2147483648) ≤ n3) (f8 : n4 ≤ 2147483647) (f9 : (-2147483648) ≤ n4) (f10 : n5 = 285) (f11 : n6 ≤ 2147483647) (f12 : (-2147483648) ≤ n6) (f13 : n7 ≤ 2147483647) (f14 : (-2147483648) ≤ n7) (f15 : n8 ≤ 2147483647) (f16 : (-2147483648) ≤ n8) (f17 : n9 = 285) (f18 : (hLe T0 H0 H1 ∧ hFr s_285.2.2.2.2 H0 H1 ∧ hWt T0 H1) ∧ (Ab_285_64 n9 n8 n7 n6 n5 n4 n3 n2 n1 n0 H0 H1 ∧ preb_285 n9 n8 n7 n6 H0) ∧ some q0 = some (mub_285_64 n9 n8 n7 n6 n5 n4 n3 n2 n1 n0 H0 H1)) (f19 : n10 ≤ 20) (f20 : 0 ≤ n10) (f21 : n10 = hV H1 (n5).toNat 64) (f22 : n0 < n10) (f23 : n11 = o32 (fun x y => x >>> (y &&& 31)) n1 n0) (f24 : n12 = 1) (f25 : n13 = o32 (fun x y => x &&& y) n11 n12) (f26 : n14 = 1) (f27 : n13 = n14) (f28 : n15 ≤ 2147483647) (f29 : (-2147483648) ≤ n15) (f30 : (hLe T0 H1 H2 ∧ hFr s_280.2.2.2.2 H1 H2 ∧ ((0 : Int) = 0 → H2.length = H1.length) ∧ hWt T0 H2) ∧ postb_280 n15 n5 n0 H1 H2) (f31 : n16 = o32 (fun x y => x >>> (y &&& 31)) n15 n4) (f32 : n17 = 1) (f33 : n18 = o32 (fun x y => x &&& y) n16 n17) (f34 : n19 = 1) (f35 : n18 = n19) (f36 : n20 = (-2)) : postb_285 n20 n9 n8 n7 n6 H0 H2 := by
  have g4 := f18.2.1.1
  unfold Ab_285_64 at g4
  have g3 := f18.2.1.2
  unfold preb_285 at g3
  unfold postb_280 at f30
  unfold postb_285
  have e1 : n10 = hV H0 285 64 := (by rw [f10] at f21; exact f21 : n10 = hV H1 285 64).trans ((f18.1.2.1.1 285 64 kF_285_285_64))
  have e3 : hV H1 285 18 = hV H0 285 18 := (f18.1.2.1.1 285 18 kF_285_285_18)
  have e4 : hV H1 285 64 = hV H0 285 64 := (f18.1.2.1.1 285 64 kF_285_285_64)
  have e5 : hV H1 296 = hV H0 296 := fRow f18.1.2.1 296 kR_285_296
  have e6 : hV H1 298 = hV H0 298 := fRow f18.1.2.1 298 kR_285_298
  have e7 : hV H1 300 = hV H0 300 := fRow f18.1.2.1 300 kR_285_300
  have e8 : hV H1 328 = hV H0 328 := fRow f18.1.2.1 328 kR_285_328
  have e9 : hV H1 332 = hV H0 332 := fRow f18.1.2.1 332 kR_285_332
  have e11 : hV H2 285 64 = hV H0 285 64 := ((f30.1.2.1.1 285 64 kF_280_285_64)).trans (f18.1.2.1.1 285 64 kF_285_285_64)
  have e13 : hV H2 285 65 = hV H1 285 65 := (f30.1.2.1.1 285 65 kF_280_285_65)
  have e15 : hV H2 296 = hV H0 296 := (fRow f30.1.2.1 296 kR_280_296).trans e5
  have e17 : hV H2 298 = hV H0 298 := (fRow f30.1.2.1 298 kR_280_298).trans e6
  have e19 : hV H2 300 = hV H0 300 := (fRow f30.1.2.1 300 kR_280_300).trans e7
  have e21 : hV H2 328 = hV H0 328 := (fRow f30.1.2.1 328 kR_280_328).trans e8
  have e23 : hV H2 332 = hV H0 332 := (fRow f30.1.2.1 332 kR_280_332).trans e9
  have e24 : hV H2 335 = hV H1 335 := fRow f30.1.2.1 335 kR_280_335
  have e25 : AC H2 = AC H1 := AC_fr f30.1.2.1 (by decide +kernel)
  have e26 : SO H2 = SO H1 := SO_fr f30.1.2.1 (by decide +kernel)
  have e27 : SS H2 = SS H1 := SS_fr f30.1.2.1 (by decide +kernel)
  have e28 : (0 : Int) ≤ hV H0 285 18 ∧ hV H0 285 18 ≤ 8 := bTo e3 (f18.1.2.2 285 18 _ _ kW_285_18)
  have e29 : (0 : Int) ≤ hV H0 285 64 ∧ hV H0 285 64 ≤ 20 := bTo e4 (f18.1.2.2 285 64 _ _ kW_285_64)
  have e30 : (0 : Int) ≤ hV H1 285 65 ∧ hV H1 285 65 ≤ 2147483647 := f18.1.2.2 285 65 _ _ kW_285_65
  try simp only [e13, e25, e26, e27]
  have k0 := g4.1
  have k1 := g4.2.1
  have k2 := g4.2.2.1
  have y0 := g4.2.2.2.1
  have y1 := g4.2.2.2.2.1
  have y2 := g4.2.2.2.2.2.1
  have y3 := g4.2.2.2.2.2.2.1
  have y4 := g4.2.2.2.2.2.2.2.1
  have y5 := g4.2.2.2.2.2.2.2.2.1
  have y6 := g4.2.2.2.2.2.2.2.2.2.1
  have y7 := g4.2.2.2.2.2.2.2.2.2.2.1
  have y8 := g4.2.2.2.2.2.2.2.2.2.2.2.1
  have y9 := g4.2.2.2.2.2.2.2.2.2.2.2.2.1
  have y10 := g4.2.2.2.2.2.2.2.2.2.2.2.2.2.1
  have y11 := g4.2.2.2.2.2.2.2.2.2.2.2.2.2.2.1
  have y12 := g4.2.2.2.2.2.2.2.2.2.2.2.2.2.2.2.1
  have y13 := g4.2.2.2.2.2.2.2.2.2.2.2.2.2.2.2.2.1
  have y14 := g4.2.2.2.2.2.2.2.2.2.2.2.2.2.2.2.2.2
  have p0 := g3.1
  have p1 := g3.2.1
  have p2 := g3.2.2.1
  have p3 := g3.2.2.2.1
  have p4 := g3.2.2.2.2
  have r0_0 := f30.2
  try simp only [e5, e6, e7] at y0
  try simp only [e4, e5, e6, e7, e8, e9] at y1
  try simp only [e4, e5, e6, e7] at y2
  try simp only [e5, e6, e7] at y3
  try simp only [e4] at y5
  try simp only [e8] at y6
  try simp only [e3] at y8
  try simp only [e11, e15, e17, e19, e21, e23, e24] at r0_0
  clear g3
  clear g4
  clear f21 e3 e4 e5 e6 e7 e8 e9 e11 e13 e15 e17 e19 e21 e23 e24 e25 e26 e27
  clear f18 f30
  subst e1
  have b25 := o32_and_r f25 (by omega) (by omega)
  have b33 := o32_and_r f33 (by omega) (by omega)

  exact ⟨y11, y12, y13, by omega⟩
def g_285_64_16 : vG := ([(0, [20], [], -2), (40, [18, 19], [], 0), (0, [19], [], 1), (4, [18, 16, 17], [], 0), (0, [17], [], 1), (8, [16, 15, 5], [], 0), (1280, [15, 4, 9], [1, 2], 0), (90, [15], [], -2147483648), (91, [15], [], 2147483647), (40, [13, 14], [], 0), (0, [14], [], 1), (4, [13, 11, 12], [], 0), (0, [12], [], 1), (8, [11, 8, 9], [], 0), (42, [9, 10], [], 0), (20, [10, 4], [1], 64), (90, [10], [], 0), (91, [10], [], 20), (5000, [0, 1, 2, 3, 4, 5, 6, 7, 8, 9], [0, 1], 64), (0, [0], [], 285), (90, [1], [], -2147483648), (91, [1], [], 2147483647), (90, [2], [], -2147483648), (91, [2], [], 2147483647), (90, [3], [], -2147483648), (91, [3], [], 2147483647), (0, [4], [], 285), (90, [5], [], -2147483648), (91, [5], [], 2147483647), (90, [6], [], -2147483648), (91, [6], [], 2147483647), (90, [7], [], -2147483648), (91, [7], [], 2147483647), (90, [8], [], -2147483648), (91, [8], [], 2147483647), (90, [9], [], 0), (91, [9], [], 20)], (3000, [20], [2], 100))
theorem c_285_64_16 {q0 : Nat} : vOkm T0 (eP e_285 L_285 A_285 mu_285 (some q0)) 4 g_285_64_16 := vOk_inI fun ρ η f0 f1 f2 f3 f4 f5 f6 f7 f8 f9 f10 f11 f12 f13 f14 f15 f16 f17 f18 f19 f20 f21 f22 f23 f24 f25 f26 f27 f28 f29 f30 f31 f32 f33 f34 f35 f36 => q_285_24 (q0 := q0) (n0 := ρ 9) (n1 := ρ 8) (n2 := ρ 7) (n3 := ρ 6) (n4 := ρ 5) (n5 := ρ 4) (n6 := ρ 3) (n7 := ρ 2) (n8 := ρ 1) (n9 := ρ 0) (n10 := ρ 10) (n11 := ρ 11) (n12 := ρ 12) (n13 := ρ 13) (n14 := ρ 14) (n15 := ρ 15) (n16 := ρ 16) (n17 := ρ 17) (n18 := ρ 18) (n19 := ρ 19) (n20 := ρ 20) (H0 := η 0) (H1 := η 1) (H2 := η 2) f36 f35 f34 f33 f32 f31 f30 f29 f28 f27 f26 f25 f24 f23 f22 f21 f20 f19 f18 f17 f16 f15 f14 f13 f12 f11 f10 f9 f8 f7 f6 f5 f4 f3 f2 f1 f0
def p_285_64 : List vG := [g_285_64_0,
  g_285_64_1,
  g_285_64_2,
  g_285_64_3,
  g_285_64_4,
  g_285_64_5,
  g_285_64_6,
  g_285_64_7,
  g_285_64_8,
  g_285_64_9,
  g_285_64_10,
  g_285_64_11,
  g_285_64_12,
  g_285_64_13,
  g_285_64_14,
  g_285_64_15,
  g_285_64_16]
theorem r_285_64 : vCovO false (eRc e_285 L_285 cs_285 2000 (64, [(0, (3, 12, 285, 0)), (1, (0, -2147483648, 2147483647, 0)), (2, (0, -2147483648, 2147483647, 0)), (3, (0, -2147483648, 2147483647, 0)), (4, (0, -2147483648, 2147483647, 0)), (5, (0, 0, 20, 0))])) p_285_64 = true := by decide +kernel
theorem m_285 (d : Nat) : eC e_285 (d + 6) := eC_ok (e := e_285) (L := L_285) (cs := cs_285) (n := 2000) (d := d + 5) (A := A_285) (μ := mu_285) (tp := false) (p0 := p_285_s) rfl ⟨m_250 (d + 4), ⟨m_278 (d + 2), ⟨m_280 d, ⟨m_283 d, ⟨m_284 (d + 3), trivial⟩⟩⟩⟩⟩ rfl (.inl rfl) (by decide +kernel) (fun z => nomatch z) r_285_s (allC c_285_s_0 (allC c_285_s_1 (allC c_285_s_2 (allC c_285_s_3 (allC c_285_s_4 (allC c_285_s_5 (allC c_285_s_6 (allC c_285_s_7 (allC c_285_s_8 (allC c_285_s_9 allN)))))))))) (allC (.inl ⟨p_285_64, r_285_64, fun q0 => (allC c_285_64_0 (allC c_285_64_1 (allC c_285_64_2 (allC c_285_64_3 (allC c_285_64_4 (allC c_285_64_5 (allC c_285_64_6 (allC c_285_64_7 (allC c_285_64_8 (allC c_285_64_9 (allC c_285_64_10 (allC c_285_64_11 (allC c_285_64_12 (allC c_285_64_13 (allC c_285_64_14 (allC c_285_64_15 (allC c_285_64_16 allN)))))))))))))))))⟩) allN)
