/-! CONTRACTS of methods told more fully. -/
/- MixStageModel.make (III)I -/
noncomputable def s_285v : vM := ([(3, 12, 285, 0), (0, -2147483648, 2147483647, 0), (0, -2147483648, 2147483647, 0), (0, -2147483648, 2147483647, 0)], (0, -2147483648, 2147483647, 0), 1, 0, [(12, 65), (12, 82), (12, 88), (12, 93), (460, 0), (492, 0), (500, 0), (508, 0), (516, 0), (524, 0), (572, 0), (580, 0), (588, 0), (596, 0), (604, 0), (612, 0), (621, 0), (631, 0), (637, 0), (644, 0)])
def preb_285v (a0 a1 a2 a3 : Int) (h : gH) : Prop := SO h ∧ SS h ∧ PG h ∧ AC h ∧ hV h 285 65 ≤ 20000
def pre_285v : List Int → gH → Prop := fun xs h => match xs with
  | [a0, a1, a2, a3] => preb_285v a0 a1 a2 a3 h
  | _ => False
def postb_285v (r a0 a1 a2 a3 : Int) (h0 h : gH) : Prop := SO h ∧ SS h ∧ AC h ∧ hV h 285 65 ≤ hV h0 285 65 + 1 ∧ KMk (hV h0 328) (hV h0 329) (hV h 329)
def post_285v : List Int → gH → gH → Prop := fun xs h0 h => match xs with
  | [r, a0, a1, a2, a3] => postb_285v r a0 a1 a2 a3 h0 h
  | _ => True
noncomputable def e_285v : vE := (285, s_285v, pre_285v, post_285v)
noncomputable def L_285v : List vE := [e_250, e_278, e_280, e_283v, e_284]
def cs_285v : List vC := [(64, [(0, (3, 12, 285, 0)), (1, (0, -2147483648, 2147483647, 0)), (2, (0, -2147483648, 2147483647, 0)), (3, (0, -2147483648, 2147483647, 0)), (4, (0, -2147483648, 2147483647, 0)), (5, (0, 0, 20, 0))])]
def Ab_285v_64 (a0 a1 a2 a3 x0 x1 x2 x3 x4 x5 : Int) (h0 h : gH) : Prop := x1 = a1 ∧ x2 = a2 ∧ x3 = a3 ∧ BTS x4 (LYp (hV h 296) (hV h 298) (hV h 300) (a2).toNat) ∧ MAp (hV h 285 64) (NXp (hV h 328) (hV h 332) (hV h 335) (hV h 296) (hV h 298) (hV h 300)) (LYp (hV h 296) (hV h 298) (hV h 300) (a2).toNat) (a1).toNat x5 ∧ (∀ j : Nat, LYp (hV h 296) (hV h 298) (hV h 300) (a2).toNat j → (j : Int) < hV h 285 64) ∧ ¬ LYp (hV h 296) (hV h 298) (hV h 300) (a2).toNat (a1).toNat ∧ 0 ≤ a1 ∧ a1 < hV h 285 64 ∧ hV h 328 ((a1).toNat) = 6 ∧ 0 ≤ a2 ∧ a2 < hV h 285 18 ∧ 0 ≤ a3 ∧ a3 ≤ 5 ∧ SO h ∧ SS h ∧ AC h ∧ hV h 285 65 = hV h0 285 65 ∧ (hV h 329) = (hV h0 329)
def mub_285v_64 (a0 a1 a2 a3 x0 x1 x2 x3 x4 x5 : Int) (h0 h : gH) : Nat := (2147483648 - x5).toNat
def A_285v : Int → List Int → gH → gH → Prop := fun c xs h0 h => match c.toNat with
  | 64 => (match xs with
    | [a0, a1, a2, a3, x0, x1, x2, x3, x4, x5] => Ab_285v_64 a0 a1 a2 a3 x0 x1 x2 x3 x4 x5 h0 h
    | _ => False)
  | _ => True
def mu_285v : Int → List Int → gH → gH → Nat := fun c xs h0 h => match c.toNat with
  | 64 => (match xs with
    | [a0, a1, a2, a3, x0, x1, x2, x3, x4, x5] => mub_285v_64 a0 a1 a2 a3 x0 x1 x2 x3 x4 x5 h0 h
    | _ => 0)
  | _ => 0
theorem q_285v_0 {n0 n1 n2 n3 n4 n5 : Int} {H0 H1 : gH} (f0 : n0 ≤ 2147483647) (f1 : (-2147483648) ≤ n0) (f2 : n1 ≤ 2147483647) (f3 : (-2147483648) ≤ n1) (f4 : n2 ≤ 2147483647) (f5 : (-2147483648) ≤ n2) (f6 : n3 = 285) (f7 : hWt T0 H0 ∧ preb_285v n3 n2 n1 n0 H0) (f8 : n4 ≤ 1) (f9 : 0 ≤ n4) (f10 : (hLe T0 H0 H1 ∧ hFr s_250.2.2.2.2 H0 H1 ∧ ((0 : Int) = 0 → H1.length = H0.length) ∧ hWt T0 H1) ∧ postb_250 n4 n3 n2 H0 H1) (f11 : n4 = 0) (f12 : n5 = (-1)) : postb_285v n5 n3 n2 n1 n0 H0 H1 := by
  unfold preb_285v at f7
  unfold postb_250 at f10
  unfold postb_285v
  have e0 : hV H1 285 64 = hV H0 285 64 := f10.1.2.1.1 285 64 (by decide +kernel)
  have e1 : hV H1 285 64 = hV H0 285 64 := e0
  have e2 : hV H1 285 65 = hV H0 285 65 := f10.1.2.1.1 285 65 (by decide +kernel)
  have e3 : hV H1 285 65 = hV H0 285 65 := e2
  have e4 : hV H1 329 = hV H0 329 := fRow f10.1.2.1 329 (by decide +kernel)
  have e5 : AC H1 = AC H0 := AC_fr f10.1.2.1 (by decide +kernel)
  have e6 : SO H1 = SO H0 := SO_fr f10.1.2.1 (by decide +kernel)
  have e7 : SS H1 = SS H0 := SS_fr f10.1.2.1 (by decide +kernel)
  have e8 : (0 : Int) ≤ hV H0 285 65 ∧ hV H0 285 65 ≤ 2147483647 := f7.1 285 65 _ _ (by decide +kernel)
  have e9 : (0 : Int) ≤ hV H1 285 64 ∧ hV H1 285 64 ≤ 20 := f10.1.2.2.2 285 64 _ _ (by decide +kernel)
  have e10 : (0 : Int) ≤ hV H0 285 64 ∧ hV H0 285 64 ≤ 20 := f7.1 285 64 _ _ (by decide +kernel)
  have e11 : (0 : Int) ≤ hV H1 285 65 ∧ hV H1 285 65 ≤ 2147483647 := f10.1.2.2.2 285 65 _ _ (by decide +kernel)
  try simp only [e1] at e9
  try simp only [e3] at e11
  try simp only [e1, e3, e4, e5, e6, e7]
  have p0 := f7.2.1
  have p1 := f7.2.2.1
  have p2 := f7.2.2.2.1
  have p3 := f7.2.2.2.2.1
  have p4 := f7.2.2.2.2.2
  have r0_0 := f10.2
  try simp only [e1, e3, e4, e5, e6, e7] at r0_0
  clear e0 e1 e2 e3 e4 e5 e6 e7
  clear f7 f10
  try (have wx := r1_0 (by omega); obtain ⟨w0, w1, w2, w3⟩ := wx)

  exact ⟨p0, p1, p3, by omega, fun s _ => rfl⟩
def g_285v_s_0 : vG := ([(0, [5], [], -1), (30, [4], [], 0), (1250, [4, 0, 1], [0, 1], 0), (90, [4], [], 0), (91, [4], [], 1), (6000, [0, 1, 2, 3], [0], 0), (0, [0], [], 285), (90, [1], [], -2147483648), (91, [1], [], 2147483647), (90, [2], [], -2147483648), (91, [2], [], 2147483647), (90, [3], [], -2147483648), (91, [3], [], 2147483647)], (3000, [5], [1], 29))
theorem c_285v_s_0 : vOkm T0 (eP e_285v L_285v A_285v mu_285v none) 4 g_285v_s_0 := vOk_in fun ρ η h => by
  obtain ⟨f0, f1, f2, f3, f4, f5, f6, f7, f8, f9, f10, f11, f12, _⟩ := h
  exact q_285v_0 (n0 := ρ 3) (n1 := ρ 2) (n2 := ρ 1) (n3 := ρ 0) (n4 := ρ 4) (n5 := ρ 5) (H0 := η 0) (H1 := η 1) f12 f11 f10 f9 f8 f7 f6 f5 f4 f3 f2 f1 f0
theorem q_285v_1 {n0 n1 n2 n3 n4 : Int} {H0 H1 : gH} (f0 : n0 ≤ 2147483647) (f1 : (-2147483648) ≤ n0) (f2 : n1 ≤ 2147483647) (f3 : (-2147483648) ≤ n1) (f4 : n2 ≤ 2147483647) (f5 : (-2147483648) ≤ n2) (f6 : n3 = 285) (f7 : hWt T0 H0 ∧ preb_285v n3 n2 n1 n0 H0) (f8 : n4 ≤ 1) (f9 : 0 ≤ n4) (f10 : (hLe T0 H0 H1 ∧ hFr s_250.2.2.2.2 H0 H1 ∧ ((0 : Int) = 0 → H1.length = H0.length) ∧ hWt T0 H1) ∧ postb_250 n4 n3 n2 H0 H1) (f11 : n4 ≠ 0) : 0 ≤ n2 ∧ n2 < 20 := by
  unfold preb_285v at f7
  unfold postb_250 at f10
  have e0 : hV H1 285 64 = hV H0 285 64 := f10.1.2.1.1 285 64 (by decide +kernel)
  have e1 : hV H1 285 64 = hV H0 285 64 := e0
  have e2 : (0 : Int) ≤ hV H0 285 65 ∧ hV H0 285 65 ≤ 2147483647 := f7.1 285 65 _ _ (by decide +kernel)
  have e3 : (0 : Int) ≤ hV H1 285 64 ∧ hV H1 285 64 ≤ 20 := f10.1.2.2.2 285 64 _ _ (by decide +kernel)
  have e4 : (0 : Int) ≤ hV H0 285 64 ∧ hV H0 285 64 ≤ 20 := f7.1 285 64 _ _ (by decide +kernel)
  try simp only [e1] at e3
  try simp only [e1]
  have p0 := f7.2.1
  have p1 := f7.2.2.1
  have p2 := f7.2.2.2.1
  have p3 := f7.2.2.2.2.1
  have p4 := f7.2.2.2.2.2
  have r0_0 := f10.2
  try simp only [e1] at r0_0
  clear e0 e1
  clear f7 f10
  try (have wx := r1_0 (by omega); obtain ⟨w0, w1, w2, w3⟩ := wx)
  omega
def g_285v_s_1 : vG := ([(31, [4], [], 0), (1250, [4, 0, 1], [0, 1], 0), (90, [4], [], 0), (91, [4], [], 1), (6000, [0, 1, 2, 3], [0], 0), (0, [0], [], 285), (90, [1], [], -2147483648), (91, [1], [], 2147483647), (90, [2], [], -2147483648), (91, [2], [], 2147483647), (90, [3], [], -2147483648), (91, [3], [], 2147483647)], (70, [1], [], 20))
theorem c_285v_s_1 : vOkm T0 (eP e_285v L_285v A_285v mu_285v none) 4 g_285v_s_1 := vOk_in fun ρ η h => by
  obtain ⟨f0, f1, f2, f3, f4, f5, f6, f7, f8, f9, f10, f11, _⟩ := h
  exact q_285v_1 (n0 := ρ 3) (n1 := ρ 2) (n2 := ρ 1) (n3 := ρ 0) (n4 := ρ 4) (H0 := η 0) (H1 := η 1) f11 f10 f9 f8 f7 f6 f5 f4 f3 f2 f1 f0
theorem q_285v_2 {n0 n1 n2 n3 n4 n5 n6 n7 n8 : Int} {H0 H1 : gH} (f0 : n0 ≤ 2147483647) (f1 : (-2147483648) ≤ n0) (f2 : n1 ≤ 2147483647) (f3 : (-2147483648) ≤ n1) (f4 : n2 ≤ 2147483647) (f5 : (-2147483648) ≤ n2) (f6 : n3 = 285) (f7 : hWt T0 H0 ∧ preb_285v n3 n2 n1 n0 H0) (f8 : n4 ≤ 1) (f9 : 0 ≤ n4) (f10 : (hLe T0 H0 H1 ∧ hFr s_250.2.2.2.2 H0 H1 ∧ ((0 : Int) = 0 → H1.length = H0.length) ∧ hWt T0 H1) ∧ postb_250 n4 n3 n2 H0 H1) (f11 : n4 ≠ 0) (f12 : n5 = 328) (f13 : n5 = hV H1 (n3).toNat 66) (f14 : n6 ≤ 6) (f15 : 0 ≤ n6) (f16 : n6 = hV H1 (n5).toNat (n2).toNat) (f17 : n7 = 6) (f18 : n6 ≠ n7) (f19 : n8 = (-1)) : postb_285v n8 n3 n2 n1 n0 H0 H1 := by
  unfold preb_285v at f7
  unfold postb_250 at f10
  unfold postb_285v
  have e0 : hV H1 328 = hV H0 328 := fRow f10.1.2.1 328 (by decide +kernel)
  have e1 : n6 = hV H0 328 (n2).toNat := (by rw [f12] at f16; exact f16 : n6 = hV H1 328 (n2).toNat).trans ((congrFun e0 _))
  have e2 : hV H1 285 64 = hV H0 285 64 := f10.1.2.1.1 285 64 (by decide +kernel)
  have e3 : hV H1 285 64 = hV H0 285 64 := e2
  have e4 : hV H1 285 65 = hV H0 285 65 := f10.1.2.1.1 285 65 (by decide +kernel)
  have e5 : hV H1 285 65 = hV H0 285 65 := e4
  have e6 : hV H1 329 = hV H0 329 := fRow f10.1.2.1 329 (by decide +kernel)
  have e7 : AC H1 = AC H0 := AC_fr f10.1.2.1 (by decide +kernel)
  have e8 : SO H1 = SO H0 := SO_fr f10.1.2.1 (by decide +kernel)
  have e9 : SS H1 = SS H0 := SS_fr f10.1.2.1 (by decide +kernel)
  have e10 : (0 : Int) ≤ hV H0 285 65 ∧ hV H0 285 65 ≤ 2147483647 := f7.1 285 65 _ _ (by decide +kernel)
  have e11 : (0 : Int) ≤ hV H1 285 64 ∧ hV H1 285 64 ≤ 20 := f10.1.2.2.2 285 64 _ _ (by decide +kernel)
  have e12 : (0 : Int) ≤ hV H0 285 64 ∧ hV H0 285 64 ≤ 20 := f7.1 285 64 _ _ (by decide +kernel)
  have e13 : (0 : Int) ≤ hV H1 285 65 ∧ hV H1 285 65 ≤ 2147483647 := f10.1.2.2.2 285 65 _ _ (by decide +kernel)
  try simp only [e3] at e11
  try simp only [e5] at e13
  try simp only [e3, e5, e6, e7, e8, e9]
  have p0 := f7.2.1
  have p1 := f7.2.2.1
  have p2 := f7.2.2.2.1
  have p3 := f7.2.2.2.2.1
  have p4 := f7.2.2.2.2.2
  have r0_0 := f10.2
  try simp only [e3, e5, e6, e7, e8, e9] at r0_0
  clear f13 f16 e0 e2 e3 e4 e5 e6 e7 e8 e9
  clear f7 f10
  subst e1
  try (have wx := r1_0 (by omega); obtain ⟨w0, w1, w2, w3⟩ := wx)

  exact ⟨p0, p1, p3, by omega, fun s _ => rfl⟩
def g_285v_s_2 : vG := ([(0, [8], [], -1), (41, [6, 7], [], 0), (0, [7], [], 6), (22, [6, 5, 1], [1], 0), (90, [6], [], 0), (91, [6], [], 6), (20, [5, 0], [1], 66), (0, [5], [], 328), (31, [4], [], 0), (1250, [4, 0, 1], [0, 1], 0), (90, [4], [], 0), (91, [4], [], 1), (6000, [0, 1, 2, 3], [0], 0), (0, [0], [], 285), (90, [1], [], -2147483648), (91, [1], [], 2147483647), (90, [2], [], -2147483648), (91, [2], [], 2147483647), (90, [3], [], -2147483648), (91, [3], [], 2147483647)], (3000, [8], [1], 29))
theorem c_285v_s_2 : vOkm T0 (eP e_285v L_285v A_285v mu_285v none) 4 g_285v_s_2 := vOk_in fun ρ η h => by
  obtain ⟨f0, f1, f2, f3, f4, f5, f6, f7, f8, f9, f10, f11, f12, f13, f14, f15, f16, f17, f18, f19, _⟩ := h
  exact q_285v_2 (n0 := ρ 3) (n1 := ρ 2) (n2 := ρ 1) (n3 := ρ 0) (n4 := ρ 4) (n5 := ρ 5) (n6 := ρ 6) (n7 := ρ 7) (n8 := ρ 8) (H0 := η 0) (H1 := η 1) f19 f18 f17 f16 f15 f14 f13 f12 f11 f10 f9 f8 f7 f6 f5 f4 f3 f2 f1 f0
theorem q_285v_3 {n0 n1 n2 n3 n4 n5 n6 n7 n8 : Int} {H0 H1 H2 : gH} (f0 : n0 ≤ 2147483647) (f1 : (-2147483648) ≤ n0) (f2 : n1 ≤ 2147483647) (f3 : (-2147483648) ≤ n1) (f4 : n2 ≤ 2147483647) (f5 : (-2147483648) ≤ n2) (f6 : n3 = 285) (f7 : hWt T0 H0 ∧ preb_285v n3 n2 n1 n0 H0) (f8 : n4 ≤ 1) (f9 : 0 ≤ n4) (f10 : (hLe T0 H0 H1 ∧ hFr s_250.2.2.2.2 H0 H1 ∧ ((0 : Int) = 0 → H1.length = H0.length) ∧ hWt T0 H1) ∧ postb_250 n4 n3 n2 H0 H1) (f11 : n4 ≠ 0) (f12 : n5 = 328) (f13 : n5 = hV H1 (n3).toNat 66) (f14 : n6 ≤ 6) (f15 : 0 ≤ n6) (f16 : n6 = hV H1 (n5).toNat (n2).toNat) (f17 : n7 = 6) (f18 : n6 = n7) (f19 : n8 ≤ 1) (f20 : 0 ≤ n8) (f21 : (hLe T0 H1 H2 ∧ hFr s_284.2.2.2.2 H1 H2 ∧ ((0 : Int) = 0 → H2.length = H1.length) ∧ hWt T0 H2) ∧ postb_284 n8 n3 n1 n0 H1 H2) (f22 : n8 ≠ 0) : 0 ≤ n1 := by
  unfold preb_285v at f7
  unfold postb_250 at f10
  unfold postb_284 at f21
  have e0 : hV H1 328 = hV H0 328 := fRow f10.1.2.1 328 (by decide +kernel)
  have e1 : n6 = hV H0 328 (n2).toNat := (by rw [f12] at f16; exact f16 : n6 = hV H1 328 (n2).toNat).trans ((congrFun e0 _))
  have e2 : hV H1 285 64 = hV H0 285 64 := f10.1.2.1.1 285 64 (by decide +kernel)
  have e3 : hV H1 285 64 = hV H0 285 64 := e2
  have e4 : hV H2 285 18 = hV H1 285 18 := f21.1.2.1.1 285 18 (by decide +kernel)
  have e5 : hV H1 285 18 = hV H0 285 18 := f10.1.2.1.1 285 18 (by decide +kernel)
  have e6 : hV H2 285 18 = hV H0 285 18 := (e4).trans e5
  have e7 : hV H2 285 60 = hV H1 285 60 := f21.1.2.1.1 285 60 (by decide +kernel)
  have e8 : hV H1 285 60 = hV H0 285 60 := f10.1.2.1.1 285 60 (by decide +kernel)
  have e9 : hV H2 285 60 = hV H0 285 60 := (e7).trans e8
  have e10 : (0 : Int) ≤ hV H0 285 65 ∧ hV H0 285 65 ≤ 2147483647 := f7.1 285 65 _ _ (by decide +kernel)
  have e11 : (0 : Int) ≤ hV H1 285 64 ∧ hV H1 285 64 ≤ 20 := f10.1.2.2.2 285 64 _ _ (by decide +kernel)
  have e12 : (0 : Int) ≤ hV H0 285 64 ∧ hV H0 285 64 ≤ 20 := f7.1 285 64 _ _ (by decide +kernel)
  have e13 : (0 : Int) ≤ hV H2 285 18 ∧ hV H2 285 18 ≤ 8 := f21.1.2.2.2 285 18 _ _ (by decide +kernel)
  have e14 : (0 : Int) ≤ hV H0 285 18 ∧ hV H0 285 18 ≤ 8 := f7.1 285 18 _ _ (by decide +kernel)
  have e15 : (1 : Int) ≤ hV H2 285 60 ∧ hV H2 285 60 ≤ 6 := f21.1.2.2.2 285 60 _ _ (by decide +kernel)
  have e16 : (1 : Int) ≤ hV H0 285 60 ∧ hV H0 285 60 ≤ 6 := f7.1 285 60 _ _ (by decide +kernel)
  try simp only [e3] at e11
  try simp only [e6] at e13
  try simp only [e9] at e15
  try simp only [e3, e6, e9]
  have p0 := f7.2.1
  have p1 := f7.2.2.1
  have p2 := f7.2.2.2.1
  have p3 := f7.2.2.2.2.1
  have p4 := f7.2.2.2.2.2
  have r0_0 := f10.2
  have r1_0 := f21.2
  try simp only [e3] at r0_0
  try simp only [e3, e6, e9] at r1_0
  clear f13 f16 e0 e2 e3 e4 e5 e6 e7 e8 e9
  clear f7 f10 f21
  subst e1
  try (have wx := r1_0 (by omega); obtain ⟨w0, w1, w2, w3⟩ := wx)
  omega
def g_285v_s_3 : vG := ([(31, [8], [], 0), (1284, [8, 0, 2, 3], [1, 2], 0), (90, [8], [], 0), (91, [8], [], 1), (40, [6, 7], [], 0), (0, [7], [], 6), (22, [6, 5, 1], [1], 0), (90, [6], [], 0), (91, [6], [], 6), (20, [5, 0], [1], 66), (0, [5], [], 328), (31, [4], [], 0), (1250, [4, 0, 1], [0, 1], 0), (90, [4], [], 0), (91, [4], [], 1), (6000, [0, 1, 2, 3], [0], 0), (0, [0], [], 285), (90, [1], [], -2147483648), (91, [1], [], 2147483647), (90, [2], [], -2147483648), (91, [2], [], 2147483647), (90, [3], [], -2147483648), (91, [3], [], 2147483647)], (90, [2], [], 0))
theorem c_285v_s_3 : vOkm T0 (eP e_285v L_285v A_285v mu_285v none) 4 g_285v_s_3 := vOk_in fun ρ η h => by
  obtain ⟨f0, f1, f2, f3, f4, f5, f6, f7, f8, f9, f10, f11, f12, f13, f14, f15, f16, f17, f18, f19, f20, f21, f22, _⟩ := h
  exact q_285v_3 (n0 := ρ 3) (n1 := ρ 2) (n2 := ρ 1) (n3 := ρ 0) (n4 := ρ 4) (n5 := ρ 5) (n6 := ρ 6) (n7 := ρ 7) (n8 := ρ 8) (H0 := η 0) (H1 := η 1) (H2 := η 2) f22 f21 f20 f19 f18 f17 f16 f15 f14 f13 f12 f11 f10 f9 f8 f7 f6 f5 f4 f3 f2 f1 f0
theorem q_285v_4 {n0 n1 n2 n3 n4 n5 n6 n7 n8 : Int} {H0 H1 H2 : gH} (f0 : n0 ≤ 2147483647) (f1 : (-2147483648) ≤ n0) (f2 : n1 ≤ 2147483647) (f3 : (-2147483648) ≤ n1) (f4 : n2 ≤ 2147483647) (f5 : (-2147483648) ≤ n2) (f6 : n3 = 285) (f7 : hWt T0 H0 ∧ preb_285v n3 n2 n1 n0 H0) (f8 : n4 ≤ 1) (f9 : 0 ≤ n4) (f10 : (hLe T0 H0 H1 ∧ hFr s_250.2.2.2.2 H0 H1 ∧ ((0 : Int) = 0 → H1.length = H0.length) ∧ hWt T0 H1) ∧ postb_250 n4 n3 n2 H0 H1) (f11 : n4 ≠ 0) (f12 : n5 = 328) (f13 : n5 = hV H1 (n3).toNat 66) (f14 : n6 ≤ 6) (f15 : 0 ≤ n6) (f16 : n6 = hV H1 (n5).toNat (n2).toNat) (f17 : n7 = 6) (f18 : n6 = n7) (f19 : n8 ≤ 1) (f20 : 0 ≤ n8) (f21 : (hLe T0 H1 H2 ∧ hFr s_284.2.2.2.2 H1 H2 ∧ ((0 : Int) = 0 → H2.length = H1.length) ∧ hWt T0 H2) ∧ postb_284 n8 n3 n1 n0 H1 H2) (f22 : n8 ≠ 0) : n1 ≤ 7 := by
  unfold preb_285v at f7
  unfold postb_250 at f10
  unfold postb_284 at f21
  have e0 : hV H1 328 = hV H0 328 := fRow f10.1.2.1 328 (by decide +kernel)
  have e1 : n6 = hV H0 328 (n2).toNat := (by rw [f12] at f16; exact f16 : n6 = hV H1 328 (n2).toNat).trans ((congrFun e0 _))
  have e2 : hV H1 285 64 = hV H0 285 64 := f10.1.2.1.1 285 64 (by decide +kernel)
  have e3 : hV H1 285 64 = hV H0 285 64 := e2
  have e4 : hV H2 285 18 = hV H1 285 18 := f21.1.2.1.1 285 18 (by decide +kernel)
  have e5 : hV H1 285 18 = hV H0 285 18 := f10.1.2.1.1 285 18 (by decide +kernel)
  have e6 : hV H2 285 18 = hV H0 285 18 := (e4).trans e5
  have e7 : hV H2 285 60 = hV H1 285 60 := f21.1.2.1.1 285 60 (by decide +kernel)
  have e8 : hV H1 285 60 = hV H0 285 60 := f10.1.2.1.1 285 60 (by decide +kernel)
  have e9 : hV H2 285 60 = hV H0 285 60 := (e7).trans e8
  have e10 : (0 : Int) ≤ hV H0 285 65 ∧ hV H0 285 65 ≤ 2147483647 := f7.1 285 65 _ _ (by decide +kernel)
  have e11 : (0 : Int) ≤ hV H1 285 64 ∧ hV H1 285 64 ≤ 20 := f10.1.2.2.2 285 64 _ _ (by decide +kernel)
  have e12 : (0 : Int) ≤ hV H0 285 64 ∧ hV H0 285 64 ≤ 20 := f7.1 285 64 _ _ (by decide +kernel)
  have e13 : (0 : Int) ≤ hV H2 285 18 ∧ hV H2 285 18 ≤ 8 := f21.1.2.2.2 285 18 _ _ (by decide +kernel)
  have e14 : (0 : Int) ≤ hV H0 285 18 ∧ hV H0 285 18 ≤ 8 := f7.1 285 18 _ _ (by decide +kernel)
  have e15 : (1 : Int) ≤ hV H2 285 60 ∧ hV H2 285 60 ≤ 6 := f21.1.2.2.2 285 60 _ _ (by decide +kernel)
  have e16 : (1 : Int) ≤ hV H0 285 60 ∧ hV H0 285 60 ≤ 6 := f7.1 285 60 _ _ (by decide +kernel)
  try simp only [e3] at e11
  try simp only [e6] at e13
  try simp only [e9] at e15
  try simp only [e3, e6, e9]
  have p0 := f7.2.1
  have p1 := f7.2.2.1
  have p2 := f7.2.2.2.1
  have p3 := f7.2.2.2.2.1
  have p4 := f7.2.2.2.2.2
  have r0_0 := f10.2
  have r1_0 := f21.2
  try simp only [e3] at r0_0
  try simp only [e3, e6, e9] at r1_0
  clear f13 f16 e0 e2 e3 e4 e5 e6 e7 e8 e9
  clear f7 f10 f21
  subst e1
  try (have wx := r1_0 (by omega); obtain ⟨w0, w1, w2, w3⟩ := wx)
  omega
def g_285v_s_4 : vG := ([(31, [8], [], 0), (1284, [8, 0, 2, 3], [1, 2], 0), (90, [8], [], 0), (91, [8], [], 1), (40, [6, 7], [], 0), (0, [7], [], 6), (22, [6, 5, 1], [1], 0), (90, [6], [], 0), (91, [6], [], 6), (20, [5, 0], [1], 66), (0, [5], [], 328), (31, [4], [], 0), (1250, [4, 0, 1], [0, 1], 0), (90, [4], [], 0), (91, [4], [], 1), (6000, [0, 1, 2, 3], [0], 0), (0, [0], [], 285), (90, [1], [], -2147483648), (91, [1], [], 2147483647), (90, [2], [], -2147483648), (91, [2], [], 2147483647), (90, [3], [], -2147483648), (91, [3], [], 2147483647)], (91, [2], [], 7))
theorem c_285v_s_4 : vOkm T0 (eP e_285v L_285v A_285v mu_285v none) 4 g_285v_s_4 := vOk_in fun ρ η h => by
  obtain ⟨f0, f1, f2, f3, f4, f5, f6, f7, f8, f9, f10, f11, f12, f13, f14, f15, f16, f17, f18, f19, f20, f21, f22, _⟩ := h
  exact q_285v_4 (n0 := ρ 3) (n1 := ρ 2) (n2 := ρ 1) (n3 := ρ 0) (n4 := ρ 4) (n5 := ρ 5) (n6 := ρ 6) (n7 := ρ 7) (n8 := ρ 8) (H0 := η 0) (H1 := η 1) (H2 := η 2) f22 f21 f20 f19 f18 f17 f16 f15 f14 f13 f12 f11 f10 f9 f8 f7 f6 f5 f4 f3 f2 f1 f0
theorem q_285v_5 {n0 n1 n2 n3 n4 n5 n6 n7 n8 : Int} {H0 H1 H2 : gH} (f0 : n0 ≤ 2147483647) (f1 : (-2147483648) ≤ n0) (f2 : n1 ≤ 2147483647) (f3 : (-2147483648) ≤ n1) (f4 : n2 ≤ 2147483647) (f5 : (-2147483648) ≤ n2) (f6 : n3 = 285) (f7 : hWt T0 H0 ∧ preb_285v n3 n2 n1 n0 H0) (f8 : n4 ≤ 1) (f9 : 0 ≤ n4) (f10 : (hLe T0 H0 H1 ∧ hFr s_250.2.2.2.2 H0 H1 ∧ ((0 : Int) = 0 → H1.length = H0.length) ∧ hWt T0 H1) ∧ postb_250 n4 n3 n2 H0 H1) (f11 : n4 ≠ 0) (f12 : n5 = 328) (f13 : n5 = hV H1 (n3).toNat 66) (f14 : n6 ≤ 6) (f15 : 0 ≤ n6) (f16 : n6 = hV H1 (n5).toNat (n2).toNat) (f17 : n7 = 6) (f18 : n6 = n7) (f19 : n8 ≤ 1) (f20 : 0 ≤ n8) (f21 : (hLe T0 H1 H2 ∧ hFr s_284.2.2.2.2 H1 H2 ∧ ((0 : Int) = 0 → H2.length = H1.length) ∧ hWt T0 H2) ∧ postb_284 n8 n3 n1 n0 H1 H2) (f22 : n8 ≠ 0) : preb_278 n3 n1 H2 := by
  unfold preb_285v at f7
  unfold postb_250 at f10
  unfold postb_284 at f21
  unfold preb_278
  have e0 : hV H1 328 = hV H0 328 := fRow f10.1.2.1 328 (by decide +kernel)
  have e1 : n6 = hV H0 328 (n2).toNat := (by rw [f12] at f16; exact f16 : n6 = hV H1 328 (n2).toNat).trans ((congrFun e0 _))
  have e2 : hV H1 285 64 = hV H0 285 64 := f10.1.2.1.1 285 64 (by decide +kernel)
  have e3 : hV H1 285 64 = hV H0 285 64 := e2
  have e4 : hV H2 285 18 = hV H1 285 18 := f21.1.2.1.1 285 18 (by decide +kernel)
  have e5 : hV H1 285 18 = hV H0 285 18 := f10.1.2.1.1 285 18 (by decide +kernel)
  have e6 : hV H2 285 18 = hV H0 285 18 := (e4).trans e5
  have e7 : hV H2 285 60 = hV H1 285 60 := f21.1.2.1.1 285 60 (by decide +kernel)
  have e8 : hV H1 285 60 = hV H0 285 60 := f10.1.2.1.1 285 60 (by decide +kernel)
  have e9 : hV H2 285 60 = hV H0 285 60 := (e7).trans e8
  have e10 : PG H1 = PG H0 := PG_fr f10.1.2.1 (by decide +kernel)
  have e11 : PG H2 = PG H1 := PG_fr f21.1.2.1 (by decide +kernel)
  have e12 : PG H2 = PG H0 := e11.trans e10
  have e13 : (0 : Int) ≤ hV H0 285 65 ∧ hV H0 285 65 ≤ 2147483647 := f7.1 285 65 _ _ (by decide +kernel)
  have e14 : (0 : Int) ≤ hV H1 285 64 ∧ hV H1 285 64 ≤ 20 := f10.1.2.2.2 285 64 _ _ (by decide +kernel)
  have e15 : (0 : Int) ≤ hV H0 285 64 ∧ hV H0 285 64 ≤ 20 := f7.1 285 64 _ _ (by decide +kernel)
  have e16 : (0 : Int) ≤ hV H2 285 18 ∧ hV H2 285 18 ≤ 8 := f21.1.2.2.2 285 18 _ _ (by decide +kernel)
  have e17 : (0 : Int) ≤ hV H0 285 18 ∧ hV H0 285 18 ≤ 8 := f7.1 285 18 _ _ (by decide +kernel)
  have e18 : (1 : Int) ≤ hV H2 285 60 ∧ hV H2 285 60 ≤ 6 := f21.1.2.2.2 285 60 _ _ (by decide +kernel)
  have e19 : (1 : Int) ≤ hV H0 285 60 ∧ hV H0 285 60 ≤ 6 := f7.1 285 60 _ _ (by decide +kernel)
  try simp only [e3] at e14
  try simp only [e6] at e16
  try simp only [e9] at e18
  try simp only [e3, e6, e9, e12]
  have p0 := f7.2.1
  have p1 := f7.2.2.1
  have p2 := f7.2.2.2.1
  have p3 := f7.2.2.2.2.1
  have p4 := f7.2.2.2.2.2
  have r0_0 := f10.2
  have r1_0 := f21.2
  try simp only [e3] at r0_0
  try simp only [e3, e6, e9, e12] at r1_0
  clear f13 f16 e0 e2 e3 e4 e5 e6 e7 e8 e9 e10 e11 e12
  clear f7 f10 f21
  subst e1
  try (have wx := r1_0 (by omega); obtain ⟨w0, w1, w2, w3⟩ := wx)
  refine ⟨?_, ?_⟩ <;> first | assumption | omega | trivial
def g_285v_s_5 : vG := ([(31, [8], [], 0), (1284, [8, 0, 2, 3], [1, 2], 0), (90, [8], [], 0), (91, [8], [], 1), (40, [6, 7], [], 0), (0, [7], [], 6), (22, [6, 5, 1], [1], 0), (90, [6], [], 0), (91, [6], [], 6), (20, [5, 0], [1], 66), (0, [5], [], 328), (31, [4], [], 0), (1250, [4, 0, 1], [0, 1], 0), (90, [4], [], 0), (91, [4], [], 1), (6000, [0, 1, 2, 3], [0], 0), (0, [0], [], 285), (90, [1], [], -2147483648), (91, [1], [], 2147483647), (90, [2], [], -2147483648), (91, [2], [], 2147483647), (90, [3], [], -2147483648), (91, [3], [], 2147483647)], (2278, [0, 2], [2], 0))
theorem c_285v_s_5 : vOkm T0 (eP e_285v L_285v A_285v mu_285v none) 4 g_285v_s_5 := vOk_in fun ρ η h => by
  obtain ⟨f0, f1, f2, f3, f4, f5, f6, f7, f8, f9, f10, f11, f12, f13, f14, f15, f16, f17, f18, f19, f20, f21, f22, _⟩ := h
  exact q_285v_5 (n0 := ρ 3) (n1 := ρ 2) (n2 := ρ 1) (n3 := ρ 0) (n4 := ρ 4) (n5 := ρ 5) (n6 := ρ 6) (n7 := ρ 7) (n8 := ρ 8) (H0 := η 0) (H1 := η 1) (H2 := η 2) f22 f21 f20 f19 f18 f17 f16 f15 f14 f13 f12 f11 f10 f9 f8 f7 f6 f5 f4 f3 f2 f1 f0
theorem q_285v_6 {n0 n1 n2 n3 n4 n5 n6 n7 n8 n9 n10 n11 n12 n13 : Int} {H0 H1 H2 H3 : gH} (f0 : n0 ≤ 2147483647) (f1 : (-2147483648) ≤ n0) (f2 : n1 ≤ 2147483647) (f3 : (-2147483648) ≤ n1) (f4 : n2 ≤ 2147483647) (f5 : (-2147483648) ≤ n2) (f6 : n3 = 285) (f7 : hWt T0 H0 ∧ preb_285v n3 n2 n1 n0 H0) (f8 : n4 ≤ 1) (f9 : 0 ≤ n4) (f10 : (hLe T0 H0 H1 ∧ hFr s_250.2.2.2.2 H0 H1 ∧ ((0 : Int) = 0 → H1.length = H0.length) ∧ hWt T0 H1) ∧ postb_250 n4 n3 n2 H0 H1) (f11 : n4 ≠ 0) (f12 : n5 = 328) (f13 : n5 = hV H1 (n3).toNat 66) (f14 : n6 ≤ 6) (f15 : 0 ≤ n6) (f16 : n6 = hV H1 (n5).toNat (n2).toNat) (f17 : n7 = 6) (f18 : n6 = n7) (f19 : n8 ≤ 1) (f20 : 0 ≤ n8) (f21 : (hLe T0 H1 H2 ∧ hFr s_284.2.2.2.2 H1 H2 ∧ ((0 : Int) = 0 → H2.length = H1.length) ∧ hWt T0 H2) ∧ postb_284 n8 n3 n1 n0 H1 H2) (f22 : n8 ≠ 0) (f23 : n9 ≤ 2147483647) (f24 : (-2147483648) ≤ n9) (f25 : (hLe T0 H2 H3 ∧ hFr s_278.2.2.2.2 H2 H3 ∧ ((0 : Int) = 0 → H3.length = H2.length) ∧ hWt T0 H3) ∧ postb_278 n9 n3 n1 H2 H3) (f26 : n10 = 1) (f27 : n11 ≤ 20) (f28 : 0 ≤ n11) (f29 : n11 = hV H3 (n3).toNat 64) (f30 : n12 = o32 (fun x y => x <<< (y &&& 31)) n10 n11) (f31 : n12 ≤ n9) (f32 : n13 = (-2)) : postb_285v n13 n3 n2 n1 n0 H0 H3 := by
  unfold preb_285v at f7
  unfold postb_250 at f10
  unfold postb_284 at f21
  unfold postb_278 at f25
  unfold postb_285v
  have e0 : hV H1 328 = hV H0 328 := fRow f10.1.2.1 328 (by decide +kernel)
  have e1 : n6 = hV H0 328 (n2).toNat := (by rw [f12] at f16; exact f16 : n6 = hV H1 328 (n2).toNat).trans ((congrFun e0 _))
  have e2 : hV H3 285 64 = hV H2 285 64 := f25.1.2.1.1 285 64 (by decide +kernel)
  have e3 : hV H2 285 64 = hV H1 285 64 := f21.1.2.1.1 285 64 (by decide +kernel)
  have e4 : hV H1 285 64 = hV H0 285 64 := f10.1.2.1.1 285 64 (by decide +kernel)
  have e5 : n11 = hV H0 285 64 := (by rw [f6] at f29; exact f29 : n11 = hV H3 285 64).trans ((e2).trans ((e3).trans e4))
  have e6 : hV H1 285 64 = hV H0 285 64 := e4
  have e7 : hV H2 285 18 = hV H1 285 18 := f21.1.2.1.1 285 18 (by decide +kernel)
  have e8 : hV H1 285 18 = hV H0 285 18 := f10.1.2.1.1 285 18 (by decide +kernel)
  have e9 : hV H2 285 18 = hV H0 285 18 := (e7).trans e8
  have e10 : hV H2 285 60 = hV H1 285 60 := f21.1.2.1.1 285 60 (by decide +kernel)
  have e11 : hV H1 285 60 = hV H0 285 60 := f10.1.2.1.1 285 60 (by decide +kernel)
  have e12 : hV H2 285 60 = hV H0 285 60 := (e10).trans e11
  have e13 : hV H3 285 65 = hV H2 285 65 := f25.1.2.1.1 285 65 (by decide +kernel)
  have e14 : hV H2 285 65 = hV H1 285 65 := f21.1.2.1.1 285 65 (by decide +kernel)
  have e15 : hV H1 285 65 = hV H0 285 65 := f10.1.2.1.1 285 65 (by decide +kernel)
  have e16 : hV H3 285 65 = hV H0 285 65 := (e13).trans ((e14).trans e15)
  have e17 : hV H3 296 = hV H2 296 := fRow f25.1.2.1 296 (by decide +kernel)
  have e18 : hV H2 296 = hV H1 296 := fRow f21.1.2.1 296 (by decide +kernel)
  have e19 : hV H1 296 = hV H0 296 := fRow f10.1.2.1 296 (by decide +kernel)
  have e20 : hV H2 296 = hV H0 296 := e18.trans e19
  have e21 : hV H3 296 = hV H0 296 := e17.trans e20
  have e22 : hV H3 298 = hV H2 298 := fRow f25.1.2.1 298 (by decide +kernel)
  have e23 : hV H2 298 = hV H1 298 := fRow f21.1.2.1 298 (by decide +kernel)
  have e24 : hV H1 298 = hV H0 298 := fRow f10.1.2.1 298 (by decide +kernel)
  have e25 : hV H2 298 = hV H0 298 := e23.trans e24
  have e26 : hV H3 298 = hV H0 298 := e22.trans e25
  have e27 : hV H3 300 = hV H2 300 := fRow f25.1.2.1 300 (by decide +kernel)
  have e28 : hV H2 300 = hV H1 300 := fRow f21.1.2.1 300 (by decide +kernel)
  have e29 : hV H1 300 = hV H0 300 := fRow f10.1.2.1 300 (by decide +kernel)
  have e30 : hV H2 300 = hV H0 300 := e28.trans e29
  have e31 : hV H3 300 = hV H0 300 := e27.trans e30
  have e32 : hV H3 329 = hV H2 329 := fRow f25.1.2.1 329 (by decide +kernel)
  have e33 : hV H2 329 = hV H1 329 := fRow f21.1.2.1 329 (by decide +kernel)
  have e34 : hV H1 329 = hV H0 329 := fRow f10.1.2.1 329 (by decide +kernel)
  have e35 : hV H2 329 = hV H0 329 := e33.trans e34
  have e36 : hV H3 329 = hV H0 329 := e32.trans e35
  have e37 : AC H1 = AC H0 := AC_fr f10.1.2.1 (by decide +kernel)
  have e38 : AC H2 = AC H1 := AC_fr f21.1.2.1 (by decide +kernel)
  have e39 : AC H2 = AC H0 := e38.trans e37
  have e40 : AC H3 = AC H2 := AC_fr f25.1.2.1 (by decide +kernel)
  have e41 : AC H3 = AC H0 := e40.trans e39
  have e42 : SO H1 = SO H0 := SO_fr f10.1.2.1 (by decide +kernel)
  have e43 : SO H2 = SO H1 := SO_fr f21.1.2.1 (by decide +kernel)
  have e44 : SO H2 = SO H0 := e43.trans e42
  have e45 : SO H3 = SO H2 := SO_fr f25.1.2.1 (by decide +kernel)
  have e46 : SO H3 = SO H0 := e45.trans e44
  have e47 : SS H1 = SS H0 := SS_fr f10.1.2.1 (by decide +kernel)
  have e48 : SS H2 = SS H1 := SS_fr f21.1.2.1 (by decide +kernel)
  have e49 : SS H2 = SS H0 := e48.trans e47
  have e50 : SS H3 = SS H2 := SS_fr f25.1.2.1 (by decide +kernel)
  have e51 : SS H3 = SS H0 := e50.trans e49
  have e52 : (0 : Int) ≤ hV H0 285 65 ∧ hV H0 285 65 ≤ 2147483647 := f7.1 285 65 _ _ (by decide +kernel)
  have e53 : (0 : Int) ≤ hV H1 285 64 ∧ hV H1 285 64 ≤ 20 := f10.1.2.2.2 285 64 _ _ (by decide +kernel)
  have e54 : (0 : Int) ≤ hV H0 285 64 ∧ hV H0 285 64 ≤ 20 := f7.1 285 64 _ _ (by decide +kernel)
  have e55 : (0 : Int) ≤ hV H2 285 18 ∧ hV H2 285 18 ≤ 8 := f21.1.2.2.2 285 18 _ _ (by decide +kernel)
  have e56 : (0 : Int) ≤ hV H0 285 18 ∧ hV H0 285 18 ≤ 8 := f7.1 285 18 _ _ (by decide +kernel)
  have e57 : (1 : Int) ≤ hV H2 285 60 ∧ hV H2 285 60 ≤ 6 := f21.1.2.2.2 285 60 _ _ (by decide +kernel)
  have e58 : (1 : Int) ≤ hV H0 285 60 ∧ hV H0 285 60 ≤ 6 := f7.1 285 60 _ _ (by decide +kernel)
  have e59 : (0 : Int) ≤ hV H3 285 65 ∧ hV H3 285 65 ≤ 2147483647 := f25.1.2.2.2 285 65 _ _ (by decide +kernel)
  try simp only [e6] at e53
  try simp only [e9] at e55
  try simp only [e12] at e57
  try simp only [e16] at e59
  try simp only [e6, e9, e12, e16, e21, e26, e31, e36, e41, e46, e51]
  have p0 := f7.2.1
  have p1 := f7.2.2.1
  have p2 := f7.2.2.2.1
  have p3 := f7.2.2.2.2.1
  have p4 := f7.2.2.2.2.2
  have r0_0 := f10.2
  have r1_0 := f21.2
  have r2_0 := f25.2
  try simp only [e6] at r0_0
  try simp only [e6, e9, e12] at r1_0
  try simp only [e9, e12, e16, e21, e26, e31, e36, e41, e46, e51] at r2_0
  clear f13 f16 f29 e0 e2 e3 e4 e6 e7 e8 e9 e10 e11 e12 e13 e14 e15 e16 e17 e18 e19 e20 e21 e22 e23 e24 e25 e26 e27 e28 e29 e30 e31 e32 e33 e34 e35 e36 e37 e38 e39 e40 e41 e42 e43 e44 e45 e46 e47 e48 e49 e50 e51
  clear f7 f10 f21 f25
  subst e1
  subst e5
  try (have wx := r1_0 (by omega); obtain ⟨w0, w1, w2, w3⟩ := wx)

  exact ⟨p0, p1, p3, by omega, fun s _ => rfl⟩
def g_285v_s_6 : vG := ([(0, [13], [], -2), (43, [9, 12], [], 0), (7, [12, 10, 11], [], 0), (20, [11, 0], [3], 64), (90, [11], [], 0), (91, [11], [], 20), (0, [10], [], 1), (1278, [9, 0, 2], [2, 3], 0), (90, [9], [], -2147483648), (91, [9], [], 2147483647), (31, [8], [], 0), (1284, [8, 0, 2, 3], [1, 2], 0), (90, [8], [], 0), (91, [8], [], 1), (40, [6, 7], [], 0), (0, [7], [], 6), (22, [6, 5, 1], [1], 0), (90, [6], [], 0), (91, [6], [], 6), (20, [5, 0], [1], 66), (0, [5], [], 328), (31, [4], [], 0), (1250, [4, 0, 1], [0, 1], 0), (90, [4], [], 0), (91, [4], [], 1), (6000, [0, 1, 2, 3], [0], 0), (0, [0], [], 285), (90, [1], [], -2147483648), (91, [1], [], 2147483647), (90, [2], [], -2147483648), (91, [2], [], 2147483647), (90, [3], [], -2147483648), (91, [3], [], 2147483647)], (3000, [13], [3], 60))
theorem c_285v_s_6 : vOkm T0 (eP e_285v L_285v A_285v mu_285v none) 4 g_285v_s_6 := vOk_in fun ρ η h => by
  obtain ⟨f0, f1, f2, f3, f4, f5, f6, f7, f8, f9, f10, f11, f12, f13, f14, f15, f16, f17, f18, f19, f20, f21, f22, f23, f24, f25, f26, f27, f28, f29, f30, f31, f32, _⟩ := h
  exact q_285v_6 (n0 := ρ 3) (n1 := ρ 2) (n2 := ρ 1) (n3 := ρ 0) (n4 := ρ 4) (n5 := ρ 5) (n6 := ρ 6) (n7 := ρ 7) (n8 := ρ 8) (n9 := ρ 9) (n10 := ρ 10) (n11 := ρ 11) (n12 := ρ 12) (n13 := ρ 13) (H0 := η 0) (H1 := η 1) (H2 := η 2) (H3 := η 3) f32 f31 f30 f29 f28 f27 f26 f25 f24 f23 f22 f21 f20 f19 f18 f17 f16 f15 f14 f13 f12 f11 f10 f9 f8 f7 f6 f5 f4 f3 f2 f1 f0
theorem q_285v_7 {n0 n1 n2 n3 n4 n5 n6 n7 n8 n9 n10 n11 n12 n13 n14 n15 n16 n17 : Int} {H0 H1 H2 H3 : gH} (f0 : n0 ≤ 2147483647) (f1 : (-2147483648) ≤ n0) (f2 : n1 ≤ 2147483647) (f3 : (-2147483648) ≤ n1) (f4 : n2 ≤ 2147483647) (f5 : (-2147483648) ≤ n2) (f6 : n3 = 285) (f7 : hWt T0 H0 ∧ preb_285v n3 n2 n1 n0 H0) (f8 : n4 ≤ 1) (f9 : 0 ≤ n4) (f10 : (hLe T0 H0 H1 ∧ hFr s_250.2.2.2.2 H0 H1 ∧ ((0 : Int) = 0 → H1.length = H0.length) ∧ hWt T0 H1) ∧ postb_250 n4 n3 n2 H0 H1) (f11 : n4 ≠ 0) (f12 : n5 = 328) (f13 : n5 = hV H1 (n3).toNat 66) (f14 : n6 ≤ 6) (f15 : 0 ≤ n6) (f16 : n6 = hV H1 (n5).toNat (n2).toNat) (f17 : n7 = 6) (f18 : n6 = n7) (f19 : n8 ≤ 1) (f20 : 0 ≤ n8) (f21 : (hLe T0 H1 H2 ∧ hFr s_284.2.2.2.2 H1 H2 ∧ ((0 : Int) = 0 → H2.length = H1.length) ∧ hWt T0 H2) ∧ postb_284 n8 n3 n1 n0 H1 H2) (f22 : n8 ≠ 0) (f23 : n9 ≤ 2147483647) (f24 : (-2147483648) ≤ n9) (f25 : (hLe T0 H2 H3 ∧ hFr s_278.2.2.2.2 H2 H3 ∧ ((0 : Int) = 0 → H3.length = H2.length) ∧ hWt T0 H3) ∧ postb_278 n9 n3 n1 H2 H3) (f26 : n10 = 1) (f27 : n11 ≤ 20) (f28 : 0 ≤ n11) (f29 : n11 = hV H3 (n3).toNat 64) (f30 : n12 = o32 (fun x y => x <<< (y &&& 31)) n10 n11) (f31 : n9 < n12) (f32 : n13 = o32 (fun x y => x >>> (y &&& 31)) n9 n2) (f33 : n14 = 1) (f34 : n15 = o32 (fun x y => x &&& y) n13 n14) (f35 : n16 = 1) (f36 : n15 ≠ n16) (f37 : n17 = 0) : Ab_285v_64 n3 n2 n1 n0 n3 n2 n1 n0 n9 n17 H0 H3 ∧ ∀ q, none = some q → mub_285v_64 n3 n2 n1 n0 n3 n2 n1 n0 n9 n17 H0 H3 < q := by
  unfold preb_285v at f7
  unfold postb_250 at f10
  unfold postb_284 at f21
  unfold postb_278 at f25
  unfold Ab_285v_64
  have e0 : hV H1 328 = hV H0 328 := fRow f10.1.2.1 328 (by decide +kernel)
  have e1 : n6 = hV H0 328 (n2).toNat := (by rw [f12] at f16; exact f16 : n6 = hV H1 328 (n2).toNat).trans ((congrFun e0 _))
  have e2 : hV H3 285 64 = hV H2 285 64 := f25.1.2.1.1 285 64 (by decide +kernel)
  have e3 : hV H2 285 64 = hV H1 285 64 := f21.1.2.1.1 285 64 (by decide +kernel)
  have e4 : hV H1 285 64 = hV H0 285 64 := f10.1.2.1.1 285 64 (by decide +kernel)
  have e5 : n11 = hV H0 285 64 := (by rw [f6] at f29; exact f29 : n11 = hV H3 285 64).trans ((e2).trans ((e3).trans e4))
  have e6 : hV H1 285 64 = hV H0 285 64 := e4
  have e7 : hV H2 285 18 = hV H1 285 18 := f21.1.2.1.1 285 18 (by decide +kernel)
  have e8 : hV H1 285 18 = hV H0 285 18 := f10.1.2.1.1 285 18 (by decide +kernel)
  have e9 : hV H2 285 18 = hV H0 285 18 := (e7).trans e8
  have e10 : hV H2 285 60 = hV H1 285 60 := f21.1.2.1.1 285 60 (by decide +kernel)
  have e11 : hV H1 285 60 = hV H0 285 60 := f10.1.2.1.1 285 60 (by decide +kernel)
  have e12 : hV H2 285 60 = hV H0 285 60 := (e10).trans e11
  have e13 : hV H3 285 18 = hV H2 285 18 := f25.1.2.1.1 285 18 (by decide +kernel)
  have e14 : hV H3 285 18 = hV H0 285 18 := (e13).trans ((e7).trans e8)
  have e15 : hV H3 285 64 = hV H0 285 64 := (e2).trans ((e3).trans e4)
  have e16 : hV H3 285 65 = hV H2 285 65 := f25.1.2.1.1 285 65 (by decide +kernel)
  have e17 : hV H2 285 65 = hV H1 285 65 := f21.1.2.1.1 285 65 (by decide +kernel)
  have e18 : hV H1 285 65 = hV H0 285 65 := f10.1.2.1.1 285 65 (by decide +kernel)
  have e19 : hV H3 285 65 = hV H0 285 65 := (e16).trans ((e17).trans e18)
  have e20 : hV H3 296 = hV H2 296 := fRow f25.1.2.1 296 (by decide +kernel)
  have e21 : hV H2 296 = hV H1 296 := fRow f21.1.2.1 296 (by decide +kernel)
  have e22 : hV H1 296 = hV H0 296 := fRow f10.1.2.1 296 (by decide +kernel)
  have e23 : hV H2 296 = hV H0 296 := e21.trans e22
  have e24 : hV H3 296 = hV H0 296 := e20.trans e23
  have e25 : hV H3 298 = hV H2 298 := fRow f25.1.2.1 298 (by decide +kernel)
  have e26 : hV H2 298 = hV H1 298 := fRow f21.1.2.1 298 (by decide +kernel)
  have e27 : hV H1 298 = hV H0 298 := fRow f10.1.2.1 298 (by decide +kernel)
  have e28 : hV H2 298 = hV H0 298 := e26.trans e27
  have e29 : hV H3 298 = hV H0 298 := e25.trans e28
  have e30 : hV H3 300 = hV H2 300 := fRow f25.1.2.1 300 (by decide +kernel)
  have e31 : hV H2 300 = hV H1 300 := fRow f21.1.2.1 300 (by decide +kernel)
  have e32 : hV H1 300 = hV H0 300 := fRow f10.1.2.1 300 (by decide +kernel)
  have e33 : hV H2 300 = hV H0 300 := e31.trans e32
  have e34 : hV H3 300 = hV H0 300 := e30.trans e33
  have e35 : hV H3 328 = hV H2 328 := fRow f25.1.2.1 328 (by decide +kernel)
  have e36 : hV H2 328 = hV H1 328 := fRow f21.1.2.1 328 (by decide +kernel)
  have e37 : hV H2 328 = hV H0 328 := e36.trans e0
  have e38 : hV H3 328 = hV H0 328 := e35.trans e37
  have e39 : hV H3 329 = hV H2 329 := fRow f25.1.2.1 329 (by decide +kernel)
  have e40 : hV H2 329 = hV H1 329 := fRow f21.1.2.1 329 (by decide +kernel)
  have e41 : hV H1 329 = hV H0 329 := fRow f10.1.2.1 329 (by decide +kernel)
  have e42 : hV H2 329 = hV H0 329 := e40.trans e41
  have e43 : hV H3 329 = hV H0 329 := e39.trans e42
  have e44 : hV H3 332 = hV H2 332 := fRow f25.1.2.1 332 (by decide +kernel)
  have e45 : hV H2 332 = hV H1 332 := fRow f21.1.2.1 332 (by decide +kernel)
  have e46 : hV H1 332 = hV H0 332 := fRow f10.1.2.1 332 (by decide +kernel)
  have e47 : hV H2 332 = hV H0 332 := e45.trans e46
  have e48 : hV H3 332 = hV H0 332 := e44.trans e47
  have e49 : hV H3 335 = hV H2 335 := fRow f25.1.2.1 335 (by decide +kernel)
  have e50 : hV H2 335 = hV H1 335 := fRow f21.1.2.1 335 (by decide +kernel)
  have e51 : hV H1 335 = hV H0 335 := fRow f10.1.2.1 335 (by decide +kernel)
  have e52 : hV H2 335 = hV H0 335 := e50.trans e51
  have e53 : hV H3 335 = hV H0 335 := e49.trans e52
  have e54 : AC H1 = AC H0 := AC_fr f10.1.2.1 (by decide +kernel)
  have e55 : AC H2 = AC H1 := AC_fr f21.1.2.1 (by decide +kernel)
  have e56 : AC H2 = AC H0 := e55.trans e54
  have e57 : AC H3 = AC H2 := AC_fr f25.1.2.1 (by decide +kernel)
  have e58 : AC H3 = AC H0 := e57.trans e56
  have e59 : SO H1 = SO H0 := SO_fr f10.1.2.1 (by decide +kernel)
  have e60 : SO H2 = SO H1 := SO_fr f21.1.2.1 (by decide +kernel)
  have e61 : SO H2 = SO H0 := e60.trans e59
  have e62 : SO H3 = SO H2 := SO_fr f25.1.2.1 (by decide +kernel)
  have e63 : SO H3 = SO H0 := e62.trans e61
  have e64 : SS H1 = SS H0 := SS_fr f10.1.2.1 (by decide +kernel)
  have e65 : SS H2 = SS H1 := SS_fr f21.1.2.1 (by decide +kernel)
  have e66 : SS H2 = SS H0 := e65.trans e64
  have e67 : SS H3 = SS H2 := SS_fr f25.1.2.1 (by decide +kernel)
  have e68 : SS H3 = SS H0 := e67.trans e66
  have e69 : (0 : Int) ≤ hV H0 285 65 ∧ hV H0 285 65 ≤ 2147483647 := f7.1 285 65 _ _ (by decide +kernel)
  have e70 : (0 : Int) ≤ hV H1 285 64 ∧ hV H1 285 64 ≤ 20 := f10.1.2.2.2 285 64 _ _ (by decide +kernel)
  have e71 : (0 : Int) ≤ hV H0 285 64 ∧ hV H0 285 64 ≤ 20 := f7.1 285 64 _ _ (by decide +kernel)
  have e72 : (0 : Int) ≤ hV H2 285 18 ∧ hV H2 285 18 ≤ 8 := f21.1.2.2.2 285 18 _ _ (by decide +kernel)
  have e73 : (0 : Int) ≤ hV H0 285 18 ∧ hV H0 285 18 ≤ 8 := f7.1 285 18 _ _ (by decide +kernel)
  have e74 : (1 : Int) ≤ hV H2 285 60 ∧ hV H2 285 60 ≤ 6 := f21.1.2.2.2 285 60 _ _ (by decide +kernel)
  have e75 : (1 : Int) ≤ hV H0 285 60 ∧ hV H0 285 60 ≤ 6 := f7.1 285 60 _ _ (by decide +kernel)
  have e76 : (0 : Int) ≤ hV H3 285 18 ∧ hV H3 285 18 ≤ 8 := f25.1.2.2.2 285 18 _ _ (by decide +kernel)
  have e77 : (0 : Int) ≤ hV H3 285 64 ∧ hV H3 285 64 ≤ 20 := f25.1.2.2.2 285 64 _ _ (by decide +kernel)
  have e78 : (0 : Int) ≤ hV H3 285 65 ∧ hV H3 285 65 ≤ 2147483647 := f25.1.2.2.2 285 65 _ _ (by decide +kernel)
  try simp only [e6] at e70
  try simp only [e9] at e72
  try simp only [e12] at e74
  try simp only [e14] at e76
  try simp only [e15] at e77
  try simp only [e19] at e78
  try simp only [e6, e9, e12, e14, e15, e19, e24, e29, e34, e38, e43, e48, e53, e58, e63, e68]
  have p0 := f7.2.1
  have p1 := f7.2.2.1
  have p2 := f7.2.2.2.1
  have p3 := f7.2.2.2.2.1
  have p4 := f7.2.2.2.2.2
  have r0_0 := f10.2
  have r1_0 := f21.2
  have r2_0 := f25.2
  try simp only [e6] at r0_0
  try simp only [e6, e9, e12] at r1_0
  try simp only [e9, e12, e14, e15, e19, e24, e29, e34, e38, e43, e48, e53, e58, e63, e68] at r2_0
  clear f13 f16 f29 e0 e2 e3 e4 e6 e7 e8 e9 e10 e11 e12 e13 e14 e15 e16 e17 e18 e19 e20 e21 e22 e23 e24 e25 e26 e27 e28 e29 e30 e31 e32 e33 e34 e35 e36 e37 e38 e39 e40 e41 e42 e43 e44 e45 e46 e47 e48 e49 e50 e51 e52 e53 e54 e55 e56 e57 e58 e59 e60 e61 e62 e63 e64 e65 e66 e67 e68
  clear f7 f10 f21 f25
  subst e1
  subst e5
  have b34 := o32_and_r f34 (by omega) (by omega)
  try (have wx := r1_0 (by omega); obtain ⟨w0, w1, w2, w3⟩ := wx)

  obtain ⟨w0, w1, w2, w3⟩ := r1_0 (by omega)
  have pg := p2 (n1).toNat (by omega)
  have tb := bt_test f32 f34 (by omega) (by omega) (by omega)
  refine ⟨?_, fun q hq => ?_⟩
  · exact ⟨by first | omega | trivial, by first | omega | trivial, by first | omega | trivial, r2_0, (fun j hj => by omega), set_lt r2_0 (LY_lt pg) (by omega) (by omega) f30 (by omega) (by omega) (by omega) (by omega), (fun z => by have := tb.1.mpr ((r2_0 _ (by omega)).mpr z); omega), by omega, by omega, by omega, by omega, by omega, by omega, by omega, p0, p1, p3, by first | omega | trivial, by first | rfl | trivial⟩
  · exact nomatch hq
def g_285v_s_7 : vG := ([(0, [17], [], 0), (41, [15, 16], [], 0), (0, [16], [], 1), (4, [15, 13, 14], [], 0), (0, [14], [], 1), (8, [13, 9, 1], [], 0), (42, [9, 12], [], 0), (7, [12, 10, 11], [], 0), (20, [11, 0], [3], 64), (90, [11], [], 0), (91, [11], [], 20), (0, [10], [], 1), (1278, [9, 0, 2], [2, 3], 0), (90, [9], [], -2147483648), (91, [9], [], 2147483647), (31, [8], [], 0), (1284, [8, 0, 2, 3], [1, 2], 0), (90, [8], [], 0), (91, [8], [], 1), (40, [6, 7], [], 0), (0, [7], [], 6), (22, [6, 5, 1], [1], 0), (90, [6], [], 0), (91, [6], [], 6), (20, [5, 0], [1], 66), (0, [5], [], 328), (31, [4], [], 0), (1250, [4, 0, 1], [0, 1], 0), (90, [4], [], 0), (91, [4], [], 1), (6000, [0, 1, 2, 3], [0], 0), (0, [0], [], 285), (90, [1], [], -2147483648), (91, [1], [], 2147483647), (90, [2], [], -2147483648), (91, [2], [], 2147483647), (90, [3], [], -2147483648), (91, [3], [], 2147483647)], (4000, [0, 1, 2, 3, 9, 17], [3], 64))
theorem c_285v_s_7 : vOkm T0 (eP e_285v L_285v A_285v mu_285v none) 4 g_285v_s_7 := vOk_in fun ρ η h => by
  obtain ⟨f0, f1, f2, f3, f4, f5, f6, f7, f8, f9, f10, f11, f12, f13, f14, f15, f16, f17, f18, f19, f20, f21, f22, f23, f24, f25, f26, f27, f28, f29, f30, f31, f32, f33, f34, f35, f36, f37, _⟩ := h
  exact q_285v_7 (n0 := ρ 3) (n1 := ρ 2) (n2 := ρ 1) (n3 := ρ 0) (n4 := ρ 4) (n5 := ρ 5) (n6 := ρ 6) (n7 := ρ 7) (n8 := ρ 8) (n9 := ρ 9) (n10 := ρ 10) (n11 := ρ 11) (n12 := ρ 12) (n13 := ρ 13) (n14 := ρ 14) (n15 := ρ 15) (n16 := ρ 16) (n17 := ρ 17) (H0 := η 0) (H1 := η 1) (H2 := η 2) (H3 := η 3) f37 f36 f35 f34 f33 f32 f31 f30 f29 f28 f27 f26 f25 f24 f23 f22 f21 f20 f19 f18 f17 f16 f15 f14 f13 f12 f11 f10 f9 f8 f7 f6 f5 f4 f3 f2 f1 f0
theorem q_285v_8 {n0 n1 n2 n3 n4 n5 n6 n7 n8 n9 n10 n11 n12 n13 n14 n15 n16 n17 : Int} {H0 H1 H2 H3 : gH} (f0 : n0 ≤ 2147483647) (f1 : (-2147483648) ≤ n0) (f2 : n1 ≤ 2147483647) (f3 : (-2147483648) ≤ n1) (f4 : n2 ≤ 2147483647) (f5 : (-2147483648) ≤ n2) (f6 : n3 = 285) (f7 : hWt T0 H0 ∧ preb_285v n3 n2 n1 n0 H0) (f8 : n4 ≤ 1) (f9 : 0 ≤ n4) (f10 : (hLe T0 H0 H1 ∧ hFr s_250.2.2.2.2 H0 H1 ∧ ((0 : Int) = 0 → H1.length = H0.length) ∧ hWt T0 H1) ∧ postb_250 n4 n3 n2 H0 H1) (f11 : n4 ≠ 0) (f12 : n5 = 328) (f13 : n5 = hV H1 (n3).toNat 66) (f14 : n6 ≤ 6) (f15 : 0 ≤ n6) (f16 : n6 = hV H1 (n5).toNat (n2).toNat) (f17 : n7 = 6) (f18 : n6 = n7) (f19 : n8 ≤ 1) (f20 : 0 ≤ n8) (f21 : (hLe T0 H1 H2 ∧ hFr s_284.2.2.2.2 H1 H2 ∧ ((0 : Int) = 0 → H2.length = H1.length) ∧ hWt T0 H2) ∧ postb_284 n8 n3 n1 n0 H1 H2) (f22 : n8 ≠ 0) (f23 : n9 ≤ 2147483647) (f24 : (-2147483648) ≤ n9) (f25 : (hLe T0 H2 H3 ∧ hFr s_278.2.2.2.2 H2 H3 ∧ ((0 : Int) = 0 → H3.length = H2.length) ∧ hWt T0 H3) ∧ postb_278 n9 n3 n1 H2 H3) (f26 : n10 = 1) (f27 : n11 ≤ 20) (f28 : 0 ≤ n11) (f29 : n11 = hV H3 (n3).toNat 64) (f30 : n12 = o32 (fun x y => x <<< (y &&& 31)) n10 n11) (f31 : n9 < n12) (f32 : n13 = o32 (fun x y => x >>> (y &&& 31)) n9 n2) (f33 : n14 = 1) (f34 : n15 = o32 (fun x y => x &&& y) n13 n14) (f35 : n16 = 1) (f36 : n15 = n16) (f37 : n17 = (-2)) : postb_285v n17 n3 n2 n1 n0 H0 H3 := by
  unfold preb_285v at f7
  unfold postb_250 at f10
  unfold postb_284 at f21
  unfold postb_278 at f25
  unfold postb_285v
  have e0 : hV H1 328 = hV H0 328 := fRow f10.1.2.1 328 (by decide +kernel)
  have e1 : n6 = hV H0 328 (n2).toNat := (by rw [f12] at f16; exact f16 : n6 = hV H1 328 (n2).toNat).trans ((congrFun e0 _))
  have e2 : hV H3 285 64 = hV H2 285 64 := f25.1.2.1.1 285 64 (by decide +kernel)
  have e3 : hV H2 285 64 = hV H1 285 64 := f21.1.2.1.1 285 64 (by decide +kernel)
  have e4 : hV H1 285 64 = hV H0 285 64 := f10.1.2.1.1 285 64 (by decide +kernel)
  have e5 : n11 = hV H0 285 64 := (by rw [f6] at f29; exact f29 : n11 = hV H3 285 64).trans ((e2).trans ((e3).trans e4))
  have e6 : hV H1 285 64 = hV H0 285 64 := e4
  have e7 : hV H2 285 18 = hV H1 285 18 := f21.1.2.1.1 285 18 (by decide +kernel)
  have e8 : hV H1 285 18 = hV H0 285 18 := f10.1.2.1.1 285 18 (by decide +kernel)
  have e9 : hV H2 285 18 = hV H0 285 18 := (e7).trans e8
  have e10 : hV H2 285 60 = hV H1 285 60 := f21.1.2.1.1 285 60 (by decide +kernel)
  have e11 : hV H1 285 60 = hV H0 285 60 := f10.1.2.1.1 285 60 (by decide +kernel)
  have e12 : hV H2 285 60 = hV H0 285 60 := (e10).trans e11
  have e13 : hV H3 285 65 = hV H2 285 65 := f25.1.2.1.1 285 65 (by decide +kernel)
  have e14 : hV H2 285 65 = hV H1 285 65 := f21.1.2.1.1 285 65 (by decide +kernel)
  have e15 : hV H1 285 65 = hV H0 285 65 := f10.1.2.1.1 285 65 (by decide +kernel)
  have e16 : hV H3 285 65 = hV H0 285 65 := (e13).trans ((e14).trans e15)
  have e17 : hV H3 296 = hV H2 296 := fRow f25.1.2.1 296 (by decide +kernel)
  have e18 : hV H2 296 = hV H1 296 := fRow f21.1.2.1 296 (by decide +kernel)
  have e19 : hV H1 296 = hV H0 296 := fRow f10.1.2.1 296 (by decide +kernel)
  have e20 : hV H2 296 = hV H0 296 := e18.trans e19
  have e21 : hV H3 296 = hV H0 296 := e17.trans e20
  have e22 : hV H3 298 = hV H2 298 := fRow f25.1.2.1 298 (by decide +kernel)
  have e23 : hV H2 298 = hV H1 298 := fRow f21.1.2.1 298 (by decide +kernel)
  have e24 : hV H1 298 = hV H0 298 := fRow f10.1.2.1 298 (by decide +kernel)
  have e25 : hV H2 298 = hV H0 298 := e23.trans e24
  have e26 : hV H3 298 = hV H0 298 := e22.trans e25
  have e27 : hV H3 300 = hV H2 300 := fRow f25.1.2.1 300 (by decide +kernel)
  have e28 : hV H2 300 = hV H1 300 := fRow f21.1.2.1 300 (by decide +kernel)
  have e29 : hV H1 300 = hV H0 300 := fRow f10.1.2.1 300 (by decide +kernel)
  have e30 : hV H2 300 = hV H0 300 := e28.trans e29
  have e31 : hV H3 300 = hV H0 300 := e27.trans e30
  have e32 : hV H3 329 = hV H2 329 := fRow f25.1.2.1 329 (by decide +kernel)
  have e33 : hV H2 329 = hV H1 329 := fRow f21.1.2.1 329 (by decide +kernel)
  have e34 : hV H1 329 = hV H0 329 := fRow f10.1.2.1 329 (by decide +kernel)
  have e35 : hV H2 329 = hV H0 329 := e33.trans e34
  have e36 : hV H3 329 = hV H0 329 := e32.trans e35
  have e37 : AC H1 = AC H0 := AC_fr f10.1.2.1 (by decide +kernel)
  have e38 : AC H2 = AC H1 := AC_fr f21.1.2.1 (by decide +kernel)
  have e39 : AC H2 = AC H0 := e38.trans e37
  have e40 : AC H3 = AC H2 := AC_fr f25.1.2.1 (by decide +kernel)
  have e41 : AC H3 = AC H0 := e40.trans e39
  have e42 : SO H1 = SO H0 := SO_fr f10.1.2.1 (by decide +kernel)
  have e43 : SO H2 = SO H1 := SO_fr f21.1.2.1 (by decide +kernel)
  have e44 : SO H2 = SO H0 := e43.trans e42
  have e45 : SO H3 = SO H2 := SO_fr f25.1.2.1 (by decide +kernel)
  have e46 : SO H3 = SO H0 := e45.trans e44
  have e47 : SS H1 = SS H0 := SS_fr f10.1.2.1 (by decide +kernel)
  have e48 : SS H2 = SS H1 := SS_fr f21.1.2.1 (by decide +kernel)
  have e49 : SS H2 = SS H0 := e48.trans e47
  have e50 : SS H3 = SS H2 := SS_fr f25.1.2.1 (by decide +kernel)
  have e51 : SS H3 = SS H0 := e50.trans e49
  have e52 : (0 : Int) ≤ hV H0 285 65 ∧ hV H0 285 65 ≤ 2147483647 := f7.1 285 65 _ _ (by decide +kernel)
  have e53 : (0 : Int) ≤ hV H1 285 64 ∧ hV H1 285 64 ≤ 20 := f10.1.2.2.2 285 64 _ _ (by decide +kernel)
  have e54 : (0 : Int) ≤ hV H0 285 64 ∧ hV H0 285 64 ≤ 20 := f7.1 285 64 _ _ (by decide +kernel)
  have e55 : (0 : Int) ≤ hV H2 285 18 ∧ hV H2 285 18 ≤ 8 := f21.1.2.2.2 285 18 _ _ (by decide +kernel)
  have e56 : (0 : Int) ≤ hV H0 285 18 ∧ hV H0 285 18 ≤ 8 := f7.1 285 18 _ _ (by decide +kernel)
  have e57 : (1 : Int) ≤ hV H2 285 60 ∧ hV H2 285 60 ≤ 6 := f21.1.2.2.2 285 60 _ _ (by decide +kernel)
  have e58 : (1 : Int) ≤ hV H0 285 60 ∧ hV H0 285 60 ≤ 6 := f7.1 285 60 _ _ (by decide +kernel)
  have e59 : (0 : Int) ≤ hV H3 285 65 ∧ hV H3 285 65 ≤ 2147483647 := f25.1.2.2.2 285 65 _ _ (by decide +kernel)
  try simp only [e6] at e53
  try simp only [e9] at e55
  try simp only [e12] at e57
  try simp only [e16] at e59
  try simp only [e6, e9, e12, e16, e21, e26, e31, e36, e41, e46, e51]
  have p0 := f7.2.1
  have p1 := f7.2.2.1
  have p2 := f7.2.2.2.1
  have p3 := f7.2.2.2.2.1
  have p4 := f7.2.2.2.2.2
  have r0_0 := f10.2
  have r1_0 := f21.2
  have r2_0 := f25.2
  try simp only [e6] at r0_0
  try simp only [e6, e9, e12] at r1_0
  try simp only [e9, e12, e16, e21, e26, e31, e36, e41, e46, e51] at r2_0
  clear f13 f16 f29 e0 e2 e3 e4 e6 e7 e8 e9 e10 e11 e12 e13 e14 e15 e16 e17 e18 e19 e20 e21 e22 e23 e24 e25 e26 e27 e28 e29 e30 e31 e32 e33 e34 e35 e36 e37 e38 e39 e40 e41 e42 e43 e44 e45 e46 e47 e48 e49 e50 e51
  clear f7 f10 f21 f25
  subst e1
  subst e5
  have b34 := o32_and_r f34 (by omega) (by omega)
  try (have wx := r1_0 (by omega); obtain ⟨w0, w1, w2, w3⟩ := wx)

  exact ⟨p0, p1, p3, by omega, fun s _ => rfl⟩
def g_285v_s_8 : vG := ([(0, [17], [], -2), (40, [15, 16], [], 0), (0, [16], [], 1), (4, [15, 13, 14], [], 0), (0, [14], [], 1), (8, [13, 9, 1], [], 0), (42, [9, 12], [], 0), (7, [12, 10, 11], [], 0), (20, [11, 0], [3], 64), (90, [11], [], 0), (91, [11], [], 20), (0, [10], [], 1), (1278, [9, 0, 2], [2, 3], 0), (90, [9], [], -2147483648), (91, [9], [], 2147483647), (31, [8], [], 0), (1284, [8, 0, 2, 3], [1, 2], 0), (90, [8], [], 0), (91, [8], [], 1), (40, [6, 7], [], 0), (0, [7], [], 6), (22, [6, 5, 1], [1], 0), (90, [6], [], 0), (91, [6], [], 6), (20, [5, 0], [1], 66), (0, [5], [], 328), (31, [4], [], 0), (1250, [4, 0, 1], [0, 1], 0), (90, [4], [], 0), (91, [4], [], 1), (6000, [0, 1, 2, 3], [0], 0), (0, [0], [], 285), (90, [1], [], -2147483648), (91, [1], [], 2147483647), (90, [2], [], -2147483648), (91, [2], [], 2147483647), (90, [3], [], -2147483648), (91, [3], [], 2147483647)], (3000, [17], [3], 60))
theorem c_285v_s_8 : vOkm T0 (eP e_285v L_285v A_285v mu_285v none) 4 g_285v_s_8 := vOk_in fun ρ η h => by
  obtain ⟨f0, f1, f2, f3, f4, f5, f6, f7, f8, f9, f10, f11, f12, f13, f14, f15, f16, f17, f18, f19, f20, f21, f22, f23, f24, f25, f26, f27, f28, f29, f30, f31, f32, f33, f34, f35, f36, f37, _⟩ := h
  exact q_285v_8 (n0 := ρ 3) (n1 := ρ 2) (n2 := ρ 1) (n3 := ρ 0) (n4 := ρ 4) (n5 := ρ 5) (n6 := ρ 6) (n7 := ρ 7) (n8 := ρ 8) (n9 := ρ 9) (n10 := ρ 10) (n11 := ρ 11) (n12 := ρ 12) (n13 := ρ 13) (n14 := ρ 14) (n15 := ρ 15) (n16 := ρ 16) (n17 := ρ 17) (H0 := η 0) (H1 := η 1) (H2 := η 2) (H3 := η 3) f37 f36 f35 f34 f33 f32 f31 f30 f29 f28 f27 f26 f25 f24 f23 f22 f21 f20 f19 f18 f17 f16 f15 f14 f13 f12 f11 f10 f9 f8 f7 f6 f5 f4 f3 f2 f1 f0
theorem q_285v_9 {n0 n1 n2 n3 n4 n5 n6 n7 n8 n9 : Int} {H0 H1 H2 : gH} (f0 : n0 ≤ 2147483647) (f1 : (-2147483648) ≤ n0) (f2 : n1 ≤ 2147483647) (f3 : (-2147483648) ≤ n1) (f4 : n2 ≤ 2147483647) (f5 : (-2147483648) ≤ n2) (f6 : n3 = 285) (f7 : hWt T0 H0 ∧ preb_285v n3 n2 n1 n0 H0) (f8 : n4 ≤ 1) (f9 : 0 ≤ n4) (f10 : (hLe T0 H0 H1 ∧ hFr s_250.2.2.2.2 H0 H1 ∧ ((0 : Int) = 0 → H1.length = H0.length) ∧ hWt T0 H1) ∧ postb_250 n4 n3 n2 H0 H1) (f11 : n4 ≠ 0) (f12 : n5 = 328) (f13 : n5 = hV H1 (n3).toNat 66) (f14 : n6 ≤ 6) (f15 : 0 ≤ n6) (f16 : n6 = hV H1 (n5).toNat (n2).toNat) (f17 : n7 = 6) (f18 : n6 = n7) (f19 : n8 ≤ 1) (f20 : 0 ≤ n8) (f21 : (hLe T0 H1 H2 ∧ hFr s_284.2.2.2.2 H1 H2 ∧ ((0 : Int) = 0 → H2.length = H1.length) ∧ hWt T0 H2) ∧ postb_284 n8 n3 n1 n0 H1 H2) (f22 : n8 = 0) (f23 : n9 = (-1)) : postb_285v n9 n3 n2 n1 n0 H0 H2 := by
  unfold preb_285v at f7
  unfold postb_250 at f10
  unfold postb_284 at f21
  unfold postb_285v
  have e0 : hV H1 328 = hV H0 328 := fRow f10.1.2.1 328 (by decide +kernel)
  have e1 : n6 = hV H0 328 (n2).toNat := (by rw [f12] at f16; exact f16 : n6 = hV H1 328 (n2).toNat).trans ((congrFun e0 _))
  have e2 : hV H1 285 64 = hV H0 285 64 := f10.1.2.1.1 285 64 (by decide +kernel)
  have e3 : hV H1 285 64 = hV H0 285 64 := e2
  have e4 : hV H2 285 18 = hV H1 285 18 := f21.1.2.1.1 285 18 (by decide +kernel)
  have e5 : hV H1 285 18 = hV H0 285 18 := f10.1.2.1.1 285 18 (by decide +kernel)
  have e6 : hV H2 285 18 = hV H0 285 18 := (e4).trans e5
  have e7 : hV H2 285 60 = hV H1 285 60 := f21.1.2.1.1 285 60 (by decide +kernel)
  have e8 : hV H1 285 60 = hV H0 285 60 := f10.1.2.1.1 285 60 (by decide +kernel)
  have e9 : hV H2 285 60 = hV H0 285 60 := (e7).trans e8
  have e10 : hV H2 285 65 = hV H1 285 65 := f21.1.2.1.1 285 65 (by decide +kernel)
  have e11 : hV H1 285 65 = hV H0 285 65 := f10.1.2.1.1 285 65 (by decide +kernel)
  have e12 : hV H2 285 65 = hV H0 285 65 := (e10).trans e11
  have e13 : hV H2 329 = hV H1 329 := fRow f21.1.2.1 329 (by decide +kernel)
  have e14 : hV H1 329 = hV H0 329 := fRow f10.1.2.1 329 (by decide +kernel)
  have e15 : hV H2 329 = hV H0 329 := e13.trans e14
  have e16 : AC H1 = AC H0 := AC_fr f10.1.2.1 (by decide +kernel)
  have e17 : AC H2 = AC H1 := AC_fr f21.1.2.1 (by decide +kernel)
  have e18 : AC H2 = AC H0 := e17.trans e16
  have e19 : SO H1 = SO H0 := SO_fr f10.1.2.1 (by decide +kernel)
  have e20 : SO H2 = SO H1 := SO_fr f21.1.2.1 (by decide +kernel)
  have e21 : SO H2 = SO H0 := e20.trans e19
  have e22 : SS H1 = SS H0 := SS_fr f10.1.2.1 (by decide +kernel)
  have e23 : SS H2 = SS H1 := SS_fr f21.1.2.1 (by decide +kernel)
  have e24 : SS H2 = SS H0 := e23.trans e22
  have e25 : (0 : Int) ≤ hV H0 285 65 ∧ hV H0 285 65 ≤ 2147483647 := f7.1 285 65 _ _ (by decide +kernel)
  have e26 : (0 : Int) ≤ hV H1 285 64 ∧ hV H1 285 64 ≤ 20 := f10.1.2.2.2 285 64 _ _ (by decide +kernel)
  have e27 : (0 : Int) ≤ hV H0 285 64 ∧ hV H0 285 64 ≤ 20 := f7.1 285 64 _ _ (by decide +kernel)
  have e28 : (0 : Int) ≤ hV H2 285 18 ∧ hV H2 285 18 ≤ 8 := f21.1.2.2.2 285 18 _ _ (by decide +kernel)
  have e29 : (0 : Int) ≤ hV H0 285 18 ∧ hV H0 285 18 ≤ 8 := f7.1 285 18 _ _ (by decide +kernel)
  have e30 : (1 : Int) ≤ hV H2 285 60 ∧ hV H2 285 60 ≤ 6 := f21.1.2.2.2 285 60 _ _ (by decide +kernel)
  have e31 : (1 : Int) ≤ hV H0 285 60 ∧ hV H0 285 60 ≤ 6 := f7.1 285 60 _ _ (by decide +kernel)
  have e32 : (0 : Int) ≤ hV H2 285 65 ∧ hV H2 285 65 ≤ 2147483647 := f21.1.2.2.2 285 65 _ _ (by decide +kernel)
  try simp only [e3] at e26
  try simp only [e6] at e28
  try simp only [e9] at e30
  try simp only [e12] at e32
  try simp only [e3, e6, e9, e12, e15, e18, e21, e24]
  have p0 := f7.2.1
  have p1 := f7.2.2.1
  have p2 := f7.2.2.2.1
  have p3 := f7.2.2.2.2.1
  have p4 := f7.2.2.2.2.2
  have r0_0 := f10.2
  have r1_0 := f21.2
  try simp only [e3] at r0_0
  try simp only [e3, e6, e9, e12, e15, e18, e21, e24] at r1_0
  clear f13 f16 e0 e2 e3 e4 e5 e6 e7 e8 e9 e10 e11 e12 e13 e14 e15 e16 e17 e18 e19 e20 e21 e22 e23 e24
  clear f7 f10 f21
  subst e1
  try (have wx := r1_0 (by omega); obtain ⟨w0, w1, w2, w3⟩ := wx)

  exact ⟨p0, p1, p3, by omega, fun s _ => rfl⟩
def g_285v_s_9 : vG := ([(0, [9], [], -1), (30, [8], [], 0), (1284, [8, 0, 2, 3], [1, 2], 0), (90, [8], [], 0), (91, [8], [], 1), (40, [6, 7], [], 0), (0, [7], [], 6), (22, [6, 5, 1], [1], 0), (90, [6], [], 0), (91, [6], [], 6), (20, [5, 0], [1], 66), (0, [5], [], 328), (31, [4], [], 0), (1250, [4, 0, 1], [0, 1], 0), (90, [4], [], 0), (91, [4], [], 1), (6000, [0, 1, 2, 3], [0], 0), (0, [0], [], 285), (90, [1], [], -2147483648), (91, [1], [], 2147483647), (90, [2], [], -2147483648), (91, [2], [], 2147483647), (90, [3], [], -2147483648), (91, [3], [], 2147483647)], (3000, [9], [2], 29))
theorem c_285v_s_9 : vOkm T0 (eP e_285v L_285v A_285v mu_285v none) 4 g_285v_s_9 := vOk_in fun ρ η h => by
  obtain ⟨f0, f1, f2, f3, f4, f5, f6, f7, f8, f9, f10, f11, f12, f13, f14, f15, f16, f17, f18, f19, f20, f21, f22, f23, _⟩ := h
  exact q_285v_9 (n0 := ρ 3) (n1 := ρ 2) (n2 := ρ 1) (n3 := ρ 0) (n4 := ρ 4) (n5 := ρ 5) (n6 := ρ 6) (n7 := ρ 7) (n8 := ρ 8) (n9 := ρ 9) (H0 := η 0) (H1 := η 1) (H2 := η 2) f23 f22 f21 f20 f19 f18 f17 f16 f15 f14 f13 f12 f11 f10 f9 f8 f7 f6 f5 f4 f3 f2 f1 f0
def p_285v_s : List vG := [g_285v_s_0,
  g_285v_s_1,
  g_285v_s_2,
  g_285v_s_3,
  g_285v_s_4,
  g_285v_s_5,
  g_285v_s_6,
  g_285v_s_7,
  g_285v_s_8,
  g_285v_s_9]
theorem r_285v_s : vCovO false (eR0 e_285v L_285v cs_285v 2000) p_285v_s = true := by decide +kernel
theorem q_285v_10 {q0 : Nat} {n0 n1 n2 n3 n4 n5 n6 n7 n8 n9 n10 : Int} {H0 H1 : gH} (f0 : n0 ≤ 20) (f1 : 0 ≤ n0) (f2 : n1 ≤ 2147483647) (f3 : (-2147483648) ≤ n1) (f4 : n2 ≤ 2147483647) (f5 : (-2147483648) ≤ n2) (f6 : n3 ≤ 2147483647) (f7 : (-2147483648) ≤ n3) (f8 : n4 ≤ 2147483647) (f9 : (-2147483648) ≤ n4) (f10 : n5 = 285) (f11 : n6 ≤ 2147483647) (f12 : (-2147483648) ≤ n6) (f13 : n7 ≤ 2147483647) (f14 : (-2147483648) ≤ n7) (f15 : n8 ≤ 2147483647) (f16 : (-2147483648) ≤ n8) (f17 : n9 = 285) (f18 : (hLe T0 H0 H1 ∧ hFr s_285v.2.2.2.2 H0 H1 ∧ hWt T0 H1) ∧ (Ab_285v_64 n9 n8 n7 n6 n5 n4 n3 n2 n1 n0 H0 H1 ∧ preb_285v n9 n8 n7 n6 H0) ∧ some q0 = some (mub_285v_64 n9 n8 n7 n6 n5 n4 n3 n2 n1 n0 H0 H1)) (f19 : n10 ≤ 20) (f20 : 0 ≤ n10) (f21 : n10 = hV H1 (n5).toNat 64) (f22 : n10 ≤ n0) : 0 ≤ n4 := by
  have g4 := f18.2.1.1
  unfold Ab_285v_64 at g4
  have g3 := f18.2.1.2
  unfold preb_285v at g3
  have e0 : hV H1 285 64 = hV H0 285 64 := f18.1.2.1.1 285 64 (by decide +kernel)
  have e1 : n10 = hV H0 285 64 := (by rw [f10] at f21; exact f21 : n10 = hV H1 285 64).trans (e0)
  have e2 : hV H1 285 18 = hV H0 285 18 := f18.1.2.1.1 285 18 (by decide +kernel)
  have e3 : hV H1 285 18 = hV H0 285 18 := e2
  have e4 : hV H1 285 64 = hV H0 285 64 := e0
  have e5 : hV H1 296 = hV H0 296 := fRow f18.1.2.1 296 (by decide +kernel)
  have e6 : hV H1 298 = hV H0 298 := fRow f18.1.2.1 298 (by decide +kernel)
  have e7 : hV H1 300 = hV H0 300 := fRow f18.1.2.1 300 (by decide +kernel)
  have e8 : hV H1 328 = hV H0 328 := fRow f18.1.2.1 328 (by decide +kernel)
  have e9 : hV H1 332 = hV H0 332 := fRow f18.1.2.1 332 (by decide +kernel)
  have e10 : (0 : Int) ≤ hV H1 285 18 ∧ hV H1 285 18 ≤ 8 := f18.1.2.2 285 18 _ _ (by decide +kernel)
  have e11 : (0 : Int) ≤ hV H1 285 64 ∧ hV H1 285 64 ≤ 20 := f18.1.2.2 285 64 _ _ (by decide +kernel)
  have e12 : (0 : Int) ≤ hV H1 285 65 ∧ hV H1 285 65 ≤ 2147483647 := f18.1.2.2 285 65 _ _ (by decide +kernel)
  try simp only [e3] at e10
  try simp only [e4] at e11
  try simp only [e3, e4, e5, e6, e7, e8, e9]
  have k0 := g4.1
  have k1 := g4.2.1
  have k2 := g4.2.2.1
  have y0 := g4.2.2.2.1
  have y1 := g4.2.2.2.2.1
  have y2 := g4.2.2.2.2.2.1
  have y3 := g4.2.2.2.2.2.2.1
  have y4 := g4.2.2.2.2.2.2.2.1
  have y5 := g4.2.2.2.2.2.2.2.2.1
  have y6 := g4.2.2.2.2.2.2.2.2.2.1
  have y7 := g4.2.2.2.2.2.2.2.2.2.2.1
  have y8 := g4.2.2.2.2.2.2.2.2.2.2.2.1
  have y9 := g4.2.2.2.2.2.2.2.2.2.2.2.2.1
  have y10 := g4.2.2.2.2.2.2.2.2.2.2.2.2.2.1
  have y11 := g4.2.2.2.2.2.2.2.2.2.2.2.2.2.2.1
  have y12 := g4.2.2.2.2.2.2.2.2.2.2.2.2.2.2.2.1
  have y13 := g4.2.2.2.2.2.2.2.2.2.2.2.2.2.2.2.2.1
  have y14 := g4.2.2.2.2.2.2.2.2.2.2.2.2.2.2.2.2.2.1
  have y15 := g4.2.2.2.2.2.2.2.2.2.2.2.2.2.2.2.2.2.2
  have p0 := g3.1
  have p1 := g3.2.1
  have p2 := g3.2.2.1
  have p3 := g3.2.2.2.1
  have p4 := g3.2.2.2.2
  try simp only [e3, e4, e5, e6, e7, e8, e9] at y0
  try simp only [e3, e4, e5, e6, e7, e8, e9] at y1
  try simp only [e3, e4, e5, e6, e7, e8, e9] at y2
  try simp only [e3, e4, e5, e6, e7, e8, e9] at y3
  try simp only [e3, e4, e5, e6, e7, e8, e9] at y5
  try simp only [e3, e4, e5, e6, e7, e8, e9] at y6
  try simp only [e3, e4, e5, e6, e7, e8, e9] at y8
  try simp only [e3, e4, e5, e6, e7, e8, e9] at y11
  try simp only [e3, e4, e5, e6, e7, e8, e9] at y12
  try simp only [e3, e4, e5, e6, e7, e8, e9] at y13
  try simp only [e3, e4, e5, e6, e7, e8, e9] at y14
  try simp only [e3, e4, e5, e6, e7, e8, e9] at y15
  try simp only [e3, e4, e5, e6, e7, e8, e9] at p0
  try simp only [e3, e4, e5, e6, e7, e8, e9] at p1
  try simp only [e3, e4, e5, e6, e7, e8, e9] at p2
  try simp only [e3, e4, e5, e6, e7, e8, e9] at p3
  try simp only [e3, e4, e5, e6, e7, e8, e9] at p4
  clear g3
  clear g4
  clear f21 e0 e2 e3 e4 e5 e6 e7 e8 e9
  clear f18
  subst e1
  try subst k2
  try subst k1
  try subst k0
  omega
def g_285v_64_0 : vG := ([(43, [9, 10], [], 0), (20, [10, 4], [1], 64), (90, [10], [], 0), (91, [10], [], 20), (5000, [0, 1, 2, 3, 4, 5, 6, 7, 8, 9], [0, 1], 64), (0, [0], [], 285), (90, [1], [], -2147483648), (91, [1], [], 2147483647), (90, [2], [], -2147483648), (91, [2], [], 2147483647), (90, [3], [], -2147483648), (91, [3], [], 2147483647), (0, [4], [], 285), (90, [5], [], -2147483648), (91, [5], [], 2147483647), (90, [6], [], -2147483648), (91, [6], [], 2147483647), (90, [7], [], -2147483648), (91, [7], [], 2147483647), (90, [8], [], -2147483648), (91, [8], [], 2147483647), (90, [9], [], 0), (91, [9], [], 20)], (90, [5], [], 0))
theorem c_285v_64_0 {q0 : Nat} : vOkm T0 (eP e_285v L_285v A_285v mu_285v (some q0)) 4 g_285v_64_0 := vOk_in fun ρ η h => by
  obtain ⟨f0, f1, f2, f3, f4, f5, f6, f7, f8, f9, f10, f11, f12, f13, f14, f15, f16, f17, f18, f19, f20, f21, f22, _⟩ := h
  exact q_285v_10 (q0 := q0) (n0 := ρ 9) (n1 := ρ 8) (n2 := ρ 7) (n3 := ρ 6) (n4 := ρ 5) (n5 := ρ 4) (n6 := ρ 3) (n7 := ρ 2) (n8 := ρ 1) (n9 := ρ 0) (n10 := ρ 10) (H0 := η 0) (H1 := η 1) f22 f21 f20 f19 f18 f17 f16 f15 f14 f13 f12 f11 f10 f9 f8 f7 f6 f5 f4 f3 f2 f1 f0
theorem q_285v_11 {q0 : Nat} {n0 n1 n2 n3 n4 n5 n6 n7 n8 n9 n10 : Int} {H0 H1 : gH} (f0 : n0 ≤ 20) (f1 : 0 ≤ n0) (f2 : n1 ≤ 2147483647) (f3 : (-2147483648) ≤ n1) (f4 : n2 ≤ 2147483647) (f5 : (-2147483648) ≤ n2) (f6 : n3 ≤ 2147483647) (f7 : (-2147483648) ≤ n3) (f8 : n4 ≤ 2147483647) (f9 : (-2147483648) ≤ n4) (f10 : n5 = 285) (f11 : n6 ≤ 2147483647) (f12 : (-2147483648) ≤ n6) (f13 : n7 ≤ 2147483647) (f14 : (-2147483648) ≤ n7) (f15 : n8 ≤ 2147483647) (f16 : (-2147483648) ≤ n8) (f17 : n9 = 285) (f18 : (hLe T0 H0 H1 ∧ hFr s_285v.2.2.2.2 H0 H1 ∧ hWt T0 H1) ∧ (Ab_285v_64 n9 n8 n7 n6 n5 n4 n3 n2 n1 n0 H0 H1 ∧ preb_285v n9 n8 n7 n6 H0) ∧ some q0 = some (mub_285v_64 n9 n8 n7 n6 n5 n4 n3 n2 n1 n0 H0 H1)) (f19 : n10 ≤ 20) (f20 : 0 ≤ n10) (f21 : n10 = hV H1 (n5).toNat 64) (f22 : n10 ≤ n0) : n4 ≤ 19 := by
  have g4 := f18.2.1.1
  unfold Ab_285v_64 at g4
  have g3 := f18.2.1.2
  unfold preb_285v at g3
  have e0 : hV H1 285 64 = hV H0 285 64 := f18.1.2.1.1 285 64 (by decide +kernel)
  have e1 : n10 = hV H0 285 64 := (by rw [f10] at f21; exact f21 : n10 = hV H1 285 64).trans (e0)
  have e2 : hV H1 285 18 = hV H0 285 18 := f18.1.2.1.1 285 18 (by decide +kernel)
  have e3 : hV H1 285 18 = hV H0 285 18 := e2
  have e4 : hV H1 285 64 = hV H0 285 64 := e0
  have e5 : hV H1 296 = hV H0 296 := fRow f18.1.2.1 296 (by decide +kernel)
  have e6 : hV H1 298 = hV H0 298 := fRow f18.1.2.1 298 (by decide +kernel)
  have e7 : hV H1 300 = hV H0 300 := fRow f18.1.2.1 300 (by decide +kernel)
  have e8 : hV H1 328 = hV H0 328 := fRow f18.1.2.1 328 (by decide +kernel)
  have e9 : hV H1 332 = hV H0 332 := fRow f18.1.2.1 332 (by decide +kernel)
  have e10 : (0 : Int) ≤ hV H1 285 18 ∧ hV H1 285 18 ≤ 8 := f18.1.2.2 285 18 _ _ (by decide +kernel)
  have e11 : (0 : Int) ≤ hV H1 285 64 ∧ hV H1 285 64 ≤ 20 := f18.1.2.2 285 64 _ _ (by decide +kernel)
  have e12 : (0 : Int) ≤ hV H1 285 65 ∧ hV H1 285 65 ≤ 2147483647 := f18.1.2.2 285 65 _ _ (by decide +kernel)
  try simp only [e3] at e10
  try simp only [e4] at e11
  try simp only [e3, e4, e5, e6, e7, e8, e9]
  have k0 := g4.1
  have k1 := g4.2.1
  have k2 := g4.2.2.1
  have y0 := g4.2.2.2.1
  have y1 := g4.2.2.2.2.1
  have y2 := g4.2.2.2.2.2.1
  have y3 := g4.2.2.2.2.2.2.1
  have y4 := g4.2.2.2.2.2.2.2.1
  have y5 := g4.2.2.2.2.2.2.2.2.1
  have y6 := g4.2.2.2.2.2.2.2.2.2.1
  have y7 := g4.2.2.2.2.2.2.2.2.2.2.1
  have y8 := g4.2.2.2.2.2.2.2.2.2.2.2.1
  have y9 := g4.2.2.2.2.2.2.2.2.2.2.2.2.1
  have y10 := g4.2.2.2.2.2.2.2.2.2.2.2.2.2.1
  have y11 := g4.2.2.2.2.2.2.2.2.2.2.2.2.2.2.1
  have y12 := g4.2.2.2.2.2.2.2.2.2.2.2.2.2.2.2.1
  have y13 := g4.2.2.2.2.2.2.2.2.2.2.2.2.2.2.2.2.1
  have y14 := g4.2.2.2.2.2.2.2.2.2.2.2.2.2.2.2.2.2.1
  have y15 := g4.2.2.2.2.2.2.2.2.2.2.2.2.2.2.2.2.2.2
  have p0 := g3.1
  have p1 := g3.2.1
  have p2 := g3.2.2.1
  have p3 := g3.2.2.2.1
  have p4 := g3.2.2.2.2
  try simp only [e3, e4, e5, e6, e7, e8, e9] at y0
  try simp only [e3, e4, e5, e6, e7, e8, e9] at y1
  try simp only [e3, e4, e5, e6, e7, e8, e9] at y2
  try simp only [e3, e4, e5, e6, e7, e8, e9] at y3
  try simp only [e3, e4, e5, e6, e7, e8, e9] at y5
  try simp only [e3, e4, e5, e6, e7, e8, e9] at y6
  try simp only [e3, e4, e5, e6, e7, e8, e9] at y8
  try simp only [e3, e4, e5, e6, e7, e8, e9] at y11
  try simp only [e3, e4, e5, e6, e7, e8, e9] at y12
  try simp only [e3, e4, e5, e6, e7, e8, e9] at y13
  try simp only [e3, e4, e5, e6, e7, e8, e9] at y14
  try simp only [e3, e4, e5, e6, e7, e8, e9] at y15
  try simp only [e3, e4, e5, e6, e7, e8, e9] at p0
  try simp only [e3, e4, e5, e6, e7, e8, e9] at p1
  try simp only [e3, e4, e5, e6, e7, e8, e9] at p2
  try simp only [e3, e4, e5, e6, e7, e8, e9] at p3
  try simp only [e3, e4, e5, e6, e7, e8, e9] at p4
  clear g3
  clear g4
  clear f21 e0 e2 e3 e4 e5 e6 e7 e8 e9
  clear f18
  subst e1
  try subst k2
  try subst k1
  try subst k0
  omega
def g_285v_64_1 : vG := ([(43, [9, 10], [], 0), (20, [10, 4], [1], 64), (90, [10], [], 0), (91, [10], [], 20), (5000, [0, 1, 2, 3, 4, 5, 6, 7, 8, 9], [0, 1], 64), (0, [0], [], 285), (90, [1], [], -2147483648), (91, [1], [], 2147483647), (90, [2], [], -2147483648), (91, [2], [], 2147483647), (90, [3], [], -2147483648), (91, [3], [], 2147483647), (0, [4], [], 285), (90, [5], [], -2147483648), (91, [5], [], 2147483647), (90, [6], [], -2147483648), (91, [6], [], 2147483647), (90, [7], [], -2147483648), (91, [7], [], 2147483647), (90, [8], [], -2147483648), (91, [8], [], 2147483647), (90, [9], [], 0), (91, [9], [], 20)], (91, [5], [], 19))
theorem c_285v_64_1 {q0 : Nat} : vOkm T0 (eP e_285v L_285v A_285v mu_285v (some q0)) 4 g_285v_64_1 := vOk_in fun ρ η h => by
  obtain ⟨f0, f1, f2, f3, f4, f5, f6, f7, f8, f9, f10, f11, f12, f13, f14, f15, f16, f17, f18, f19, f20, f21, f22, _⟩ := h
  exact q_285v_11 (q0 := q0) (n0 := ρ 9) (n1 := ρ 8) (n2 := ρ 7) (n3 := ρ 6) (n4 := ρ 5) (n5 := ρ 4) (n6 := ρ 3) (n7 := ρ 2) (n8 := ρ 1) (n9 := ρ 0) (n10 := ρ 10) (H0 := η 0) (H1 := η 1) f22 f21 f20 f19 f18 f17 f16 f15 f14 f13 f12 f11 f10 f9 f8 f7 f6 f5 f4 f3 f2 f1 f0
theorem q_285v_12 {q0 : Nat} {n0 n1 n2 n3 n4 n5 n6 n7 n8 n9 n10 : Int} {H0 H1 : gH} (f0 : n0 ≤ 20) (f1 : 0 ≤ n0) (f2 : n1 ≤ 2147483647) (f3 : (-2147483648) ≤ n1) (f4 : n2 ≤ 2147483647) (f5 : (-2147483648) ≤ n2) (f6 : n3 ≤ 2147483647) (f7 : (-2147483648) ≤ n3) (f8 : n4 ≤ 2147483647) (f9 : (-2147483648) ≤ n4) (f10 : n5 = 285) (f11 : n6 ≤ 2147483647) (f12 : (-2147483648) ≤ n6) (f13 : n7 ≤ 2147483647) (f14 : (-2147483648) ≤ n7) (f15 : n8 ≤ 2147483647) (f16 : (-2147483648) ≤ n8) (f17 : n9 = 285) (f18 : (hLe T0 H0 H1 ∧ hFr s_285v.2.2.2.2 H0 H1 ∧ hWt T0 H1) ∧ (Ab_285v_64 n9 n8 n7 n6 n5 n4 n3 n2 n1 n0 H0 H1 ∧ preb_285v n9 n8 n7 n6 H0) ∧ some q0 = some (mub_285v_64 n9 n8 n7 n6 n5 n4 n3 n2 n1 n0 H0 H1)) (f19 : n10 ≤ 20) (f20 : 0 ≤ n10) (f21 : n10 = hV H1 (n5).toNat 64) (f22 : n10 ≤ n0) : 0 ≤ n3 := by
  have g4 := f18.2.1.1
  unfold Ab_285v_64 at g4
  have g3 := f18.2.1.2
  unfold preb_285v at g3
  have e0 : hV H1 285 64 = hV H0 285 64 := f18.1.2.1.1 285 64 (by decide +kernel)
  have e1 : n10 = hV H0 285 64 := (by rw [f10] at f21; exact f21 : n10 = hV H1 285 64).trans (e0)
  have e2 : hV H1 285 18 = hV H0 285 18 := f18.1.2.1.1 285 18 (by decide +kernel)
  have e3 : hV H1 285 18 = hV H0 285 18 := e2
  have e4 : hV H1 285 64 = hV H0 285 64 := e0
  have e5 : hV H1 296 = hV H0 296 := fRow f18.1.2.1 296 (by decide +kernel)
  have e6 : hV H1 298 = hV H0 298 := fRow f18.1.2.1 298 (by decide +kernel)
  have e7 : hV H1 300 = hV H0 300 := fRow f18.1.2.1 300 (by decide +kernel)
  have e8 : hV H1 328 = hV H0 328 := fRow f18.1.2.1 328 (by decide +kernel)
  have e9 : hV H1 332 = hV H0 332 := fRow f18.1.2.1 332 (by decide +kernel)
  have e10 : (0 : Int) ≤ hV H1 285 18 ∧ hV H1 285 18 ≤ 8 := f18.1.2.2 285 18 _ _ (by decide +kernel)
  have e11 : (0 : Int) ≤ hV H1 285 64 ∧ hV H1 285 64 ≤ 20 := f18.1.2.2 285 64 _ _ (by decide +kernel)
  have e12 : (0 : Int) ≤ hV H1 285 65 ∧ hV H1 285 65 ≤ 2147483647 := f18.1.2.2 285 65 _ _ (by decide +kernel)
  try simp only [e3] at e10
  try simp only [e4] at e11
  try simp only [e3, e4, e5, e6, e7, e8, e9]
  have k0 := g4.1
  have k1 := g4.2.1
  have k2 := g4.2.2.1
  have y0 := g4.2.2.2.1
  have y1 := g4.2.2.2.2.1
  have y2 := g4.2.2.2.2.2.1
  have y3 := g4.2.2.2.2.2.2.1
  have y4 := g4.2.2.2.2.2.2.2.1
  have y5 := g4.2.2.2.2.2.2.2.2.1
  have y6 := g4.2.2.2.2.2.2.2.2.2.1
  have y7 := g4.2.2.2.2.2.2.2.2.2.2.1
  have y8 := g4.2.2.2.2.2.2.2.2.2.2.2.1
  have y9 := g4.2.2.2.2.2.2.2.2.2.2.2.2.1
  have y10 := g4.2.2.2.2.2.2.2.2.2.2.2.2.2.1
  have y11 := g4.2.2.2.2.2.2.2.2.2.2.2.2.2.2.1
  have y12 := g4.2.2.2.2.2.2.2.2.2.2.2.2.2.2.2.1
  have y13 := g4.2.2.2.2.2.2.2.2.2.2.2.2.2.2.2.2.1
  have y14 := g4.2.2.2.2.2.2.2.2.2.2.2.2.2.2.2.2.2.1
  have y15 := g4.2.2.2.2.2.2.2.2.2.2.2.2.2.2.2.2.2.2
  have p0 := g3.1
  have p1 := g3.2.1
  have p2 := g3.2.2.1
  have p3 := g3.2.2.2.1
  have p4 := g3.2.2.2.2
  try simp only [e3, e4, e5, e6, e7, e8, e9] at y0
  try simp only [e3, e4, e5, e6, e7, e8, e9] at y1
  try simp only [e3, e4, e5, e6, e7, e8, e9] at y2
  try simp only [e3, e4, e5, e6, e7, e8, e9] at y3
  try simp only [e3, e4, e5, e6, e7, e8, e9] at y5
  try simp only [e3, e4, e5, e6, e7, e8, e9] at y6
  try simp only [e3, e4, e5, e6, e7, e8, e9] at y8
  try simp only [e3, e4, e5, e6, e7, e8, e9] at y11
  try simp only [e3, e4, e5, e6, e7, e8, e9] at y12
  try simp only [e3, e4, e5, e6, e7, e8, e9] at y13
  try simp only [e3, e4, e5, e6, e7, e8, e9] at y14
  try simp only [e3, e4, e5, e6, e7, e8, e9] at y15
  try simp only [e3, e4, e5, e6, e7, e8, e9] at p0
  try simp only [e3, e4, e5, e6, e7, e8, e9] at p1
  try simp only [e3, e4, e5, e6, e7, e8, e9] at p2
  try simp only [e3, e4, e5, e6, e7, e8, e9] at p3
  try simp only [e3, e4, e5, e6, e7, e8, e9] at p4
  clear g3
  clear g4
  clear f21 e0 e2 e3 e4 e5 e6 e7 e8 e9
  clear f18
  subst e1
  try subst k2
  try subst k1
  try subst k0
  omega
def g_285v_64_2 : vG := ([(43, [9, 10], [], 0), (20, [10, 4], [1], 64), (90, [10], [], 0), (91, [10], [], 20), (5000, [0, 1, 2, 3, 4, 5, 6, 7, 8, 9], [0, 1], 64), (0, [0], [], 285), (90, [1], [], -2147483648), (91, [1], [], 2147483647), (90, [2], [], -2147483648), (91, [2], [], 2147483647), (90, [3], [], -2147483648), (91, [3], [], 2147483647), (0, [4], [], 285), (90, [5], [], -2147483648), (91, [5], [], 2147483647), (90, [6], [], -2147483648), (91, [6], [], 2147483647), (90, [7], [], -2147483648), (91, [7], [], 2147483647), (90, [8], [], -2147483648), (91, [8], [], 2147483647), (90, [9], [], 0), (91, [9], [], 20)], (90, [6], [], 0))
theorem c_285v_64_2 {q0 : Nat} : vOkm T0 (eP e_285v L_285v A_285v mu_285v (some q0)) 4 g_285v_64_2 := vOk_in fun ρ η h => by
  obtain ⟨f0, f1, f2, f3, f4, f5, f6, f7, f8, f9, f10, f11, f12, f13, f14, f15, f16, f17, f18, f19, f20, f21, f22, _⟩ := h
  exact q_285v_12 (q0 := q0) (n0 := ρ 9) (n1 := ρ 8) (n2 := ρ 7) (n3 := ρ 6) (n4 := ρ 5) (n5 := ρ 4) (n6 := ρ 3) (n7 := ρ 2) (n8 := ρ 1) (n9 := ρ 0) (n10 := ρ 10) (H0 := η 0) (H1 := η 1) f22 f21 f20 f19 f18 f17 f16 f15 f14 f13 f12 f11 f10 f9 f8 f7 f6 f5 f4 f3 f2 f1 f0
theorem q_285v_13 {q0 : Nat} {n0 n1 n2 n3 n4 n5 n6 n7 n8 n9 n10 : Int} {H0 H1 : gH} (f0 : n0 ≤ 20) (f1 : 0 ≤ n0) (f2 : n1 ≤ 2147483647) (f3 : (-2147483648) ≤ n1) (f4 : n2 ≤ 2147483647) (f5 : (-2147483648) ≤ n2) (f6 : n3 ≤ 2147483647) (f7 : (-2147483648) ≤ n3) (f8 : n4 ≤ 2147483647) (f9 : (-2147483648) ≤ n4) (f10 : n5 = 285) (f11 : n6 ≤ 2147483647) (f12 : (-2147483648) ≤ n6) (f13 : n7 ≤ 2147483647) (f14 : (-2147483648) ≤ n7) (f15 : n8 ≤ 2147483647) (f16 : (-2147483648) ≤ n8) (f17 : n9 = 285) (f18 : (hLe T0 H0 H1 ∧ hFr s_285v.2.2.2.2 H0 H1 ∧ hWt T0 H1) ∧ (Ab_285v_64 n9 n8 n7 n6 n5 n4 n3 n2 n1 n0 H0 H1 ∧ preb_285v n9 n8 n7 n6 H0) ∧ some q0 = some (mub_285v_64 n9 n8 n7 n6 n5 n4 n3 n2 n1 n0 H0 H1)) (f19 : n10 ≤ 20) (f20 : 0 ≤ n10) (f21 : n10 = hV H1 (n5).toNat 64) (f22 : n10 ≤ n0) : n3 ≤ 7 := by
  have g4 := f18.2.1.1
  unfold Ab_285v_64 at g4
  have g3 := f18.2.1.2
  unfold preb_285v at g3
  have e0 : hV H1 285 64 = hV H0 285 64 := f18.1.2.1.1 285 64 (by decide +kernel)
  have e1 : n10 = hV H0 285 64 := (by rw [f10] at f21; exact f21 : n10 = hV H1 285 64).trans (e0)
  have e2 : hV H1 285 18 = hV H0 285 18 := f18.1.2.1.1 285 18 (by decide +kernel)
  have e3 : hV H1 285 18 = hV H0 285 18 := e2
  have e4 : hV H1 285 64 = hV H0 285 64 := e0
  have e5 : hV H1 296 = hV H0 296 := fRow f18.1.2.1 296 (by decide +kernel)
  have e6 : hV H1 298 = hV H0 298 := fRow f18.1.2.1 298 (by decide +kernel)
  have e7 : hV H1 300 = hV H0 300 := fRow f18.1.2.1 300 (by decide +kernel)
  have e8 : hV H1 328 = hV H0 328 := fRow f18.1.2.1 328 (by decide +kernel)
  have e9 : hV H1 332 = hV H0 332 := fRow f18.1.2.1 332 (by decide +kernel)
  have e10 : (0 : Int) ≤ hV H1 285 18 ∧ hV H1 285 18 ≤ 8 := f18.1.2.2 285 18 _ _ (by decide +kernel)
  have e11 : (0 : Int) ≤ hV H1 285 64 ∧ hV H1 285 64 ≤ 20 := f18.1.2.2 285 64 _ _ (by decide +kernel)
  have e12 : (0 : Int) ≤ hV H1 285 65 ∧ hV H1 285 65 ≤ 2147483647 := f18.1.2.2 285 65 _ _ (by decide +kernel)
  try simp only [e3] at e10
  try simp only [e4] at e11
  try simp only [e3, e4, e5, e6, e7, e8, e9]
  have k0 := g4.1
  have k1 := g4.2.1
  have k2 := g4.2.2.1
  have y0 := g4.2.2.2.1
  have y1 := g4.2.2.2.2.1
  have y2 := g4.2.2.2.2.2.1
  have y3 := g4.2.2.2.2.2.2.1
  have y4 := g4.2.2.2.2.2.2.2.1
  have y5 := g4.2.2.2.2.2.2.2.2.1
  have y6 := g4.2.2.2.2.2.2.2.2.2.1
  have y7 := g4.2.2.2.2.2.2.2.2.2.2.1
  have y8 := g4.2.2.2.2.2.2.2.2.2.2.2.1
  have y9 := g4.2.2.2.2.2.2.2.2.2.2.2.2.1
  have y10 := g4.2.2.2.2.2.2.2.2.2.2.2.2.2.1
  have y11 := g4.2.2.2.2.2.2.2.2.2.2.2.2.2.2.1
  have y12 := g4.2.2.2.2.2.2.2.2.2.2.2.2.2.2.2.1
  have y13 := g4.2.2.2.2.2.2.2.2.2.2.2.2.2.2.2.2.1
  have y14 := g4.2.2.2.2.2.2.2.2.2.2.2.2.2.2.2.2.2.1
  have y15 := g4.2.2.2.2.2.2.2.2.2.2.2.2.2.2.2.2.2.2
  have p0 := g3.1
  have p1 := g3.2.1
  have p2 := g3.2.2.1
  have p3 := g3.2.2.2.1
  have p4 := g3.2.2.2.2
  try simp only [e3, e4, e5, e6, e7, e8, e9] at y0
  try simp only [e3, e4, e5, e6, e7, e8, e9] at y1
  try simp only [e3, e4, e5, e6, e7, e8, e9] at y2
  try simp only [e3, e4, e5, e6, e7, e8, e9] at y3
  try simp only [e3, e4, e5, e6, e7, e8, e9] at y5
  try simp only [e3, e4, e5, e6, e7, e8, e9] at y6
  try simp only [e3, e4, e5, e6, e7, e8, e9] at y8
  try simp only [e3, e4, e5, e6, e7, e8, e9] at y11
  try simp only [e3, e4, e5, e6, e7, e8, e9] at y12
  try simp only [e3, e4, e5, e6, e7, e8, e9] at y13
  try simp only [e3, e4, e5, e6, e7, e8, e9] at y14
  try simp only [e3, e4, e5, e6, e7, e8, e9] at y15
  try simp only [e3, e4, e5, e6, e7, e8, e9] at p0
  try simp only [e3, e4, e5, e6, e7, e8, e9] at p1
  try simp only [e3, e4, e5, e6, e7, e8, e9] at p2
  try simp only [e3, e4, e5, e6, e7, e8, e9] at p3
  try simp only [e3, e4, e5, e6, e7, e8, e9] at p4
  clear g3
  clear g4
  clear f21 e0 e2 e3 e4 e5 e6 e7 e8 e9
  clear f18
  subst e1
  try subst k2
  try subst k1
  try subst k0
  omega
def g_285v_64_3 : vG := ([(43, [9, 10], [], 0), (20, [10, 4], [1], 64), (90, [10], [], 0), (91, [10], [], 20), (5000, [0, 1, 2, 3, 4, 5, 6, 7, 8, 9], [0, 1], 64), (0, [0], [], 285), (90, [1], [], -2147483648), (91, [1], [], 2147483647), (90, [2], [], -2147483648), (91, [2], [], 2147483647), (90, [3], [], -2147483648), (91, [3], [], 2147483647), (0, [4], [], 285), (90, [5], [], -2147483648), (91, [5], [], 2147483647), (90, [6], [], -2147483648), (91, [6], [], 2147483647), (90, [7], [], -2147483648), (91, [7], [], 2147483647), (90, [8], [], -2147483648), (91, [8], [], 2147483647), (90, [9], [], 0), (91, [9], [], 20)], (91, [6], [], 7))
theorem c_285v_64_3 {q0 : Nat} : vOkm T0 (eP e_285v L_285v A_285v mu_285v (some q0)) 4 g_285v_64_3 := vOk_in fun ρ η h => by
  obtain ⟨f0, f1, f2, f3, f4, f5, f6, f7, f8, f9, f10, f11, f12, f13, f14, f15, f16, f17, f18, f19, f20, f21, f22, _⟩ := h
  exact q_285v_13 (q0 := q0) (n0 := ρ 9) (n1 := ρ 8) (n2 := ρ 7) (n3 := ρ 6) (n4 := ρ 5) (n5 := ρ 4) (n6 := ρ 3) (n7 := ρ 2) (n8 := ρ 1) (n9 := ρ 0) (n10 := ρ 10) (H0 := η 0) (H1 := η 1) f22 f21 f20 f19 f18 f17 f16 f15 f14 f13 f12 f11 f10 f9 f8 f7 f6 f5 f4 f3 f2 f1 f0
theorem q_285v_14 {q0 : Nat} {n0 n1 n2 n3 n4 n5 n6 n7 n8 n9 n10 : Int} {H0 H1 : gH} (f0 : n0 ≤ 20) (f1 : 0 ≤ n0) (f2 : n1 ≤ 2147483647) (f3 : (-2147483648) ≤ n1) (f4 : n2 ≤ 2147483647) (f5 : (-2147483648) ≤ n2) (f6 : n3 ≤ 2147483647) (f7 : (-2147483648) ≤ n3) (f8 : n4 ≤ 2147483647) (f9 : (-2147483648) ≤ n4) (f10 : n5 = 285) (f11 : n6 ≤ 2147483647) (f12 : (-2147483648) ≤ n6) (f13 : n7 ≤ 2147483647) (f14 : (-2147483648) ≤ n7) (f15 : n8 ≤ 2147483647) (f16 : (-2147483648) ≤ n8) (f17 : n9 = 285) (f18 : (hLe T0 H0 H1 ∧ hFr s_285v.2.2.2.2 H0 H1 ∧ hWt T0 H1) ∧ (Ab_285v_64 n9 n8 n7 n6 n5 n4 n3 n2 n1 n0 H0 H1 ∧ preb_285v n9 n8 n7 n6 H0) ∧ some q0 = some (mub_285v_64 n9 n8 n7 n6 n5 n4 n3 n2 n1 n0 H0 H1)) (f19 : n10 ≤ 20) (f20 : 0 ≤ n10) (f21 : n10 = hV H1 (n5).toNat 64) (f22 : n10 ≤ n0) : 0 ≤ n2 := by
  have g4 := f18.2.1.1
  unfold Ab_285v_64 at g4
  have g3 := f18.2.1.2
  unfold preb_285v at g3
  have e0 : hV H1 285 64 = hV H0 285 64 := f18.1.2.1.1 285 64 (by decide +kernel)
  have e1 : n10 = hV H0 285 64 := (by rw [f10] at f21; exact f21 : n10 = hV H1 285 64).trans (e0)
  have e2 : hV H1 285 18 = hV H0 285 18 := f18.1.2.1.1 285 18 (by decide +kernel)
  have e3 : hV H1 285 18 = hV H0 285 18 := e2
  have e4 : hV H1 285 64 = hV H0 285 64 := e0
  have e5 : hV H1 296 = hV H0 296 := fRow f18.1.2.1 296 (by decide +kernel)
  have e6 : hV H1 298 = hV H0 298 := fRow f18.1.2.1 298 (by decide +kernel)
  have e7 : hV H1 300 = hV H0 300 := fRow f18.1.2.1 300 (by decide +kernel)
  have e8 : hV H1 328 = hV H0 328 := fRow f18.1.2.1 328 (by decide +kernel)
  have e9 : hV H1 332 = hV H0 332 := fRow f18.1.2.1 332 (by decide +kernel)
  have e10 : (0 : Int) ≤ hV H1 285 18 ∧ hV H1 285 18 ≤ 8 := f18.1.2.2 285 18 _ _ (by decide +kernel)
  have e11 : (0 : Int) ≤ hV H1 285 64 ∧ hV H1 285 64 ≤ 20 := f18.1.2.2 285 64 _ _ (by decide +kernel)
  have e12 : (0 : Int) ≤ hV H1 285 65 ∧ hV H1 285 65 ≤ 2147483647 := f18.1.2.2 285 65 _ _ (by decide +kernel)
  try simp only [e3] at e10
  try simp only [e4] at e11
  try simp only [e3, e4, e5, e6, e7, e8, e9]
  have k0 := g4.1
  have k1 := g4.2.1
  have k2 := g4.2.2.1
  have y0 := g4.2.2.2.1
  have y1 := g4.2.2.2.2.1
  have y2 := g4.2.2.2.2.2.1
  have y3 := g4.2.2.2.2.2.2.1
  have y4 := g4.2.2.2.2.2.2.2.1
  have y5 := g4.2.2.2.2.2.2.2.2.1
  have y6 := g4.2.2.2.2.2.2.2.2.2.1
  have y7 := g4.2.2.2.2.2.2.2.2.2.2.1
  have y8 := g4.2.2.2.2.2.2.2.2.2.2.2.1
  have y9 := g4.2.2.2.2.2.2.2.2.2.2.2.2.1
  have y10 := g4.2.2.2.2.2.2.2.2.2.2.2.2.2.1
  have y11 := g4.2.2.2.2.2.2.2.2.2.2.2.2.2.2.1
  have y12 := g4.2.2.2.2.2.2.2.2.2.2.2.2.2.2.2.1
  have y13 := g4.2.2.2.2.2.2.2.2.2.2.2.2.2.2.2.2.1
  have y14 := g4.2.2.2.2.2.2.2.2.2.2.2.2.2.2.2.2.2.1
  have y15 := g4.2.2.2.2.2.2.2.2.2.2.2.2.2.2.2.2.2.2
  have p0 := g3.1
  have p1 := g3.2.1
  have p2 := g3.2.2.1
  have p3 := g3.2.2.2.1
  have p4 := g3.2.2.2.2
  try simp only [e3, e4, e5, e6, e7, e8, e9] at y0
  try simp only [e3, e4, e5, e6, e7, e8, e9] at y1
  try simp only [e3, e4, e5, e6, e7, e8, e9] at y2
  try simp only [e3, e4, e5, e6, e7, e8, e9] at y3
  try simp only [e3, e4, e5, e6, e7, e8, e9] at y5
  try simp only [e3, e4, e5, e6, e7, e8, e9] at y6
  try simp only [e3, e4, e5, e6, e7, e8, e9] at y8
  try simp only [e3, e4, e5, e6, e7, e8, e9] at y11
  try simp only [e3, e4, e5, e6, e7, e8, e9] at y12
  try simp only [e3, e4, e5, e6, e7, e8, e9] at y13
  try simp only [e3, e4, e5, e6, e7, e8, e9] at y14
  try simp only [e3, e4, e5, e6, e7, e8, e9] at y15
  try simp only [e3, e4, e5, e6, e7, e8, e9] at p0
  try simp only [e3, e4, e5, e6, e7, e8, e9] at p1
  try simp only [e3, e4, e5, e6, e7, e8, e9] at p2
  try simp only [e3, e4, e5, e6, e7, e8, e9] at p3
  try simp only [e3, e4, e5, e6, e7, e8, e9] at p4
  clear g3
  clear g4
  clear f21 e0 e2 e3 e4 e5 e6 e7 e8 e9
  clear f18
  subst e1
  try subst k2
  try subst k1
  try subst k0
  omega
def g_285v_64_4 : vG := ([(43, [9, 10], [], 0), (20, [10, 4], [1], 64), (90, [10], [], 0), (91, [10], [], 20), (5000, [0, 1, 2, 3, 4, 5, 6, 7, 8, 9], [0, 1], 64), (0, [0], [], 285), (90, [1], [], -2147483648), (91, [1], [], 2147483647), (90, [2], [], -2147483648), (91, [2], [], 2147483647), (90, [3], [], -2147483648), (91, [3], [], 2147483647), (0, [4], [], 285), (90, [5], [], -2147483648), (91, [5], [], 2147483647), (90, [6], [], -2147483648), (91, [6], [], 2147483647), (90, [7], [], -2147483648), (91, [7], [], 2147483647), (90, [8], [], -2147483648), (91, [8], [], 2147483647), (90, [9], [], 0), (91, [9], [], 20)], (90, [7], [], 0))
theorem c_285v_64_4 {q0 : Nat} : vOkm T0 (eP e_285v L_285v A_285v mu_285v (some q0)) 4 g_285v_64_4 := vOk_in fun ρ η h => by
  obtain ⟨f0, f1, f2, f3, f4, f5, f6, f7, f8, f9, f10, f11, f12, f13, f14, f15, f16, f17, f18, f19, f20, f21, f22, _⟩ := h
  exact q_285v_14 (q0 := q0) (n0 := ρ 9) (n1 := ρ 8) (n2 := ρ 7) (n3 := ρ 6) (n4 := ρ 5) (n5 := ρ 4) (n6 := ρ 3) (n7 := ρ 2) (n8 := ρ 1) (n9 := ρ 0) (n10 := ρ 10) (H0 := η 0) (H1 := η 1) f22 f21 f20 f19 f18 f17 f16 f15 f14 f13 f12 f11 f10 f9 f8 f7 f6 f5 f4 f3 f2 f1 f0
theorem q_285v_15 {q0 : Nat} {n0 n1 n2 n3 n4 n5 n6 n7 n8 n9 n10 : Int} {H0 H1 : gH} (f0 : n0 ≤ 20) (f1 : 0 ≤ n0) (f2 : n1 ≤ 2147483647) (f3 : (-2147483648) ≤ n1) (f4 : n2 ≤ 2147483647) (f5 : (-2147483648) ≤ n2) (f6 : n3 ≤ 2147483647) (f7 : (-2147483648) ≤ n3) (f8 : n4 ≤ 2147483647) (f9 : (-2147483648) ≤ n4) (f10 : n5 = 285) (f11 : n6 ≤ 2147483647) (f12 : (-2147483648) ≤ n6) (f13 : n7 ≤ 2147483647) (f14 : (-2147483648) ≤ n7) (f15 : n8 ≤ 2147483647) (f16 : (-2147483648) ≤ n8) (f17 : n9 = 285) (f18 : (hLe T0 H0 H1 ∧ hFr s_285v.2.2.2.2 H0 H1 ∧ hWt T0 H1) ∧ (Ab_285v_64 n9 n8 n7 n6 n5 n4 n3 n2 n1 n0 H0 H1 ∧ preb_285v n9 n8 n7 n6 H0) ∧ some q0 = some (mub_285v_64 n9 n8 n7 n6 n5 n4 n3 n2 n1 n0 H0 H1)) (f19 : n10 ≤ 20) (f20 : 0 ≤ n10) (f21 : n10 = hV H1 (n5).toNat 64) (f22 : n10 ≤ n0) : n2 ≤ 5 := by
  have g4 := f18.2.1.1
  unfold Ab_285v_64 at g4
  have g3 := f18.2.1.2
  unfold preb_285v at g3
  have e0 : hV H1 285 64 = hV H0 285 64 := f18.1.2.1.1 285 64 (by decide +kernel)
  have e1 : n10 = hV H0 285 64 := (by rw [f10] at f21; exact f21 : n10 = hV H1 285 64).trans (e0)
  have e2 : hV H1 285 18 = hV H0 285 18 := f18.1.2.1.1 285 18 (by decide +kernel)
  have e3 : hV H1 285 18 = hV H0 285 18 := e2
  have e4 : hV H1 285 64 = hV H0 285 64 := e0
  have e5 : hV H1 296 = hV H0 296 := fRow f18.1.2.1 296 (by decide +kernel)
  have e6 : hV H1 298 = hV H0 298 := fRow f18.1.2.1 298 (by decide +kernel)
  have e7 : hV H1 300 = hV H0 300 := fRow f18.1.2.1 300 (by decide +kernel)
  have e8 : hV H1 328 = hV H0 328 := fRow f18.1.2.1 328 (by decide +kernel)
  have e9 : hV H1 332 = hV H0 332 := fRow f18.1.2.1 332 (by decide +kernel)
  have e10 : (0 : Int) ≤ hV H1 285 18 ∧ hV H1 285 18 ≤ 8 := f18.1.2.2 285 18 _ _ (by decide +kernel)
  have e11 : (0 : Int) ≤ hV H1 285 64 ∧ hV H1 285 64 ≤ 20 := f18.1.2.2 285 64 _ _ (by decide +kernel)
  have e12 : (0 : Int) ≤ hV H1 285 65 ∧ hV H1 285 65 ≤ 2147483647 := f18.1.2.2 285 65 _ _ (by decide +kernel)
  try simp only [e3] at e10
  try simp only [e4] at e11
  try simp only [e3, e4, e5, e6, e7, e8, e9]
  have k0 := g4.1
  have k1 := g4.2.1
  have k2 := g4.2.2.1
  have y0 := g4.2.2.2.1
  have y1 := g4.2.2.2.2.1
  have y2 := g4.2.2.2.2.2.1
  have y3 := g4.2.2.2.2.2.2.1
  have y4 := g4.2.2.2.2.2.2.2.1
  have y5 := g4.2.2.2.2.2.2.2.2.1
  have y6 := g4.2.2.2.2.2.2.2.2.2.1
  have y7 := g4.2.2.2.2.2.2.2.2.2.2.1
  have y8 := g4.2.2.2.2.2.2.2.2.2.2.2.1
  have y9 := g4.2.2.2.2.2.2.2.2.2.2.2.2.1
  have y10 := g4.2.2.2.2.2.2.2.2.2.2.2.2.2.1
  have y11 := g4.2.2.2.2.2.2.2.2.2.2.2.2.2.2.1
  have y12 := g4.2.2.2.2.2.2.2.2.2.2.2.2.2.2.2.1
  have y13 := g4.2.2.2.2.2.2.2.2.2.2.2.2.2.2.2.2.1
  have y14 := g4.2.2.2.2.2.2.2.2.2.2.2.2.2.2.2.2.2.1
  have y15 := g4.2.2.2.2.2.2.2.2.2.2.2.2.2.2.2.2.2.2
  have p0 := g3.1
  have p1 := g3.2.1
  have p2 := g3.2.2.1
  have p3 := g3.2.2.2.1
  have p4 := g3.2.2.2.2
  try simp only [e3, e4, e5, e6, e7, e8, e9] at y0
  try simp only [e3, e4, e5, e6, e7, e8, e9] at y1
  try simp only [e3, e4, e5, e6, e7, e8, e9] at y2
  try simp only [e3, e4, e5, e6, e7, e8, e9] at y3
  try simp only [e3, e4, e5, e6, e7, e8, e9] at y5
  try simp only [e3, e4, e5, e6, e7, e8, e9] at y6
  try simp only [e3, e4, e5, e6, e7, e8, e9] at y8
  try simp only [e3, e4, e5, e6, e7, e8, e9] at y11
  try simp only [e3, e4, e5, e6, e7, e8, e9] at y12
  try simp only [e3, e4, e5, e6, e7, e8, e9] at y13
  try simp only [e3, e4, e5, e6, e7, e8, e9] at y14
  try simp only [e3, e4, e5, e6, e7, e8, e9] at y15
  try simp only [e3, e4, e5, e6, e7, e8, e9] at p0
  try simp only [e3, e4, e5, e6, e7, e8, e9] at p1
  try simp only [e3, e4, e5, e6, e7, e8, e9] at p2
  try simp only [e3, e4, e5, e6, e7, e8, e9] at p3
  try simp only [e3, e4, e5, e6, e7, e8, e9] at p4
  clear g3
  clear g4
  clear f21 e0 e2 e3 e4 e5 e6 e7 e8 e9
  clear f18
  subst e1
  try subst k2
  try subst k1
  try subst k0
  omega
def g_285v_64_5 : vG := ([(43, [9, 10], [], 0), (20, [10, 4], [1], 64), (90, [10], [], 0), (91, [10], [], 20), (5000, [0, 1, 2, 3, 4, 5, 6, 7, 8, 9], [0, 1], 64), (0, [0], [], 285), (90, [1], [], -2147483648), (91, [1], [], 2147483647), (90, [2], [], -2147483648), (91, [2], [], 2147483647), (90, [3], [], -2147483648), (91, [3], [], 2147483647), (0, [4], [], 285), (90, [5], [], -2147483648), (91, [5], [], 2147483647), (90, [6], [], -2147483648), (91, [6], [], 2147483647), (90, [7], [], -2147483648), (91, [7], [], 2147483647), (90, [8], [], -2147483648), (91, [8], [], 2147483647), (90, [9], [], 0), (91, [9], [], 20)], (91, [7], [], 5))
theorem c_285v_64_5 {q0 : Nat} : vOkm T0 (eP e_285v L_285v A_285v mu_285v (some q0)) 4 g_285v_64_5 := vOk_in fun ρ η h => by
  obtain ⟨f0, f1, f2, f3, f4, f5, f6, f7, f8, f9, f10, f11, f12, f13, f14, f15, f16, f17, f18, f19, f20, f21, f22, _⟩ := h
  exact q_285v_15 (q0 := q0) (n0 := ρ 9) (n1 := ρ 8) (n2 := ρ 7) (n3 := ρ 6) (n4 := ρ 5) (n5 := ρ 4) (n6 := ρ 3) (n7 := ρ 2) (n8 := ρ 1) (n9 := ρ 0) (n10 := ρ 10) (H0 := η 0) (H1 := η 1) f22 f21 f20 f19 f18 f17 f16 f15 f14 f13 f12 f11 f10 f9 f8 f7 f6 f5 f4 f3 f2 f1 f0
theorem q_285v_16 {q0 : Nat} {n0 n1 n2 n3 n4 n5 n6 n7 n8 n9 n10 : Int} {H0 H1 : gH} (f0 : n0 ≤ 20) (f1 : 0 ≤ n0) (f2 : n1 ≤ 2147483647) (f3 : (-2147483648) ≤ n1) (f4 : n2 ≤ 2147483647) (f5 : (-2147483648) ≤ n2) (f6 : n3 ≤ 2147483647) (f7 : (-2147483648) ≤ n3) (f8 : n4 ≤ 2147483647) (f9 : (-2147483648) ≤ n4) (f10 : n5 = 285) (f11 : n6 ≤ 2147483647) (f12 : (-2147483648) ≤ n6) (f13 : n7 ≤ 2147483647) (f14 : (-2147483648) ≤ n7) (f15 : n8 ≤ 2147483647) (f16 : (-2147483648) ≤ n8) (f17 : n9 = 285) (f18 : (hLe T0 H0 H1 ∧ hFr s_285v.2.2.2.2 H0 H1 ∧ hWt T0 H1) ∧ (Ab_285v_64 n9 n8 n7 n6 n5 n4 n3 n2 n1 n0 H0 H1 ∧ preb_285v n9 n8 n7 n6 H0) ∧ some q0 = some (mub_285v_64 n9 n8 n7 n6 n5 n4 n3 n2 n1 n0 H0 H1)) (f19 : n10 ≤ 20) (f20 : 0 ≤ n10) (f21 : n10 = hV H1 (n5).toNat 64) (f22 : n10 ≤ n0) : preb_283v n5 n4 n3 n2 H1 := by
  have g4 := f18.2.1.1
  unfold Ab_285v_64 at g4
  have g3 := f18.2.1.2
  unfold preb_285v at g3
  unfold preb_283v
  have e0 : hV H1 285 64 = hV H0 285 64 := f18.1.2.1.1 285 64 (by decide +kernel)
  have e1 : n10 = hV H0 285 64 := (by rw [f10] at f21; exact f21 : n10 = hV H1 285 64).trans (e0)
  have e2 : hV H1 285 18 = hV H0 285 18 := f18.1.2.1.1 285 18 (by decide +kernel)
  have e3 : hV H1 285 18 = hV H0 285 18 := e2
  have e4 : hV H1 285 64 = hV H0 285 64 := e0
  have e5 : hV H1 296 = hV H0 296 := fRow f18.1.2.1 296 (by decide +kernel)
  have e6 : hV H1 298 = hV H0 298 := fRow f18.1.2.1 298 (by decide +kernel)
  have e7 : hV H1 300 = hV H0 300 := fRow f18.1.2.1 300 (by decide +kernel)
  have e8 : hV H1 328 = hV H0 328 := fRow f18.1.2.1 328 (by decide +kernel)
  have e9 : hV H1 332 = hV H0 332 := fRow f18.1.2.1 332 (by decide +kernel)
  have e10 : PG H1 = PG H0 := PG_fr f18.1.2.1 (by decide +kernel)
  have e11 : (0 : Int) ≤ hV H1 285 18 ∧ hV H1 285 18 ≤ 8 := f18.1.2.2 285 18 _ _ (by decide +kernel)
  have e12 : (0 : Int) ≤ hV H1 285 64 ∧ hV H1 285 64 ≤ 20 := f18.1.2.2 285 64 _ _ (by decide +kernel)
  have e13 : (0 : Int) ≤ hV H1 285 65 ∧ hV H1 285 65 ≤ 2147483647 := f18.1.2.2 285 65 _ _ (by decide +kernel)
  try simp only [e3] at e11
  try simp only [e4] at e12
  try simp only [e3, e4, e5, e6, e7, e8, e9, e10]
  have k0 := g4.1
  have k1 := g4.2.1
  have k2 := g4.2.2.1
  have y0 := g4.2.2.2.1
  have y1 := g4.2.2.2.2.1
  have y2 := g4.2.2.2.2.2.1
  have y3 := g4.2.2.2.2.2.2.1
  have y4 := g4.2.2.2.2.2.2.2.1
  have y5 := g4.2.2.2.2.2.2.2.2.1
  have y6 := g4.2.2.2.2.2.2.2.2.2.1
  have y7 := g4.2.2.2.2.2.2.2.2.2.2.1
  have y8 := g4.2.2.2.2.2.2.2.2.2.2.2.1
  have y9 := g4.2.2.2.2.2.2.2.2.2.2.2.2.1
  have y10 := g4.2.2.2.2.2.2.2.2.2.2.2.2.2.1
  have y11 := g4.2.2.2.2.2.2.2.2.2.2.2.2.2.2.1
  have y12 := g4.2.2.2.2.2.2.2.2.2.2.2.2.2.2.2.1
  have y13 := g4.2.2.2.2.2.2.2.2.2.2.2.2.2.2.2.2.1
  have y14 := g4.2.2.2.2.2.2.2.2.2.2.2.2.2.2.2.2.2.1
  have y15 := g4.2.2.2.2.2.2.2.2.2.2.2.2.2.2.2.2.2.2
  have p0 := g3.1
  have p1 := g3.2.1
  have p2 := g3.2.2.1
  have p3 := g3.2.2.2.1
  have p4 := g3.2.2.2.2
  try simp only [e3, e4, e5, e6, e7, e8, e9, e10] at y0
  try simp only [e3, e4, e5, e6, e7, e8, e9, e10] at y1
  try simp only [e3, e4, e5, e6, e7, e8, e9, e10] at y2
  try simp only [e3, e4, e5, e6, e7, e8, e9, e10] at y3
  try simp only [e3, e4, e5, e6, e7, e8, e9, e10] at y5
  try simp only [e3, e4, e5, e6, e7, e8, e9, e10] at y6
  try simp only [e3, e4, e5, e6, e7, e8, e9, e10] at y8
  try simp only [e3, e4, e5, e6, e7, e8, e9, e10] at y11
  try simp only [e3, e4, e5, e6, e7, e8, e9, e10] at y12
  try simp only [e3, e4, e5, e6, e7, e8, e9, e10] at y13
  try simp only [e3, e4, e5, e6, e7, e8, e9, e10] at y14
  try simp only [e3, e4, e5, e6, e7, e8, e9, e10] at y15
  try simp only [e3, e4, e5, e6, e7, e8, e9, e10] at p0
  try simp only [e3, e4, e5, e6, e7, e8, e9, e10] at p1
  try simp only [e3, e4, e5, e6, e7, e8, e9, e10] at p2
  try simp only [e3, e4, e5, e6, e7, e8, e9, e10] at p3
  try simp only [e3, e4, e5, e6, e7, e8, e9, e10] at p4
  clear g3
  clear g4
  clear f21 e0 e2 e3 e4 e5 e6 e7 e8 e9 e10
  clear f18
  subst e1
  try subst k2
  try subst k1
  try subst k0
  refine ⟨?_, ?_, ?_, ?_, ?_, ?_, ?_⟩ <;> first | assumption | omega | trivial
def g_285v_64_6 : vG := ([(43, [9, 10], [], 0), (20, [10, 4], [1], 64), (90, [10], [], 0), (91, [10], [], 20), (5000, [0, 1, 2, 3, 4, 5, 6, 7, 8, 9], [0, 1], 64), (0, [0], [], 285), (90, [1], [], -2147483648), (91, [1], [], 2147483647), (90, [2], [], -2147483648), (91, [2], [], 2147483647), (90, [3], [], -2147483648), (91, [3], [], 2147483647), (0, [4], [], 285), (90, [5], [], -2147483648), (91, [5], [], 2147483647), (90, [6], [], -2147483648), (91, [6], [], 2147483647), (90, [7], [], -2147483648), (91, [7], [], 2147483647), (90, [8], [], -2147483648), (91, [8], [], 2147483647), (90, [9], [], 0), (91, [9], [], 20)], (2283, [4, 5, 6, 7], [1], 0))
theorem c_285v_64_6 {q0 : Nat} : vOkm T0 (eP e_285v L_285v A_285v mu_285v (some q0)) 4 g_285v_64_6 := vOk_in fun ρ η h => by
  obtain ⟨f0, f1, f2, f3, f4, f5, f6, f7, f8, f9, f10, f11, f12, f13, f14, f15, f16, f17, f18, f19, f20, f21, f22, _⟩ := h
  exact q_285v_16 (q0 := q0) (n0 := ρ 9) (n1 := ρ 8) (n2 := ρ 7) (n3 := ρ 6) (n4 := ρ 5) (n5 := ρ 4) (n6 := ρ 3) (n7 := ρ 2) (n8 := ρ 1) (n9 := ρ 0) (n10 := ρ 10) (H0 := η 0) (H1 := η 1) f22 f21 f20 f19 f18 f17 f16 f15 f14 f13 f12 f11 f10 f9 f8 f7 f6 f5 f4 f3 f2 f1 f0
theorem q_285v_17 {q0 : Nat} {n0 n1 n2 n3 n4 n5 n6 n7 n8 n9 n10 n11 : Int} {H0 H1 H2 : gH} (f0 : n0 ≤ 20) (f1 : 0 ≤ n0) (f2 : n1 ≤ 2147483647) (f3 : (-2147483648) ≤ n1) (f4 : n2 ≤ 2147483647) (f5 : (-2147483648) ≤ n2) (f6 : n3 ≤ 2147483647) (f7 : (-2147483648) ≤ n3) (f8 : n4 ≤ 2147483647) (f9 : (-2147483648) ≤ n4) (f10 : n5 = 285) (f11 : n6 ≤ 2147483647) (f12 : (-2147483648) ≤ n6) (f13 : n7 ≤ 2147483647) (f14 : (-2147483648) ≤ n7) (f15 : n8 ≤ 2147483647) (f16 : (-2147483648) ≤ n8) (f17 : n9 = 285) (f18 : (hLe T0 H0 H1 ∧ hFr s_285v.2.2.2.2 H0 H1 ∧ hWt T0 H1) ∧ (Ab_285v_64 n9 n8 n7 n6 n5 n4 n3 n2 n1 n0 H0 H1 ∧ preb_285v n9 n8 n7 n6 H0) ∧ some q0 = some (mub_285v_64 n9 n8 n7 n6 n5 n4 n3 n2 n1 n0 H0 H1)) (f19 : n10 ≤ 20) (f20 : 0 ≤ n10) (f21 : n10 = hV H1 (n5).toNat 64) (f22 : n10 ≤ n0) (f23 : n11 ≤ 2147483647) (f24 : (-2147483648) ≤ n11) (f25 : (hLe T0 H1 H2 ∧ hFr s_283v.2.2.2.2 H1 H2 ∧ ((0 : Int) = 0 → H2.length = H1.length) ∧ hWt T0 H2) ∧ postb_283v n11 n5 n4 n3 n2 H1 H2) : postb_285v n11 n9 n8 n7 n6 H0 H2 := by
  have g4 := f18.2.1.1
  unfold Ab_285v_64 at g4
  have g3 := f18.2.1.2
  unfold preb_285v at g3
  unfold postb_283v at f25
  unfold postb_285v
  have e0 : hV H1 285 64 = hV H0 285 64 := f18.1.2.1.1 285 64 (by decide +kernel)
  have e1 : n10 = hV H0 285 64 := (by rw [f10] at f21; exact f21 : n10 = hV H1 285 64).trans (e0)
  have e2 : hV H1 285 18 = hV H0 285 18 := f18.1.2.1.1 285 18 (by decide +kernel)
  have e3 : hV H1 285 18 = hV H0 285 18 := e2
  have e4 : hV H1 285 64 = hV H0 285 64 := e0
  have e5 : hV H1 296 = hV H0 296 := fRow f18.1.2.1 296 (by decide +kernel)
  have e6 : hV H1 298 = hV H0 298 := fRow f18.1.2.1 298 (by decide +kernel)
  have e7 : hV H1 300 = hV H0 300 := fRow f18.1.2.1 300 (by decide +kernel)
  have e8 : hV H1 328 = hV H0 328 := fRow f18.1.2.1 328 (by decide +kernel)
  have e9 : hV H1 332 = hV H0 332 := fRow f18.1.2.1 332 (by decide +kernel)
  have e10 : hV H2 285 18 = hV H1 285 18 := f25.1.2.1.1 285 18 (by decide +kernel)
  have e11 : hV H2 285 18 = hV H0 285 18 := (e10).trans e2
  have e12 : hV H2 285 64 = hV H1 285 64 := f25.1.2.1.1 285 64 (by decide +kernel)
  have e13 : hV H2 285 64 = hV H0 285 64 := (e12).trans e0
  have e14 : hV H2 296 = hV H1 296 := fRow f25.1.2.1 296 (by decide +kernel)
  have e15 : hV H2 296 = hV H0 296 := e14.trans e5
  have e16 : hV H2 298 = hV H1 298 := fRow f25.1.2.1 298 (by decide +kernel)
  have e17 : hV H2 298 = hV H0 298 := e16.trans e6
  have e18 : hV H2 300 = hV H1 300 := fRow f25.1.2.1 300 (by decide +kernel)
  have e19 : hV H2 300 = hV H0 300 := e18.trans e7
  have e20 : hV H2 328 = hV H1 328 := fRow f25.1.2.1 328 (by decide +kernel)
  have e21 : hV H2 328 = hV H0 328 := e20.trans e8
  have e22 : hV H2 332 = hV H1 332 := fRow f25.1.2.1 332 (by decide +kernel)
  have e23 : hV H2 332 = hV H0 332 := e22.trans e9
  have e24 : (0 : Int) ≤ hV H1 285 18 ∧ hV H1 285 18 ≤ 8 := f18.1.2.2 285 18 _ _ (by decide +kernel)
  have e25 : (0 : Int) ≤ hV H1 285 64 ∧ hV H1 285 64 ≤ 20 := f18.1.2.2 285 64 _ _ (by decide +kernel)
  have e26 : (0 : Int) ≤ hV H1 285 65 ∧ hV H1 285 65 ≤ 2147483647 := f18.1.2.2 285 65 _ _ (by decide +kernel)
  have e27 : (0 : Int) ≤ hV H2 285 18 ∧ hV H2 285 18 ≤ 8 := f25.1.2.2.2 285 18 _ _ (by decide +kernel)
  have e28 : (0 : Int) ≤ hV H2 285 64 ∧ hV H2 285 64 ≤ 20 := f25.1.2.2.2 285 64 _ _ (by decide +kernel)
  have e29 : (0 : Int) ≤ hV H2 285 65 ∧ hV H2 285 65 ≤ 2147483647 := f25.1.2.2.2 285 65 _ _ (by decide +kernel)
  try simp only [AC]
  try simp only [e3] at e24
  try simp only [e4] at e25
  try simp only [e11] at e27
  try simp only [e13] at e28
  try simp only [e3, e4, e5, e6, e7, e8, e9, e11, e13, e15, e17, e19, e21, e23]
  have k0 := g4.1
  have k1 := g4.2.1
  have k2 := g4.2.2.1
  have y0 := g4.2.2.2.1
  have y1 := g4.2.2.2.2.1
  have y2 := g4.2.2.2.2.2.1
  have y3 := g4.2.2.2.2.2.2.1
  have y4 := g4.2.2.2.2.2.2.2.1
  have y5 := g4.2.2.2.2.2.2.2.2.1
  have y6 := g4.2.2.2.2.2.2.2.2.2.1
  have y7 := g4.2.2.2.2.2.2.2.2.2.2.1
  have y8 := g4.2.2.2.2.2.2.2.2.2.2.2.1
  have y9 := g4.2.2.2.2.2.2.2.2.2.2.2.2.1
  have y10 := g4.2.2.2.2.2.2.2.2.2.2.2.2.2.1
  have y11 := g4.2.2.2.2.2.2.2.2.2.2.2.2.2.2.1
  have y12 := g4.2.2.2.2.2.2.2.2.2.2.2.2.2.2.2.1
  have y13 := g4.2.2.2.2.2.2.2.2.2.2.2.2.2.2.2.2.1
  have y14 := g4.2.2.2.2.2.2.2.2.2.2.2.2.2.2.2.2.2.1
  have y15 := g4.2.2.2.2.2.2.2.2.2.2.2.2.2.2.2.2.2.2
  have p0 := g3.1
  have p1 := g3.2.1
  have p2 := g3.2.2.1
  have p3 := g3.2.2.2.1
  have p4 := g3.2.2.2.2
  have r0_0 := f25.2.1
  have r0_1 := f25.2.2.1
  have r0_2 := f25.2.2.2.1
  have r0_3 := f25.2.2.2.2.1
  have r0_4 := f25.2.2.2.2.2.1
  have r0_5 := f25.2.2.2.2.2.2
  try simp only [AC] at y13
  try simp only [AC] at p3
  try simp only [e3, e4, e5, e6, e7, e8, e9] at y0
  try simp only [e3, e4, e5, e6, e7, e8, e9] at y1
  try simp only [e3, e4, e5, e6, e7, e8, e9] at y2
  try simp only [e3, e4, e5, e6, e7, e8, e9] at y3
  try simp only [e3, e4, e5, e6, e7, e8, e9] at y5
  try simp only [e3, e4, e5, e6, e7, e8, e9] at y6
  try simp only [e3, e4, e5, e6, e7, e8, e9] at y8
  try simp only [e3, e4, e5, e6, e7, e8, e9] at y11
  try simp only [e3, e4, e5, e6, e7, e8, e9] at y12
  try simp only [e3, e4, e5, e6, e7, e8, e9] at y13
  try simp only [e3, e4, e5, e6, e7, e8, e9] at y14
  try simp only [e3, e4, e5, e6, e7, e8, e9] at y15
  try simp only [e3, e4, e5, e6, e7, e8, e9] at p0
  try simp only [e3, e4, e5, e6, e7, e8, e9] at p1
  try simp only [e3, e4, e5, e6, e7, e8, e9] at p2
  try simp only [e3, e4, e5, e6, e7, e8, e9] at p3
  try simp only [e3, e4, e5, e6, e7, e8, e9] at p4
  try simp only [e3, e4, e5, e6, e7, e8, e9, e11, e13, e15, e17, e19, e21, e23] at r0_0
  try simp only [e3, e4, e5, e6, e7, e8, e9, e11, e13, e15, e17, e19, e21, e23] at r0_1
  try simp only [e3, e4, e5, e6, e7, e8, e9, e11, e13, e15, e17, e19, e21, e23] at r0_2
  try simp only [e3, e4, e5, e6, e7, e8, e9, e11, e13, e15, e17, e19, e21, e23] at r0_3
  try simp only [e3, e4, e5, e6, e7, e8, e9, e11, e13, e15, e17, e19, e21, e23] at r0_4
  try simp only [e3, e4, e5, e6, e7, e8, e9, e11, e13, e15, e17, e19, e21, e23] at r0_5
  clear g3
  clear g4
  clear f21 e0 e2 e3 e4 e5 e6 e7 e8 e9 e10 e11 e12 e13 e14 e15 e16 e17 e18 e19 e20 e21 e22 e23
  clear f18 f25
  subst e1

  refine ⟨r0_0, r0_1, ?_, by omega, fun s hs => by
    have hq := r0_5 s (fun e => hs (by rw [show s = (n8).toNat by omega]; omega))
    rw [hq, y15]⟩
  rw [r0_4]
  exact AC_make y13 (s := (n8).toNat) (p := (n7).toNat) (by omega) (by omega) (by omega) (by omega) (by omega) (fun j hj => ⟨y2 j hj, (fun e => y3 (by rw [← e]; exact hj)), y1 j (by have := y2 j hj; omega) hj⟩)
def g_285v_64_7 : vG := ([(1283, [11, 4, 5, 6, 7], [1, 2], 0), (90, [11], [], -2147483648), (91, [11], [], 2147483647), (43, [9, 10], [], 0), (20, [10, 4], [1], 64), (90, [10], [], 0), (91, [10], [], 20), (5000, [0, 1, 2, 3, 4, 5, 6, 7, 8, 9], [0, 1], 64), (0, [0], [], 285), (90, [1], [], -2147483648), (91, [1], [], 2147483647), (90, [2], [], -2147483648), (91, [2], [], 2147483647), (90, [3], [], -2147483648), (91, [3], [], 2147483647), (0, [4], [], 285), (90, [5], [], -2147483648), (91, [5], [], 2147483647), (90, [6], [], -2147483648), (91, [6], [], 2147483647), (90, [7], [], -2147483648), (91, [7], [], 2147483647), (90, [8], [], -2147483648), (91, [8], [], 2147483647), (90, [9], [], 0), (91, [9], [], 20)], (3000, [11], [2], 114))
theorem c_285v_64_7 {q0 : Nat} : vOkm T0 (eP e_285v L_285v A_285v mu_285v (some q0)) 4 g_285v_64_7 := vOk_in fun ρ η h => by
  obtain ⟨f0, f1, f2, f3, f4, f5, f6, f7, f8, f9, f10, f11, f12, f13, f14, f15, f16, f17, f18, f19, f20, f21, f22, f23, f24, f25, _⟩ := h
  exact q_285v_17 (q0 := q0) (n0 := ρ 9) (n1 := ρ 8) (n2 := ρ 7) (n3 := ρ 6) (n4 := ρ 5) (n5 := ρ 4) (n6 := ρ 3) (n7 := ρ 2) (n8 := ρ 1) (n9 := ρ 0) (n10 := ρ 10) (n11 := ρ 11) (H0 := η 0) (H1 := η 1) (H2 := η 2) f25 f24 f23 f22 f21 f20 f19 f18 f17 f16 f15 f14 f13 f12 f11 f10 f9 f8 f7 f6 f5 f4 f3 f2 f1 f0
theorem q_285v_18 {q0 : Nat} {n0 n1 n2 n3 n4 n5 n6 n7 n8 n9 n10 n11 n12 n13 n14 n15 : Int} {H0 H1 : gH} (f0 : n0 ≤ 20) (f1 : 0 ≤ n0) (f2 : n1 ≤ 2147483647) (f3 : (-2147483648) ≤ n1) (f4 : n2 ≤ 2147483647) (f5 : (-2147483648) ≤ n2) (f6 : n3 ≤ 2147483647) (f7 : (-2147483648) ≤ n3) (f8 : n4 ≤ 2147483647) (f9 : (-2147483648) ≤ n4) (f10 : n5 = 285) (f11 : n6 ≤ 2147483647) (f12 : (-2147483648) ≤ n6) (f13 : n7 ≤ 2147483647) (f14 : (-2147483648) ≤ n7) (f15 : n8 ≤ 2147483647) (f16 : (-2147483648) ≤ n8) (f17 : n9 = 285) (f18 : (hLe T0 H0 H1 ∧ hFr s_285v.2.2.2.2 H0 H1 ∧ hWt T0 H1) ∧ (Ab_285v_64 n9 n8 n7 n6 n5 n4 n3 n2 n1 n0 H0 H1 ∧ preb_285v n9 n8 n7 n6 H0) ∧ some q0 = some (mub_285v_64 n9 n8 n7 n6 n5 n4 n3 n2 n1 n0 H0 H1)) (f19 : n10 ≤ 20) (f20 : 0 ≤ n10) (f21 : n10 = hV H1 (n5).toNat 64) (f22 : n0 < n10) (f23 : n11 = o32 (fun x y => x >>> (y &&& 31)) n1 n0) (f24 : n12 = 1) (f25 : n13 = o32 (fun x y => x &&& y) n11 n12) (f26 : n14 = 1) (f27 : n13 ≠ n14) (f28 : n15 = w32 (n0 + 1)) : 0 ≤ n15 := by
  have g4 := f18.2.1.1
  unfold Ab_285v_64 at g4
  have g3 := f18.2.1.2
  unfold preb_285v at g3
  have e0 : hV H1 285 64 = hV H0 285 64 := f18.1.2.1.1 285 64 (by decide +kernel)
  have e1 : n10 = hV H0 285 64 := (by rw [f10] at f21; exact f21 : n10 = hV H1 285 64).trans (e0)
  have e2 : hV H1 285 18 = hV H0 285 18 := f18.1.2.1.1 285 18 (by decide +kernel)
  have e3 : hV H1 285 18 = hV H0 285 18 := e2
  have e4 : hV H1 285 64 = hV H0 285 64 := e0
  have e5 : hV H1 296 = hV H0 296 := fRow f18.1.2.1 296 (by decide +kernel)
  have e6 : hV H1 298 = hV H0 298 := fRow f18.1.2.1 298 (by decide +kernel)
  have e7 : hV H1 300 = hV H0 300 := fRow f18.1.2.1 300 (by decide +kernel)
  have e8 : hV H1 328 = hV H0 328 := fRow f18.1.2.1 328 (by decide +kernel)
  have e9 : hV H1 332 = hV H0 332 := fRow f18.1.2.1 332 (by decide +kernel)
  have e10 : (0 : Int) ≤ hV H1 285 18 ∧ hV H1 285 18 ≤ 8 := f18.1.2.2 285 18 _ _ (by decide +kernel)
  have e11 : (0 : Int) ≤ hV H1 285 64 ∧ hV H1 285 64 ≤ 20 := f18.1.2.2 285 64 _ _ (by decide +kernel)
  have e12 : (0 : Int) ≤ hV H1 285 65 ∧ hV H1 285 65 ≤ 2147483647 := f18.1.2.2 285 65 _ _ (by decide +kernel)
  try simp only [e3] at e10
  try simp only [e4] at e11
  try simp only [e3, e4, e5, e6, e7, e8, e9]
  have k0 := g4.1
  have k1 := g4.2.1
  have k2 := g4.2.2.1
  have y0 := g4.2.2.2.1
  have y1 := g4.2.2.2.2.1
  have y2 := g4.2.2.2.2.2.1
  have y3 := g4.2.2.2.2.2.2.1
  have y4 := g4.2.2.2.2.2.2.2.1
  have y5 := g4.2.2.2.2.2.2.2.2.1
  have y6 := g4.2.2.2.2.2.2.2.2.2.1
  have y7 := g4.2.2.2.2.2.2.2.2.2.2.1
  have y8 := g4.2.2.2.2.2.2.2.2.2.2.2.1
  have y9 := g4.2.2.2.2.2.2.2.2.2.2.2.2.1
  have y10 := g4.2.2.2.2.2.2.2.2.2.2.2.2.2.1
  have y11 := g4.2.2.2.2.2.2.2.2.2.2.2.2.2.2.1
  have y12 := g4.2.2.2.2.2.2.2.2.2.2.2.2.2.2.2.1
  have y13 := g4.2.2.2.2.2.2.2.2.2.2.2.2.2.2.2.2.1
  have y14 := g4.2.2.2.2.2.2.2.2.2.2.2.2.2.2.2.2.2.1
  have y15 := g4.2.2.2.2.2.2.2.2.2.2.2.2.2.2.2.2.2.2
  have p0 := g3.1
  have p1 := g3.2.1
  have p2 := g3.2.2.1
  have p3 := g3.2.2.2.1
  have p4 := g3.2.2.2.2
  try simp only [e3, e4, e5, e6, e7, e8, e9] at y0
  try simp only [e3, e4, e5, e6, e7, e8, e9] at y1
  try simp only [e3, e4, e5, e6, e7, e8, e9] at y2
  try simp only [e3, e4, e5, e6, e7, e8, e9] at y3
  try simp only [e3, e4, e5, e6, e7, e8, e9] at y5
  try simp only [e3, e4, e5, e6, e7, e8, e9] at y6
  try simp only [e3, e4, e5, e6, e7, e8, e9] at y8
  try simp only [e3, e4, e5, e6, e7, e8, e9] at y11
  try simp only [e3, e4, e5, e6, e7, e8, e9] at y12
  try simp only [e3, e4, e5, e6, e7, e8, e9] at y13
  try simp only [e3, e4, e5, e6, e7, e8, e9] at y14
  try simp only [e3, e4, e5, e6, e7, e8, e9] at y15
  try simp only [e3, e4, e5, e6, e7, e8, e9] at p0
  try simp only [e3, e4, e5, e6, e7, e8, e9] at p1
  try simp only [e3, e4, e5, e6, e7, e8, e9] at p2
  try simp only [e3, e4, e5, e6, e7, e8, e9] at p3
  try simp only [e3, e4, e5, e6, e7, e8, e9] at p4
  clear g3
  clear g4
  clear f21 e0 e2 e3 e4 e5 e6 e7 e8 e9
  clear f18
  subst e1
  have b25 := o32_and_r f25 (by omega) (by omega)
  unfold w32 at *
  try (have ix0 : n15 = n0 + 1 := (by omega); subst ix0)
  try subst k2
  try subst k1
  try subst k0
  omega
def g_285v_64_8 : vG := ([(10, [15, 9], [], 1), (41, [13, 14], [], 0), (0, [14], [], 1), (4, [13, 11, 12], [], 0), (0, [12], [], 1), (8, [11, 8, 9], [], 0), (42, [9, 10], [], 0), (20, [10, 4], [1], 64), (90, [10], [], 0), (91, [10], [], 20), (5000, [0, 1, 2, 3, 4, 5, 6, 7, 8, 9], [0, 1], 64), (0, [0], [], 285), (90, [1], [], -2147483648), (91, [1], [], 2147483647), (90, [2], [], -2147483648), (91, [2], [], 2147483647), (90, [3], [], -2147483648), (91, [3], [], 2147483647), (0, [4], [], 285), (90, [5], [], -2147483648), (91, [5], [], 2147483647), (90, [6], [], -2147483648), (91, [6], [], 2147483647), (90, [7], [], -2147483648), (91, [7], [], 2147483647), (90, [8], [], -2147483648), (91, [8], [], 2147483647), (90, [9], [], 0), (91, [9], [], 20)], (90, [15], [], 0))
theorem c_285v_64_8 {q0 : Nat} : vOkm T0 (eP e_285v L_285v A_285v mu_285v (some q0)) 4 g_285v_64_8 := vOk_in fun ρ η h => by
  obtain ⟨f0, f1, f2, f3, f4, f5, f6, f7, f8, f9, f10, f11, f12, f13, f14, f15, f16, f17, f18, f19, f20, f21, f22, f23, f24, f25, f26, f27, f28, _⟩ := h
  exact q_285v_18 (q0 := q0) (n0 := ρ 9) (n1 := ρ 8) (n2 := ρ 7) (n3 := ρ 6) (n4 := ρ 5) (n5 := ρ 4) (n6 := ρ 3) (n7 := ρ 2) (n8 := ρ 1) (n9 := ρ 0) (n10 := ρ 10) (n11 := ρ 11) (n12 := ρ 12) (n13 := ρ 13) (n14 := ρ 14) (n15 := ρ 15) (H0 := η 0) (H1 := η 1) f28 f27 f26 f25 f24 f23 f22 f21 f20 f19 f18 f17 f16 f15 f14 f13 f12 f11 f10 f9 f8 f7 f6 f5 f4 f3 f2 f1 f0
theorem q_285v_19 {q0 : Nat} {n0 n1 n2 n3 n4 n5 n6 n7 n8 n9 n10 n11 n12 n13 n14 n15 : Int} {H0 H1 : gH} (f0 : n0 ≤ 20) (f1 : 0 ≤ n0) (f2 : n1 ≤ 2147483647) (f3 : (-2147483648) ≤ n1) (f4 : n2 ≤ 2147483647) (f5 : (-2147483648) ≤ n2) (f6 : n3 ≤ 2147483647) (f7 : (-2147483648) ≤ n3) (f8 : n4 ≤ 2147483647) (f9 : (-2147483648) ≤ n4) (f10 : n5 = 285) (f11 : n6 ≤ 2147483647) (f12 : (-2147483648) ≤ n6) (f13 : n7 ≤ 2147483647) (f14 : (-2147483648) ≤ n7) (f15 : n8 ≤ 2147483647) (f16 : (-2147483648) ≤ n8) (f17 : n9 = 285) (f18 : (hLe T0 H0 H1 ∧ hFr s_285v.2.2.2.2 H0 H1 ∧ hWt T0 H1) ∧ (Ab_285v_64 n9 n8 n7 n6 n5 n4 n3 n2 n1 n0 H0 H1 ∧ preb_285v n9 n8 n7 n6 H0) ∧ some q0 = some (mub_285v_64 n9 n8 n7 n6 n5 n4 n3 n2 n1 n0 H0 H1)) (f19 : n10 ≤ 20) (f20 : 0 ≤ n10) (f21 : n10 = hV H1 (n5).toNat 64) (f22 : n0 < n10) (f23 : n11 = o32 (fun x y => x >>> (y &&& 31)) n1 n0) (f24 : n12 = 1) (f25 : n13 = o32 (fun x y => x &&& y) n11 n12) (f26 : n14 = 1) (f27 : n13 ≠ n14) (f28 : n15 = w32 (n0 + 1)) : n15 ≤ 20 := by
  have g4 := f18.2.1.1
  unfold Ab_285v_64 at g4
  have g3 := f18.2.1.2
  unfold preb_285v at g3
  have e0 : hV H1 285 64 = hV H0 285 64 := f18.1.2.1.1 285 64 (by decide +kernel)
  have e1 : n10 = hV H0 285 64 := (by rw [f10] at f21; exact f21 : n10 = hV H1 285 64).trans (e0)
  have e2 : hV H1 285 18 = hV H0 285 18 := f18.1.2.1.1 285 18 (by decide +kernel)
  have e3 : hV H1 285 18 = hV H0 285 18 := e2
  have e4 : hV H1 285 64 = hV H0 285 64 := e0
  have e5 : hV H1 296 = hV H0 296 := fRow f18.1.2.1 296 (by decide +kernel)
  have e6 : hV H1 298 = hV H0 298 := fRow f18.1.2.1 298 (by decide +kernel)
  have e7 : hV H1 300 = hV H0 300 := fRow f18.1.2.1 300 (by decide +kernel)
  have e8 : hV H1 328 = hV H0 328 := fRow f18.1.2.1 328 (by decide +kernel)
  have e9 : hV H1 332 = hV H0 332 := fRow f18.1.2.1 332 (by decide +kernel)
  have e10 : (0 : Int) ≤ hV H1 285 18 ∧ hV H1 285 18 ≤ 8 := f18.1.2.2 285 18 _ _ (by decide +kernel)
  have e11 : (0 : Int) ≤ hV H1 285 64 ∧ hV H1 285 64 ≤ 20 := f18.1.2.2 285 64 _ _ (by decide +kernel)
  have e12 : (0 : Int) ≤ hV H1 285 65 ∧ hV H1 285 65 ≤ 2147483647 := f18.1.2.2 285 65 _ _ (by decide +kernel)
  try simp only [e3] at e10
  try simp only [e4] at e11
  try simp only [e3, e4, e5, e6, e7, e8, e9]
  have k0 := g4.1
  have k1 := g4.2.1
  have k2 := g4.2.2.1
  have y0 := g4.2.2.2.1
  have y1 := g4.2.2.2.2.1
  have y2 := g4.2.2.2.2.2.1
  have y3 := g4.2.2.2.2.2.2.1
  have y4 := g4.2.2.2.2.2.2.2.1
  have y5 := g4.2.2.2.2.2.2.2.2.1
  have y6 := g4.2.2.2.2.2.2.2.2.2.1
  have y7 := g4.2.2.2.2.2.2.2.2.2.2.1
  have y8 := g4.2.2.2.2.2.2.2.2.2.2.2.1
  have y9 := g4.2.2.2.2.2.2.2.2.2.2.2.2.1
  have y10 := g4.2.2.2.2.2.2.2.2.2.2.2.2.2.1
  have y11 := g4.2.2.2.2.2.2.2.2.2.2.2.2.2.2.1
  have y12 := g4.2.2.2.2.2.2.2.2.2.2.2.2.2.2.2.1
  have y13 := g4.2.2.2.2.2.2.2.2.2.2.2.2.2.2.2.2.1
  have y14 := g4.2.2.2.2.2.2.2.2.2.2.2.2.2.2.2.2.2.1
  have y15 := g4.2.2.2.2.2.2.2.2.2.2.2.2.2.2.2.2.2.2
  have p0 := g3.1
  have p1 := g3.2.1
  have p2 := g3.2.2.1
  have p3 := g3.2.2.2.1
  have p4 := g3.2.2.2.2
  try simp only [e3, e4, e5, e6, e7, e8, e9] at y0
  try simp only [e3, e4, e5, e6, e7, e8, e9] at y1
  try simp only [e3, e4, e5, e6, e7, e8, e9] at y2
  try simp only [e3, e4, e5, e6, e7, e8, e9] at y3
  try simp only [e3, e4, e5, e6, e7, e8, e9] at y5
  try simp only [e3, e4, e5, e6, e7, e8, e9] at y6
  try simp only [e3, e4, e5, e6, e7, e8, e9] at y8
  try simp only [e3, e4, e5, e6, e7, e8, e9] at y11
  try simp only [e3, e4, e5, e6, e7, e8, e9] at y12
  try simp only [e3, e4, e5, e6, e7, e8, e9] at y13
  try simp only [e3, e4, e5, e6, e7, e8, e9] at y14
  try simp only [e3, e4, e5, e6, e7, e8, e9] at y15
  try simp only [e3, e4, e5, e6, e7, e8, e9] at p0
  try simp only [e3, e4, e5, e6, e7, e8, e9] at p1
  try simp only [e3, e4, e5, e6, e7, e8, e9] at p2
  try simp only [e3, e4, e5, e6, e7, e8, e9] at p3
  try simp only [e3, e4, e5, e6, e7, e8, e9] at p4
  clear g3
  clear g4
  clear f21 e0 e2 e3 e4 e5 e6 e7 e8 e9
  clear f18
  subst e1
  have b25 := o32_and_r f25 (by omega) (by omega)
  unfold w32 at *
  try (have ix0 : n15 = n0 + 1 := (by omega); subst ix0)
  try subst k2
  try subst k1
  try subst k0
  omega
def g_285v_64_9 : vG := ([(10, [15, 9], [], 1), (41, [13, 14], [], 0), (0, [14], [], 1), (4, [13, 11, 12], [], 0), (0, [12], [], 1), (8, [11, 8, 9], [], 0), (42, [9, 10], [], 0), (20, [10, 4], [1], 64), (90, [10], [], 0), (91, [10], [], 20), (5000, [0, 1, 2, 3, 4, 5, 6, 7, 8, 9], [0, 1], 64), (0, [0], [], 285), (90, [1], [], -2147483648), (91, [1], [], 2147483647), (90, [2], [], -2147483648), (91, [2], [], 2147483647), (90, [3], [], -2147483648), (91, [3], [], 2147483647), (0, [4], [], 285), (90, [5], [], -2147483648), (91, [5], [], 2147483647), (90, [6], [], -2147483648), (91, [6], [], 2147483647), (90, [7], [], -2147483648), (91, [7], [], 2147483647), (90, [8], [], -2147483648), (91, [8], [], 2147483647), (90, [9], [], 0), (91, [9], [], 20)], (91, [15], [], 20))
theorem c_285v_64_9 {q0 : Nat} : vOkm T0 (eP e_285v L_285v A_285v mu_285v (some q0)) 4 g_285v_64_9 := vOk_in fun ρ η h => by
  obtain ⟨f0, f1, f2, f3, f4, f5, f6, f7, f8, f9, f10, f11, f12, f13, f14, f15, f16, f17, f18, f19, f20, f21, f22, f23, f24, f25, f26, f27, f28, _⟩ := h
  exact q_285v_19 (q0 := q0) (n0 := ρ 9) (n1 := ρ 8) (n2 := ρ 7) (n3 := ρ 6) (n4 := ρ 5) (n5 := ρ 4) (n6 := ρ 3) (n7 := ρ 2) (n8 := ρ 1) (n9 := ρ 0) (n10 := ρ 10) (n11 := ρ 11) (n12 := ρ 12) (n13 := ρ 13) (n14 := ρ 14) (n15 := ρ 15) (H0 := η 0) (H1 := η 1) f28 f27 f26 f25 f24 f23 f22 f21 f20 f19 f18 f17 f16 f15 f14 f13 f12 f11 f10 f9 f8 f7 f6 f5 f4 f3 f2 f1 f0
theorem q_285v_20 {q0 : Nat} {n0 n1 n2 n3 n4 n5 n6 n7 n8 n9 n10 n11 n12 n13 n14 n15 : Int} {H0 H1 : gH} (f0 : n0 ≤ 20) (f1 : 0 ≤ n0) (f2 : n1 ≤ 2147483647) (f3 : (-2147483648) ≤ n1) (f4 : n2 ≤ 2147483647) (f5 : (-2147483648) ≤ n2) (f6 : n3 ≤ 2147483647) (f7 : (-2147483648) ≤ n3) (f8 : n4 ≤ 2147483647) (f9 : (-2147483648) ≤ n4) (f10 : n5 = 285) (f11 : n6 ≤ 2147483647) (f12 : (-2147483648) ≤ n6) (f13 : n7 ≤ 2147483647) (f14 : (-2147483648) ≤ n7) (f15 : n8 ≤ 2147483647) (f16 : (-2147483648) ≤ n8) (f17 : n9 = 285) (f18 : (hLe T0 H0 H1 ∧ hFr s_285v.2.2.2.2 H0 H1 ∧ hWt T0 H1) ∧ (Ab_285v_64 n9 n8 n7 n6 n5 n4 n3 n2 n1 n0 H0 H1 ∧ preb_285v n9 n8 n7 n6 H0) ∧ some q0 = some (mub_285v_64 n9 n8 n7 n6 n5 n4 n3 n2 n1 n0 H0 H1)) (f19 : n10 ≤ 20) (f20 : 0 ≤ n10) (f21 : n10 = hV H1 (n5).toNat 64) (f22 : n0 < n10) (f23 : n11 = o32 (fun x y => x >>> (y &&& 31)) n1 n0) (f24 : n12 = 1) (f25 : n13 = o32 (fun x y => x &&& y) n11 n12) (f26 : n14 = 1) (f27 : n13 ≠ n14) (f28 : n15 = w32 (n0 + 1)) : Ab_285v_64 n9 n8 n7 n6 n5 n4 n3 n2 n1 n15 H0 H1 ∧ ∀ q, some q0 = some q → mub_285v_64 n9 n8 n7 n6 n5 n4 n3 n2 n1 n15 H0 H1 < q := by
  have g4 := f18.2.1.1
  unfold Ab_285v_64 at g4
  have g3 := f18.2.1.2
  unfold preb_285v at g3
  have g5 := Option.some.inj f18.2.2
  unfold mub_285v_64 at g5
  unfold Ab_285v_64
  unfold mub_285v_64
  have e0 : hV H1 285 64 = hV H0 285 64 := f18.1.2.1.1 285 64 (by decide +kernel)
  have e1 : n10 = hV H0 285 64 := (by rw [f10] at f21; exact f21 : n10 = hV H1 285 64).trans (e0)
  have e2 : hV H1 285 18 = hV H0 285 18 := f18.1.2.1.1 285 18 (by decide +kernel)
  have e3 : hV H1 285 18 = hV H0 285 18 := e2
  have e4 : hV H1 285 64 = hV H0 285 64 := e0
  have e5 : hV H1 296 = hV H0 296 := fRow f18.1.2.1 296 (by decide +kernel)
  have e6 : hV H1 298 = hV H0 298 := fRow f18.1.2.1 298 (by decide +kernel)
  have e7 : hV H1 300 = hV H0 300 := fRow f18.1.2.1 300 (by decide +kernel)
  have e8 : hV H1 328 = hV H0 328 := fRow f18.1.2.1 328 (by decide +kernel)
  have e9 : hV H1 332 = hV H0 332 := fRow f18.1.2.1 332 (by decide +kernel)
  have e10 : (0 : Int) ≤ hV H1 285 18 ∧ hV H1 285 18 ≤ 8 := f18.1.2.2 285 18 _ _ (by decide +kernel)
  have e11 : (0 : Int) ≤ hV H1 285 64 ∧ hV H1 285 64 ≤ 20 := f18.1.2.2 285 64 _ _ (by decide +kernel)
  have e12 : (0 : Int) ≤ hV H1 285 65 ∧ hV H1 285 65 ≤ 2147483647 := f18.1.2.2 285 65 _ _ (by decide +kernel)
  try simp only [e3] at e10
  try simp only [e4] at e11
  try simp only [e3, e4, e5, e6, e7, e8, e9] at g5
  try simp only [e3, e4, e5, e6, e7, e8, e9]
  have k0 := g4.1
  have k1 := g4.2.1
  have k2 := g4.2.2.1
  have y0 := g4.2.2.2.1
  have y1 := g4.2.2.2.2.1
  have y2 := g4.2.2.2.2.2.1
  have y3 := g4.2.2.2.2.2.2.1
  have y4 := g4.2.2.2.2.2.2.2.1
  have y5 := g4.2.2.2.2.2.2.2.2.1
  have y6 := g4.2.2.2.2.2.2.2.2.2.1
  have y7 := g4.2.2.2.2.2.2.2.2.2.2.1
  have y8 := g4.2.2.2.2.2.2.2.2.2.2.2.1
  have y9 := g4.2.2.2.2.2.2.2.2.2.2.2.2.1
  have y10 := g4.2.2.2.2.2.2.2.2.2.2.2.2.2.1
  have y11 := g4.2.2.2.2.2.2.2.2.2.2.2.2.2.2.1
  have y12 := g4.2.2.2.2.2.2.2.2.2.2.2.2.2.2.2.1
  have y13 := g4.2.2.2.2.2.2.2.2.2.2.2.2.2.2.2.2.1
  have y14 := g4.2.2.2.2.2.2.2.2.2.2.2.2.2.2.2.2.2.1
  have y15 := g4.2.2.2.2.2.2.2.2.2.2.2.2.2.2.2.2.2.2
  have p0 := g3.1
  have p1 := g3.2.1
  have p2 := g3.2.2.1
  have p3 := g3.2.2.2.1
  have p4 := g3.2.2.2.2
  try simp only [e3, e4, e5, e6, e7, e8, e9] at y0
  try simp only [e3, e4, e5, e6, e7, e8, e9] at y1
  try simp only [e3, e4, e5, e6, e7, e8, e9] at y2
  try simp only [e3, e4, e5, e6, e7, e8, e9] at y3
  try simp only [e3, e4, e5, e6, e7, e8, e9] at y5
  try simp only [e3, e4, e5, e6, e7, e8, e9] at y6
  try simp only [e3, e4, e5, e6, e7, e8, e9] at y8
  try simp only [e3, e4, e5, e6, e7, e8, e9] at y11
  try simp only [e3, e4, e5, e6, e7, e8, e9] at y12
  try simp only [e3, e4, e5, e6, e7, e8, e9] at y13
  try simp only [e3, e4, e5, e6, e7, e8, e9] at y14
  try simp only [e3, e4, e5, e6, e7, e8, e9] at y15
  try simp only [e3, e4, e5, e6, e7, e8, e9] at p0
  try simp only [e3, e4, e5, e6, e7, e8, e9] at p1
  try simp only [e3, e4, e5, e6, e7, e8, e9] at p2
  try simp only [e3, e4, e5, e6, e7, e8, e9] at p3
  try simp only [e3, e4, e5, e6, e7, e8, e9] at p4
  clear g3
  clear g4
  clear f21 e0 e2 e3 e4 e5 e6 e7 e8 e9
  clear f18
  subst e1
  have b25 := o32_and_r f25 (by omega) (by omega)
  unfold w32 at *
  try (have ix0 : n15 = n0 + 1 := (by omega); subst ix0)

  try subst k2
  try subst k1
  try subst k0
  have tb := bt_test f23 f25 (by omega) (by omega) (by omega)
  refine ⟨?_, fun q hq => ?_⟩
  · exact ⟨by first | omega | trivial, by first | omega | trivial, by first | omega | trivial, y0, MA_step y1 (by omega) (by omega) (fun z => by have := tb.1.mpr ((y0 _ (by omega)).mpr z); omega), y2, y3, by omega, by omega, by omega, by omega, by omega, by omega, by omega, y11, y12, y13, by omega, y15⟩
  · have g6 := Option.some.inj hq
    subst g6
    omega
def g_285v_64_10 : vG := ([(10, [15, 9], [], 1), (41, [13, 14], [], 0), (0, [14], [], 1), (4, [13, 11, 12], [], 0), (0, [12], [], 1), (8, [11, 8, 9], [], 0), (42, [9, 10], [], 0), (20, [10, 4], [1], 64), (90, [10], [], 0), (91, [10], [], 20), (5000, [0, 1, 2, 3, 4, 5, 6, 7, 8, 9], [0, 1], 64), (0, [0], [], 285), (90, [1], [], -2147483648), (91, [1], [], 2147483647), (90, [2], [], -2147483648), (91, [2], [], 2147483647), (90, [3], [], -2147483648), (91, [3], [], 2147483647), (0, [4], [], 285), (90, [5], [], -2147483648), (91, [5], [], 2147483647), (90, [6], [], -2147483648), (91, [6], [], 2147483647), (90, [7], [], -2147483648), (91, [7], [], 2147483647), (90, [8], [], -2147483648), (91, [8], [], 2147483647), (90, [9], [], 0), (91, [9], [], 20)], (4000, [4, 5, 6, 7, 8, 15], [1], 64))
theorem c_285v_64_10 {q0 : Nat} : vOkm T0 (eP e_285v L_285v A_285v mu_285v (some q0)) 4 g_285v_64_10 := vOk_in fun ρ η h => by
  obtain ⟨f0, f1, f2, f3, f4, f5, f6, f7, f8, f9, f10, f11, f12, f13, f14, f15, f16, f17, f18, f19, f20, f21, f22, f23, f24, f25, f26, f27, f28, _⟩ := h
  exact q_285v_20 (q0 := q0) (n0 := ρ 9) (n1 := ρ 8) (n2 := ρ 7) (n3 := ρ 6) (n4 := ρ 5) (n5 := ρ 4) (n6 := ρ 3) (n7 := ρ 2) (n8 := ρ 1) (n9 := ρ 0) (n10 := ρ 10) (n11 := ρ 11) (n12 := ρ 12) (n13 := ρ 13) (n14 := ρ 14) (n15 := ρ 15) (H0 := η 0) (H1 := η 1) f28 f27 f26 f25 f24 f23 f22 f21 f20 f19 f18 f17 f16 f15 f14 f13 f12 f11 f10 f9 f8 f7 f6 f5 f4 f3 f2 f1 f0
theorem q_285v_21 {q0 : Nat} {n0 n1 n2 n3 n4 n5 n6 n7 n8 n9 n10 n11 n12 n13 n14 : Int} {H0 H1 : gH} (f0 : n0 ≤ 20) (f1 : 0 ≤ n0) (f2 : n1 ≤ 2147483647) (f3 : (-2147483648) ≤ n1) (f4 : n2 ≤ 2147483647) (f5 : (-2147483648) ≤ n2) (f6 : n3 ≤ 2147483647) (f7 : (-2147483648) ≤ n3) (f8 : n4 ≤ 2147483647) (f9 : (-2147483648) ≤ n4) (f10 : n5 = 285) (f11 : n6 ≤ 2147483647) (f12 : (-2147483648) ≤ n6) (f13 : n7 ≤ 2147483647) (f14 : (-2147483648) ≤ n7) (f15 : n8 ≤ 2147483647) (f16 : (-2147483648) ≤ n8) (f17 : n9 = 285) (f18 : (hLe T0 H0 H1 ∧ hFr s_285v.2.2.2.2 H0 H1 ∧ hWt T0 H1) ∧ (Ab_285v_64 n9 n8 n7 n6 n5 n4 n3 n2 n1 n0 H0 H1 ∧ preb_285v n9 n8 n7 n6 H0) ∧ some q0 = some (mub_285v_64 n9 n8 n7 n6 n5 n4 n3 n2 n1 n0 H0 H1)) (f19 : n10 ≤ 20) (f20 : 0 ≤ n10) (f21 : n10 = hV H1 (n5).toNat 64) (f22 : n0 < n10) (f23 : n11 = o32 (fun x y => x >>> (y &&& 31)) n1 n0) (f24 : n12 = 1) (f25 : n13 = o32 (fun x y => x &&& y) n11 n12) (f26 : n14 = 1) (f27 : n13 = n14) : n0 ≤ 19 := by
  have g4 := f18.2.1.1
  unfold Ab_285v_64 at g4
  have g3 := f18.2.1.2
  unfold preb_285v at g3
  have e0 : hV H1 285 64 = hV H0 285 64 := f18.1.2.1.1 285 64 (by decide +kernel)
  have e1 : n10 = hV H0 285 64 := (by rw [f10] at f21; exact f21 : n10 = hV H1 285 64).trans (e0)
  have e2 : hV H1 285 18 = hV H0 285 18 := f18.1.2.1.1 285 18 (by decide +kernel)
  have e3 : hV H1 285 18 = hV H0 285 18 := e2
  have e4 : hV H1 285 64 = hV H0 285 64 := e0
  have e5 : hV H1 296 = hV H0 296 := fRow f18.1.2.1 296 (by decide +kernel)
  have e6 : hV H1 298 = hV H0 298 := fRow f18.1.2.1 298 (by decide +kernel)
  have e7 : hV H1 300 = hV H0 300 := fRow f18.1.2.1 300 (by decide +kernel)
  have e8 : hV H1 328 = hV H0 328 := fRow f18.1.2.1 328 (by decide +kernel)
  have e9 : hV H1 332 = hV H0 332 := fRow f18.1.2.1 332 (by decide +kernel)
  have e10 : (0 : Int) ≤ hV H1 285 18 ∧ hV H1 285 18 ≤ 8 := f18.1.2.2 285 18 _ _ (by decide +kernel)
  have e11 : (0 : Int) ≤ hV H1 285 64 ∧ hV H1 285 64 ≤ 20 := f18.1.2.2 285 64 _ _ (by decide +kernel)
  have e12 : (0 : Int) ≤ hV H1 285 65 ∧ hV H1 285 65 ≤ 2147483647 := f18.1.2.2 285 65 _ _ (by decide +kernel)
  try simp only [e3] at e10
  try simp only [e4] at e11
  try simp only [e3, e4, e5, e6, e7, e8, e9]
  have k0 := g4.1
  have k1 := g4.2.1
  have k2 := g4.2.2.1
  have y0 := g4.2.2.2.1
  have y1 := g4.2.2.2.2.1
  have y2 := g4.2.2.2.2.2.1
  have y3 := g4.2.2.2.2.2.2.1
  have y4 := g4.2.2.2.2.2.2.2.1
  have y5 := g4.2.2.2.2.2.2.2.2.1
  have y6 := g4.2.2.2.2.2.2.2.2.2.1
  have y7 := g4.2.2.2.2.2.2.2.2.2.2.1
  have y8 := g4.2.2.2.2.2.2.2.2.2.2.2.1
  have y9 := g4.2.2.2.2.2.2.2.2.2.2.2.2.1
  have y10 := g4.2.2.2.2.2.2.2.2.2.2.2.2.2.1
  have y11 := g4.2.2.2.2.2.2.2.2.2.2.2.2.2.2.1
  have y12 := g4.2.2.2.2.2.2.2.2.2.2.2.2.2.2.2.1
  have y13 := g4.2.2.2.2.2.2.2.2.2.2.2.2.2.2.2.2.1
  have y14 := g4.2.2.2.2.2.2.2.2.2.2.2.2.2.2.2.2.2.1
  have y15 := g4.2.2.2.2.2.2.2.2.2.2.2.2.2.2.2.2.2.2
  have p0 := g3.1
  have p1 := g3.2.1
  have p2 := g3.2.2.1
  have p3 := g3.2.2.2.1
  have p4 := g3.2.2.2.2
  try simp only [e3, e4, e5, e6, e7, e8, e9] at y0
  try simp only [e3, e4, e5, e6, e7, e8, e9] at y1
  try simp only [e3, e4, e5, e6, e7, e8, e9] at y2
  try simp only [e3, e4, e5, e6, e7, e8, e9] at y3
  try simp only [e3, e4, e5, e6, e7, e8, e9] at y5
  try simp only [e3, e4, e5, e6, e7, e8, e9] at y6
  try simp only [e3, e4, e5, e6, e7, e8, e9] at y8
  try simp only [e3, e4, e5, e6, e7, e8, e9] at y11
  try simp only [e3, e4, e5, e6, e7, e8, e9] at y12
  try simp only [e3, e4, e5, e6, e7, e8, e9] at y13
  try simp only [e3, e4, e5, e6, e7, e8, e9] at y14
  try simp only [e3, e4, e5, e6, e7, e8, e9] at y15
  try simp only [e3, e4, e5, e6, e7, e8, e9] at p0
  try simp only [e3, e4, e5, e6, e7, e8, e9] at p1
  try simp only [e3, e4, e5, e6, e7, e8, e9] at p2
  try simp only [e3, e4, e5, e6, e7, e8, e9] at p3
  try simp only [e3, e4, e5, e6, e7, e8, e9] at p4
  clear g3
  clear g4
  clear f21 e0 e2 e3 e4 e5 e6 e7 e8 e9
  clear f18
  subst e1
  have b25 := o32_and_r f25 (by omega) (by omega)
  try subst k2
  try subst k1
  try subst k0
  omega
def g_285v_64_11 : vG := ([(40, [13, 14], [], 0), (0, [14], [], 1), (4, [13, 11, 12], [], 0), (0, [12], [], 1), (8, [11, 8, 9], [], 0), (42, [9, 10], [], 0), (20, [10, 4], [1], 64), (90, [10], [], 0), (91, [10], [], 20), (5000, [0, 1, 2, 3, 4, 5, 6, 7, 8, 9], [0, 1], 64), (0, [0], [], 285), (90, [1], [], -2147483648), (91, [1], [], 2147483647), (90, [2], [], -2147483648), (91, [2], [], 2147483647), (90, [3], [], -2147483648), (91, [3], [], 2147483647), (0, [4], [], 285), (90, [5], [], -2147483648), (91, [5], [], 2147483647), (90, [6], [], -2147483648), (91, [6], [], 2147483647), (90, [7], [], -2147483648), (91, [7], [], 2147483647), (90, [8], [], -2147483648), (91, [8], [], 2147483647), (90, [9], [], 0), (91, [9], [], 20)], (91, [9], [], 19))
theorem c_285v_64_11 {q0 : Nat} : vOkm T0 (eP e_285v L_285v A_285v mu_285v (some q0)) 4 g_285v_64_11 := vOk_in fun ρ η h => by
  obtain ⟨f0, f1, f2, f3, f4, f5, f6, f7, f8, f9, f10, f11, f12, f13, f14, f15, f16, f17, f18, f19, f20, f21, f22, f23, f24, f25, f26, f27, _⟩ := h
  exact q_285v_21 (q0 := q0) (n0 := ρ 9) (n1 := ρ 8) (n2 := ρ 7) (n3 := ρ 6) (n4 := ρ 5) (n5 := ρ 4) (n6 := ρ 3) (n7 := ρ 2) (n8 := ρ 1) (n9 := ρ 0) (n10 := ρ 10) (n11 := ρ 11) (n12 := ρ 12) (n13 := ρ 13) (n14 := ρ 14) (H0 := η 0) (H1 := η 1) f27 f26 f25 f24 f23 f22 f21 f20 f19 f18 f17 f16 f15 f14 f13 f12 f11 f10 f9 f8 f7 f6 f5 f4 f3 f2 f1 f0
theorem q_285v_22 {q0 : Nat} {n0 n1 n2 n3 n4 n5 n6 n7 n8 n9 n10 n11 n12 n13 n14 : Int} {H0 H1 : gH} (f0 : n0 ≤ 20) (f1 : 0 ≤ n0) (f2 : n1 ≤ 2147483647) (f3 : (-2147483648) ≤ n1) (f4 : n2 ≤ 2147483647) (f5 : (-2147483648) ≤ n2) (f6 : n3 ≤ 2147483647) (f7 : (-2147483648) ≤ n3) (f8 : n4 ≤ 2147483647) (f9 : (-2147483648) ≤ n4) (f10 : n5 = 285) (f11 : n6 ≤ 2147483647) (f12 : (-2147483648) ≤ n6) (f13 : n7 ≤ 2147483647) (f14 : (-2147483648) ≤ n7) (f15 : n8 ≤ 2147483647) (f16 : (-2147483648) ≤ n8) (f17 : n9 = 285) (f18 : (hLe T0 H0 H1 ∧ hFr s_285v.2.2.2.2 H0 H1 ∧ hWt T0 H1) ∧ (Ab_285v_64 n9 n8 n7 n6 n5 n4 n3 n2 n1 n0 H0 H1 ∧ preb_285v n9 n8 n7 n6 H0) ∧ some q0 = some (mub_285v_64 n9 n8 n7 n6 n5 n4 n3 n2 n1 n0 H0 H1)) (f19 : n10 ≤ 20) (f20 : 0 ≤ n10) (f21 : n10 = hV H1 (n5).toNat 64) (f22 : n0 < n10) (f23 : n11 = o32 (fun x y => x >>> (y &&& 31)) n1 n0) (f24 : n12 = 1) (f25 : n13 = o32 (fun x y => x &&& y) n11 n12) (f26 : n14 = 1) (f27 : n13 = n14) : preb_280 n5 n0 H1 := by
  have g4 := f18.2.1.1
  unfold Ab_285v_64 at g4
  have g3 := f18.2.1.2
  unfold preb_285v at g3
  unfold preb_280
  have e0 : hV H1 285 64 = hV H0 285 64 := f18.1.2.1.1 285 64 (by decide +kernel)
  have e1 : n10 = hV H0 285 64 := (by rw [f10] at f21; exact f21 : n10 = hV H1 285 64).trans (e0)
  have e2 : hV H1 285 18 = hV H0 285 18 := f18.1.2.1.1 285 18 (by decide +kernel)
  have e3 : hV H1 285 18 = hV H0 285 18 := e2
  have e4 : hV H1 285 64 = hV H0 285 64 := e0
  have e5 : hV H1 296 = hV H0 296 := fRow f18.1.2.1 296 (by decide +kernel)
  have e6 : hV H1 298 = hV H0 298 := fRow f18.1.2.1 298 (by decide +kernel)
  have e7 : hV H1 300 = hV H0 300 := fRow f18.1.2.1 300 (by decide +kernel)
  have e8 : hV H1 328 = hV H0 328 := fRow f18.1.2.1 328 (by decide +kernel)
  have e9 : hV H1 332 = hV H0 332 := fRow f18.1.2.1 332 (by decide +kernel)
  have e10 : PG H1 = PG H0 := PG_fr f18.1.2.1 (by decide +kernel)
  have e11 : (0 : Int) ≤ hV H1 285 18 ∧ hV H1 285 18 ≤ 8 := f18.1.2.2 285 18 _ _ (by decide +kernel)
  have e12 : (0 : Int) ≤ hV H1 285 64 ∧ hV H1 285 64 ≤ 20 := f18.1.2.2 285 64 _ _ (by decide +kernel)
  have e13 : (0 : Int) ≤ hV H1 285 65 ∧ hV H1 285 65 ≤ 2147483647 := f18.1.2.2 285 65 _ _ (by decide +kernel)
  try simp only [e3] at e11
  try simp only [e4] at e12
  try simp only [e3, e4, e5, e6, e7, e8, e9, e10]
  have k0 := g4.1
  have k1 := g4.2.1
  have k2 := g4.2.2.1
  have y0 := g4.2.2.2.1
  have y1 := g4.2.2.2.2.1
  have y2 := g4.2.2.2.2.2.1
  have y3 := g4.2.2.2.2.2.2.1
  have y4 := g4.2.2.2.2.2.2.2.1
  have y5 := g4.2.2.2.2.2.2.2.2.1
  have y6 := g4.2.2.2.2.2.2.2.2.2.1
  have y7 := g4.2.2.2.2.2.2.2.2.2.2.1
  have y8 := g4.2.2.2.2.2.2.2.2.2.2.2.1
  have y9 := g4.2.2.2.2.2.2.2.2.2.2.2.2.1
  have y10 := g4.2.2.2.2.2.2.2.2.2.2.2.2.2.1
  have y11 := g4.2.2.2.2.2.2.2.2.2.2.2.2.2.2.1
  have y12 := g4.2.2.2.2.2.2.2.2.2.2.2.2.2.2.2.1
  have y13 := g4.2.2.2.2.2.2.2.2.2.2.2.2.2.2.2.2.1
  have y14 := g4.2.2.2.2.2.2.2.2.2.2.2.2.2.2.2.2.2.1
  have y15 := g4.2.2.2.2.2.2.2.2.2.2.2.2.2.2.2.2.2.2
  have p0 := g3.1
  have p1 := g3.2.1
  have p2 := g3.2.2.1
  have p3 := g3.2.2.2.1
  have p4 := g3.2.2.2.2
  try simp only [e3, e4, e5, e6, e7, e8, e9, e10] at y0
  try simp only [e3, e4, e5, e6, e7, e8, e9, e10] at y1
  try simp only [e3, e4, e5, e6, e7, e8, e9, e10] at y2
  try simp only [e3, e4, e5, e6, e7, e8, e9, e10] at y3
  try simp only [e3, e4, e5, e6, e7, e8, e9, e10] at y5
  try simp only [e3, e4, e5, e6, e7, e8, e9, e10] at y6
  try simp only [e3, e4, e5, e6, e7, e8, e9, e10] at y8
  try simp only [e3, e4, e5, e6, e7, e8, e9, e10] at y11
  try simp only [e3, e4, e5, e6, e7, e8, e9, e10] at y12
  try simp only [e3, e4, e5, e6, e7, e8, e9, e10] at y13
  try simp only [e3, e4, e5, e6, e7, e8, e9, e10] at y14
  try simp only [e3, e4, e5, e6, e7, e8, e9, e10] at y15
  try simp only [e3, e4, e5, e6, e7, e8, e9, e10] at p0
  try simp only [e3, e4, e5, e6, e7, e8, e9, e10] at p1
  try simp only [e3, e4, e5, e6, e7, e8, e9, e10] at p2
  try simp only [e3, e4, e5, e6, e7, e8, e9, e10] at p3
  try simp only [e3, e4, e5, e6, e7, e8, e9, e10] at p4
  clear g3
  clear g4
  clear f21 e0 e2 e3 e4 e5 e6 e7 e8 e9 e10
  clear f18
  subst e1
  have b25 := o32_and_r f25 (by omega) (by omega)
  try subst k2
  try subst k1
  try subst k0
  refine ⟨?_, ?_, ?_⟩ <;> first | assumption | omega | trivial
def g_285v_64_12 : vG := ([(40, [13, 14], [], 0), (0, [14], [], 1), (4, [13, 11, 12], [], 0), (0, [12], [], 1), (8, [11, 8, 9], [], 0), (42, [9, 10], [], 0), (20, [10, 4], [1], 64), (90, [10], [], 0), (91, [10], [], 20), (5000, [0, 1, 2, 3, 4, 5, 6, 7, 8, 9], [0, 1], 64), (0, [0], [], 285), (90, [1], [], -2147483648), (91, [1], [], 2147483647), (90, [2], [], -2147483648), (91, [2], [], 2147483647), (90, [3], [], -2147483648), (91, [3], [], 2147483647), (0, [4], [], 285), (90, [5], [], -2147483648), (91, [5], [], 2147483647), (90, [6], [], -2147483648), (91, [6], [], 2147483647), (90, [7], [], -2147483648), (91, [7], [], 2147483647), (90, [8], [], -2147483648), (91, [8], [], 2147483647), (90, [9], [], 0), (91, [9], [], 20)], (2280, [4, 9], [1], 0))
theorem c_285v_64_12 {q0 : Nat} : vOkm T0 (eP e_285v L_285v A_285v mu_285v (some q0)) 4 g_285v_64_12 := vOk_in fun ρ η h => by
  obtain ⟨f0, f1, f2, f3, f4, f5, f6, f7, f8, f9, f10, f11, f12, f13, f14, f15, f16, f17, f18, f19, f20, f21, f22, f23, f24, f25, f26, f27, _⟩ := h
  exact q_285v_22 (q0 := q0) (n0 := ρ 9) (n1 := ρ 8) (n2 := ρ 7) (n3 := ρ 6) (n4 := ρ 5) (n5 := ρ 4) (n6 := ρ 3) (n7 := ρ 2) (n8 := ρ 1) (n9 := ρ 0) (n10 := ρ 10) (n11 := ρ 11) (n12 := ρ 12) (n13 := ρ 13) (n14 := ρ 14) (H0 := η 0) (H1 := η 1) f27 f26 f25 f24 f23 f22 f21 f20 f19 f18 f17 f16 f15 f14 f13 f12 f11 f10 f9 f8 f7 f6 f5 f4 f3 f2 f1 f0
theorem q_285v_23 {q0 : Nat} {n0 n1 n2 n3 n4 n5 n6 n7 n8 n9 n10 n11 n12 n13 n14 n15 n16 n17 n18 n19 n20 : Int} {H0 H1 H2 : gH} (f0 : n0 ≤ 20) (f1 : 0 ≤ n0) (f2 : n1 ≤ 2147483647) (f3 : (-2147483648) ≤ n1) (f4 : n2 ≤ 2147483647) (f5 : (-2147483648) ≤ n2) (f6 : n3 ≤ 2147483647) (f7 : (-2147483648) ≤ n3) (f8 : n4 ≤ 2147483647) (f9 : (-2147483648) ≤ n4) (f10 : n5 = 285) (f11 : n6 ≤ 2147483647) (f12 : (-2147483648) ≤ n6) (f13 : n7 ≤ 2147483647) (f14 : (-2147483648) ≤ n7) (f15 : n8 ≤ 2147483647) (f16 : (-2147483648) ≤ n8) (f17 : n9 = 285) (f18 : (hLe T0 H0 H1 ∧ hFr s_285v.2.2.2.2 H0 H1 ∧ hWt T0 H1) ∧ (Ab_285v_64 n9 n8 n7 n6 n5 n4 n3 n2 n1 n0 H0 H1 ∧ preb_285v n9 n8 n7 n6 H0) ∧ some q0 = some (mub_285v_64 n9 n8 n7 n6 n5 n4 n3 n2 n1 n0 H0 H1)) (f19 : n10 ≤ 20) (f20 : 0 ≤ n10) (f21 : n10 = hV H1 (n5).toNat 64) (f22 : n0 < n10) (f23 : n11 = o32 (fun x y => x >>> (y &&& 31)) n1 n0) (f24 : n12 = 1) (f25 : n13 = o32 (fun x y => x &&& y) n11 n12) (f26 : n14 = 1) (f27 : n13 = n14) (f28 : n15 ≤ 2147483647) (f29 : (-2147483648) ≤ n15) (f30 : (hLe T0 H1 H2 ∧ hFr s_280.2.2.2.2 H1 H2 ∧ ((0 : Int) = 0 → H2.length = H1.length) ∧ hWt T0 H2) ∧ postb_280 n15 n5 n0 H1 H2) (f31 : n16 = o32 (fun x y => x >>> (y &&& 31)) n15 n4) (f32 : n17 = 1) (f33 : n18 = o32 (fun x y => x &&& y) n16 n17) (f34 : n19 = 1) (f35 : n18 ≠ n19) (f36 : n20 = w32 (n0 + 1)) : 0 ≤ n20 := by
  have g4 := f18.2.1.1
  unfold Ab_285v_64 at g4
  have g3 := f18.2.1.2
  unfold preb_285v at g3
  unfold postb_280 at f30
  have e0 : hV H1 285 64 = hV H0 285 64 := f18.1.2.1.1 285 64 (by decide +kernel)
  have e1 : n10 = hV H0 285 64 := (by rw [f10] at f21; exact f21 : n10 = hV H1 285 64).trans (e0)
  have e2 : hV H1 285 18 = hV H0 285 18 := f18.1.2.1.1 285 18 (by decide +kernel)
  have e3 : hV H1 285 18 = hV H0 285 18 := e2
  have e4 : hV H1 285 64 = hV H0 285 64 := e0
  have e5 : hV H1 296 = hV H0 296 := fRow f18.1.2.1 296 (by decide +kernel)
  have e6 : hV H1 298 = hV H0 298 := fRow f18.1.2.1 298 (by decide +kernel)
  have e7 : hV H1 300 = hV H0 300 := fRow f18.1.2.1 300 (by decide +kernel)
  have e8 : hV H1 328 = hV H0 328 := fRow f18.1.2.1 328 (by decide +kernel)
  have e9 : hV H1 332 = hV H0 332 := fRow f18.1.2.1 332 (by decide +kernel)
  have e10 : hV H2 285 64 = hV H1 285 64 := f30.1.2.1.1 285 64 (by decide +kernel)
  have e11 : hV H2 285 64 = hV H0 285 64 := (e10).trans e0
  have e12 : hV H2 296 = hV H1 296 := fRow f30.1.2.1 296 (by decide +kernel)
  have e13 : hV H2 296 = hV H0 296 := e12.trans e5
  have e14 : hV H2 298 = hV H1 298 := fRow f30.1.2.1 298 (by decide +kernel)
  have e15 : hV H2 298 = hV H0 298 := e14.trans e6
  have e16 : hV H2 300 = hV H1 300 := fRow f30.1.2.1 300 (by decide +kernel)
  have e17 : hV H2 300 = hV H0 300 := e16.trans e7
  have e18 : hV H2 328 = hV H1 328 := fRow f30.1.2.1 328 (by decide +kernel)
  have e19 : hV H2 328 = hV H0 328 := e18.trans e8
  have e20 : hV H2 332 = hV H1 332 := fRow f30.1.2.1 332 (by decide +kernel)
  have e21 : hV H2 332 = hV H0 332 := e20.trans e9
  have e22 : hV H2 335 = hV H1 335 := fRow f30.1.2.1 335 (by decide +kernel)
  have e23 : (0 : Int) ≤ hV H1 285 18 ∧ hV H1 285 18 ≤ 8 := f18.1.2.2 285 18 _ _ (by decide +kernel)
  have e24 : (0 : Int) ≤ hV H1 285 64 ∧ hV H1 285 64 ≤ 20 := f18.1.2.2 285 64 _ _ (by decide +kernel)
  have e25 : (0 : Int) ≤ hV H1 285 65 ∧ hV H1 285 65 ≤ 2147483647 := f18.1.2.2 285 65 _ _ (by decide +kernel)
  have e26 : (0 : Int) ≤ hV H2 285 64 ∧ hV H2 285 64 ≤ 20 := f30.1.2.2.2 285 64 _ _ (by decide +kernel)
  try simp only [e3] at e23
  try simp only [e4] at e24
  try simp only [e11] at e26
  try simp only [e3, e4, e5, e6, e7, e8, e9, e11, e13, e15, e17, e19, e21, e22]
  have k0 := g4.1
  have k1 := g4.2.1
  have k2 := g4.2.2.1
  have y0 := g4.2.2.2.1
  have y1 := g4.2.2.2.2.1
  have y2 := g4.2.2.2.2.2.1
  have y3 := g4.2.2.2.2.2.2.1
  have y4 := g4.2.2.2.2.2.2.2.1
  have y5 := g4.2.2.2.2.2.2.2.2.1
  have y6 := g4.2.2.2.2.2.2.2.2.2.1
  have y7 := g4.2.2.2.2.2.2.2.2.2.2.1
  have y8 := g4.2.2.2.2.2.2.2.2.2.2.2.1
  have y9 := g4.2.2.2.2.2.2.2.2.2.2.2.2.1
  have y10 := g4.2.2.2.2.2.2.2.2.2.2.2.2.2.1
  have y11 := g4.2.2.2.2.2.2.2.2.2.2.2.2.2.2.1
  have y12 := g4.2.2.2.2.2.2.2.2.2.2.2.2.2.2.2.1
  have y13 := g4.2.2.2.2.2.2.2.2.2.2.2.2.2.2.2.2.1
  have y14 := g4.2.2.2.2.2.2.2.2.2.2.2.2.2.2.2.2.2.1
  have y15 := g4.2.2.2.2.2.2.2.2.2.2.2.2.2.2.2.2.2.2
  have p0 := g3.1
  have p1 := g3.2.1
  have p2 := g3.2.2.1
  have p3 := g3.2.2.2.1
  have p4 := g3.2.2.2.2
  have r0_0 := f30.2
  try simp only [e3, e4, e5, e6, e7, e8, e9] at y0
  try simp only [e3, e4, e5, e6, e7, e8, e9] at y1
  try simp only [e3, e4, e5, e6, e7, e8, e9] at y2
  try simp only [e3, e4, e5, e6, e7, e8, e9] at y3
  try simp only [e3, e4, e5, e6, e7, e8, e9] at y5
  try simp only [e3, e4, e5, e6, e7, e8, e9] at y6
  try simp only [e3, e4, e5, e6, e7, e8, e9] at y8
  try simp only [e3, e4, e5, e6, e7, e8, e9] at y11
  try simp only [e3, e4, e5, e6, e7, e8, e9] at y12
  try simp only [e3, e4, e5, e6, e7, e8, e9] at y13
  try simp only [e3, e4, e5, e6, e7, e8, e9] at y14
  try simp only [e3, e4, e5, e6, e7, e8, e9] at y15
  try simp only [e3, e4, e5, e6, e7, e8, e9] at p0
  try simp only [e3, e4, e5, e6, e7, e8, e9] at p1
  try simp only [e3, e4, e5, e6, e7, e8, e9] at p2
  try simp only [e3, e4, e5, e6, e7, e8, e9] at p3
  try simp only [e3, e4, e5, e6, e7, e8, e9] at p4
  try simp only [e3, e4, e5, e6, e7, e8, e9, e11, e13, e15, e17, e19, e21, e22] at r0_0
  clear g3
  clear g4
  clear f21 e0 e2 e3 e4 e5 e6 e7 e8 e9 e10 e11 e12 e13 e14 e15 e16 e17 e18 e19 e20 e21 e22
  clear f18 f30
  subst e1
  have b25 := o32_and_r f25 (by omega) (by omega)
  have b33 := o32_and_r f33 (by omega) (by omega)
  unfold w32 at *
  try (have ix0 : n20 = n0 + 1 := (by omega); subst ix0)
  try subst k2
  try subst k1
  try subst k0
  omega
def g_285v_64_13 : vG := ([(10, [20, 9], [], 1), (41, [18, 19], [], 0), (0, [19], [], 1), (4, [18, 16, 17], [], 0), (0, [17], [], 1), (8, [16, 15, 5], [], 0), (1280, [15, 4, 9], [1, 2], 0), (90, [15], [], -2147483648), (91, [15], [], 2147483647), (40, [13, 14], [], 0), (0, [14], [], 1), (4, [13, 11, 12], [], 0), (0, [12], [], 1), (8, [11, 8, 9], [], 0), (42, [9, 10], [], 0), (20, [10, 4], [1], 64), (90, [10], [], 0), (91, [10], [], 20), (5000, [0, 1, 2, 3, 4, 5, 6, 7, 8, 9], [0, 1], 64), (0, [0], [], 285), (90, [1], [], -2147483648), (91, [1], [], 2147483647), (90, [2], [], -2147483648), (91, [2], [], 2147483647), (90, [3], [], -2147483648), (91, [3], [], 2147483647), (0, [4], [], 285), (90, [5], [], -2147483648), (91, [5], [], 2147483647), (90, [6], [], -2147483648), (91, [6], [], 2147483647), (90, [7], [], -2147483648), (91, [7], [], 2147483647), (90, [8], [], -2147483648), (91, [8], [], 2147483647), (90, [9], [], 0), (91, [9], [], 20)], (90, [20], [], 0))
theorem c_285v_64_13 {q0 : Nat} : vOkm T0 (eP e_285v L_285v A_285v mu_285v (some q0)) 4 g_285v_64_13 := vOk_in fun ρ η h => by
  obtain ⟨f0, f1, f2, f3, f4, f5, f6, f7, f8, f9, f10, f11, f12, f13, f14, f15, f16, f17, f18, f19, f20, f21, f22, f23, f24, f25, f26, f27, f28, f29, f30, f31, f32, f33, f34, f35, f36, _⟩ := h
  exact q_285v_23 (q0 := q0) (n0 := ρ 9) (n1 := ρ 8) (n2 := ρ 7) (n3 := ρ 6) (n4 := ρ 5) (n5 := ρ 4) (n6 := ρ 3) (n7 := ρ 2) (n8 := ρ 1) (n9 := ρ 0) (n10 := ρ 10) (n11 := ρ 11) (n12 := ρ 12) (n13 := ρ 13) (n14 := ρ 14) (n15 := ρ 15) (n16 := ρ 16) (n17 := ρ 17) (n18 := ρ 18) (n19 := ρ 19) (n20 := ρ 20) (H0 := η 0) (H1 := η 1) (H2 := η 2) f36 f35 f34 f33 f32 f31 f30 f29 f28 f27 f26 f25 f24 f23 f22 f21 f20 f19 f18 f17 f16 f15 f14 f13 f12 f11 f10 f9 f8 f7 f6 f5 f4 f3 f2 f1 f0
theorem q_285v_24 {q0 : Nat} {n0 n1 n2 n3 n4 n5 n6 n7 n8 n9 n10 n11 n12 n13 n14 n15 n16 n17 n18 n19 n20 : Int} {H0 H1 H2 : gH} (f0 : n0 ≤ 20) (f1 : 0 ≤ n0) (f2 : n1 ≤ 2147483647) (f3 : (-2147483648) ≤ n1) (f4 : n2 ≤ 2147483647) (f5 : (-2147483648) ≤ n2) (f6 : n3 ≤ 2147483647) (f7 : (-2147483648) ≤ n3) (f8 : n4 ≤ 2147483647) (f9 : (-2147483648) ≤ n4) (f10 : n5 = 285) (f11 : n6 ≤ 2147483647) (f12 : (-2147483648) ≤ n6) (f13 : n7 ≤ 2147483647) (f14 : (-2147483648) ≤ n7) (f15 : n8 ≤ 2147483647) (f16 : (-2147483648) ≤ n8) (f17 : n9 = 285) (f18 : (hLe T0 H0 H1 ∧ hFr s_285v.2.2.2.2 H0 H1 ∧ hWt T0 H1) ∧ (Ab_285v_64 n9 n8 n7 n6 n5 n4 n3 n2 n1 n0 H0 H1 ∧ preb_285v n9 n8 n7 n6 H0) ∧ some q0 = some (mub_285v_64 n9 n8 n7 n6 n5 n4 n3 n2 n1 n0 H0 H1)) (f19 : n10 ≤ 20) (f20 : 0 ≤ n10) (f21 : n10 = hV H1 (n5).toNat 64) (f22 : n0 < n10) (f23 : n11 = o32 (fun x y => x >>> (y &&& 31)) n1 n0) (f24 : n12 = 1) (f25 : n13 = o32 (fun x y => x &&& y) n11 n12) (f26 : n14 = 1) (f27 : n13 = n14) (f28 : n15 ≤ 2147483647) (f29 : (-2147483648) ≤ n15) (f30 : (hLe T0 H1 H2 ∧ hFr s_280.2.2.2.2 H1 H2 ∧ ((0 : Int) = 0 → H2.length = H1.length) ∧ hWt T0 H2) ∧ postb_280 n15 n5 n0 H1 H2) (f31 : n16 = o32 (fun x y => x >>> (y &&& 31)) n15 n4) (f32 : n17 = 1) (f33 : n18 = o32 (fun x y => x &&& y) n16 n17) (f34 : n19 = 1) (f35 : n18 ≠ n19) (f36 : n20 = w32 (n0 + 1)) : n20 ≤ 20 := by
  have g4 := f18.2.1.1
  unfold Ab_285v_64 at g4
  have g3 := f18.2.1.2
  unfold preb_285v at g3
  unfold postb_280 at f30
  have e0 : hV H1 285 64 = hV H0 285 64 := f18.1.2.1.1 285 64 (by decide +kernel)
  have e1 : n10 = hV H0 285 64 := (by rw [f10] at f21; exact f21 : n10 = hV H1 285 64).trans (e0)
  have e2 : hV H1 285 18 = hV H0 285 18 := f18.1.2.1.1 285 18 (by decide +kernel)
  have e3 : hV H1 285 18 = hV H0 285 18 := e2
  have e4 : hV H1 285 64 = hV H0 285 64 := e0
  have e5 : hV H1 296 = hV H0 296 := fRow f18.1.2.1 296 (by decide +kernel)
  have e6 : hV H1 298 = hV H0 298 := fRow f18.1.2.1 298 (by decide +kernel)
  have e7 : hV H1 300 = hV H0 300 := fRow f18.1.2.1 300 (by decide +kernel)
  have e8 : hV H1 328 = hV H0 328 := fRow f18.1.2.1 328 (by decide +kernel)
  have e9 : hV H1 332 = hV H0 332 := fRow f18.1.2.1 332 (by decide +kernel)
  have e10 : hV H2 285 64 = hV H1 285 64 := f30.1.2.1.1 285 64 (by decide +kernel)
  have e11 : hV H2 285 64 = hV H0 285 64 := (e10).trans e0
  have e12 : hV H2 296 = hV H1 296 := fRow f30.1.2.1 296 (by decide +kernel)
  have e13 : hV H2 296 = hV H0 296 := e12.trans e5
  have e14 : hV H2 298 = hV H1 298 := fRow f30.1.2.1 298 (by decide +kernel)
  have e15 : hV H2 298 = hV H0 298 := e14.trans e6
  have e16 : hV H2 300 = hV H1 300 := fRow f30.1.2.1 300 (by decide +kernel)
  have e17 : hV H2 300 = hV H0 300 := e16.trans e7
  have e18 : hV H2 328 = hV H1 328 := fRow f30.1.2.1 328 (by decide +kernel)
  have e19 : hV H2 328 = hV H0 328 := e18.trans e8
  have e20 : hV H2 332 = hV H1 332 := fRow f30.1.2.1 332 (by decide +kernel)
  have e21 : hV H2 332 = hV H0 332 := e20.trans e9
  have e22 : hV H2 335 = hV H1 335 := fRow f30.1.2.1 335 (by decide +kernel)
  have e23 : (0 : Int) ≤ hV H1 285 18 ∧ hV H1 285 18 ≤ 8 := f18.1.2.2 285 18 _ _ (by decide +kernel)
  have e24 : (0 : Int) ≤ hV H1 285 64 ∧ hV H1 285 64 ≤ 20 := f18.1.2.2 285 64 _ _ (by decide +kernel)
  have e25 : (0 : Int) ≤ hV H1 285 65 ∧ hV H1 285 65 ≤ 2147483647 := f18.1.2.2 285 65 _ _ (by decide +kernel)
  have e26 : (0 : Int) ≤ hV H2 285 64 ∧ hV H2 285 64 ≤ 20 := f30.1.2.2.2 285 64 _ _ (by decide +kernel)
  try simp only [e3] at e23
  try simp only [e4] at e24
  try simp only [e11] at e26
  try simp only [e3, e4, e5, e6, e7, e8, e9, e11, e13, e15, e17, e19, e21, e22]
  have k0 := g4.1
  have k1 := g4.2.1
  have k2 := g4.2.2.1
  have y0 := g4.2.2.2.1
  have y1 := g4.2.2.2.2.1
  have y2 := g4.2.2.2.2.2.1
  have y3 := g4.2.2.2.2.2.2.1
  have y4 := g4.2.2.2.2.2.2.2.1
  have y5 := g4.2.2.2.2.2.2.2.2.1
  have y6 := g4.2.2.2.2.2.2.2.2.2.1
  have y7 := g4.2.2.2.2.2.2.2.2.2.2.1
  have y8 := g4.2.2.2.2.2.2.2.2.2.2.2.1
  have y9 := g4.2.2.2.2.2.2.2.2.2.2.2.2.1
  have y10 := g4.2.2.2.2.2.2.2.2.2.2.2.2.2.1
  have y11 := g4.2.2.2.2.2.2.2.2.2.2.2.2.2.2.1
  have y12 := g4.2.2.2.2.2.2.2.2.2.2.2.2.2.2.2.1
  have y13 := g4.2.2.2.2.2.2.2.2.2.2.2.2.2.2.2.2.1
  have y14 := g4.2.2.2.2.2.2.2.2.2.2.2.2.2.2.2.2.2.1
  have y15 := g4.2.2.2.2.2.2.2.2.2.2.2.2.2.2.2.2.2.2
  have p0 := g3.1
  have p1 := g3.2.1
  have p2 := g3.2.2.1
  have p3 := g3.2.2.2.1
  have p4 := g3.2.2.2.2
  have r0_0 := f30.2
  try simp only [e3, e4, e5, e6, e7, e8, e9] at y0
  try simp only [e3, e4, e5, e6, e7, e8, e9] at y1
  try simp only [e3, e4, e5, e6, e7, e8, e9] at y2
  try simp only [e3, e4, e5, e6, e7, e8, e9] at y3
  try simp only [e3, e4, e5, e6, e7, e8, e9] at y5
  try simp only [e3, e4, e5, e6, e7, e8, e9] at y6
  try simp only [e3, e4, e5, e6, e7, e8, e9] at y8
  try simp only [e3, e4, e5, e6, e7, e8, e9] at y11
  try simp only [e3, e4, e5, e6, e7, e8, e9] at y12
  try simp only [e3, e4, e5, e6, e7, e8, e9] at y13
  try simp only [e3, e4, e5, e6, e7, e8, e9] at y14
  try simp only [e3, e4, e5, e6, e7, e8, e9] at y15
  try simp only [e3, e4, e5, e6, e7, e8, e9] at p0
  try simp only [e3, e4, e5, e6, e7, e8, e9] at p1
  try simp only [e3, e4, e5, e6, e7, e8, e9] at p2
  try simp only [e3, e4, e5, e6, e7, e8, e9] at p3
  try simp only [e3, e4, e5, e6, e7, e8, e9] at p4
  try simp only [e3, e4, e5, e6, e7, e8, e9, e11, e13, e15, e17, e19, e21, e22] at r0_0
  clear g3
  clear g4
  clear f21 e0 e2 e3 e4 e5 e6 e7 e8 e9 e10 e11 e12 e13 e14 e15 e16 e17 e18 e19 e20 e21 e22
  clear f18 f30
  subst e1
  have b25 := o32_and_r f25 (by omega) (by omega)
  have b33 := o32_and_r f33 (by omega) (by omega)
  unfold w32 at *
  try (have ix0 : n20 = n0 + 1 := (by omega); subst ix0)
  try subst k2
  try subst k1
  try subst k0
  omega
def g_285v_64_14 : vG := ([(10, [20, 9], [], 1), (41, [18, 19], [], 0), (0, [19], [], 1), (4, [18, 16, 17], [], 0), (0, [17], [], 1), (8, [16, 15, 5], [], 0), (1280, [15, 4, 9], [1, 2], 0), (90, [15], [], -2147483648), (91, [15], [], 2147483647), (40, [13, 14], [], 0), (0, [14], [], 1), (4, [13, 11, 12], [], 0), (0, [12], [], 1), (8, [11, 8, 9], [], 0), (42, [9, 10], [], 0), (20, [10, 4], [1], 64), (90, [10], [], 0), (91, [10], [], 20), (5000, [0, 1, 2, 3, 4, 5, 6, 7, 8, 9], [0, 1], 64), (0, [0], [], 285), (90, [1], [], -2147483648), (91, [1], [], 2147483647), (90, [2], [], -2147483648), (91, [2], [], 2147483647), (90, [3], [], -2147483648), (91, [3], [], 2147483647), (0, [4], [], 285), (90, [5], [], -2147483648), (91, [5], [], 2147483647), (90, [6], [], -2147483648), (91, [6], [], 2147483647), (90, [7], [], -2147483648), (91, [7], [], 2147483647), (90, [8], [], -2147483648), (91, [8], [], 2147483647), (90, [9], [], 0), (91, [9], [], 20)], (91, [20], [], 20))
theorem c_285v_64_14 {q0 : Nat} : vOkm T0 (eP e_285v L_285v A_285v mu_285v (some q0)) 4 g_285v_64_14 := vOk_in fun ρ η h => by
  obtain ⟨f0, f1, f2, f3, f4, f5, f6, f7, f8, f9, f10, f11, f12, f13, f14, f15, f16, f17, f18, f19, f20, f21, f22, f23, f24, f25, f26, f27, f28, f29, f30, f31, f32, f33, f34, f35, f36, _⟩ := h
  exact q_285v_24 (q0 := q0) (n0 := ρ 9) (n1 := ρ 8) (n2 := ρ 7) (n3 := ρ 6) (n4 := ρ 5) (n5 := ρ 4) (n6 := ρ 3) (n7 := ρ 2) (n8 := ρ 1) (n9 := ρ 0) (n10 := ρ 10) (n11 := ρ 11) (n12 := ρ 12) (n13 := ρ 13) (n14 := ρ 14) (n15 := ρ 15) (n16 := ρ 16) (n17 := ρ 17) (n18 := ρ 18) (n19 := ρ 19) (n20 := ρ 20) (H0 := η 0) (H1 := η 1) (H2 := η 2) f36 f35 f34 f33 f32 f31 f30 f29 f28 f27 f26 f25 f24 f23 f22 f21 f20 f19 f18 f17 f16 f15 f14 f13 f12 f11 f10 f9 f8 f7 f6 f5 f4 f3 f2 f1 f0
theorem q_285v_25 {q0 : Nat} {n0 n1 n2 n3 n4 n5 n6 n7 n8 n9 n10 n11 n12 n13 n14 n15 n16 n17 n18 n19 n20 : Int} {H0 H1 H2 : gH} (f0 : n0 ≤ 20) (f1 : 0 ≤ n0) (f2 : n1 ≤ 2147483647) (f3 : (-2147483648) ≤ n1) (f4 : n2 ≤ 2147483647) (f5 : (-2147483648) ≤ n2) (f6 : n3 ≤ 2147483647) (f7 : (-2147483648) ≤ n3) (f8 : n4 ≤ 2147483647) (f9 : (-2147483648) ≤ n4) (f10 : n5 = 285) (f11 : n6 ≤ 2147483647) (f12 : (-2147483648) ≤ n6) (f13 : n7 ≤ 2147483647) (f14 : (-2147483648) ≤ n7) (f15 : n8 ≤ 2147483647) (f16 : (-2147483648) ≤ n8) (f17 : n9 = 285) (f18 : (hLe T0 H0 H1 ∧ hFr s_285v.2.2.2.2 H0 H1 ∧ hWt T0 H1) ∧ (Ab_285v_64 n9 n8 n7 n6 n5 n4 n3 n2 n1 n0 H0 H1 ∧ preb_285v n9 n8 n7 n6 H0) ∧ some q0 = some (mub_285v_64 n9 n8 n7 n6 n5 n4 n3 n2 n1 n0 H0 H1)) (f19 : n10 ≤ 20) (f20 : 0 ≤ n10) (f21 : n10 = hV H1 (n5).toNat 64) (f22 : n0 < n10) (f23 : n11 = o32 (fun x y => x >>> (y &&& 31)) n1 n0) (f24 : n12 = 1) (f25 : n13 = o32 (fun x y => x &&& y) n11 n12) (f26 : n14 = 1) (f27 : n13 = n14) (f28 : n15 ≤ 2147483647) (f29 : (-2147483648) ≤ n15) (f30 : (hLe T0 H1 H2 ∧ hFr s_280.2.2.2.2 H1 H2 ∧ ((0 : Int) = 0 → H2.length = H1.length) ∧ hWt T0 H2) ∧ postb_280 n15 n5 n0 H1 H2) (f31 : n16 = o32 (fun x y => x >>> (y &&& 31)) n15 n4) (f32 : n17 = 1) (f33 : n18 = o32 (fun x y => x &&& y) n16 n17) (f34 : n19 = 1) (f35 : n18 ≠ n19) (f36 : n20 = w32 (n0 + 1)) : Ab_285v_64 n9 n8 n7 n6 n5 n4 n3 n2 n1 n20 H0 H2 ∧ ∀ q, some q0 = some q → mub_285v_64 n9 n8 n7 n6 n5 n4 n3 n2 n1 n20 H0 H2 < q := by
  have g4 := f18.2.1.1
  unfold Ab_285v_64 at g4
  have g3 := f18.2.1.2
  unfold preb_285v at g3
  have g5 := Option.some.inj f18.2.2
  unfold mub_285v_64 at g5
  unfold postb_280 at f30
  unfold Ab_285v_64
  unfold mub_285v_64
  have e0 : hV H1 285 64 = hV H0 285 64 := f18.1.2.1.1 285 64 (by decide +kernel)
  have e1 : n10 = hV H0 285 64 := (by rw [f10] at f21; exact f21 : n10 = hV H1 285 64).trans (e0)
  have e2 : hV H1 285 18 = hV H0 285 18 := f18.1.2.1.1 285 18 (by decide +kernel)
  have e3 : hV H1 285 18 = hV H0 285 18 := e2
  have e4 : hV H1 285 64 = hV H0 285 64 := e0
  have e5 : hV H1 296 = hV H0 296 := fRow f18.1.2.1 296 (by decide +kernel)
  have e6 : hV H1 298 = hV H0 298 := fRow f18.1.2.1 298 (by decide +kernel)
  have e7 : hV H1 300 = hV H0 300 := fRow f18.1.2.1 300 (by decide +kernel)
  have e8 : hV H1 328 = hV H0 328 := fRow f18.1.2.1 328 (by decide +kernel)
  have e9 : hV H1 332 = hV H0 332 := fRow f18.1.2.1 332 (by decide +kernel)
  have e10 : hV H2 285 18 = hV H1 285 18 := f30.1.2.1.1 285 18 (by decide +kernel)
  have e11 : hV H2 285 18 = hV H0 285 18 := (e10).trans e2
  have e12 : hV H2 285 64 = hV H1 285 64 := f30.1.2.1.1 285 64 (by decide +kernel)
  have e13 : hV H2 285 64 = hV H0 285 64 := (e12).trans e0
  have e14 : hV H2 285 65 = hV H1 285 65 := f30.1.2.1.1 285 65 (by decide +kernel)
  have e15 : hV H2 285 65 = hV H1 285 65 := e14
  have e16 : hV H2 296 = hV H1 296 := fRow f30.1.2.1 296 (by decide +kernel)
  have e17 : hV H2 296 = hV H0 296 := e16.trans e5
  have e18 : hV H2 298 = hV H1 298 := fRow f30.1.2.1 298 (by decide +kernel)
  have e19 : hV H2 298 = hV H0 298 := e18.trans e6
  have e20 : hV H2 300 = hV H1 300 := fRow f30.1.2.1 300 (by decide +kernel)
  have e21 : hV H2 300 = hV H0 300 := e20.trans e7
  have e22 : hV H2 328 = hV H1 328 := fRow f30.1.2.1 328 (by decide +kernel)
  have e23 : hV H2 328 = hV H0 328 := e22.trans e8
  have e24 : hV H2 329 = hV H1 329 := fRow f30.1.2.1 329 (by decide +kernel)
  have e25 : hV H2 332 = hV H1 332 := fRow f30.1.2.1 332 (by decide +kernel)
  have e26 : hV H2 332 = hV H0 332 := e25.trans e9
  have e27 : hV H2 335 = hV H1 335 := fRow f30.1.2.1 335 (by decide +kernel)
  have e28 : AC H2 = AC H1 := AC_fr f30.1.2.1 (by decide +kernel)
  have e29 : SO H2 = SO H1 := SO_fr f30.1.2.1 (by decide +kernel)
  have e30 : SS H2 = SS H1 := SS_fr f30.1.2.1 (by decide +kernel)
  have e31 : (0 : Int) ≤ hV H1 285 18 ∧ hV H1 285 18 ≤ 8 := f18.1.2.2 285 18 _ _ (by decide +kernel)
  have e32 : (0 : Int) ≤ hV H1 285 64 ∧ hV H1 285 64 ≤ 20 := f18.1.2.2 285 64 _ _ (by decide +kernel)
  have e33 : (0 : Int) ≤ hV H1 285 65 ∧ hV H1 285 65 ≤ 2147483647 := f18.1.2.2 285 65 _ _ (by decide +kernel)
  have e34 : (0 : Int) ≤ hV H2 285 18 ∧ hV H2 285 18 ≤ 8 := f30.1.2.2.2 285 18 _ _ (by decide +kernel)
  have e35 : (0 : Int) ≤ hV H2 285 64 ∧ hV H2 285 64 ≤ 20 := f30.1.2.2.2 285 64 _ _ (by decide +kernel)
  have e36 : (0 : Int) ≤ hV H2 285 65 ∧ hV H2 285 65 ≤ 2147483647 := f30.1.2.2.2 285 65 _ _ (by decide +kernel)
  try simp only [e3] at e31
  try simp only [e4] at e32
  try simp only [e11] at e34
  try simp only [e13] at e35
  try simp only [e15] at e36
  try simp only [e3, e4, e5, e6, e7, e8, e9, e11, e13, e15, e17, e19, e21, e23, e24, e26, e27, e28, e29, e30] at g5
  try simp only [e3, e4, e5, e6, e7, e8, e9, e11, e13, e15, e17, e19, e21, e23, e24, e26, e27, e28, e29, e30]
  have k0 := g4.1
  have k1 := g4.2.1
  have k2 := g4.2.2.1
  have y0 := g4.2.2.2.1
  have y1 := g4.2.2.2.2.1
  have y2 := g4.2.2.2.2.2.1
  have y3 := g4.2.2.2.2.2.2.1
  have y4 := g4.2.2.2.2.2.2.2.1
  have y5 := g4.2.2.2.2.2.2.2.2.1
  have y6 := g4.2.2.2.2.2.2.2.2.2.1
  have y7 := g4.2.2.2.2.2.2.2.2.2.2.1
  have y8 := g4.2.2.2.2.2.2.2.2.2.2.2.1
  have y9 := g4.2.2.2.2.2.2.2.2.2.2.2.2.1
  have y10 := g4.2.2.2.2.2.2.2.2.2.2.2.2.2.1
  have y11 := g4.2.2.2.2.2.2.2.2.2.2.2.2.2.2.1
  have y12 := g4.2.2.2.2.2.2.2.2.2.2.2.2.2.2.2.1
  have y13 := g4.2.2.2.2.2.2.2.2.2.2.2.2.2.2.2.2.1
  have y14 := g4.2.2.2.2.2.2.2.2.2.2.2.2.2.2.2.2.2.1
  have y15 := g4.2.2.2.2.2.2.2.2.2.2.2.2.2.2.2.2.2.2
  have p0 := g3.1
  have p1 := g3.2.1
  have p2 := g3.2.2.1
  have p3 := g3.2.2.2.1
  have p4 := g3.2.2.2.2
  have r0_0 := f30.2
  try simp only [e3, e4, e5, e6, e7, e8, e9] at y0
  try simp only [e3, e4, e5, e6, e7, e8, e9] at y1
  try simp only [e3, e4, e5, e6, e7, e8, e9] at y2
  try simp only [e3, e4, e5, e6, e7, e8, e9] at y3
  try simp only [e3, e4, e5, e6, e7, e8, e9] at y5
  try simp only [e3, e4, e5, e6, e7, e8, e9] at y6
  try simp only [e3, e4, e5, e6, e7, e8, e9] at y8
  try simp only [e3, e4, e5, e6, e7, e8, e9] at y11
  try simp only [e3, e4, e5, e6, e7, e8, e9] at y12
  try simp only [e3, e4, e5, e6, e7, e8, e9] at y13
  try simp only [e3, e4, e5, e6, e7, e8, e9] at y14
  try simp only [e3, e4, e5, e6, e7, e8, e9] at y15
  try simp only [e3, e4, e5, e6, e7, e8, e9] at p0
  try simp only [e3, e4, e5, e6, e7, e8, e9] at p1
  try simp only [e3, e4, e5, e6, e7, e8, e9] at p2
  try simp only [e3, e4, e5, e6, e7, e8, e9] at p3
  try simp only [e3, e4, e5, e6, e7, e8, e9] at p4
  try simp only [e3, e4, e5, e6, e7, e8, e9, e11, e13, e15, e17, e19, e21, e23, e24, e26, e27, e28, e29, e30] at r0_0
  clear g3
  clear g4
  clear f21 e0 e2 e3 e4 e5 e6 e7 e8 e9 e10 e11 e12 e13 e14 e15 e16 e17 e18 e19 e20 e21 e22 e23 e24 e25 e26 e27 e28 e29 e30
  clear f18 f30
  subst e1
  have b25 := o32_and_r f25 (by omega) (by omega)
  have b33 := o32_and_r f33 (by omega) (by omega)
  unfold w32 at *
  try (have ix0 : n20 = n0 + 1 := (by omega); subst ix0)

  try subst k2
  try subst k1
  try subst k0
  have tb := bt_test f23 f25 (by omega) (by omega) (by omega)
  have tc := bt_test f31 f33 (by omega) (by omega) (by omega)
  refine ⟨?_, fun q hq => ?_⟩
  · exact ⟨by first | omega | trivial, by first | omega | trivial, by first | omega | trivial, y0, MA_step y1 (by omega) (by omega) (fun _ z => by have := tc.1.mpr ((r0_0 _ (by omega)).mpr z); omega), y2, y3, by omega, by omega, by omega, by omega, by omega, by omega, by omega, y11, y12, y13, by omega, y15⟩
  · have g6 := Option.some.inj hq
    subst g6
    omega
def g_285v_64_15 : vG := ([(10, [20, 9], [], 1), (41, [18, 19], [], 0), (0, [19], [], 1), (4, [18, 16, 17], [], 0), (0, [17], [], 1), (8, [16, 15, 5], [], 0), (1280, [15, 4, 9], [1, 2], 0), (90, [15], [], -2147483648), (91, [15], [], 2147483647), (40, [13, 14], [], 0), (0, [14], [], 1), (4, [13, 11, 12], [], 0), (0, [12], [], 1), (8, [11, 8, 9], [], 0), (42, [9, 10], [], 0), (20, [10, 4], [1], 64), (90, [10], [], 0), (91, [10], [], 20), (5000, [0, 1, 2, 3, 4, 5, 6, 7, 8, 9], [0, 1], 64), (0, [0], [], 285), (90, [1], [], -2147483648), (91, [1], [], 2147483647), (90, [2], [], -2147483648), (91, [2], [], 2147483647), (90, [3], [], -2147483648), (91, [3], [], 2147483647), (0, [4], [], 285), (90, [5], [], -2147483648), (91, [5], [], 2147483647), (90, [6], [], -2147483648), (91, [6], [], 2147483647), (90, [7], [], -2147483648), (91, [7], [], 2147483647), (90, [8], [], -2147483648), (91, [8], [], 2147483647), (90, [9], [], 0), (91, [9], [], 20)], (4000, [4, 5, 6, 7, 8, 20], [2], 64))
theorem c_285v_64_15 {q0 : Nat} : vOkm T0 (eP e_285v L_285v A_285v mu_285v (some q0)) 4 g_285v_64_15 := vOk_in fun ρ η h => by
  obtain ⟨f0, f1, f2, f3, f4, f5, f6, f7, f8, f9, f10, f11, f12, f13, f14, f15, f16, f17, f18, f19, f20, f21, f22, f23, f24, f25, f26, f27, f28, f29, f30, f31, f32, f33, f34, f35, f36, _⟩ := h
  exact q_285v_25 (q0 := q0) (n0 := ρ 9) (n1 := ρ 8) (n2 := ρ 7) (n3 := ρ 6) (n4 := ρ 5) (n5 := ρ 4) (n6 := ρ 3) (n7 := ρ 2) (n8 := ρ 1) (n9 := ρ 0) (n10 := ρ 10) (n11 := ρ 11) (n12 := ρ 12) (n13 := ρ 13) (n14 := ρ 14) (n15 := ρ 15) (n16 := ρ 16) (n17 := ρ 17) (n18 := ρ 18) (n19 := ρ 19) (n20 := ρ 20) (H0 := η 0) (H1 := η 1) (H2 := η 2) f36 f35 f34 f33 f32 f31 f30 f29 f28 f27 f26 f25 f24 f23 f22 f21 f20 f19 f18 f17 f16 f15 f14 f13 f12 f11 f10 f9 f8 f7 f6 f5 f4 f3 f2 f1 f0
theorem q_285v_26 {q0 : Nat} {n0 n1 n2 n3 n4 n5 n6 n7 n8 n9 n10 n11 n12 n13 n14 n15 n16 n17 n18 n19 n20 : Int} {H0 H1 H2 : gH} (f0 : n0 ≤ 20) (f1 : 0 ≤ n0) (f2 : n1 ≤ 2147483647) (f3 : (-2147483648) ≤ n1) (f4 : n2 ≤ 2147483647) (f5 : (-2147483648) ≤ n2) (f6 : n3 ≤ 2147483647) (f7 : (-2147483648) ≤ n3) (f8 : n4 ≤ 2147483647) (f9 : (-2147483648) ≤ n4) (f10 : n5 = 285) (f11 : n6 ≤ 2147483647) (f12 : (-2147483648) ≤ n6) (f13 : n7 ≤ 2147483647) (f14 : (-2147483648) ≤ n7) (f15 : n8 ≤ 2147483647) (f16 : (-2147483648) ≤ n8) (f17 : n9 = 285) (f18 : (hLe T0 H0 H1 ∧ hFr s_285v.2.2.2.2 H0 H1 ∧ hWt T0 H1) ∧ (Ab_285v_64 n9 n8 n7 n6 n5 n4 n3 n2 n1 n0 H0 H1 ∧ preb_285v n9 n8 n7 n6 H0) ∧ some q0 = some (mub_285v_64 n9 n8 n7 n6 n5 n4 n3 n2 n1 n0 H0 H1)) (f19 : n10 ≤ 20) (f20 : 0 ≤ n10) (f21 : n10 = hV H1 (n5).toNat 64) (f22 : n0 < n10) (f23 : n11 = o32 (fun x y => x >>> (y &&& 31)) n1 n0) (f24 : n12 = 1) (f25 : n13 = o32 (fun x y => x &&& y) n11 n12) (f26 : n14 = 1) (f27 : n13 = n14) (f28 : n15 ≤ 2147483647) (f29 : (-2147483648) ≤ n15) (f30 : (hLe T0 H1 H2 ∧ hFr s_280.2.2.2.2 H1 H2 ∧ ((0 : Int) = 0 → H2.length = H1.length) ∧ hWt T0 H2) ∧ postb_280 n15 n5 n0 H1 H2) (f31 : n16 = o32 (fun x y => x >>> (y &&& 31)) n15 n4) (f32 : n17 = 1) (f33 : n18 = o32 (fun x y => x &&& y) n16 n17) (f34 : n19 = 1) (f35 : n18 = n19) (f36 : n20 = (-2)) : postb_285v n20 n9 n8 n7 n6 H0 H2 := by
  have g4 := f18.2.1.1
  unfold Ab_285v_64 at g4
  have g3 := f18.2.1.2
  unfold preb_285v at g3
  unfold postb_280 at f30
  unfold postb_285v
  have e0 : hV H1 285 64 = hV H0 285 64 := f18.1.2.1.1 285 64 (by decide +kernel)
  have e1 : n10 = hV H0 285 64 := (by rw [f10] at f21; exact f21 : n10 = hV H1 285 64).trans (e0)
  have e2 : hV H1 285 18 = hV H0 285 18 := f18.1.2.1.1 285 18 (by decide +kernel)
  have e3 : hV H1 285 18 = hV H0 285 18 := e2
  have e4 : hV H1 285 64 = hV H0 285 64 := e0
  have e5 : hV H1 296 = hV H0 296 := fRow f18.1.2.1 296 (by decide +kernel)
  have e6 : hV H1 298 = hV H0 298 := fRow f18.1.2.1 298 (by decide +kernel)
  have e7 : hV H1 300 = hV H0 300 := fRow f18.1.2.1 300 (by decide +kernel)
  have e8 : hV H1 328 = hV H0 328 := fRow f18.1.2.1 328 (by decide +kernel)
  have e9 : hV H1 332 = hV H0 332 := fRow f18.1.2.1 332 (by decide +kernel)
  have e10 : hV H2 285 64 = hV H1 285 64 := f30.1.2.1.1 285 64 (by decide +kernel)
  have e11 : hV H2 285 64 = hV H0 285 64 := (e10).trans e0
  have e12 : hV H2 285 65 = hV H1 285 65 := f30.1.2.1.1 285 65 (by decide +kernel)
  have e13 : hV H2 285 65 = hV H1 285 65 := e12
  have e14 : hV H2 296 = hV H1 296 := fRow f30.1.2.1 296 (by decide +kernel)
  have e15 : hV H2 296 = hV H0 296 := e14.trans e5
  have e16 : hV H2 298 = hV H1 298 := fRow f30.1.2.1 298 (by decide +kernel)
  have e17 : hV H2 298 = hV H0 298 := e16.trans e6
  have e18 : hV H2 300 = hV H1 300 := fRow f30.1.2.1 300 (by decide +kernel)
  have e19 : hV H2 300 = hV H0 300 := e18.trans e7
  have e20 : hV H2 328 = hV H1 328 := fRow f30.1.2.1 328 (by decide +kernel)
  have e21 : hV H2 328 = hV H0 328 := e20.trans e8
  have e22 : hV H2 329 = hV H1 329 := fRow f30.1.2.1 329 (by decide +kernel)
  have e23 : hV H2 332 = hV H1 332 := fRow f30.1.2.1 332 (by decide +kernel)
  have e24 : hV H2 332 = hV H0 332 := e23.trans e9
  have e25 : hV H2 335 = hV H1 335 := fRow f30.1.2.1 335 (by decide +kernel)
  have e26 : AC H2 = AC H1 := AC_fr f30.1.2.1 (by decide +kernel)
  have e27 : SO H2 = SO H1 := SO_fr f30.1.2.1 (by decide +kernel)
  have e28 : SS H2 = SS H1 := SS_fr f30.1.2.1 (by decide +kernel)
  have e29 : (0 : Int) ≤ hV H1 285 18 ∧ hV H1 285 18 ≤ 8 := f18.1.2.2 285 18 _ _ (by decide +kernel)
  have e30 : (0 : Int) ≤ hV H1 285 64 ∧ hV H1 285 64 ≤ 20 := f18.1.2.2 285 64 _ _ (by decide +kernel)
  have e31 : (0 : Int) ≤ hV H1 285 65 ∧ hV H1 285 65 ≤ 2147483647 := f18.1.2.2 285 65 _ _ (by decide +kernel)
  have e32 : (0 : Int) ≤ hV H2 285 64 ∧ hV H2 285 64 ≤ 20 := f30.1.2.2.2 285 64 _ _ (by decide +kernel)
  have e33 : (0 : Int) ≤ hV H2 285 65 ∧ hV H2 285 65 ≤ 2147483647 := f30.1.2.2.2 285 65 _ _ (by decide +kernel)
  try simp only [e3] at e29
  try simp only [e4] at e30
  try simp only [e11] at e32
  try simp only [e13] at e33
  try simp only [e3, e4, e5, e6, e7, e8, e9, e11, e13, e15, e17, e19, e21, e22, e24, e25, e26, e27, e28]
  have k0 := g4.1
  have k1 := g4.2.1
  have k2 := g4.2.2.1
  have y0 := g4.2.2.2.1
  have y1 := g4.2.2.2.2.1
  have y2 := g4.2.2.2.2.2.1
  have y3 := g4.2.2.2.2.2.2.1
  have y4 := g4.2.2.2.2.2.2.2.1
  have y5 := g4.2.2.2.2.2.2.2.2.1
  have y6 := g4.2.2.2.2.2.2.2.2.2.1
  have y7 := g4.2.2.2.2.2.2.2.2.2.2.1
  have y8 := g4.2.2.2.2.2.2.2.2.2.2.2.1
  have y9 := g4.2.2.2.2.2.2.2.2.2.2.2.2.1
  have y10 := g4.2.2.2.2.2.2.2.2.2.2.2.2.2.1
  have y11 := g4.2.2.2.2.2.2.2.2.2.2.2.2.2.2.1
  have y12 := g4.2.2.2.2.2.2.2.2.2.2.2.2.2.2.2.1
  have y13 := g4.2.2.2.2.2.2.2.2.2.2.2.2.2.2.2.2.1
  have y14 := g4.2.2.2.2.2.2.2.2.2.2.2.2.2.2.2.2.2.1
  have y15 := g4.2.2.2.2.2.2.2.2.2.2.2.2.2.2.2.2.2.2
  have p0 := g3.1
  have p1 := g3.2.1
  have p2 := g3.2.2.1
  have p3 := g3.2.2.2.1
  have p4 := g3.2.2.2.2
  have r0_0 := f30.2
  try simp only [e3, e4, e5, e6, e7, e8, e9] at y0
  try simp only [e3, e4, e5, e6, e7, e8, e9] at y1
  try simp only [e3, e4, e5, e6, e7, e8, e9] at y2
  try simp only [e3, e4, e5, e6, e7, e8, e9] at y3
  try simp only [e3, e4, e5, e6, e7, e8, e9] at y5
  try simp only [e3, e4, e5, e6, e7, e8, e9] at y6
  try simp only [e3, e4, e5, e6, e7, e8, e9] at y8
  try simp only [e3, e4, e5, e6, e7, e8, e9] at y11
  try simp only [e3, e4, e5, e6, e7, e8, e9] at y12
  try simp only [e3, e4, e5, e6, e7, e8, e9] at y13
  try simp only [e3, e4, e5, e6, e7, e8, e9] at y14
  try simp only [e3, e4, e5, e6, e7, e8, e9] at y15
  try simp only [e3, e4, e5, e6, e7, e8, e9] at p0
  try simp only [e3, e4, e5, e6, e7, e8, e9] at p1
  try simp only [e3, e4, e5, e6, e7, e8, e9] at p2
  try simp only [e3, e4, e5, e6, e7, e8, e9] at p3
  try simp only [e3, e4, e5, e6, e7, e8, e9] at p4
  try simp only [e3, e4, e5, e6, e7, e8, e9, e11, e13, e15, e17, e19, e21, e22, e24, e25, e26, e27, e28] at r0_0
  clear g3
  clear g4
  clear f21 e0 e2 e3 e4 e5 e6 e7 e8 e9 e10 e11 e12 e13 e14 e15 e16 e17 e18 e19 e20 e21 e22 e23 e24 e25 e26 e27 e28
  clear f18 f30
  subst e1
  have b25 := o32_and_r f25 (by omega) (by omega)
  have b33 := o32_and_r f33 (by omega) (by omega)

  exact ⟨y11, y12, y13, by omega, fun s _ => by rw [y15]⟩
def g_285v_64_16 : vG := ([(0, [20], [], -2), (40, [18, 19], [], 0), (0, [19], [], 1), (4, [18, 16, 17], [], 0), (0, [17], [], 1), (8, [16, 15, 5], [], 0), (1280, [15, 4, 9], [1, 2], 0), (90, [15], [], -2147483648), (91, [15], [], 2147483647), (40, [13, 14], [], 0), (0, [14], [], 1), (4, [13, 11, 12], [], 0), (0, [12], [], 1), (8, [11, 8, 9], [], 0), (42, [9, 10], [], 0), (20, [10, 4], [1], 64), (90, [10], [], 0), (91, [10], [], 20), (5000, [0, 1, 2, 3, 4, 5, 6, 7, 8, 9], [0, 1], 64), (0, [0], [], 285), (90, [1], [], -2147483648), (91, [1], [], 2147483647), (90, [2], [], -2147483648), (91, [2], [], 2147483647), (90, [3], [], -2147483648), (91, [3], [], 2147483647), (0, [4], [], 285), (90, [5], [], -2147483648), (91, [5], [], 2147483647), (90, [6], [], -2147483648), (91, [6], [], 2147483647), (90, [7], [], -2147483648), (91, [7], [], 2147483647), (90, [8], [], -2147483648), (91, [8], [], 2147483647), (90, [9], [], 0), (91, [9], [], 20)], (3000, [20], [2], 100))
theorem c_285v_64_16 {q0 : Nat} : vOkm T0 (eP e_285v L_285v A_285v mu_285v (some q0)) 4 g_285v_64_16 := vOk_in fun ρ η h => by
  obtain ⟨f0, f1, f2, f3, f4, f5, f6, f7, f8, f9, f10, f11, f12, f13, f14, f15, f16, f17, f18, f19, f20, f21, f22, f23, f24, f25, f26, f27, f28, f29, f30, f31, f32, f33, f34, f35, f36, _⟩ := h
  exact q_285v_26 (q0 := q0) (n0 := ρ 9) (n1 := ρ 8) (n2 := ρ 7) (n3 := ρ 6) (n4 := ρ 5) (n5 := ρ 4) (n6 := ρ 3) (n7 := ρ 2) (n8 := ρ 1) (n9 := ρ 0) (n10 := ρ 10) (n11 := ρ 11) (n12 := ρ 12) (n13 := ρ 13) (n14 := ρ 14) (n15 := ρ 15) (n16 := ρ 16) (n17 := ρ 17) (n18 := ρ 18) (n19 := ρ 19) (n20 := ρ 20) (H0 := η 0) (H1 := η 1) (H2 := η 2) f36 f35 f34 f33 f32 f31 f30 f29 f28 f27 f26 f25 f24 f23 f22 f21 f20 f19 f18 f17 f16 f15 f14 f13 f12 f11 f10 f9 f8 f7 f6 f5 f4 f3 f2 f1 f0
def p_285v_64 : List vG := [g_285v_64_0,
  g_285v_64_1,
  g_285v_64_2,
  g_285v_64_3,
  g_285v_64_4,
  g_285v_64_5,
  g_285v_64_6,
  g_285v_64_7,
  g_285v_64_8,
  g_285v_64_9,
  g_285v_64_10,
  g_285v_64_11,
  g_285v_64_12,
  g_285v_64_13,
  g_285v_64_14,
  g_285v_64_15,
  g_285v_64_16]
theorem r_285v_64 : vCovO false (eRc e_285v L_285v cs_285v 2000 (64, [(0, (3, 12, 285, 0)), (1, (0, -2147483648, 2147483647, 0)), (2, (0, -2147483648, 2147483647, 0)), (3, (0, -2147483648, 2147483647, 0)), (4, (0, -2147483648, 2147483647, 0)), (5, (0, 0, 20, 0))])) p_285v_64 = true := by decide +kernel
theorem m_285v (d : Nat) : eC e_285v (d + 6) := eC_ok (e := e_285v) (L := L_285v) (cs := cs_285v) (n := 2000) (d := d + 5) (A := A_285v) (μ := mu_285v) (tp := false) (p0 := p_285v_s) rfl ⟨m_250 (d + 4), ⟨m_278 (d + 2), ⟨m_280 d, ⟨m_283v d, ⟨m_284 (d + 3), trivial⟩⟩⟩⟩⟩ rfl (.inl rfl) (by decide +kernel) (fun z => nomatch z) r_285v_s (allC c_285v_s_0 (allC c_285v_s_1 (allC c_285v_s_2 (allC c_285v_s_3 (allC c_285v_s_4 (allC c_285v_s_5 (allC c_285v_s_6 (allC c_285v_s_7 (allC c_285v_s_8 (allC c_285v_s_9 allN)))))))))) (allC (.inl ⟨p_285v_64, r_285v_64, fun q0 => (allC c_285v_64_0 (allC c_285v_64_1 (allC c_285v_64_2 (allC c_285v_64_3 (allC c_285v_64_4 (allC c_285v_64_5 (allC c_285v_64_6 (allC c_285v_64_7 (allC c_285v_64_8 (allC c_285v_64_9 (allC c_285v_64_10 (allC c_285v_64_11 (allC c_285v_64_12 (allC c_285v_64_13 (allC c_285v_64_14 (allC c_285v_64_15 (allC c_285v_64_16 allN)))))))))))))))))⟩) allN)
