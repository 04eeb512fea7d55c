/-! CONTRACTS of methods told more fully. -/
/- MixStageModel.again ()I -/
noncomputable def s_290v : vM := ([(3, 12, 285, 0)], (0, -2147483648, 2147483647, 0), 1, 0, [(12, 65), (12, 82), (12, 88), (12, 93), (460, 0), (492, 0), (500, 0), (508, 0), (516, 0), (524, 0), (572, 0), (580, 0), (588, 0), (596, 0), (604, 0), (612, 0), (621, 0), (631, 0), (637, 0), (644, 0), (652, 0), (663, 0)])
def preb_290v (a0 : Int) (h : gH) : Prop := SO h ∧ SS h ∧ PG h ∧ AC h ∧ hV h 285 65 ≤ 20000
def pre_290v : List Int → gH → Prop := fun xs h => match xs with
  | [a0] => preb_290v a0 h
  | _ => False
def postb_290v (r a0 : Int) (h0 h : gH) : Prop := SO h ∧ SS h ∧ AC h ∧ hV h 285 65 ≤ hV h0 285 65 + 20 ∧ KMk (hV h0 328) (hV h0 329) (hV h 329)
def post_290v : List Int → gH → gH → Prop := fun xs h0 h => match xs with
  | [r, a0] => postb_290v r a0 h0 h
  | _ => True
noncomputable def e_290v : vE := (290, s_290v, pre_290v, post_290v)
noncomputable def L_290v : List vE := [e_283v, e_288, e_289]
def cs_290v : List vC := [(4, [(0, (3, 12, 285, 0)), (1, (0, -2147483648, 2147483647, 0)), (2, (0, 0, 1, 0))]), (16, [(0, (3, 12, 285, 0)), (1, (0, -2147483648, 2147483647, 0)), (2, (0, 0, 1, 0)), (3, (0, 0, 20, 0))])]
def Ab_290v_4 (a0 x0 x1 x2 : Int) (h0 h : gH) : Prop := SO h ∧ SS h ∧ AC h ∧ hV h 285 65 + ((SNv (hV h 285 64) (NXp (hV h 328) (hV h 332) (hV h 335) (hV h 296) (hV h 298) (hV h 300)) (hV h 328) (hV h 335) (hV h 333) (MKv (hV h 296) (hV h 298) (hV h 300) (hV h 301) (hV h 303) (hV h 341)) : Nat) : Int) ≤ hV h0 285 65 + 20 ∧ KMk (hV h0 328) (hV h0 329) (hV h 329)
noncomputable def mub_290v_4 (a0 x0 x1 x2 : Int) (h0 h : gH) : Nat := SNv (hV h 285 64) (NXp (hV h 328) (hV h 332) (hV h 335) (hV h 296) (hV h 298) (hV h 300)) (hV h 328) (hV h 335) (hV h 333) (MKv (hV h 296) (hV h 298) (hV h 300) (hV h 301) (hV h 303) (hV h 341)) * 100 + 45 * (x2).toNat
def Ab_290v_16 (a0 x0 x1 x2 x3 : Int) (h0 h : gH) : Prop := SO h ∧ SS h ∧ AC h ∧ hV h 285 65 + ((SNv (hV h 285 64) (NXp (hV h 328) (hV h 332) (hV h 335) (hV h 296) (hV h 298) (hV h 300)) (hV h 328) (hV h 335) (hV h 333) (MKv (hV h 296) (hV h 298) (hV h 300) (hV h 301) (hV h 303) (hV h 341)) : Nat) : Int) ≤ hV h0 285 65 + 20 ∧ (x2 = 0 → ∀ s : Nat, (s : Int) < hV h 285 64 → (¬ hV h 354 (s) = 0 ↔ SLp (hV h 285 64) (NXp (hV h 328) (hV h 332) (hV h 335) (hV h 296) (hV h 298) (hV h 300)) (hV h 328) (hV h 335) (hV h 333) (MKv (hV h 296) (hV h 298) (hV h 300) (hV h 301) (hV h 303) (hV h 341)) s)) ∧ KMk (hV h0 328) (hV h0 329) (hV h 329)
noncomputable def mub_290v_16 (a0 x0 x1 x2 x3 : Int) (h0 h : gH) : Nat := SNv (hV h 285 64) (NXp (hV h 328) (hV h 332) (hV h 335) (hV h 296) (hV h 298) (hV h 300)) (hV h 328) (hV h 335) (hV h 333) (MKv (hV h 296) (hV h 298) (hV h 300) (hV h 301) (hV h 303) (hV h 341)) * 100 + 40 + 30 * (x2).toNat - (x3).toNat
def A_290v : Int → List Int → gH → gH → Prop := fun c xs h0 h => match c.toNat with
  | 4 => SO h ∧ SS h ∧ AC h ∧ hV h 285 65 + ((SNv (hV h 285 64) (NXp (hV h 328) (hV h 332) (hV h 335) (hV h 296) (hV h 298) (hV h 300)) (hV h 328) (hV h 335) (hV h 333) (MKv (hV h 296) (hV h 298) (hV h 300) (hV h 301) (hV h 303) (hV h 341)) : Nat) : Int) ≤ hV h0 285 65 + 20 ∧ KMk (hV h0 328) (hV h0 329) (hV h 329)
  | 16 => (match xs with
    | [a0, x0, x1, x2, x3] => Ab_290v_16 a0 x0 x1 x2 x3 h0 h
    | _ => False)
  | _ => True
noncomputable def mu_290v : Int → List Int → gH → gH → Nat := fun c xs h0 h => match c.toNat with
  | 4 => (match xs with
    | [a0, x0, x1, x2] => mub_290v_4 a0 x0 x1 x2 h0 h
    | _ => 0)
  | 16 => (match xs with
    | [a0, x0, x1, x2, x3] => mub_290v_16 a0 x0 x1 x2 x3 h0 h
    | _ => 0)
  | _ => 0
theorem q_290v_0 {n0 n1 n2 : Int} {H0 : gH} (f0 : n0 = 285) (f1 : hWt T0 H0 ∧ preb_290v n0 H0) (f2 : n1 = 0) (f3 : n2 = 1) : Ab_290v_4 n0 n0 n1 n2 H0 H0 ∧ ∀ q, none = some q → mub_290v_4 n0 n0 n1 n2 H0 H0 < q := by
  unfold preb_290v at f1
  unfold Ab_290v_4
  have e0 : (0 : Int) ≤ hV H0 285 18 ∧ hV H0 285 18 ≤ 8 := f1.1 285 18 _ _ (by decide +kernel)
  have e1 : (0 : Int) ≤ hV H0 285 64 ∧ hV H0 285 64 ≤ 20 := f1.1 285 64 _ _ (by decide +kernel)
  have e2 : (0 : Int) ≤ hV H0 285 65 ∧ hV H0 285 65 ≤ 2147483647 := f1.1 285 65 _ _ (by decide +kernel)
  try simp only [SO, SS, AC]
  have p0 := f1.2.1
  have p1 := f1.2.2.1
  have p2 := f1.2.2.2.1
  have p3 := f1.2.2.2.2.1
  have p4 := f1.2.2.2.2.2
  try simp only [SO] at p0
  try simp only [SS] at p1
  try simp only [AC] at p3
  clear f1

  have sn := cnt_le (p := fun s => (s : Int) < hV H0 285 64 ∧ SLp (hV H0 285 64) (NXp (hV H0 328) (hV H0 332) (hV H0 335) (hV H0 296) (hV H0 298) (hV H0 300)) (hV H0 328) (hV H0 335) (hV H0 333) (MKv (hV H0 296) (hV H0 298) (hV H0 300) (hV H0 301) (hV H0 303) (hV H0 341)) s) 20
  unfold SNv
  refine ⟨?_, fun q hq => ?_⟩
  · exact ⟨p0, p1, p3, by omega, fun _ _ => rfl⟩
  · exact nomatch hq
def g_290v_s_0 : vG := ([(0, [2], [], 1), (0, [1], [], 0), (6000, [0], [0], 0), (0, [0], [], 285)], (4000, [0, 1, 2], [0], 4))
theorem c_290v_s_0 : vOkm T0 (eP e_290v L_290v A_290v mu_290v none) 1 g_290v_s_0 := vOk_in fun ρ η h => by
  obtain ⟨f0, f1, f2, f3, _⟩ := h
  exact q_290v_0 (n0 := ρ 0) (n1 := ρ 1) (n2 := ρ 2) (H0 := η 0) f3 f2 f1 f0
def p_290v_s : List vG := [g_290v_s_0]
theorem r_290v_s : vCovO false (eR0 e_290v L_290v cs_290v 2000) p_290v_s = true := by decide +kernel
theorem q_290v_1 {q0 : Nat} {n0 n1 n2 n3 : Int} {H0 H1 : gH} (f0 : n0 ≤ 1) (f1 : 0 ≤ n0) (f2 : n1 ≤ 2147483647) (f3 : (-2147483648) ≤ n1) (f4 : n2 = 285) (f5 : n3 = 285) (f6 : (hLe T0 H0 H1 ∧ hFr s_290v.2.2.2.2 H0 H1 ∧ hWt T0 H1) ∧ (Ab_290v_4 n3 n2 n1 n0 H0 H1 ∧ preb_290v n3 H0) ∧ some q0 = some (mub_290v_4 n3 n2 n1 n0 H0 H1)) (f7 : n0 = 0) : postb_290v n1 n3 H0 H1 := by
  have g4 := f6.2.1.1
  unfold Ab_290v_4 at g4
  have g3 := f6.2.1.2
  unfold preb_290v at g3
  unfold postb_290v
  have e0 : hV H1 285 18 = hV H0 285 18 := f6.1.2.1.1 285 18 (by decide +kernel)
  have e1 : hV H1 285 18 = hV H0 285 18 := e0
  have e2 : hV H1 285 64 = hV H0 285 64 := f6.1.2.1.1 285 64 (by decide +kernel)
  have e3 : hV H1 285 64 = hV H0 285 64 := e2
  have e4 : hV H1 296 = hV H0 296 := fRow f6.1.2.1 296 (by decide +kernel)
  have e5 : hV H1 298 = hV H0 298 := fRow f6.1.2.1 298 (by decide +kernel)
  have e6 : hV H1 300 = hV H0 300 := fRow f6.1.2.1 300 (by decide +kernel)
  have e7 : hV H1 301 = hV H0 301 := fRow f6.1.2.1 301 (by decide +kernel)
  have e8 : hV H1 303 = hV H0 303 := fRow f6.1.2.1 303 (by decide +kernel)
  have e9 : hV H1 328 = hV H0 328 := fRow f6.1.2.1 328 (by decide +kernel)
  have e10 : hV H1 330 = hV H0 330 := fRow f6.1.2.1 330 (by decide +kernel)
  have e11 : hV H1 331 = hV H0 331 := fRow f6.1.2.1 331 (by decide +kernel)
  have e12 : hV H1 332 = hV H0 332 := fRow f6.1.2.1 332 (by decide +kernel)
  have e13 : hV H1 341 = hV H0 341 := fRow f6.1.2.1 341 (by decide +kernel)
  have e14 : (0 : Int) ≤ hV H1 285 18 ∧ hV H1 285 18 ≤ 8 := f6.1.2.2 285 18 _ _ (by decide +kernel)
  have e15 : (0 : Int) ≤ hV H1 285 64 ∧ hV H1 285 64 ≤ 20 := f6.1.2.2 285 64 _ _ (by decide +kernel)
  have e16 : (0 : Int) ≤ hV H1 285 65 ∧ hV H1 285 65 ≤ 2147483647 := f6.1.2.2 285 65 _ _ (by decide +kernel)
  try simp only [SO, SS, AC]
  try simp only [e1] at e14
  try simp only [e3] at e15
  try simp only [e1, e3, e4, e5, e6, e7, e8, e9, e10, e11, e12, e13]
  have y0 := g4.1
  have y1 := g4.2.1
  have y2 := g4.2.2.1
  have y3 := g4.2.2.2.1
  have y4 := g4.2.2.2.2
  have p0 := g3.1
  have p1 := g3.2.1
  have p2 := g3.2.2.1
  have p3 := g3.2.2.2.1
  have p4 := g3.2.2.2.2
  try simp only [SO] at y0
  try simp only [SS] at y1
  try simp only [AC] at y2
  try simp only [SO] at p0
  try simp only [SS] at p1
  try simp only [AC] at p3
  try simp only [e1, e3, e4, e5, e6, e7, e8, e9, e10, e11, e12, e13] at y0
  try simp only [e1, e3, e4, e5, e6, e7, e8, e9, e10, e11, e12, e13] at y1
  try simp only [e1, e3, e4, e5, e6, e7, e8, e9, e10, e11, e12, e13] at y2
  try simp only [e1, e3, e4, e5, e6, e7, e8, e9, e10, e11, e12, e13] at y3
  try simp only [e1, e3, e4, e5, e6, e7, e8, e9, e10, e11, e12, e13] at y4
  try simp only [e1, e3, e4, e5, e6, e7, e8, e9, e10, e11, e12, e13] at p0
  try simp only [e1, e3, e4, e5, e6, e7, e8, e9, e10, e11, e12, e13] at p1
  try simp only [e1, e3, e4, e5, e6, e7, e8, e9, e10, e11, e12, e13] at p2
  try simp only [e1, e3, e4, e5, e6, e7, e8, e9, e10, e11, e12, e13] at p3
  try simp only [e1, e3, e4, e5, e6, e7, e8, e9, e10, e11, e12, e13] at p4
  clear g3
  clear g4
  clear e0 e1 e2 e3 e4 e5 e6 e7 e8 e9 e10 e11 e12 e13
  clear f6

  exact ⟨y0, y1, y2, by omega, y4⟩
def g_290v_4_0 : vG := ([(30, [3], [], 0), (5000, [0, 1, 2, 3], [0, 1], 4), (0, [0], [], 285), (0, [1], [], 285), (90, [2], [], -2147483648), (91, [2], [], 2147483647), (90, [3], [], 0), (91, [3], [], 1)], (3000, [2], [1], 92))
theorem c_290v_4_0 {q0 : Nat} : vOkm T0 (eP e_290v L_290v A_290v mu_290v (some q0)) 1 g_290v_4_0 := vOk_in fun ρ η h => by
  obtain ⟨f0, f1, f2, f3, f4, f5, f6, f7, _⟩ := h
  exact q_290v_1 (q0 := q0) (n0 := ρ 3) (n1 := ρ 2) (n2 := ρ 1) (n3 := ρ 0) (H0 := η 0) (H1 := η 1) f7 f6 f5 f4 f3 f2 f1 f0
theorem q_290v_2 {q0 : Nat} {n0 n1 n2 n3 : Int} {H0 H1 : gH} (f0 : n0 ≤ 1) (f1 : 0 ≤ n0) (f2 : n1 ≤ 2147483647) (f3 : (-2147483648) ≤ n1) (f4 : n2 = 285) (f5 : n3 = 285) (f6 : (hLe T0 H0 H1 ∧ hFr s_290v.2.2.2.2 H0 H1 ∧ hWt T0 H1) ∧ (Ab_290v_4 n3 n2 n1 n0 H0 H1 ∧ preb_290v n3 H0) ∧ some q0 = some (mub_290v_4 n3 n2 n1 n0 H0 H1)) (f7 : n0 ≠ 0) : preb_288 n2 H1 := by
  have g4 := f6.2.1.1
  unfold Ab_290v_4 at g4
  have g3 := f6.2.1.2
  unfold preb_290v at g3
  unfold preb_288
  have e0 : hV H1 285 18 = hV H0 285 18 := f6.1.2.1.1 285 18 (by decide +kernel)
  have e1 : hV H1 285 18 = hV H0 285 18 := e0
  have e2 : hV H1 285 64 = hV H0 285 64 := f6.1.2.1.1 285 64 (by decide +kernel)
  have e3 : hV H1 285 64 = hV H0 285 64 := e2
  have e4 : hV H1 296 = hV H0 296 := fRow f6.1.2.1 296 (by decide +kernel)
  have e5 : hV H1 298 = hV H0 298 := fRow f6.1.2.1 298 (by decide +kernel)
  have e6 : hV H1 300 = hV H0 300 := fRow f6.1.2.1 300 (by decide +kernel)
  have e7 : hV H1 301 = hV H0 301 := fRow f6.1.2.1 301 (by decide +kernel)
  have e8 : hV H1 303 = hV H0 303 := fRow f6.1.2.1 303 (by decide +kernel)
  have e9 : hV H1 328 = hV H0 328 := fRow f6.1.2.1 328 (by decide +kernel)
  have e10 : hV H1 330 = hV H0 330 := fRow f6.1.2.1 330 (by decide +kernel)
  have e11 : hV H1 331 = hV H0 331 := fRow f6.1.2.1 331 (by decide +kernel)
  have e12 : hV H1 332 = hV H0 332 := fRow f6.1.2.1 332 (by decide +kernel)
  have e13 : hV H1 341 = hV H0 341 := fRow f6.1.2.1 341 (by decide +kernel)
  have e14 : PG H1 = PG H0 := PG_fr f6.1.2.1 (by decide +kernel)
  have e15 : (0 : Int) ≤ hV H1 285 18 ∧ hV H1 285 18 ≤ 8 := f6.1.2.2 285 18 _ _ (by decide +kernel)
  have e16 : (0 : Int) ≤ hV H1 285 64 ∧ hV H1 285 64 ≤ 20 := f6.1.2.2 285 64 _ _ (by decide +kernel)
  have e17 : (0 : Int) ≤ hV H1 285 65 ∧ hV H1 285 65 ≤ 2147483647 := f6.1.2.2 285 65 _ _ (by decide +kernel)
  try simp only [SO, SS, AC]
  try simp only [e1] at e15
  try simp only [e3] at e16
  try simp only [e1, e3, e4, e5, e6, e7, e8, e9, e10, e11, e12, e13, e14]
  have y0 := g4.1
  have y1 := g4.2.1
  have y2 := g4.2.2.1
  have y3 := g4.2.2.2.1
  have y4 := g4.2.2.2.2
  have p0 := g3.1
  have p1 := g3.2.1
  have p2 := g3.2.2.1
  have p3 := g3.2.2.2.1
  have p4 := g3.2.2.2.2
  try simp only [SO] at y0
  try simp only [SS] at y1
  try simp only [AC] at y2
  try simp only [SO] at p0
  try simp only [SS] at p1
  try simp only [AC] at p3
  try simp only [e1, e3, e4, e5, e6, e7, e8, e9, e10, e11, e12, e13, e14] at y0
  try simp only [e1, e3, e4, e5, e6, e7, e8, e9, e10, e11, e12, e13, e14] at y1
  try simp only [e1, e3, e4, e5, e6, e7, e8, e9, e10, e11, e12, e13, e14] at y2
  try simp only [e1, e3, e4, e5, e6, e7, e8, e9, e10, e11, e12, e13, e14] at y3
  try simp only [e1, e3, e4, e5, e6, e7, e8, e9, e10, e11, e12, e13, e14] at y4
  try simp only [e1, e3, e4, e5, e6, e7, e8, e9, e10, e11, e12, e13, e14] at p0
  try simp only [e1, e3, e4, e5, e6, e7, e8, e9, e10, e11, e12, e13, e14] at p1
  try simp only [e1, e3, e4, e5, e6, e7, e8, e9, e10, e11, e12, e13, e14] at p2
  try simp only [e1, e3, e4, e5, e6, e7, e8, e9, e10, e11, e12, e13, e14] at p3
  try simp only [e1, e3, e4, e5, e6, e7, e8, e9, e10, e11, e12, e13, e14] at p4
  clear g3
  clear g4
  clear e0 e1 e2 e3 e4 e5 e6 e7 e8 e9 e10 e11 e12 e13 e14
  clear f6
  refine ⟨?_, ?_, ?_, ?_⟩ <;> first | assumption | omega | trivial
def g_290v_4_1 : vG := ([(31, [3], [], 0), (5000, [0, 1, 2, 3], [0, 1], 4), (0, [0], [], 285), (0, [1], [], 285), (90, [2], [], -2147483648), (91, [2], [], 2147483647), (90, [3], [], 0), (91, [3], [], 1)], (2288, [1], [1], 0))
theorem c_290v_4_1 {q0 : Nat} : vOkm T0 (eP e_290v L_290v A_290v mu_290v (some q0)) 1 g_290v_4_1 := vOk_in fun ρ η h => by
  obtain ⟨f0, f1, f2, f3, f4, f5, f6, f7, _⟩ := h
  exact q_290v_2 (q0 := q0) (n0 := ρ 3) (n1 := ρ 2) (n2 := ρ 1) (n3 := ρ 0) (H0 := η 0) (H1 := η 1) f7 f6 f5 f4 f3 f2 f1 f0
theorem q_290v_3 {q0 : Nat} {n0 n1 n2 n3 n4 n5 : Int} {H0 H1 H2 : gH} (f0 : n0 ≤ 1) (f1 : 0 ≤ n0) (f2 : n1 ≤ 2147483647) (f3 : (-2147483648) ≤ n1) (f4 : n2 = 285) (f5 : n3 = 285) (f6 : (hLe T0 H0 H1 ∧ hFr s_290v.2.2.2.2 H0 H1 ∧ hWt T0 H1) ∧ (Ab_290v_4 n3 n2 n1 n0 H0 H1 ∧ preb_290v n3 H0) ∧ some q0 = some (mub_290v_4 n3 n2 n1 n0 H0 H1)) (f7 : n0 ≠ 0) (f8 : (hLe T0 H1 H2 ∧ hFr s_288.2.2.2.2 H1 H2 ∧ ((0 : Int) = 0 → H2.length = H1.length) ∧ hWt T0 H2) ∧ postb_288 n2 H1 H2) (f9 : n4 = 0) (f10 : n5 = 0) : Ab_290v_16 n3 n2 n1 n4 n5 H0 H2 ∧ ∀ q, some q0 = some q → mub_290v_16 n3 n2 n1 n4 n5 H0 H2 < q := by
  have g4 := f6.2.1.1
  unfold Ab_290v_4 at g4
  have g3 := f6.2.1.2
  unfold preb_290v at g3
  have g5 := Option.some.inj f6.2.2
  unfold mub_290v_4 at g5
  unfold postb_288 at f8
  unfold Ab_290v_16
  unfold mub_290v_16
  have e0 : hV H1 285 18 = hV H0 285 18 := f6.1.2.1.1 285 18 (by decide +kernel)
  have e1 : hV H1 285 18 = hV H0 285 18 := e0
  have e2 : hV H1 285 64 = hV H0 285 64 := f6.1.2.1.1 285 64 (by decide +kernel)
  have e3 : hV H1 285 64 = hV H0 285 64 := e2
  have e4 : hV H1 296 = hV H0 296 := fRow f6.1.2.1 296 (by decide +kernel)
  have e5 : hV H1 298 = hV H0 298 := fRow f6.1.2.1 298 (by decide +kernel)
  have e6 : hV H1 300 = hV H0 300 := fRow f6.1.2.1 300 (by decide +kernel)
  have e7 : hV H1 301 = hV H0 301 := fRow f6.1.2.1 301 (by decide +kernel)
  have e8 : hV H1 303 = hV H0 303 := fRow f6.1.2.1 303 (by decide +kernel)
  have e9 : hV H1 328 = hV H0 328 := fRow f6.1.2.1 328 (by decide +kernel)
  have e10 : hV H1 330 = hV H0 330 := fRow f6.1.2.1 330 (by decide +kernel)
  have e11 : hV H1 331 = hV H0 331 := fRow f6.1.2.1 331 (by decide +kernel)
  have e12 : hV H1 332 = hV H0 332 := fRow f6.1.2.1 332 (by decide +kernel)
  have e13 : hV H1 341 = hV H0 341 := fRow f6.1.2.1 341 (by decide +kernel)
  have e14 : hV H2 285 18 = hV H1 285 18 := f8.1.2.1.1 285 18 (by decide +kernel)
  have e15 : hV H2 285 18 = hV H0 285 18 := (e14).trans e0
  have e16 : hV H2 285 64 = hV H1 285 64 := f8.1.2.1.1 285 64 (by decide +kernel)
  have e17 : hV H2 285 64 = hV H0 285 64 := (e16).trans e2
  have e18 : hV H2 285 65 = hV H1 285 65 := f8.1.2.1.1 285 65 (by decide +kernel)
  have e19 : hV H2 285 65 = hV H1 285 65 := e18
  have e20 : hV H2 296 = hV H1 296 := fRow f8.1.2.1 296 (by decide +kernel)
  have e21 : hV H2 296 = hV H0 296 := e20.trans e4
  have e22 : hV H2 298 = hV H1 298 := fRow f8.1.2.1 298 (by decide +kernel)
  have e23 : hV H2 298 = hV H0 298 := e22.trans e5
  have e24 : hV H2 300 = hV H1 300 := fRow f8.1.2.1 300 (by decide +kernel)
  have e25 : hV H2 300 = hV H0 300 := e24.trans e6
  have e26 : hV H2 301 = hV H1 301 := fRow f8.1.2.1 301 (by decide +kernel)
  have e27 : hV H2 301 = hV H0 301 := e26.trans e7
  have e28 : hV H2 303 = hV H1 303 := fRow f8.1.2.1 303 (by decide +kernel)
  have e29 : hV H2 303 = hV H0 303 := e28.trans e8
  have e30 : hV H2 328 = hV H1 328 := fRow f8.1.2.1 328 (by decide +kernel)
  have e31 : hV H2 328 = hV H0 328 := e30.trans e9
  have e32 : hV H2 329 = hV H1 329 := fRow f8.1.2.1 329 (by decide +kernel)
  have e33 : hV H2 330 = hV H1 330 := fRow f8.1.2.1 330 (by decide +kernel)
  have e34 : hV H2 330 = hV H0 330 := e33.trans e10
  have e35 : hV H2 331 = hV H1 331 := fRow f8.1.2.1 331 (by decide +kernel)
  have e36 : hV H2 331 = hV H0 331 := e35.trans e11
  have e37 : hV H2 332 = hV H1 332 := fRow f8.1.2.1 332 (by decide +kernel)
  have e38 : hV H2 332 = hV H0 332 := e37.trans e12
  have e39 : hV H2 333 = hV H1 333 := fRow f8.1.2.1 333 (by decide +kernel)
  have e40 : hV H2 334 = hV H1 334 := fRow f8.1.2.1 334 (by decide +kernel)
  have e41 : hV H2 335 = hV H1 335 := fRow f8.1.2.1 335 (by decide +kernel)
  have e42 : hV H2 336 = hV H1 336 := fRow f8.1.2.1 336 (by decide +kernel)
  have e43 : hV H2 341 = hV H1 341 := fRow f8.1.2.1 341 (by decide +kernel)
  have e44 : hV H2 341 = hV H0 341 := e43.trans e13
  have e45 : (0 : Int) ≤ hV H1 285 18 ∧ hV H1 285 18 ≤ 8 := f6.1.2.2 285 18 _ _ (by decide +kernel)
  have e46 : (0 : Int) ≤ hV H1 285 64 ∧ hV H1 285 64 ≤ 20 := f6.1.2.2 285 64 _ _ (by decide +kernel)
  have e47 : (0 : Int) ≤ hV H1 285 65 ∧ hV H1 285 65 ≤ 2147483647 := f6.1.2.2 285 65 _ _ (by decide +kernel)
  have e48 : (0 : Int) ≤ hV H2 285 18 ∧ hV H2 285 18 ≤ 8 := f8.1.2.2.2 285 18 _ _ (by decide +kernel)
  have e49 : (0 : Int) ≤ hV H2 285 64 ∧ hV H2 285 64 ≤ 20 := f8.1.2.2.2 285 64 _ _ (by decide +kernel)
  have e50 : (0 : Int) ≤ hV H2 285 65 ∧ hV H2 285 65 ≤ 2147483647 := f8.1.2.2.2 285 65 _ _ (by decide +kernel)
  try simp only [SO, SS, AC]
  try simp only [e1] at e45
  try simp only [e3] at e46
  try simp only [e15] at e48
  try simp only [e17] at e49
  try simp only [e19] at e50
  try simp only [e1, e3, e4, e5, e6, e7, e8, e9, e10, e11, e12, e13, e15, e17, e19, e21, e23, e25, e27, e29, e31, e32, e34, e36, e38, e39, e40, e41, e42, e44] at g5
  try simp only [e1, e3, e4, e5, e6, e7, e8, e9, e10, e11, e12, e13, e15, e17, e19, e21, e23, e25, e27, e29, e31, e32, e34, e36, e38, e39, e40, e41, e42, e44]
  have y0 := g4.1
  have y1 := g4.2.1
  have y2 := g4.2.2.1
  have y3 := g4.2.2.2.1
  have y4 := g4.2.2.2.2
  have p0 := g3.1
  have p1 := g3.2.1
  have p2 := g3.2.2.1
  have p3 := g3.2.2.2.1
  have p4 := g3.2.2.2.2
  have r0_0 := f8.2
  try simp only [SO] at y0
  try simp only [SS] at y1
  try simp only [AC] at y2
  try simp only [SO] at p0
  try simp only [SS] at p1
  try simp only [AC] at p3
  try simp only [e1, e3, e4, e5, e6, e7, e8, e9, e10, e11, e12, e13] at y0
  try simp only [e1, e3, e4, e5, e6, e7, e8, e9, e10, e11, e12, e13] at y1
  try simp only [e1, e3, e4, e5, e6, e7, e8, e9, e10, e11, e12, e13] at y2
  try simp only [e1, e3, e4, e5, e6, e7, e8, e9, e10, e11, e12, e13] at y3
  try simp only [e1, e3, e4, e5, e6, e7, e8, e9, e10, e11, e12, e13] at y4
  try simp only [e1, e3, e4, e5, e6, e7, e8, e9, e10, e11, e12, e13] at p0
  try simp only [e1, e3, e4, e5, e6, e7, e8, e9, e10, e11, e12, e13] at p1
  try simp only [e1, e3, e4, e5, e6, e7, e8, e9, e10, e11, e12, e13] at p2
  try simp only [e1, e3, e4, e5, e6, e7, e8, e9, e10, e11, e12, e13] at p3
  try simp only [e1, e3, e4, e5, e6, e7, e8, e9, e10, e11, e12, e13] at p4
  try simp only [e1, e3, e4, e5, e6, e7, e8, e9, e10, e11, e12, e13, e15, e17, e19, e21, e23, e25, e27, e29, e31, e32, e34, e36, e38, e39, e40, e41, e42, e44] at r0_0
  clear g3
  clear g4
  clear e0 e1 e2 e3 e4 e5 e6 e7 e8 e9 e10 e11 e12 e13 e14 e15 e16 e17 e18 e19 e20 e21 e22 e23 e24 e25 e26 e27 e28 e29 e30 e31 e32 e33 e34 e35 e36 e37 e38 e39 e40 e41 e42 e43 e44
  clear f6 f8

  refine ⟨?_, fun q hq => ?_⟩
  · exact ⟨y0, y1, y2, by omega, fun _ => r0_0, y4⟩
  · have g6 := Option.some.inj hq
    subst g6
    omega
def g_290v_4_2 : vG := ([(0, [5], [], 0), (0, [4], [], 0), (1288, [1], [1, 2], 0), (31, [3], [], 0), (5000, [0, 1, 2, 3], [0, 1], 4), (0, [0], [], 285), (0, [1], [], 285), (90, [2], [], -2147483648), (91, [2], [], 2147483647), (90, [3], [], 0), (91, [3], [], 1)], (4000, [1, 2, 4, 5], [2], 16))
theorem c_290v_4_2 {q0 : Nat} : vOkm T0 (eP e_290v L_290v A_290v mu_290v (some q0)) 1 g_290v_4_2 := vOk_in fun ρ η h => by
  obtain ⟨f0, f1, f2, f3, f4, f5, f6, f7, f8, f9, f10, _⟩ := h
  exact q_290v_3 (q0 := q0) (n0 := ρ 3) (n1 := ρ 2) (n2 := ρ 1) (n3 := ρ 0) (n4 := ρ 4) (n5 := ρ 5) (H0 := η 0) (H1 := η 1) (H2 := η 2) f10 f9 f8 f7 f6 f5 f4 f3 f2 f1 f0
def p_290v_4 : List vG := [g_290v_4_0,
  g_290v_4_1,
  g_290v_4_2]
theorem r_290v_4 : vCovO false (eRc e_290v L_290v cs_290v 2000 (4, [(0, (3, 12, 285, 0)), (1, (0, -2147483648, 2147483647, 0)), (2, (0, 0, 1, 0))])) p_290v_4 = true := by decide +kernel
theorem q_290v_4 {q0 : Nat} {n0 n1 n2 n3 n4 n5 : Int} {H0 H1 : gH} (f0 : n0 ≤ 20) (f1 : 0 ≤ n0) (f2 : n1 ≤ 1) (f3 : 0 ≤ n1) (f4 : n2 ≤ 2147483647) (f5 : (-2147483648) ≤ n2) (f6 : n3 = 285) (f7 : n4 = 285) (f8 : (hLe T0 H0 H1 ∧ hFr s_290v.2.2.2.2 H0 H1 ∧ hWt T0 H1) ∧ (Ab_290v_16 n4 n3 n2 n1 n0 H0 H1 ∧ preb_290v n4 H0) ∧ some q0 = some (mub_290v_16 n4 n3 n2 n1 n0 H0 H1)) (f9 : n5 ≤ 20) (f10 : 0 ≤ n5) (f11 : n5 = hV H1 (n3).toNat 64) (f12 : n5 ≤ n0) : Ab_290v_4 n4 n3 n2 n1 H0 H1 ∧ ∀ q, some q0 = some q → mub_290v_4 n4 n3 n2 n1 H0 H1 < q := by
  have g4 := f8.2.1.1
  unfold Ab_290v_16 at g4
  have g3 := f8.2.1.2
  unfold preb_290v at g3
  have g5 := Option.some.inj f8.2.2
  unfold mub_290v_16 at g5
  unfold Ab_290v_4
  unfold mub_290v_4
  have e0 : hV H1 285 64 = hV H0 285 64 := f8.1.2.1.1 285 64 (by decide +kernel)
  have e1 : n5 = hV H0 285 64 := (by rw [f6] at f11; exact f11 : n5 = hV H1 285 64).trans (e0)
  have e2 : hV H1 285 18 = hV H0 285 18 := f8.1.2.1.1 285 18 (by decide +kernel)
  have e3 : hV H1 285 18 = hV H0 285 18 := e2
  have e4 : hV H1 285 64 = hV H0 285 64 := e0
  have e5 : hV H1 296 = hV H0 296 := fRow f8.1.2.1 296 (by decide +kernel)
  have e6 : hV H1 298 = hV H0 298 := fRow f8.1.2.1 298 (by decide +kernel)
  have e7 : hV H1 300 = hV H0 300 := fRow f8.1.2.1 300 (by decide +kernel)
  have e8 : hV H1 301 = hV H0 301 := fRow f8.1.2.1 301 (by decide +kernel)
  have e9 : hV H1 303 = hV H0 303 := fRow f8.1.2.1 303 (by decide +kernel)
  have e10 : hV H1 328 = hV H0 328 := fRow f8.1.2.1 328 (by decide +kernel)
  have e11 : hV H1 330 = hV H0 330 := fRow f8.1.2.1 330 (by decide +kernel)
  have e12 : hV H1 331 = hV H0 331 := fRow f8.1.2.1 331 (by decide +kernel)
  have e13 : hV H1 332 = hV H0 332 := fRow f8.1.2.1 332 (by decide +kernel)
  have e14 : hV H1 341 = hV H0 341 := fRow f8.1.2.1 341 (by decide +kernel)
  have e15 : (0 : Int) ≤ hV H1 285 18 ∧ hV H1 285 18 ≤ 8 := f8.1.2.2 285 18 _ _ (by decide +kernel)
  have e16 : (0 : Int) ≤ hV H1 285 64 ∧ hV H1 285 64 ≤ 20 := f8.1.2.2 285 64 _ _ (by decide +kernel)
  have e17 : (0 : Int) ≤ hV H1 285 65 ∧ hV H1 285 65 ≤ 2147483647 := f8.1.2.2 285 65 _ _ (by decide +kernel)
  try simp only [SO, SS, AC]
  try simp only [e3] at e15
  try simp only [e4] at e16
  try simp only [e3, e4, e5, e6, e7, e8, e9, e10, e11, e12, e13, e14] at g5
  try simp only [e3, e4, e5, e6, e7, e8, e9, e10, e11, e12, e13, e14]
  have y0 := g4.1
  have y1 := g4.2.1
  have y2 := g4.2.2.1
  have y3 := g4.2.2.2.1
  have y4 := g4.2.2.2.2.1
  have y5 := g4.2.2.2.2.2
  have p0 := g3.1
  have p1 := g3.2.1
  have p2 := g3.2.2.1
  have p3 := g3.2.2.2.1
  have p4 := g3.2.2.2.2
  try simp only [SO] at y0
  try simp only [SS] at y1
  try simp only [AC] at y2
  try simp only [SO] at p0
  try simp only [SS] at p1
  try simp only [AC] at p3
  try simp only [e3, e4, e5, e6, e7, e8, e9, e10, e11, e12, e13, e14] at y0
  try simp only [e3, e4, e5, e6, e7, e8, e9, e10, e11, e12, e13, e14] at y1
  try simp only [e3, e4, e5, e6, e7, e8, e9, e10, e11, e12, e13, e14] at y2
  try simp only [e3, e4, e5, e6, e7, e8, e9, e10, e11, e12, e13, e14] at y3
  try simp only [e3, e4, e5, e6, e7, e8, e9, e10, e11, e12, e13, e14] at y4
  try simp only [e3, e4, e5, e6, e7, e8, e9, e10, e11, e12, e13, e14] at y5
  try simp only [e3, e4, e5, e6, e7, e8, e9, e10, e11, e12, e13, e14] at p0
  try simp only [e3, e4, e5, e6, e7, e8, e9, e10, e11, e12, e13, e14] at p1
  try simp only [e3, e4, e5, e6, e7, e8, e9, e10, e11, e12, e13, e14] at p2
  try simp only [e3, e4, e5, e6, e7, e8, e9, e10, e11, e12, e13, e14] at p3
  try simp only [e3, e4, e5, e6, e7, e8, e9, e10, e11, e12, e13, e14] at p4
  clear g3
  clear g4
  clear f11 e0 e2 e3 e4 e5 e6 e7 e8 e9 e10 e11 e12 e13 e14
  clear f8
  subst e1
  try have sm := SL_made ((y4 (by omega) (n0).toNat (by omega)).mp (by omega)) NX_made
  try have so := (y0 (n0).toNat (by omega)).2.2.2 (by omega)

  refine ⟨?_, fun q hq => ?_⟩
  · exact ⟨y0, y1, y2, by omega, y5⟩
  · have g6 := Option.some.inj hq
    subst g6
    omega
def g_290v_16_0 : vG := ([(43, [4, 5], [], 0), (20, [5, 1], [1], 64), (90, [5], [], 0), (91, [5], [], 20), (5000, [0, 1, 2, 3, 4], [0, 1], 16), (0, [0], [], 285), (0, [1], [], 285), (90, [2], [], -2147483648), (91, [2], [], 2147483647), (90, [3], [], 0), (91, [3], [], 1), (90, [4], [], 0), (91, [4], [], 20)], (4000, [1, 2, 3], [1], 4))
theorem c_290v_16_0 {q0 : Nat} : vOkm T0 (eP e_290v L_290v A_290v mu_290v (some q0)) 1 g_290v_16_0 := vOk_in fun ρ η h => by
  obtain ⟨f0, f1, f2, f3, f4, f5, f6, f7, f8, f9, f10, f11, f12, _⟩ := h
  exact q_290v_4 (q0 := q0) (n0 := ρ 4) (n1 := ρ 3) (n2 := ρ 2) (n3 := ρ 1) (n4 := ρ 0) (n5 := ρ 5) (H0 := η 0) (H1 := η 1) f12 f11 f10 f9 f8 f7 f6 f5 f4 f3 f2 f1 f0
theorem q_290v_5 {q0 : Nat} {n0 n1 n2 n3 n4 n5 : Int} {H0 H1 : gH} (f0 : n0 ≤ 20) (f1 : 0 ≤ n0) (f2 : n1 ≤ 1) (f3 : 0 ≤ n1) (f4 : n2 ≤ 2147483647) (f5 : (-2147483648) ≤ n2) (f6 : n3 = 285) (f7 : n4 = 285) (f8 : (hLe T0 H0 H1 ∧ hFr s_290v.2.2.2.2 H0 H1 ∧ hWt T0 H1) ∧ (Ab_290v_16 n4 n3 n2 n1 n0 H0 H1 ∧ preb_290v n4 H0) ∧ some q0 = some (mub_290v_16 n4 n3 n2 n1 n0 H0 H1)) (f9 : n5 ≤ 20) (f10 : 0 ≤ n5) (f11 : n5 = hV H1 (n3).toNat 64) (f12 : n0 < n5) (f13 : n1 ≠ 0) : Ab_290v_4 n4 n3 n2 n1 H0 H1 ∧ ∀ q, some q0 = some q → mub_290v_4 n4 n3 n2 n1 H0 H1 < q := by
  have g4 := f8.2.1.1
  unfold Ab_290v_16 at g4
  have g3 := f8.2.1.2
  unfold preb_290v at g3
  have g5 := Option.some.inj f8.2.2
  unfold mub_290v_16 at g5
  unfold Ab_290v_4
  unfold mub_290v_4
  have e0 : hV H1 285 64 = hV H0 285 64 := f8.1.2.1.1 285 64 (by decide +kernel)
  have e1 : n5 = hV H0 285 64 := (by rw [f6] at f11; exact f11 : n5 = hV H1 285 64).trans (e0)
  have e2 : hV H1 285 18 = hV H0 285 18 := f8.1.2.1.1 285 18 (by decide +kernel)
  have e3 : hV H1 285 18 = hV H0 285 18 := e2
  have e4 : hV H1 285 64 = hV H0 285 64 := e0
  have e5 : hV H1 296 = hV H0 296 := fRow f8.1.2.1 296 (by decide +kernel)
  have e6 : hV H1 298 = hV H0 298 := fRow f8.1.2.1 298 (by decide +kernel)
  have e7 : hV H1 300 = hV H0 300 := fRow f8.1.2.1 300 (by decide +kernel)
  have e8 : hV H1 301 = hV H0 301 := fRow f8.1.2.1 301 (by decide +kernel)
  have e9 : hV H1 303 = hV H0 303 := fRow f8.1.2.1 303 (by decide +kernel)
  have e10 : hV H1 328 = hV H0 328 := fRow f8.1.2.1 328 (by decide +kernel)
  have e11 : hV H1 330 = hV H0 330 := fRow f8.1.2.1 330 (by decide +kernel)
  have e12 : hV H1 331 = hV H0 331 := fRow f8.1.2.1 331 (by decide +kernel)
  have e13 : hV H1 332 = hV H0 332 := fRow f8.1.2.1 332 (by decide +kernel)
  have e14 : hV H1 341 = hV H0 341 := fRow f8.1.2.1 341 (by decide +kernel)
  have e15 : (0 : Int) ≤ hV H1 285 18 ∧ hV H1 285 18 ≤ 8 := f8.1.2.2 285 18 _ _ (by decide +kernel)
  have e16 : (0 : Int) ≤ hV H1 285 64 ∧ hV H1 285 64 ≤ 20 := f8.1.2.2 285 64 _ _ (by decide +kernel)
  have e17 : (0 : Int) ≤ hV H1 285 65 ∧ hV H1 285 65 ≤ 2147483647 := f8.1.2.2 285 65 _ _ (by decide +kernel)
  try simp only [SO, SS, AC]
  try simp only [e3] at e15
  try simp only [e4] at e16
  try simp only [e3, e4, e5, e6, e7, e8, e9, e10, e11, e12, e13, e14] at g5
  try simp only [e3, e4, e5, e6, e7, e8, e9, e10, e11, e12, e13, e14]
  have y0 := g4.1
  have y1 := g4.2.1
  have y2 := g4.2.2.1
  have y3 := g4.2.2.2.1
  have y4 := g4.2.2.2.2.1
  have y5 := g4.2.2.2.2.2
  have p0 := g3.1
  have p1 := g3.2.1
  have p2 := g3.2.2.1
  have p3 := g3.2.2.2.1
  have p4 := g3.2.2.2.2
  try simp only [SO] at y0
  try simp only [SS] at y1
  try simp only [AC] at y2
  try simp only [SO] at p0
  try simp only [SS] at p1
  try simp only [AC] at p3
  try simp only [e3, e4, e5, e6, e7, e8, e9, e10, e11, e12, e13, e14] at y0
  try simp only [e3, e4, e5, e6, e7, e8, e9, e10, e11, e12, e13, e14] at y1
  try simp only [e3, e4, e5, e6, e7, e8, e9, e10, e11, e12, e13, e14] at y2
  try simp only [e3, e4, e5, e6, e7, e8, e9, e10, e11, e12, e13, e14] at y3
  try simp only [e3, e4, e5, e6, e7, e8, e9, e10, e11, e12, e13, e14] at y4
  try simp only [e3, e4, e5, e6, e7, e8, e9, e10, e11, e12, e13, e14] at y5
  try simp only [e3, e4, e5, e6, e7, e8, e9, e10, e11, e12, e13, e14] at p0
  try simp only [e3, e4, e5, e6, e7, e8, e9, e10, e11, e12, e13, e14] at p1
  try simp only [e3, e4, e5, e6, e7, e8, e9, e10, e11, e12, e13, e14] at p2
  try simp only [e3, e4, e5, e6, e7, e8, e9, e10, e11, e12, e13, e14] at p3
  try simp only [e3, e4, e5, e6, e7, e8, e9, e10, e11, e12, e13, e14] at p4
  clear g3
  clear g4
  clear f11 e0 e2 e3 e4 e5 e6 e7 e8 e9 e10 e11 e12 e13 e14
  clear f8
  subst e1
  try have sm := SL_made ((y4 (by omega) (n0).toNat (by omega)).mp (by omega)) NX_made
  try have so := (y0 (n0).toNat (by omega)).2.2.2 (by omega)

  refine ⟨?_, fun q hq => ?_⟩
  · exact ⟨y0, y1, y2, by omega, y5⟩
  · have g6 := Option.some.inj hq
    subst g6
    omega
def g_290v_16_1 : vG := ([(31, [3], [], 0), (42, [4, 5], [], 0), (20, [5, 1], [1], 64), (90, [5], [], 0), (91, [5], [], 20), (5000, [0, 1, 2, 3, 4], [0, 1], 16), (0, [0], [], 285), (0, [1], [], 285), (90, [2], [], -2147483648), (91, [2], [], 2147483647), (90, [3], [], 0), (91, [3], [], 1), (90, [4], [], 0), (91, [4], [], 20)], (4000, [1, 2, 3], [1], 4))
theorem c_290v_16_1 {q0 : Nat} : vOkm T0 (eP e_290v L_290v A_290v mu_290v (some q0)) 1 g_290v_16_1 := vOk_in fun ρ η h => by
  obtain ⟨f0, f1, f2, f3, f4, f5, f6, f7, f8, f9, f10, f11, f12, f13, _⟩ := h
  exact q_290v_5 (q0 := q0) (n0 := ρ 4) (n1 := ρ 3) (n2 := ρ 2) (n3 := ρ 1) (n4 := ρ 0) (n5 := ρ 5) (H0 := η 0) (H1 := η 1) f13 f12 f11 f10 f9 f8 f7 f6 f5 f4 f3 f2 f1 f0
theorem q_290v_6 {q0 : Nat} {n0 n1 n2 n3 n4 n5 : Int} {H0 H1 : gH} (f0 : n0 ≤ 20) (f1 : 0 ≤ n0) (f2 : n1 ≤ 1) (f3 : 0 ≤ n1) (f4 : n2 ≤ 2147483647) (f5 : (-2147483648) ≤ n2) (f6 : n3 = 285) (f7 : n4 = 285) (f8 : (hLe T0 H0 H1 ∧ hFr s_290v.2.2.2.2 H0 H1 ∧ hWt T0 H1) ∧ (Ab_290v_16 n4 n3 n2 n1 n0 H0 H1 ∧ preb_290v n4 H0) ∧ some q0 = some (mub_290v_16 n4 n3 n2 n1 n0 H0 H1)) (f9 : n5 ≤ 20) (f10 : 0 ≤ n5) (f11 : n5 = hV H1 (n3).toNat 64) (f12 : n0 < n5) (f13 : n1 = 0) : 0 ≤ n0 ∧ n0 < 20 := by
  have g4 := f8.2.1.1
  unfold Ab_290v_16 at g4
  have g3 := f8.2.1.2
  unfold preb_290v at g3
  have e0 : hV H1 285 64 = hV H0 285 64 := f8.1.2.1.1 285 64 (by decide +kernel)
  have e1 : n5 = hV H0 285 64 := (by rw [f6] at f11; exact f11 : n5 = hV H1 285 64).trans (e0)
  have e2 : hV H1 285 18 = hV H0 285 18 := f8.1.2.1.1 285 18 (by decide +kernel)
  have e3 : hV H1 285 18 = hV H0 285 18 := e2
  have e4 : hV H1 285 64 = hV H0 285 64 := e0
  have e5 : hV H1 296 = hV H0 296 := fRow f8.1.2.1 296 (by decide +kernel)
  have e6 : hV H1 298 = hV H0 298 := fRow f8.1.2.1 298 (by decide +kernel)
  have e7 : hV H1 300 = hV H0 300 := fRow f8.1.2.1 300 (by decide +kernel)
  have e8 : hV H1 301 = hV H0 301 := fRow f8.1.2.1 301 (by decide +kernel)
  have e9 : hV H1 303 = hV H0 303 := fRow f8.1.2.1 303 (by decide +kernel)
  have e10 : hV H1 328 = hV H0 328 := fRow f8.1.2.1 328 (by decide +kernel)
  have e11 : hV H1 330 = hV H0 330 := fRow f8.1.2.1 330 (by decide +kernel)
  have e12 : hV H1 331 = hV H0 331 := fRow f8.1.2.1 331 (by decide +kernel)
  have e13 : hV H1 332 = hV H0 332 := fRow f8.1.2.1 332 (by decide +kernel)
  have e14 : hV H1 341 = hV H0 341 := fRow f8.1.2.1 341 (by decide +kernel)
  have e15 : (0 : Int) ≤ hV H1 285 18 ∧ hV H1 285 18 ≤ 8 := f8.1.2.2 285 18 _ _ (by decide +kernel)
  have e16 : (0 : Int) ≤ hV H1 285 64 ∧ hV H1 285 64 ≤ 20 := f8.1.2.2 285 64 _ _ (by decide +kernel)
  have e17 : (0 : Int) ≤ hV H1 285 65 ∧ hV H1 285 65 ≤ 2147483647 := f8.1.2.2 285 65 _ _ (by decide +kernel)
  try simp only [SO, SS, AC]
  try simp only [e3] at e15
  try simp only [e4] at e16
  try simp only [e3, e4, e5, e6, e7, e8, e9, e10, e11, e12, e13, e14]
  have y0 := g4.1
  have y1 := g4.2.1
  have y2 := g4.2.2.1
  have y3 := g4.2.2.2.1
  have y4 := g4.2.2.2.2.1
  have y5 := g4.2.2.2.2.2
  have p0 := g3.1
  have p1 := g3.2.1
  have p2 := g3.2.2.1
  have p3 := g3.2.2.2.1
  have p4 := g3.2.2.2.2
  try simp only [SO] at y0
  try simp only [SS] at y1
  try simp only [AC] at y2
  try simp only [SO] at p0
  try simp only [SS] at p1
  try simp only [AC] at p3
  try simp only [e3, e4, e5, e6, e7, e8, e9, e10, e11, e12, e13, e14] at y0
  try simp only [e3, e4, e5, e6, e7, e8, e9, e10, e11, e12, e13, e14] at y1
  try simp only [e3, e4, e5, e6, e7, e8, e9, e10, e11, e12, e13, e14] at y2
  try simp only [e3, e4, e5, e6, e7, e8, e9, e10, e11, e12, e13, e14] at y3
  try simp only [e3, e4, e5, e6, e7, e8, e9, e10, e11, e12, e13, e14] at y4
  try simp only [e3, e4, e5, e6, e7, e8, e9, e10, e11, e12, e13, e14] at y5
  try simp only [e3, e4, e5, e6, e7, e8, e9, e10, e11, e12, e13, e14] at p0
  try simp only [e3, e4, e5, e6, e7, e8, e9, e10, e11, e12, e13, e14] at p1
  try simp only [e3, e4, e5, e6, e7, e8, e9, e10, e11, e12, e13, e14] at p2
  try simp only [e3, e4, e5, e6, e7, e8, e9, e10, e11, e12, e13, e14] at p3
  try simp only [e3, e4, e5, e6, e7, e8, e9, e10, e11, e12, e13, e14] at p4
  clear g3
  clear g4
  clear f11 e0 e2 e3 e4 e5 e6 e7 e8 e9 e10 e11 e12 e13 e14
  clear f8
  subst e1
  try have sm := SL_made ((y4 (by omega) (n0).toNat (by omega)).mp (by omega)) NX_made
  try have so := (y0 (n0).toNat (by omega)).2.2.2 (by omega)
  omega
def g_290v_16_2 : vG := ([(30, [3], [], 0), (42, [4, 5], [], 0), (20, [5, 1], [1], 64), (90, [5], [], 0), (91, [5], [], 20), (5000, [0, 1, 2, 3, 4], [0, 1], 16), (0, [0], [], 285), (0, [1], [], 285), (90, [2], [], -2147483648), (91, [2], [], 2147483647), (90, [3], [], 0), (91, [3], [], 1), (90, [4], [], 0), (91, [4], [], 20)], (70, [4], [], 20))
theorem c_290v_16_2 {q0 : Nat} : vOkm T0 (eP e_290v L_290v A_290v mu_290v (some q0)) 1 g_290v_16_2 := vOk_in fun ρ η h => by
  obtain ⟨f0, f1, f2, f3, f4, f5, f6, f7, f8, f9, f10, f11, f12, f13, _⟩ := h
  exact q_290v_6 (q0 := q0) (n0 := ρ 4) (n1 := ρ 3) (n2 := ρ 2) (n3 := ρ 1) (n4 := ρ 0) (n5 := ρ 5) (H0 := η 0) (H1 := η 1) f13 f12 f11 f10 f9 f8 f7 f6 f5 f4 f3 f2 f1 f0
theorem q_290v_7 {q0 : Nat} {n0 n1 n2 n3 n4 n5 n6 n7 n8 : Int} {H0 H1 : gH} (f0 : n0 ≤ 20) (f1 : 0 ≤ n0) (f2 : n1 ≤ 1) (f3 : 0 ≤ n1) (f4 : n2 ≤ 2147483647) (f5 : (-2147483648) ≤ n2) (f6 : n3 = 285) (f7 : n4 = 285) (f8 : (hLe T0 H0 H1 ∧ hFr s_290v.2.2.2.2 H0 H1 ∧ hWt T0 H1) ∧ (Ab_290v_16 n4 n3 n2 n1 n0 H0 H1 ∧ preb_290v n4 H0) ∧ some q0 = some (mub_290v_16 n4 n3 n2 n1 n0 H0 H1)) (f9 : n5 ≤ 20) (f10 : 0 ≤ n5) (f11 : n5 = hV H1 (n3).toNat 64) (f12 : n0 < n5) (f13 : n1 = 0) (f14 : n6 = 354) (f15 : n6 = hV H1 (n3).toNat 96) (f16 : n7 ≤ 1) (f17 : 0 ≤ n7) (f18 : n7 = hV H1 (n6).toNat (n0).toNat) (f19 : n7 = 0) (f20 : n8 = w32 (n0 + 1)) : 0 ≤ n8 := by
  have g4 := f8.2.1.1
  unfold Ab_290v_16 at g4
  have g3 := f8.2.1.2
  unfold preb_290v at g3
  have e0 : hV H1 285 64 = hV H0 285 64 := f8.1.2.1.1 285 64 (by decide +kernel)
  have e1 : n5 = hV H0 285 64 := (by rw [f6] at f11; exact f11 : n5 = hV H1 285 64).trans (e0)
  have e2 : n7 = hV H1 354 (n0).toNat := (by rw [f14] at f18; exact f18 : n7 = hV H1 354 (n0).toNat)
  have e3 : hV H1 285 18 = hV H0 285 18 := f8.1.2.1.1 285 18 (by decide +kernel)
  have e4 : hV H1 285 18 = hV H0 285 18 := e3
  have e5 : hV H1 285 64 = hV H0 285 64 := e0
  have e6 : hV H1 296 = hV H0 296 := fRow f8.1.2.1 296 (by decide +kernel)
  have e7 : hV H1 298 = hV H0 298 := fRow f8.1.2.1 298 (by decide +kernel)
  have e8 : hV H1 300 = hV H0 300 := fRow f8.1.2.1 300 (by decide +kernel)
  have e9 : hV H1 301 = hV H0 301 := fRow f8.1.2.1 301 (by decide +kernel)
  have e10 : hV H1 303 = hV H0 303 := fRow f8.1.2.1 303 (by decide +kernel)
  have e11 : hV H1 328 = hV H0 328 := fRow f8.1.2.1 328 (by decide +kernel)
  have e12 : hV H1 330 = hV H0 330 := fRow f8.1.2.1 330 (by decide +kernel)
  have e13 : hV H1 331 = hV H0 331 := fRow f8.1.2.1 331 (by decide +kernel)
  have e14 : hV H1 332 = hV H0 332 := fRow f8.1.2.1 332 (by decide +kernel)
  have e15 : hV H1 341 = hV H0 341 := fRow f8.1.2.1 341 (by decide +kernel)
  have e16 : (0 : Int) ≤ hV H1 285 18 ∧ hV H1 285 18 ≤ 8 := f8.1.2.2 285 18 _ _ (by decide +kernel)
  have e17 : (0 : Int) ≤ hV H1 285 64 ∧ hV H1 285 64 ≤ 20 := f8.1.2.2 285 64 _ _ (by decide +kernel)
  have e18 : (0 : Int) ≤ hV H1 285 65 ∧ hV H1 285 65 ≤ 2147483647 := f8.1.2.2 285 65 _ _ (by decide +kernel)
  try simp only [SO, SS, AC]
  try simp only [e4] at e16
  try simp only [e5] at e17
  try simp only [e4, e5, e6, e7, e8, e9, e10, e11, e12, e13, e14, e15]
  have y0 := g4.1
  have y1 := g4.2.1
  have y2 := g4.2.2.1
  have y3 := g4.2.2.2.1
  have y4 := g4.2.2.2.2.1
  have y5 := g4.2.2.2.2.2
  have p0 := g3.1
  have p1 := g3.2.1
  have p2 := g3.2.2.1
  have p3 := g3.2.2.2.1
  have p4 := g3.2.2.2.2
  try simp only [SO] at y0
  try simp only [SS] at y1
  try simp only [AC] at y2
  try simp only [SO] at p0
  try simp only [SS] at p1
  try simp only [AC] at p3
  try simp only [e4, e5, e6, e7, e8, e9, e10, e11, e12, e13, e14, e15] at y0
  try simp only [e4, e5, e6, e7, e8, e9, e10, e11, e12, e13, e14, e15] at y1
  try simp only [e4, e5, e6, e7, e8, e9, e10, e11, e12, e13, e14, e15] at y2
  try simp only [e4, e5, e6, e7, e8, e9, e10, e11, e12, e13, e14, e15] at y3
  try simp only [e4, e5, e6, e7, e8, e9, e10, e11, e12, e13, e14, e15] at y4
  try simp only [e4, e5, e6, e7, e8, e9, e10, e11, e12, e13, e14, e15] at y5
  try simp only [e4, e5, e6, e7, e8, e9, e10, e11, e12, e13, e14, e15] at p0
  try simp only [e4, e5, e6, e7, e8, e9, e10, e11, e12, e13, e14, e15] at p1
  try simp only [e4, e5, e6, e7, e8, e9, e10, e11, e12, e13, e14, e15] at p2
  try simp only [e4, e5, e6, e7, e8, e9, e10, e11, e12, e13, e14, e15] at p3
  try simp only [e4, e5, e6, e7, e8, e9, e10, e11, e12, e13, e14, e15] at p4
  clear g3
  clear g4
  clear f11 f15 f18 e0 e3 e4 e5 e6 e7 e8 e9 e10 e11 e12 e13 e14 e15
  clear f8
  subst e1
  subst e2
  unfold w32 at *
  try have sm := SL_made ((y4 (by omega) (n0).toNat (by omega)).mp (by omega)) NX_made
  try have so := (y0 (n0).toNat (by omega)).2.2.2 (by omega)
  try (have ix0 : n8 = n0 + 1 := (by omega); subst ix0)
  omega
def g_290v_16_3 : vG := ([(10, [8, 4], [], 1), (30, [7], [], 0), (22, [7, 6, 4], [1], 0), (90, [7], [], 0), (91, [7], [], 1), (20, [6, 1], [1], 96), (0, [6], [], 354), (30, [3], [], 0), (42, [4, 5], [], 0), (20, [5, 1], [1], 64), (90, [5], [], 0), (91, [5], [], 20), (5000, [0, 1, 2, 3, 4], [0, 1], 16), (0, [0], [], 285), (0, [1], [], 285), (90, [2], [], -2147483648), (91, [2], [], 2147483647), (90, [3], [], 0), (91, [3], [], 1), (90, [4], [], 0), (91, [4], [], 20)], (90, [8], [], 0))
theorem c_290v_16_3 {q0 : Nat} : vOkm T0 (eP e_290v L_290v A_290v mu_290v (some q0)) 1 g_290v_16_3 := vOk_in fun ρ η h => by
  obtain ⟨f0, f1, f2, f3, f4, f5, f6, f7, f8, f9, f10, f11, f12, f13, f14, f15, f16, f17, f18, f19, f20, _⟩ := h
  exact q_290v_7 (q0 := q0) (n0 := ρ 4) (n1 := ρ 3) (n2 := ρ 2) (n3 := ρ 1) (n4 := ρ 0) (n5 := ρ 5) (n6 := ρ 6) (n7 := ρ 7) (n8 := ρ 8) (H0 := η 0) (H1 := η 1) f20 f19 f18 f17 f16 f15 f14 f13 f12 f11 f10 f9 f8 f7 f6 f5 f4 f3 f2 f1 f0
theorem q_290v_8 {q0 : Nat} {n0 n1 n2 n3 n4 n5 n6 n7 n8 : Int} {H0 H1 : gH} (f0 : n0 ≤ 20) (f1 : 0 ≤ n0) (f2 : n1 ≤ 1) (f3 : 0 ≤ n1) (f4 : n2 ≤ 2147483647) (f5 : (-2147483648) ≤ n2) (f6 : n3 = 285) (f7 : n4 = 285) (f8 : (hLe T0 H0 H1 ∧ hFr s_290v.2.2.2.2 H0 H1 ∧ hWt T0 H1) ∧ (Ab_290v_16 n4 n3 n2 n1 n0 H0 H1 ∧ preb_290v n4 H0) ∧ some q0 = some (mub_290v_16 n4 n3 n2 n1 n0 H0 H1)) (f9 : n5 ≤ 20) (f10 : 0 ≤ n5) (f11 : n5 = hV H1 (n3).toNat 64) (f12 : n0 < n5) (f13 : n1 = 0) (f14 : n6 = 354) (f15 : n6 = hV H1 (n3).toNat 96) (f16 : n7 ≤ 1) (f17 : 0 ≤ n7) (f18 : n7 = hV H1 (n6).toNat (n0).toNat) (f19 : n7 = 0) (f20 : n8 = w32 (n0 + 1)) : n8 ≤ 20 := by
  have g4 := f8.2.1.1
  unfold Ab_290v_16 at g4
  have g3 := f8.2.1.2
  unfold preb_290v at g3
  have e0 : hV H1 285 64 = hV H0 285 64 := f8.1.2.1.1 285 64 (by decide +kernel)
  have e1 : n5 = hV H0 285 64 := (by rw [f6] at f11; exact f11 : n5 = hV H1 285 64).trans (e0)
  have e2 : n7 = hV H1 354 (n0).toNat := (by rw [f14] at f18; exact f18 : n7 = hV H1 354 (n0).toNat)
  have e3 : hV H1 285 18 = hV H0 285 18 := f8.1.2.1.1 285 18 (by decide +kernel)
  have e4 : hV H1 285 18 = hV H0 285 18 := e3
  have e5 : hV H1 285 64 = hV H0 285 64 := e0
  have e6 : hV H1 296 = hV H0 296 := fRow f8.1.2.1 296 (by decide +kernel)
  have e7 : hV H1 298 = hV H0 298 := fRow f8.1.2.1 298 (by decide +kernel)
  have e8 : hV H1 300 = hV H0 300 := fRow f8.1.2.1 300 (by decide +kernel)
  have e9 : hV H1 301 = hV H0 301 := fRow f8.1.2.1 301 (by decide +kernel)
  have e10 : hV H1 303 = hV H0 303 := fRow f8.1.2.1 303 (by decide +kernel)
  have e11 : hV H1 328 = hV H0 328 := fRow f8.1.2.1 328 (by decide +kernel)
  have e12 : hV H1 330 = hV H0 330 := fRow f8.1.2.1 330 (by decide +kernel)
  have e13 : hV H1 331 = hV H0 331 := fRow f8.1.2.1 331 (by decide +kernel)
  have e14 : hV H1 332 = hV H0 332 := fRow f8.1.2.1 332 (by decide +kernel)
  have e15 : hV H1 341 = hV H0 341 := fRow f8.1.2.1 341 (by decide +kernel)
  have e16 : (0 : Int) ≤ hV H1 285 18 ∧ hV H1 285 18 ≤ 8 := f8.1.2.2 285 18 _ _ (by decide +kernel)
  have e17 : (0 : Int) ≤ hV H1 285 64 ∧ hV H1 285 64 ≤ 20 := f8.1.2.2 285 64 _ _ (by decide +kernel)
  have e18 : (0 : Int) ≤ hV H1 285 65 ∧ hV H1 285 65 ≤ 2147483647 := f8.1.2.2 285 65 _ _ (by decide +kernel)
  try simp only [SO, SS, AC]
  try simp only [e4] at e16
  try simp only [e5] at e17
  try simp only [e4, e5, e6, e7, e8, e9, e10, e11, e12, e13, e14, e15]
  have y0 := g4.1
  have y1 := g4.2.1
  have y2 := g4.2.2.1
  have y3 := g4.2.2.2.1
  have y4 := g4.2.2.2.2.1
  have y5 := g4.2.2.2.2.2
  have p0 := g3.1
  have p1 := g3.2.1
  have p2 := g3.2.2.1
  have p3 := g3.2.2.2.1
  have p4 := g3.2.2.2.2
  try simp only [SO] at y0
  try simp only [SS] at y1
  try simp only [AC] at y2
  try simp only [SO] at p0
  try simp only [SS] at p1
  try simp only [AC] at p3
  try simp only [e4, e5, e6, e7, e8, e9, e10, e11, e12, e13, e14, e15] at y0
  try simp only [e4, e5, e6, e7, e8, e9, e10, e11, e12, e13, e14, e15] at y1
  try simp only [e4, e5, e6, e7, e8, e9, e10, e11, e12, e13, e14, e15] at y2
  try simp only [e4, e5, e6, e7, e8, e9, e10, e11, e12, e13, e14, e15] at y3
  try simp only [e4, e5, e6, e7, e8, e9, e10, e11, e12, e13, e14, e15] at y4
  try simp only [e4, e5, e6, e7, e8, e9, e10, e11, e12, e13, e14, e15] at y5
  try simp only [e4, e5, e6, e7, e8, e9, e10, e11, e12, e13, e14, e15] at p0
  try simp only [e4, e5, e6, e7, e8, e9, e10, e11, e12, e13, e14, e15] at p1
  try simp only [e4, e5, e6, e7, e8, e9, e10, e11, e12, e13, e14, e15] at p2
  try simp only [e4, e5, e6, e7, e8, e9, e10, e11, e12, e13, e14, e15] at p3
  try simp only [e4, e5, e6, e7, e8, e9, e10, e11, e12, e13, e14, e15] at p4
  clear g3
  clear g4
  clear f11 f15 f18 e0 e3 e4 e5 e6 e7 e8 e9 e10 e11 e12 e13 e14 e15
  clear f8
  subst e1
  subst e2
  unfold w32 at *
  try have sm := SL_made ((y4 (by omega) (n0).toNat (by omega)).mp (by omega)) NX_made
  try have so := (y0 (n0).toNat (by omega)).2.2.2 (by omega)
  try (have ix0 : n8 = n0 + 1 := (by omega); subst ix0)
  omega
def g_290v_16_4 : vG := ([(10, [8, 4], [], 1), (30, [7], [], 0), (22, [7, 6, 4], [1], 0), (90, [7], [], 0), (91, [7], [], 1), (20, [6, 1], [1], 96), (0, [6], [], 354), (30, [3], [], 0), (42, [4, 5], [], 0), (20, [5, 1], [1], 64), (90, [5], [], 0), (91, [5], [], 20), (5000, [0, 1, 2, 3, 4], [0, 1], 16), (0, [0], [], 285), (0, [1], [], 285), (90, [2], [], -2147483648), (91, [2], [], 2147483647), (90, [3], [], 0), (91, [3], [], 1), (90, [4], [], 0), (91, [4], [], 20)], (91, [8], [], 20))
theorem c_290v_16_4 {q0 : Nat} : vOkm T0 (eP e_290v L_290v A_290v mu_290v (some q0)) 1 g_290v_16_4 := vOk_in fun ρ η h => by
  obtain ⟨f0, f1, f2, f3, f4, f5, f6, f7, f8, f9, f10, f11, f12, f13, f14, f15, f16, f17, f18, f19, f20, _⟩ := h
  exact q_290v_8 (q0 := q0) (n0 := ρ 4) (n1 := ρ 3) (n2 := ρ 2) (n3 := ρ 1) (n4 := ρ 0) (n5 := ρ 5) (n6 := ρ 6) (n7 := ρ 7) (n8 := ρ 8) (H0 := η 0) (H1 := η 1) f20 f19 f18 f17 f16 f15 f14 f13 f12 f11 f10 f9 f8 f7 f6 f5 f4 f3 f2 f1 f0
theorem q_290v_9 {q0 : Nat} {n0 n1 n2 n3 n4 n5 n6 n7 n8 : Int} {H0 H1 : gH} (f0 : n0 ≤ 20) (f1 : 0 ≤ n0) (f2 : n1 ≤ 1) (f3 : 0 ≤ n1) (f4 : n2 ≤ 2147483647) (f5 : (-2147483648) ≤ n2) (f6 : n3 = 285) (f7 : n4 = 285) (f8 : (hLe T0 H0 H1 ∧ hFr s_290v.2.2.2.2 H0 H1 ∧ hWt T0 H1) ∧ (Ab_290v_16 n4 n3 n2 n1 n0 H0 H1 ∧ preb_290v n4 H0) ∧ some q0 = some (mub_290v_16 n4 n3 n2 n1 n0 H0 H1)) (f9 : n5 ≤ 20) (f10 : 0 ≤ n5) (f11 : n5 = hV H1 (n3).toNat 64) (f12 : n0 < n5) (f13 : n1 = 0) (f14 : n6 = 354) (f15 : n6 = hV H1 (n3).toNat 96) (f16 : n7 ≤ 1) (f17 : 0 ≤ n7) (f18 : n7 = hV H1 (n6).toNat (n0).toNat) (f19 : n7 = 0) (f20 : n8 = w32 (n0 + 1)) : Ab_290v_16 n4 n3 n2 n1 n8 H0 H1 ∧ ∀ q, some q0 = some q → mub_290v_16 n4 n3 n2 n1 n8 H0 H1 < q := by
  have g4 := f8.2.1.1
  unfold Ab_290v_16 at g4
  have g3 := f8.2.1.2
  unfold preb_290v at g3
  have g5 := Option.some.inj f8.2.2
  unfold mub_290v_16 at g5
  unfold Ab_290v_16
  unfold mub_290v_16
  have e0 : hV H1 285 64 = hV H0 285 64 := f8.1.2.1.1 285 64 (by decide +kernel)
  have e1 : n5 = hV H0 285 64 := (by rw [f6] at f11; exact f11 : n5 = hV H1 285 64).trans (e0)
  have e2 : n7 = hV H1 354 (n0).toNat := (by rw [f14] at f18; exact f18 : n7 = hV H1 354 (n0).toNat)
  have e3 : hV H1 285 18 = hV H0 285 18 := f8.1.2.1.1 285 18 (by decide +kernel)
  have e4 : hV H1 285 18 = hV H0 285 18 := e3
  have e5 : hV H1 285 64 = hV H0 285 64 := e0
  have e6 : hV H1 296 = hV H0 296 := fRow f8.1.2.1 296 (by decide +kernel)
  have e7 : hV H1 298 = hV H0 298 := fRow f8.1.2.1 298 (by decide +kernel)
  have e8 : hV H1 300 = hV H0 300 := fRow f8.1.2.1 300 (by decide +kernel)
  have e9 : hV H1 301 = hV H0 301 := fRow f8.1.2.1 301 (by decide +kernel)
  have e10 : hV H1 303 = hV H0 303 := fRow f8.1.2.1 303 (by decide +kernel)
  have e11 : hV H1 328 = hV H0 328 := fRow f8.1.2.1 328 (by decide +kernel)
  have e12 : hV H1 330 = hV H0 330 := fRow f8.1.2.1 330 (by decide +kernel)
  have e13 : hV H1 331 = hV H0 331 := fRow f8.1.2.1 331 (by decide +kernel)
  have e14 : hV H1 332 = hV H0 332 := fRow f8.1.2.1 332 (by decide +kernel)
  have e15 : hV H1 341 = hV H0 341 := fRow f8.1.2.1 341 (by decide +kernel)
  have e16 : (0 : Int) ≤ hV H1 285 18 ∧ hV H1 285 18 ≤ 8 := f8.1.2.2 285 18 _ _ (by decide +kernel)
  have e17 : (0 : Int) ≤ hV H1 285 64 ∧ hV H1 285 64 ≤ 20 := f8.1.2.2 285 64 _ _ (by decide +kernel)
  have e18 : (0 : Int) ≤ hV H1 285 65 ∧ hV H1 285 65 ≤ 2147483647 := f8.1.2.2 285 65 _ _ (by decide +kernel)
  try simp only [SO, SS, AC]
  try simp only [e4] at e16
  try simp only [e5] at e17
  try simp only [e4, e5, e6, e7, e8, e9, e10, e11, e12, e13, e14, e15] at g5
  try simp only [e4, e5, e6, e7, e8, e9, e10, e11, e12, e13, e14, e15]
  have y0 := g4.1
  have y1 := g4.2.1
  have y2 := g4.2.2.1
  have y3 := g4.2.2.2.1
  have y4 := g4.2.2.2.2.1
  have y5 := g4.2.2.2.2.2
  have p0 := g3.1
  have p1 := g3.2.1
  have p2 := g3.2.2.1
  have p3 := g3.2.2.2.1
  have p4 := g3.2.2.2.2
  try simp only [SO] at y0
  try simp only [SS] at y1
  try simp only [AC] at y2
  try simp only [SO] at p0
  try simp only [SS] at p1
  try simp only [AC] at p3
  try simp only [e4, e5, e6, e7, e8, e9, e10, e11, e12, e13, e14, e15] at y0
  try simp only [e4, e5, e6, e7, e8, e9, e10, e11, e12, e13, e14, e15] at y1
  try simp only [e4, e5, e6, e7, e8, e9, e10, e11, e12, e13, e14, e15] at y2
  try simp only [e4, e5, e6, e7, e8, e9, e10, e11, e12, e13, e14, e15] at y3
  try simp only [e4, e5, e6, e7, e8, e9, e10, e11, e12, e13, e14, e15] at y4
  try simp only [e4, e5, e6, e7, e8, e9, e10, e11, e12, e13, e14, e15] at y5
  try simp only [e4, e5, e6, e7, e8, e9, e10, e11, e12, e13, e14, e15] at p0
  try simp only [e4, e5, e6, e7, e8, e9, e10, e11, e12, e13, e14, e15] at p1
  try simp only [e4, e5, e6, e7, e8, e9, e10, e11, e12, e13, e14, e15] at p2
  try simp only [e4, e5, e6, e7, e8, e9, e10, e11, e12, e13, e14, e15] at p3
  try simp only [e4, e5, e6, e7, e8, e9, e10, e11, e12, e13, e14, e15] at p4
  clear g3
  clear g4
  clear f11 f15 f18 e0 e3 e4 e5 e6 e7 e8 e9 e10 e11 e12 e13 e14 e15
  clear f8
  subst e1
  subst e2
  unfold w32 at *
  try have sm := SL_made ((y4 (by omega) (n0).toNat (by omega)).mp (by omega)) NX_made
  try have so := (y0 (n0).toNat (by omega)).2.2.2 (by omega)
  try (have ix0 : n8 = n0 + 1 := (by omega); subst ix0)

  refine ⟨?_, fun q hq => ?_⟩
  · exact ⟨y0, y1, y2, by omega, y4, y5⟩
  · have g6 := Option.some.inj hq
    subst g6
    try clear r0_0
    try clear r0_1
    omega
def g_290v_16_5 : vG := ([(10, [8, 4], [], 1), (30, [7], [], 0), (22, [7, 6, 4], [1], 0), (90, [7], [], 0), (91, [7], [], 1), (20, [6, 1], [1], 96), (0, [6], [], 354), (30, [3], [], 0), (42, [4, 5], [], 0), (20, [5, 1], [1], 64), (90, [5], [], 0), (91, [5], [], 20), (5000, [0, 1, 2, 3, 4], [0, 1], 16), (0, [0], [], 285), (0, [1], [], 285), (90, [2], [], -2147483648), (91, [2], [], 2147483647), (90, [3], [], 0), (91, [3], [], 1), (90, [4], [], 0), (91, [4], [], 20)], (4000, [1, 2, 3, 8], [1], 16))
theorem c_290v_16_5 {q0 : Nat} : vOkm T0 (eP e_290v L_290v A_290v mu_290v (some q0)) 1 g_290v_16_5 := vOk_in fun ρ η h => by
  obtain ⟨f0, f1, f2, f3, f4, f5, f6, f7, f8, f9, f10, f11, f12, f13, f14, f15, f16, f17, f18, f19, f20, _⟩ := h
  exact q_290v_9 (q0 := q0) (n0 := ρ 4) (n1 := ρ 3) (n2 := ρ 2) (n3 := ρ 1) (n4 := ρ 0) (n5 := ρ 5) (n6 := ρ 6) (n7 := ρ 7) (n8 := ρ 8) (H0 := η 0) (H1 := η 1) f20 f19 f18 f17 f16 f15 f14 f13 f12 f11 f10 f9 f8 f7 f6 f5 f4 f3 f2 f1 f0
theorem q_290v_10 {q0 : Nat} {n0 n1 n2 n3 n4 n5 n6 n7 : Int} {H0 H1 : gH} (f0 : n0 ≤ 20) (f1 : 0 ≤ n0) (f2 : n1 ≤ 1) (f3 : 0 ≤ n1) (f4 : n2 ≤ 2147483647) (f5 : (-2147483648) ≤ n2) (f6 : n3 = 285) (f7 : n4 = 285) (f8 : (hLe T0 H0 H1 ∧ hFr s_290v.2.2.2.2 H0 H1 ∧ hWt T0 H1) ∧ (Ab_290v_16 n4 n3 n2 n1 n0 H0 H1 ∧ preb_290v n4 H0) ∧ some q0 = some (mub_290v_16 n4 n3 n2 n1 n0 H0 H1)) (f9 : n5 ≤ 20) (f10 : 0 ≤ n5) (f11 : n5 = hV H1 (n3).toNat 64) (f12 : n0 < n5) (f13 : n1 = 0) (f14 : n6 = 354) (f15 : n6 = hV H1 (n3).toNat 96) (f16 : n7 ≤ 1) (f17 : 0 ≤ n7) (f18 : n7 = hV H1 (n6).toNat (n0).toNat) (f19 : n7 ≠ 0) : n0 ≤ 19 := by
  have g4 := f8.2.1.1
  unfold Ab_290v_16 at g4
  have g3 := f8.2.1.2
  unfold preb_290v at g3
  have e0 : hV H1 285 64 = hV H0 285 64 := f8.1.2.1.1 285 64 (by decide +kernel)
  have e1 : n5 = hV H0 285 64 := (by rw [f6] at f11; exact f11 : n5 = hV H1 285 64).trans (e0)
  have e2 : n7 = hV H1 354 (n0).toNat := (by rw [f14] at f18; exact f18 : n7 = hV H1 354 (n0).toNat)
  have e3 : hV H1 285 18 = hV H0 285 18 := f8.1.2.1.1 285 18 (by decide +kernel)
  have e4 : hV H1 285 18 = hV H0 285 18 := e3
  have e5 : hV H1 285 64 = hV H0 285 64 := e0
  have e6 : hV H1 296 = hV H0 296 := fRow f8.1.2.1 296 (by decide +kernel)
  have e7 : hV H1 298 = hV H0 298 := fRow f8.1.2.1 298 (by decide +kernel)
  have e8 : hV H1 300 = hV H0 300 := fRow f8.1.2.1 300 (by decide +kernel)
  have e9 : hV H1 301 = hV H0 301 := fRow f8.1.2.1 301 (by decide +kernel)
  have e10 : hV H1 303 = hV H0 303 := fRow f8.1.2.1 303 (by decide +kernel)
  have e11 : hV H1 328 = hV H0 328 := fRow f8.1.2.1 328 (by decide +kernel)
  have e12 : hV H1 330 = hV H0 330 := fRow f8.1.2.1 330 (by decide +kernel)
  have e13 : hV H1 331 = hV H0 331 := fRow f8.1.2.1 331 (by decide +kernel)
  have e14 : hV H1 332 = hV H0 332 := fRow f8.1.2.1 332 (by decide +kernel)
  have e15 : hV H1 341 = hV H0 341 := fRow f8.1.2.1 341 (by decide +kernel)
  have e16 : (0 : Int) ≤ hV H1 285 18 ∧ hV H1 285 18 ≤ 8 := f8.1.2.2 285 18 _ _ (by decide +kernel)
  have e17 : (0 : Int) ≤ hV H1 285 64 ∧ hV H1 285 64 ≤ 20 := f8.1.2.2 285 64 _ _ (by decide +kernel)
  have e18 : (0 : Int) ≤ hV H1 285 65 ∧ hV H1 285 65 ≤ 2147483647 := f8.1.2.2 285 65 _ _ (by decide +kernel)
  try simp only [SO, SS, AC]
  try simp only [e4] at e16
  try simp only [e5] at e17
  try simp only [e4, e5, e6, e7, e8, e9, e10, e11, e12, e13, e14, e15]
  have y0 := g4.1
  have y1 := g4.2.1
  have y2 := g4.2.2.1
  have y3 := g4.2.2.2.1
  have y4 := g4.2.2.2.2.1
  have y5 := g4.2.2.2.2.2
  have p0 := g3.1
  have p1 := g3.2.1
  have p2 := g3.2.2.1
  have p3 := g3.2.2.2.1
  have p4 := g3.2.2.2.2
  try simp only [SO] at y0
  try simp only [SS] at y1
  try simp only [AC] at y2
  try simp only [SO] at p0
  try simp only [SS] at p1
  try simp only [AC] at p3
  try simp only [e4, e5, e6, e7, e8, e9, e10, e11, e12, e13, e14, e15] at y0
  try simp only [e4, e5, e6, e7, e8, e9, e10, e11, e12, e13, e14, e15] at y1
  try simp only [e4, e5, e6, e7, e8, e9, e10, e11, e12, e13, e14, e15] at y2
  try simp only [e4, e5, e6, e7, e8, e9, e10, e11, e12, e13, e14, e15] at y3
  try simp only [e4, e5, e6, e7, e8, e9, e10, e11, e12, e13, e14, e15] at y4
  try simp only [e4, e5, e6, e7, e8, e9, e10, e11, e12, e13, e14, e15] at y5
  try simp only [e4, e5, e6, e7, e8, e9, e10, e11, e12, e13, e14, e15] at p0
  try simp only [e4, e5, e6, e7, e8, e9, e10, e11, e12, e13, e14, e15] at p1
  try simp only [e4, e5, e6, e7, e8, e9, e10, e11, e12, e13, e14, e15] at p2
  try simp only [e4, e5, e6, e7, e8, e9, e10, e11, e12, e13, e14, e15] at p3
  try simp only [e4, e5, e6, e7, e8, e9, e10, e11, e12, e13, e14, e15] at p4
  clear g3
  clear g4
  clear f11 f15 f18 e0 e3 e4 e5 e6 e7 e8 e9 e10 e11 e12 e13 e14 e15
  clear f8
  subst e1
  subst e2
  try have sm := SL_made ((y4 (by omega) (n0).toNat (by omega)).mp (by omega)) NX_made
  try have so := (y0 (n0).toNat (by omega)).2.2.2 (by omega)
  omega
def g_290v_16_6 : vG := ([(31, [7], [], 0), (22, [7, 6, 4], [1], 0), (90, [7], [], 0), (91, [7], [], 1), (20, [6, 1], [1], 96), (0, [6], [], 354), (30, [3], [], 0), (42, [4, 5], [], 0), (20, [5, 1], [1], 64), (90, [5], [], 0), (91, [5], [], 20), (5000, [0, 1, 2, 3, 4], [0, 1], 16), (0, [0], [], 285), (0, [1], [], 285), (90, [2], [], -2147483648), (91, [2], [], 2147483647), (90, [3], [], 0), (91, [3], [], 1), (90, [4], [], 0), (91, [4], [], 20)], (91, [4], [], 19))
theorem c_290v_16_6 {q0 : Nat} : vOkm T0 (eP e_290v L_290v A_290v mu_290v (some q0)) 1 g_290v_16_6 := vOk_in fun ρ η h => by
  obtain ⟨f0, f1, f2, f3, f4, f5, f6, f7, f8, f9, f10, f11, f12, f13, f14, f15, f16, f17, f18, f19, _⟩ := h
  exact q_290v_10 (q0 := q0) (n0 := ρ 4) (n1 := ρ 3) (n2 := ρ 2) (n3 := ρ 1) (n4 := ρ 0) (n5 := ρ 5) (n6 := ρ 6) (n7 := ρ 7) (H0 := η 0) (H1 := η 1) f19 f18 f17 f16 f15 f14 f13 f12 f11 f10 f9 f8 f7 f6 f5 f4 f3 f2 f1 f0
theorem q_290v_11 {q0 : Nat} {n0 n1 n2 n3 n4 n5 n6 n7 : Int} {H0 H1 : gH} (f0 : n0 ≤ 20) (f1 : 0 ≤ n0) (f2 : n1 ≤ 1) (f3 : 0 ≤ n1) (f4 : n2 ≤ 2147483647) (f5 : (-2147483648) ≤ n2) (f6 : n3 = 285) (f7 : n4 = 285) (f8 : (hLe T0 H0 H1 ∧ hFr s_290v.2.2.2.2 H0 H1 ∧ hWt T0 H1) ∧ (Ab_290v_16 n4 n3 n2 n1 n0 H0 H1 ∧ preb_290v n4 H0) ∧ some q0 = some (mub_290v_16 n4 n3 n2 n1 n0 H0 H1)) (f9 : n5 ≤ 20) (f10 : 0 ≤ n5) (f11 : n5 = hV H1 (n3).toNat 64) (f12 : n0 < n5) (f13 : n1 = 0) (f14 : n6 = 354) (f15 : n6 = hV H1 (n3).toNat 96) (f16 : n7 ≤ 1) (f17 : 0 ≤ n7) (f18 : n7 = hV H1 (n6).toNat (n0).toNat) (f19 : n7 ≠ 0) : preb_289 n3 n0 H1 := by
  have g4 := f8.2.1.1
  unfold Ab_290v_16 at g4
  have g3 := f8.2.1.2
  unfold preb_290v at g3
  unfold preb_289
  have e0 : hV H1 285 64 = hV H0 285 64 := f8.1.2.1.1 285 64 (by decide +kernel)
  have e1 : n5 = hV H0 285 64 := (by rw [f6] at f11; exact f11 : n5 = hV H1 285 64).trans (e0)
  have e2 : n7 = hV H1 354 (n0).toNat := (by rw [f14] at f18; exact f18 : n7 = hV H1 354 (n0).toNat)
  have e3 : hV H1 285 18 = hV H0 285 18 := f8.1.2.1.1 285 18 (by decide +kernel)
  have e4 : hV H1 285 18 = hV H0 285 18 := e3
  have e5 : hV H1 285 64 = hV H0 285 64 := e0
  have e6 : hV H1 296 = hV H0 296 := fRow f8.1.2.1 296 (by decide +kernel)
  have e7 : hV H1 298 = hV H0 298 := fRow f8.1.2.1 298 (by decide +kernel)
  have e8 : hV H1 300 = hV H0 300 := fRow f8.1.2.1 300 (by decide +kernel)
  have e9 : hV H1 301 = hV H0 301 := fRow f8.1.2.1 301 (by decide +kernel)
  have e10 : hV H1 303 = hV H0 303 := fRow f8.1.2.1 303 (by decide +kernel)
  have e11 : hV H1 328 = hV H0 328 := fRow f8.1.2.1 328 (by decide +kernel)
  have e12 : hV H1 330 = hV H0 330 := fRow f8.1.2.1 330 (by decide +kernel)
  have e13 : hV H1 331 = hV H0 331 := fRow f8.1.2.1 331 (by decide +kernel)
  have e14 : hV H1 332 = hV H0 332 := fRow f8.1.2.1 332 (by decide +kernel)
  have e15 : hV H1 341 = hV H0 341 := fRow f8.1.2.1 341 (by decide +kernel)
  have e16 : PG H1 = PG H0 := PG_fr f8.1.2.1 (by decide +kernel)
  have e17 : (0 : Int) ≤ hV H1 285 18 ∧ hV H1 285 18 ≤ 8 := f8.1.2.2 285 18 _ _ (by decide +kernel)
  have e18 : (0 : Int) ≤ hV H1 285 64 ∧ hV H1 285 64 ≤ 20 := f8.1.2.2 285 64 _ _ (by decide +kernel)
  have e19 : (0 : Int) ≤ hV H1 285 65 ∧ hV H1 285 65 ≤ 2147483647 := f8.1.2.2 285 65 _ _ (by decide +kernel)
  try simp only [SO, SS, AC]
  try simp only [e4] at e17
  try simp only [e5] at e18
  try simp only [e4, e5, e6, e7, e8, e9, e10, e11, e12, e13, e14, e15, e16]
  have y0 := g4.1
  have y1 := g4.2.1
  have y2 := g4.2.2.1
  have y3 := g4.2.2.2.1
  have y4 := g4.2.2.2.2.1
  have y5 := g4.2.2.2.2.2
  have p0 := g3.1
  have p1 := g3.2.1
  have p2 := g3.2.2.1
  have p3 := g3.2.2.2.1
  have p4 := g3.2.2.2.2
  try simp only [SO] at y0
  try simp only [SS] at y1
  try simp only [AC] at y2
  try simp only [SO] at p0
  try simp only [SS] at p1
  try simp only [AC] at p3
  try simp only [e4, e5, e6, e7, e8, e9, e10, e11, e12, e13, e14, e15, e16] at y0
  try simp only [e4, e5, e6, e7, e8, e9, e10, e11, e12, e13, e14, e15, e16] at y1
  try simp only [e4, e5, e6, e7, e8, e9, e10, e11, e12, e13, e14, e15, e16] at y2
  try simp only [e4, e5, e6, e7, e8, e9, e10, e11, e12, e13, e14, e15, e16] at y3
  try simp only [e4, e5, e6, e7, e8, e9, e10, e11, e12, e13, e14, e15, e16] at y4
  try simp only [e4, e5, e6, e7, e8, e9, e10, e11, e12, e13, e14, e15, e16] at y5
  try simp only [e4, e5, e6, e7, e8, e9, e10, e11, e12, e13, e14, e15, e16] at p0
  try simp only [e4, e5, e6, e7, e8, e9, e10, e11, e12, e13, e14, e15, e16] at p1
  try simp only [e4, e5, e6, e7, e8, e9, e10, e11, e12, e13, e14, e15, e16] at p2
  try simp only [e4, e5, e6, e7, e8, e9, e10, e11, e12, e13, e14, e15, e16] at p3
  try simp only [e4, e5, e6, e7, e8, e9, e10, e11, e12, e13, e14, e15, e16] at p4
  clear g3
  clear g4
  clear f11 f15 f18 e0 e3 e4 e5 e6 e7 e8 e9 e10 e11 e12 e13 e14 e15 e16
  clear f8
  subst e1
  subst e2
  try have sm := SL_made ((y4 (by omega) (n0).toNat (by omega)).mp (by omega)) NX_made
  try have so := (y0 (n0).toNat (by omega)).2.2.2 (by omega)
  refine ⟨?_, ?_, ?_⟩ <;> first | assumption | omega | trivial
def g_290v_16_7 : vG := ([(31, [7], [], 0), (22, [7, 6, 4], [1], 0), (90, [7], [], 0), (91, [7], [], 1), (20, [6, 1], [1], 96), (0, [6], [], 354), (30, [3], [], 0), (42, [4, 5], [], 0), (20, [5, 1], [1], 64), (90, [5], [], 0), (91, [5], [], 20), (5000, [0, 1, 2, 3, 4], [0, 1], 16), (0, [0], [], 285), (0, [1], [], 285), (90, [2], [], -2147483648), (91, [2], [], 2147483647), (90, [3], [], 0), (91, [3], [], 1), (90, [4], [], 0), (91, [4], [], 20)], (2289, [1, 4], [1], 0))
theorem c_290v_16_7 {q0 : Nat} : vOkm T0 (eP e_290v L_290v A_290v mu_290v (some q0)) 1 g_290v_16_7 := vOk_in fun ρ η h => by
  obtain ⟨f0, f1, f2, f3, f4, f5, f6, f7, f8, f9, f10, f11, f12, f13, f14, f15, f16, f17, f18, f19, _⟩ := h
  exact q_290v_11 (q0 := q0) (n0 := ρ 4) (n1 := ρ 3) (n2 := ρ 2) (n3 := ρ 1) (n4 := ρ 0) (n5 := ρ 5) (n6 := ρ 6) (n7 := ρ 7) (H0 := η 0) (H1 := η 1) f19 f18 f17 f16 f15 f14 f13 f12 f11 f10 f9 f8 f7 f6 f5 f4 f3 f2 f1 f0
theorem q_290v_12 {q0 : Nat} {n0 n1 n2 n3 n4 n5 n6 n7 n8 : Int} {H0 H1 H2 : gH} (f0 : n0 ≤ 20) (f1 : 0 ≤ n0) (f2 : n1 ≤ 1) (f3 : 0 ≤ n1) (f4 : n2 ≤ 2147483647) (f5 : (-2147483648) ≤ n2) (f6 : n3 = 285) (f7 : n4 = 285) (f8 : (hLe T0 H0 H1 ∧ hFr s_290v.2.2.2.2 H0 H1 ∧ hWt T0 H1) ∧ (Ab_290v_16 n4 n3 n2 n1 n0 H0 H1 ∧ preb_290v n4 H0) ∧ some q0 = some (mub_290v_16 n4 n3 n2 n1 n0 H0 H1)) (f9 : n5 ≤ 20) (f10 : 0 ≤ n5) (f11 : n5 = hV H1 (n3).toNat 64) (f12 : n0 < n5) (f13 : n1 = 0) (f14 : n6 = 354) (f15 : n6 = hV H1 (n3).toNat 96) (f16 : n7 ≤ 1) (f17 : 0 ≤ n7) (f18 : n7 = hV H1 (n6).toNat (n0).toNat) (f19 : n7 ≠ 0) (f20 : n8 ≤ 1) (f21 : 0 ≤ n8) (f22 : (hLe T0 H1 H2 ∧ hFr s_289.2.2.2.2 H1 H2 ∧ ((0 : Int) = 0 → H2.length = H1.length) ∧ hWt T0 H2) ∧ postb_289 n8 n3 n0 H1 H2) (f23 : n8 = 0) : 0 ≤ n0 ∧ n0 < 20 := by
  have g4 := f8.2.1.1
  unfold Ab_290v_16 at g4
  have g3 := f8.2.1.2
  unfold preb_290v at g3
  unfold postb_289 at f22
  have e0 : hV H1 285 64 = hV H0 285 64 := f8.1.2.1.1 285 64 (by decide +kernel)
  have e1 : n5 = hV H0 285 64 := (by rw [f6] at f11; exact f11 : n5 = hV H1 285 64).trans (e0)
  have e2 : n7 = hV H1 354 (n0).toNat := (by rw [f14] at f18; exact f18 : n7 = hV H1 354 (n0).toNat)
  have e3 : hV H1 285 18 = hV H0 285 18 := f8.1.2.1.1 285 18 (by decide +kernel)
  have e4 : hV H1 285 18 = hV H0 285 18 := e3
  have e5 : hV H1 285 64 = hV H0 285 64 := e0
  have e6 : hV H1 296 = hV H0 296 := fRow f8.1.2.1 296 (by decide +kernel)
  have e7 : hV H1 298 = hV H0 298 := fRow f8.1.2.1 298 (by decide +kernel)
  have e8 : hV H1 300 = hV H0 300 := fRow f8.1.2.1 300 (by decide +kernel)
  have e9 : hV H1 301 = hV H0 301 := fRow f8.1.2.1 301 (by decide +kernel)
  have e10 : hV H1 303 = hV H0 303 := fRow f8.1.2.1 303 (by decide +kernel)
  have e11 : hV H1 328 = hV H0 328 := fRow f8.1.2.1 328 (by decide +kernel)
  have e12 : hV H1 330 = hV H0 330 := fRow f8.1.2.1 330 (by decide +kernel)
  have e13 : hV H1 331 = hV H0 331 := fRow f8.1.2.1 331 (by decide +kernel)
  have e14 : hV H1 332 = hV H0 332 := fRow f8.1.2.1 332 (by decide +kernel)
  have e15 : hV H1 341 = hV H0 341 := fRow f8.1.2.1 341 (by decide +kernel)
  have e16 : hV H2 285 64 = hV H1 285 64 := f22.1.2.1.1 285 64 (by decide +kernel)
  have e17 : hV H2 285 64 = hV H0 285 64 := (e16).trans e0
  have e18 : hV H2 296 = hV H1 296 := fRow f22.1.2.1 296 (by decide +kernel)
  have e19 : hV H2 296 = hV H0 296 := e18.trans e6
  have e20 : hV H2 298 = hV H1 298 := fRow f22.1.2.1 298 (by decide +kernel)
  have e21 : hV H2 298 = hV H0 298 := e20.trans e7
  have e22 : hV H2 300 = hV H1 300 := fRow f22.1.2.1 300 (by decide +kernel)
  have e23 : hV H2 300 = hV H0 300 := e22.trans e8
  have e24 : hV H2 328 = hV H1 328 := fRow f22.1.2.1 328 (by decide +kernel)
  have e25 : hV H2 328 = hV H0 328 := e24.trans e11
  have e26 : hV H2 332 = hV H1 332 := fRow f22.1.2.1 332 (by decide +kernel)
  have e27 : hV H2 332 = hV H0 332 := e26.trans e14
  have e28 : hV H2 335 = hV H1 335 := fRow f22.1.2.1 335 (by decide +kernel)
  have e29 : hV H2 354 = hV H1 354 := fRow f22.1.2.1 354 (by decide +kernel)
  have e30 : (0 : Int) ≤ hV H1 285 18 ∧ hV H1 285 18 ≤ 8 := f8.1.2.2 285 18 _ _ (by decide +kernel)
  have e31 : (0 : Int) ≤ hV H1 285 64 ∧ hV H1 285 64 ≤ 20 := f8.1.2.2 285 64 _ _ (by decide +kernel)
  have e32 : (0 : Int) ≤ hV H1 285 65 ∧ hV H1 285 65 ≤ 2147483647 := f8.1.2.2 285 65 _ _ (by decide +kernel)
  have e33 : (0 : Int) ≤ hV H2 285 64 ∧ hV H2 285 64 ≤ 20 := f22.1.2.2.2 285 64 _ _ (by decide +kernel)
  try simp only [SO, SS, AC]
  try simp only [e4] at e30
  try simp only [e5] at e31
  try simp only [e17] at e33
  try simp only [e4, e5, e6, e7, e8, e9, e10, e11, e12, e13, e14, e15, e17, e19, e21, e23, e25, e27, e28, e29]
  have y0 := g4.1
  have y1 := g4.2.1
  have y2 := g4.2.2.1
  have y3 := g4.2.2.2.1
  have y4 := g4.2.2.2.2.1
  have y5 := g4.2.2.2.2.2
  have p0 := g3.1
  have p1 := g3.2.1
  have p2 := g3.2.2.1
  have p3 := g3.2.2.2.1
  have p4 := g3.2.2.2.2
  have r0_0 := f22.2.1
  have r0_1 := f22.2.2
  try simp only [SO] at y0
  try simp only [SS] at y1
  try simp only [AC] at y2
  try simp only [SO] at p0
  try simp only [SS] at p1
  try simp only [AC] at p3
  try simp only [e4, e5, e6, e7, e8, e9, e10, e11, e12, e13, e14, e15] at y0
  try simp only [e4, e5, e6, e7, e8, e9, e10, e11, e12, e13, e14, e15] at y1
  try simp only [e4, e5, e6, e7, e8, e9, e10, e11, e12, e13, e14, e15] at y2
  try simp only [e4, e5, e6, e7, e8, e9, e10, e11, e12, e13, e14, e15] at y3
  try simp only [e4, e5, e6, e7, e8, e9, e10, e11, e12, e13, e14, e15] at y4
  try simp only [e4, e5, e6, e7, e8, e9, e10, e11, e12, e13, e14, e15] at y5
  try simp only [e4, e5, e6, e7, e8, e9, e10, e11, e12, e13, e14, e15] at p0
  try simp only [e4, e5, e6, e7, e8, e9, e10, e11, e12, e13, e14, e15] at p1
  try simp only [e4, e5, e6, e7, e8, e9, e10, e11, e12, e13, e14, e15] at p2
  try simp only [e4, e5, e6, e7, e8, e9, e10, e11, e12, e13, e14, e15] at p3
  try simp only [e4, e5, e6, e7, e8, e9, e10, e11, e12, e13, e14, e15] at p4
  try simp only [e4, e5, e6, e7, e8, e9, e10, e11, e12, e13, e14, e15, e17, e19, e21, e23, e25, e27, e28, e29] at r0_0
  try simp only [e4, e5, e6, e7, e8, e9, e10, e11, e12, e13, e14, e15, e17, e19, e21, e23, e25, e27, e28, e29] at r0_1
  clear g3
  clear g4
  clear f11 f15 f18 e0 e3 e4 e5 e6 e7 e8 e9 e10 e11 e12 e13 e14 e15 e16 e17 e18 e19 e20 e21 e22 e23 e24 e25 e26 e27 e28 e29
  clear f8 f22
  subst e1
  subst e2
  try have sm := SL_made ((y4 (by omega) (n0).toNat (by omega)).mp (by omega)) NX_made
  try have so := (y0 (n0).toNat (by omega)).2.2.2 (by omega)
  omega
def g_290v_16_8 : vG := ([(30, [8], [], 0), (1289, [8, 1, 4], [1, 2], 0), (90, [8], [], 0), (91, [8], [], 1), (31, [7], [], 0), (22, [7, 6, 4], [1], 0), (90, [7], [], 0), (91, [7], [], 1), (20, [6, 1], [1], 96), (0, [6], [], 354), (30, [3], [], 0), (42, [4, 5], [], 0), (20, [5, 1], [1], 64), (90, [5], [], 0), (91, [5], [], 20), (5000, [0, 1, 2, 3, 4], [0, 1], 16), (0, [0], [], 285), (0, [1], [], 285), (90, [2], [], -2147483648), (91, [2], [], 2147483647), (90, [3], [], 0), (91, [3], [], 1), (90, [4], [], 0), (91, [4], [], 20)], (70, [4], [], 20))
theorem c_290v_16_8 {q0 : Nat} : vOkm T0 (eP e_290v L_290v A_290v mu_290v (some q0)) 1 g_290v_16_8 := vOk_in fun ρ η h => by
  obtain ⟨f0, f1, f2, f3, f4, f5, f6, f7, f8, f9, f10, f11, f12, f13, f14, f15, f16, f17, f18, f19, f20, f21, f22, f23, _⟩ := h
  exact q_290v_12 (q0 := q0) (n0 := ρ 4) (n1 := ρ 3) (n2 := ρ 2) (n3 := ρ 1) (n4 := ρ 0) (n5 := ρ 5) (n6 := ρ 6) (n7 := ρ 7) (n8 := ρ 8) (H0 := η 0) (H1 := η 1) (H2 := η 2) f23 f22 f21 f20 f19 f18 f17 f16 f15 f14 f13 f12 f11 f10 f9 f8 f7 f6 f5 f4 f3 f2 f1 f0
theorem q_290v_13 {q0 : Nat} {n0 n1 n2 n3 n4 n5 n6 n7 n8 n9 n10 : Int} {H0 H1 H2 : gH} (f0 : n0 ≤ 20) (f1 : 0 ≤ n0) (f2 : n1 ≤ 1) (f3 : 0 ≤ n1) (f4 : n2 ≤ 2147483647) (f5 : (-2147483648) ≤ n2) (f6 : n3 = 285) (f7 : n4 = 285) (f8 : (hLe T0 H0 H1 ∧ hFr s_290v.2.2.2.2 H0 H1 ∧ hWt T0 H1) ∧ (Ab_290v_16 n4 n3 n2 n1 n0 H0 H1 ∧ preb_290v n4 H0) ∧ some q0 = some (mub_290v_16 n4 n3 n2 n1 n0 H0 H1)) (f9 : n5 ≤ 20) (f10 : 0 ≤ n5) (f11 : n5 = hV H1 (n3).toNat 64) (f12 : n0 < n5) (f13 : n1 = 0) (f14 : n6 = 354) (f15 : n6 = hV H1 (n3).toNat 96) (f16 : n7 ≤ 1) (f17 : 0 ≤ n7) (f18 : n7 = hV H1 (n6).toNat (n0).toNat) (f19 : n7 ≠ 0) (f20 : n8 ≤ 1) (f21 : 0 ≤ n8) (f22 : (hLe T0 H1 H2 ∧ hFr s_289.2.2.2.2 H1 H2 ∧ ((0 : Int) = 0 → H2.length = H1.length) ∧ hWt T0 H2) ∧ postb_289 n8 n3 n0 H1 H2) (f23 : n8 = 0) (f24 : n9 = 335) (f25 : n9 = hV H2 (n3).toNat 73) (f26 : n10 ≤ 7) (f27 : (-1) ≤ n10) (f28 : n10 = hV H2 (n9).toNat (n0).toNat) : 0 ≤ n0 ∧ n0 < 20 := by
  have g4 := f8.2.1.1
  unfold Ab_290v_16 at g4
  have g3 := f8.2.1.2
  unfold preb_290v at g3
  unfold postb_289 at f22
  have e0 : hV H1 285 64 = hV H0 285 64 := f8.1.2.1.1 285 64 (by decide +kernel)
  have e1 : n5 = hV H0 285 64 := (by rw [f6] at f11; exact f11 : n5 = hV H1 285 64).trans (e0)
  have e2 : n7 = hV H1 354 (n0).toNat := (by rw [f14] at f18; exact f18 : n7 = hV H1 354 (n0).toNat)
  have e3 : hV H2 335 = hV H1 335 := fRow f22.1.2.1 335 (by decide +kernel)
  have e4 : n10 = hV H1 335 (n0).toNat := (by rw [f24] at f28; exact f28 : n10 = hV H2 335 (n0).toNat).trans ((congrFun e3 _))
  have e5 : hV H1 285 18 = hV H0 285 18 := f8.1.2.1.1 285 18 (by decide +kernel)
  have e6 : hV H1 285 18 = hV H0 285 18 := e5
  have e7 : hV H1 285 64 = hV H0 285 64 := e0
  have e8 : hV H1 296 = hV H0 296 := fRow f8.1.2.1 296 (by decide +kernel)
  have e9 : hV H1 298 = hV H0 298 := fRow f8.1.2.1 298 (by decide +kernel)
  have e10 : hV H1 300 = hV H0 300 := fRow f8.1.2.1 300 (by decide +kernel)
  have e11 : hV H1 301 = hV H0 301 := fRow f8.1.2.1 301 (by decide +kernel)
  have e12 : hV H1 303 = hV H0 303 := fRow f8.1.2.1 303 (by decide +kernel)
  have e13 : hV H1 328 = hV H0 328 := fRow f8.1.2.1 328 (by decide +kernel)
  have e14 : hV H1 330 = hV H0 330 := fRow f8.1.2.1 330 (by decide +kernel)
  have e15 : hV H1 331 = hV H0 331 := fRow f8.1.2.1 331 (by decide +kernel)
  have e16 : hV H1 332 = hV H0 332 := fRow f8.1.2.1 332 (by decide +kernel)
  have e17 : hV H1 341 = hV H0 341 := fRow f8.1.2.1 341 (by decide +kernel)
  have e18 : hV H2 285 64 = hV H1 285 64 := f22.1.2.1.1 285 64 (by decide +kernel)
  have e19 : hV H2 285 64 = hV H0 285 64 := (e18).trans e0
  have e20 : hV H2 296 = hV H1 296 := fRow f22.1.2.1 296 (by decide +kernel)
  have e21 : hV H2 296 = hV H0 296 := e20.trans e8
  have e22 : hV H2 298 = hV H1 298 := fRow f22.1.2.1 298 (by decide +kernel)
  have e23 : hV H2 298 = hV H0 298 := e22.trans e9
  have e24 : hV H2 300 = hV H1 300 := fRow f22.1.2.1 300 (by decide +kernel)
  have e25 : hV H2 300 = hV H0 300 := e24.trans e10
  have e26 : hV H2 328 = hV H1 328 := fRow f22.1.2.1 328 (by decide +kernel)
  have e27 : hV H2 328 = hV H0 328 := e26.trans e13
  have e28 : hV H2 332 = hV H1 332 := fRow f22.1.2.1 332 (by decide +kernel)
  have e29 : hV H2 332 = hV H0 332 := e28.trans e16
  have e30 : hV H2 354 = hV H1 354 := fRow f22.1.2.1 354 (by decide +kernel)
  have e31 : (0 : Int) ≤ hV H1 285 18 ∧ hV H1 285 18 ≤ 8 := f8.1.2.2 285 18 _ _ (by decide +kernel)
  have e32 : (0 : Int) ≤ hV H1 285 64 ∧ hV H1 285 64 ≤ 20 := f8.1.2.2 285 64 _ _ (by decide +kernel)
  have e33 : (0 : Int) ≤ hV H1 285 65 ∧ hV H1 285 65 ≤ 2147483647 := f8.1.2.2 285 65 _ _ (by decide +kernel)
  have e34 : (0 : Int) ≤ hV H2 285 64 ∧ hV H2 285 64 ≤ 20 := f22.1.2.2.2 285 64 _ _ (by decide +kernel)
  try simp only [SO, SS, AC]
  try simp only [e6] at e31
  try simp only [e7] at e32
  try simp only [e19] at e34
  try simp only [e6, e7, e8, e9, e10, e11, e12, e13, e14, e15, e16, e17, e19, e21, e23, e25, e27, e29, e3, e30]
  have y0 := g4.1
  have y1 := g4.2.1
  have y2 := g4.2.2.1
  have y3 := g4.2.2.2.1
  have y4 := g4.2.2.2.2.1
  have y5 := g4.2.2.2.2.2
  have p0 := g3.1
  have p1 := g3.2.1
  have p2 := g3.2.2.1
  have p3 := g3.2.2.2.1
  have p4 := g3.2.2.2.2
  have r0_0 := f22.2.1
  have r0_1 := f22.2.2
  try simp only [SO] at y0
  try simp only [SS] at y1
  try simp only [AC] at y2
  try simp only [SO] at p0
  try simp only [SS] at p1
  try simp only [AC] at p3
  try simp only [e6, e7, e8, e9, e10, e11, e12, e13, e14, e15, e16, e17] at y0
  try simp only [e6, e7, e8, e9, e10, e11, e12, e13, e14, e15, e16, e17] at y1
  try simp only [e6, e7, e8, e9, e10, e11, e12, e13, e14, e15, e16, e17] at y2
  try simp only [e6, e7, e8, e9, e10, e11, e12, e13, e14, e15, e16, e17] at y3
  try simp only [e6, e7, e8, e9, e10, e11, e12, e13, e14, e15, e16, e17] at y4
  try simp only [e6, e7, e8, e9, e10, e11, e12, e13, e14, e15, e16, e17] at y5
  try simp only [e6, e7, e8, e9, e10, e11, e12, e13, e14, e15, e16, e17] at p0
  try simp only [e6, e7, e8, e9, e10, e11, e12, e13, e14, e15, e16, e17] at p1
  try simp only [e6, e7, e8, e9, e10, e11, e12, e13, e14, e15, e16, e17] at p2
  try simp only [e6, e7, e8, e9, e10, e11, e12, e13, e14, e15, e16, e17] at p3
  try simp only [e6, e7, e8, e9, e10, e11, e12, e13, e14, e15, e16, e17] at p4
  try simp only [e6, e7, e8, e9, e10, e11, e12, e13, e14, e15, e16, e17, e19, e21, e23, e25, e27, e29, e3, e30] at r0_0
  try simp only [e6, e7, e8, e9, e10, e11, e12, e13, e14, e15, e16, e17, e19, e21, e23, e25, e27, e29, e3, e30] at r0_1
  clear g3
  clear g4
  clear f11 f15 f18 f25 f28 e0 e3 e5 e6 e7 e8 e9 e10 e11 e12 e13 e14 e15 e16 e17 e18 e19 e20 e21 e22 e23 e24 e25 e26 e27 e28 e29 e30
  clear f8 f22
  subst e1
  subst e2
  subst e4
  try have sm := SL_made ((y4 (by omega) (n0).toNat (by omega)).mp (by omega)) NX_made
  try have so := (y0 (n0).toNat (by omega)).2.2.2 (by omega)
  omega
def g_290v_16_9 : vG := ([(22, [10, 9, 4], [2], 0), (90, [10], [], -1), (91, [10], [], 7), (20, [9, 1], [2], 73), (0, [9], [], 335), (30, [8], [], 0), (1289, [8, 1, 4], [1, 2], 0), (90, [8], [], 0), (91, [8], [], 1), (31, [7], [], 0), (22, [7, 6, 4], [1], 0), (90, [7], [], 0), (91, [7], [], 1), (20, [6, 1], [1], 96), (0, [6], [], 354), (30, [3], [], 0), (42, [4, 5], [], 0), (20, [5, 1], [1], 64), (90, [5], [], 0), (91, [5], [], 20), (5000, [0, 1, 2, 3, 4], [0, 1], 16), (0, [0], [], 285), (0, [1], [], 285), (90, [2], [], -2147483648), (91, [2], [], 2147483647), (90, [3], [], 0), (91, [3], [], 1), (90, [4], [], 0), (91, [4], [], 20)], (70, [4], [], 20))
theorem c_290v_16_9 {q0 : Nat} : vOkm T0 (eP e_290v L_290v A_290v mu_290v (some q0)) 1 g_290v_16_9 := vOk_in fun ρ η h => by
  obtain ⟨f0, f1, f2, f3, f4, f5, f6, f7, f8, f9, f10, f11, f12, f13, f14, f15, f16, f17, f18, f19, f20, f21, f22, f23, f24, f25, f26, f27, f28, _⟩ := h
  exact q_290v_13 (q0 := q0) (n0 := ρ 4) (n1 := ρ 3) (n2 := ρ 2) (n3 := ρ 1) (n4 := ρ 0) (n5 := ρ 5) (n6 := ρ 6) (n7 := ρ 7) (n8 := ρ 8) (n9 := ρ 9) (n10 := ρ 10) (H0 := η 0) (H1 := η 1) (H2 := η 2) f28 f27 f26 f25 f24 f23 f22 f21 f20 f19 f18 f17 f16 f15 f14 f13 f12 f11 f10 f9 f8 f7 f6 f5 f4 f3 f2 f1 f0
theorem q_290v_14 {q0 : Nat} {n0 n1 n2 n3 n4 n5 n6 n7 n8 n9 n10 n11 n12 : Int} {H0 H1 H2 : gH} (f0 : n0 ≤ 20) (f1 : 0 ≤ n0) (f2 : n1 ≤ 1) (f3 : 0 ≤ n1) (f4 : n2 ≤ 2147483647) (f5 : (-2147483648) ≤ n2) (f6 : n3 = 285) (f7 : n4 = 285) (f8 : (hLe T0 H0 H1 ∧ hFr s_290v.2.2.2.2 H0 H1 ∧ hWt T0 H1) ∧ (Ab_290v_16 n4 n3 n2 n1 n0 H0 H1 ∧ preb_290v n4 H0) ∧ some q0 = some (mub_290v_16 n4 n3 n2 n1 n0 H0 H1)) (f9 : n5 ≤ 20) (f10 : 0 ≤ n5) (f11 : n5 = hV H1 (n3).toNat 64) (f12 : n0 < n5) (f13 : n1 = 0) (f14 : n6 = 354) (f15 : n6 = hV H1 (n3).toNat 96) (f16 : n7 ≤ 1) (f17 : 0 ≤ n7) (f18 : n7 = hV H1 (n6).toNat (n0).toNat) (f19 : n7 ≠ 0) (f20 : n8 ≤ 1) (f21 : 0 ≤ n8) (f22 : (hLe T0 H1 H2 ∧ hFr s_289.2.2.2.2 H1 H2 ∧ ((0 : Int) = 0 → H2.length = H1.length) ∧ hWt T0 H2) ∧ postb_289 n8 n3 n0 H1 H2) (f23 : n8 = 0) (f24 : n9 = 335) (f25 : n9 = hV H2 (n3).toNat 73) (f26 : n10 ≤ 7) (f27 : (-1) ≤ n10) (f28 : n10 = hV H2 (n9).toNat (n0).toNat) (f29 : n11 = 336) (f30 : n11 = hV H2 (n3).toNat 74) (f31 : n12 ≤ 5) (f32 : (-1) ≤ n12) (f33 : n12 = hV H2 (n11).toNat (n0).toNat) : n0 ≤ 19 := by
  have g4 := f8.2.1.1
  unfold Ab_290v_16 at g4
  have g3 := f8.2.1.2
  unfold preb_290v at g3
  unfold postb_289 at f22
  have e0 : hV H1 285 64 = hV H0 285 64 := f8.1.2.1.1 285 64 (by decide +kernel)
  have e1 : n5 = hV H0 285 64 := (by rw [f6] at f11; exact f11 : n5 = hV H1 285 64).trans (e0)
  have e2 : n7 = hV H1 354 (n0).toNat := (by rw [f14] at f18; exact f18 : n7 = hV H1 354 (n0).toNat)
  have e3 : hV H2 335 = hV H1 335 := fRow f22.1.2.1 335 (by decide +kernel)
  have e4 : n10 = hV H1 335 (n0).toNat := (by rw [f24] at f28; exact f28 : n10 = hV H2 335 (n0).toNat).trans ((congrFun e3 _))
  have e5 : hV H2 336 = hV H1 336 := fRow f22.1.2.1 336 (by decide +kernel)
  have e6 : n12 = hV H1 336 (n0).toNat := (by rw [f29] at f33; exact f33 : n12 = hV H2 336 (n0).toNat).trans ((congrFun e5 _))
  have e7 : hV H1 285 18 = hV H0 285 18 := f8.1.2.1.1 285 18 (by decide +kernel)
  have e8 : hV H1 285 18 = hV H0 285 18 := e7
  have e9 : hV H1 285 64 = hV H0 285 64 := e0
  have e10 : hV H1 296 = hV H0 296 := fRow f8.1.2.1 296 (by decide +kernel)
  have e11 : hV H1 298 = hV H0 298 := fRow f8.1.2.1 298 (by decide +kernel)
  have e12 : hV H1 300 = hV H0 300 := fRow f8.1.2.1 300 (by decide +kernel)
  have e13 : hV H1 301 = hV H0 301 := fRow f8.1.2.1 301 (by decide +kernel)
  have e14 : hV H1 303 = hV H0 303 := fRow f8.1.2.1 303 (by decide +kernel)
  have e15 : hV H1 328 = hV H0 328 := fRow f8.1.2.1 328 (by decide +kernel)
  have e16 : hV H1 330 = hV H0 330 := fRow f8.1.2.1 330 (by decide +kernel)
  have e17 : hV H1 331 = hV H0 331 := fRow f8.1.2.1 331 (by decide +kernel)
  have e18 : hV H1 332 = hV H0 332 := fRow f8.1.2.1 332 (by decide +kernel)
  have e19 : hV H1 341 = hV H0 341 := fRow f8.1.2.1 341 (by decide +kernel)
  have e20 : hV H2 285 64 = hV H1 285 64 := f22.1.2.1.1 285 64 (by decide +kernel)
  have e21 : hV H2 285 64 = hV H0 285 64 := (e20).trans e0
  have e22 : hV H2 296 = hV H1 296 := fRow f22.1.2.1 296 (by decide +kernel)
  have e23 : hV H2 296 = hV H0 296 := e22.trans e10
  have e24 : hV H2 298 = hV H1 298 := fRow f22.1.2.1 298 (by decide +kernel)
  have e25 : hV H2 298 = hV H0 298 := e24.trans e11
  have e26 : hV H2 300 = hV H1 300 := fRow f22.1.2.1 300 (by decide +kernel)
  have e27 : hV H2 300 = hV H0 300 := e26.trans e12
  have e28 : hV H2 328 = hV H1 328 := fRow f22.1.2.1 328 (by decide +kernel)
  have e29 : hV H2 328 = hV H0 328 := e28.trans e15
  have e30 : hV H2 332 = hV H1 332 := fRow f22.1.2.1 332 (by decide +kernel)
  have e31 : hV H2 332 = hV H0 332 := e30.trans e18
  have e32 : hV H2 354 = hV H1 354 := fRow f22.1.2.1 354 (by decide +kernel)
  have e33 : (0 : Int) ≤ hV H1 285 18 ∧ hV H1 285 18 ≤ 8 := f8.1.2.2 285 18 _ _ (by decide +kernel)
  have e34 : (0 : Int) ≤ hV H1 285 64 ∧ hV H1 285 64 ≤ 20 := f8.1.2.2 285 64 _ _ (by decide +kernel)
  have e35 : (0 : Int) ≤ hV H1 285 65 ∧ hV H1 285 65 ≤ 2147483647 := f8.1.2.2 285 65 _ _ (by decide +kernel)
  have e36 : (0 : Int) ≤ hV H2 285 64 ∧ hV H2 285 64 ≤ 20 := f22.1.2.2.2 285 64 _ _ (by decide +kernel)
  try simp only [SO, SS, AC]
  try simp only [e8] at e33
  try simp only [e9] at e34
  try simp only [e21] at e36
  try simp only [e8, e9, e10, e11, e12, e13, e14, e15, e16, e17, e18, e19, e21, e23, e25, e27, e29, e31, e3, e32]
  have y0 := g4.1
  have y1 := g4.2.1
  have y2 := g4.2.2.1
  have y3 := g4.2.2.2.1
  have y4 := g4.2.2.2.2.1
  have y5 := g4.2.2.2.2.2
  have p0 := g3.1
  have p1 := g3.2.1
  have p2 := g3.2.2.1
  have p3 := g3.2.2.2.1
  have p4 := g3.2.2.2.2
  have r0_0 := f22.2.1
  have r0_1 := f22.2.2
  try simp only [SO] at y0
  try simp only [SS] at y1
  try simp only [AC] at y2
  try simp only [SO] at p0
  try simp only [SS] at p1
  try simp only [AC] at p3
  try simp only [e8, e9, e10, e11, e12, e13, e14, e15, e16, e17, e18, e19] at y0
  try simp only [e8, e9, e10, e11, e12, e13, e14, e15, e16, e17, e18, e19] at y1
  try simp only [e8, e9, e10, e11, e12, e13, e14, e15, e16, e17, e18, e19] at y2
  try simp only [e8, e9, e10, e11, e12, e13, e14, e15, e16, e17, e18, e19] at y3
  try simp only [e8, e9, e10, e11, e12, e13, e14, e15, e16, e17, e18, e19] at y4
  try simp only [e8, e9, e10, e11, e12, e13, e14, e15, e16, e17, e18, e19] at y5
  try simp only [e8, e9, e10, e11, e12, e13, e14, e15, e16, e17, e18, e19] at p0
  try simp only [e8, e9, e10, e11, e12, e13, e14, e15, e16, e17, e18, e19] at p1
  try simp only [e8, e9, e10, e11, e12, e13, e14, e15, e16, e17, e18, e19] at p2
  try simp only [e8, e9, e10, e11, e12, e13, e14, e15, e16, e17, e18, e19] at p3
  try simp only [e8, e9, e10, e11, e12, e13, e14, e15, e16, e17, e18, e19] at p4
  try simp only [e8, e9, e10, e11, e12, e13, e14, e15, e16, e17, e18, e19, e21, e23, e25, e27, e29, e31, e3, e32] at r0_0
  try simp only [e8, e9, e10, e11, e12, e13, e14, e15, e16, e17, e18, e19, e21, e23, e25, e27, e29, e31, e3, e32] at r0_1
  clear g3
  clear g4
  clear f11 f15 f18 f25 f28 f30 f33 e0 e3 e5 e7 e8 e9 e10 e11 e12 e13 e14 e15 e16 e17 e18 e19 e20 e21 e22 e23 e24 e25 e26 e27 e28 e29 e30 e31 e32
  clear f8 f22
  subst e1
  subst e2
  subst e4
  subst e6
  try have sm := SL_made ((y4 (by omega) (n0).toNat (by omega)).mp (by omega)) NX_made
  try have so := (y0 (n0).toNat (by omega)).2.2.2 (by omega)
  omega
def g_290v_16_10 : vG := ([(22, [12, 11, 4], [2], 0), (90, [12], [], -1), (91, [12], [], 5), (20, [11, 1], [2], 74), (0, [11], [], 336), (22, [10, 9, 4], [2], 0), (90, [10], [], -1), (91, [10], [], 7), (20, [9, 1], [2], 73), (0, [9], [], 335), (30, [8], [], 0), (1289, [8, 1, 4], [1, 2], 0), (90, [8], [], 0), (91, [8], [], 1), (31, [7], [], 0), (22, [7, 6, 4], [1], 0), (90, [7], [], 0), (91, [7], [], 1), (20, [6, 1], [1], 96), (0, [6], [], 354), (30, [3], [], 0), (42, [4, 5], [], 0), (20, [5, 1], [1], 64), (90, [5], [], 0), (91, [5], [], 20), (5000, [0, 1, 2, 3, 4], [0, 1], 16), (0, [0], [], 285), (0, [1], [], 285), (90, [2], [], -2147483648), (91, [2], [], 2147483647), (90, [3], [], 0), (91, [3], [], 1), (90, [4], [], 0), (91, [4], [], 20)], (91, [4], [], 19))
theorem c_290v_16_10 {q0 : Nat} : vOkm T0 (eP e_290v L_290v A_290v mu_290v (some q0)) 1 g_290v_16_10 := vOk_in fun ρ η h => by
  obtain ⟨f0, f1, f2, f3, f4, f5, f6, f7, f8, f9, f10, f11, f12, f13, f14, f15, f16, f17, f18, f19, f20, f21, f22, f23, f24, f25, f26, f27, f28, f29, f30, f31, f32, f33, _⟩ := h
  exact q_290v_14 (q0 := q0) (n0 := ρ 4) (n1 := ρ 3) (n2 := ρ 2) (n3 := ρ 1) (n4 := ρ 0) (n5 := ρ 5) (n6 := ρ 6) (n7 := ρ 7) (n8 := ρ 8) (n9 := ρ 9) (n10 := ρ 10) (n11 := ρ 11) (n12 := ρ 12) (H0 := η 0) (H1 := η 1) (H2 := η 2) f33 f32 f31 f30 f29 f28 f27 f26 f25 f24 f23 f22 f21 f20 f19 f18 f17 f16 f15 f14 f13 f12 f11 f10 f9 f8 f7 f6 f5 f4 f3 f2 f1 f0
theorem q_290v_15 {q0 : Nat} {n0 n1 n2 n3 n4 n5 n6 n7 n8 n9 n10 n11 n12 : Int} {H0 H1 H2 : gH} (f0 : n0 ≤ 20) (f1 : 0 ≤ n0) (f2 : n1 ≤ 1) (f3 : 0 ≤ n1) (f4 : n2 ≤ 2147483647) (f5 : (-2147483648) ≤ n2) (f6 : n3 = 285) (f7 : n4 = 285) (f8 : (hLe T0 H0 H1 ∧ hFr s_290v.2.2.2.2 H0 H1 ∧ hWt T0 H1) ∧ (Ab_290v_16 n4 n3 n2 n1 n0 H0 H1 ∧ preb_290v n4 H0) ∧ some q0 = some (mub_290v_16 n4 n3 n2 n1 n0 H0 H1)) (f9 : n5 ≤ 20) (f10 : 0 ≤ n5) (f11 : n5 = hV H1 (n3).toNat 64) (f12 : n0 < n5) (f13 : n1 = 0) (f14 : n6 = 354) (f15 : n6 = hV H1 (n3).toNat 96) (f16 : n7 ≤ 1) (f17 : 0 ≤ n7) (f18 : n7 = hV H1 (n6).toNat (n0).toNat) (f19 : n7 ≠ 0) (f20 : n8 ≤ 1) (f21 : 0 ≤ n8) (f22 : (hLe T0 H1 H2 ∧ hFr s_289.2.2.2.2 H1 H2 ∧ ((0 : Int) = 0 → H2.length = H1.length) ∧ hWt T0 H2) ∧ postb_289 n8 n3 n0 H1 H2) (f23 : n8 = 0) (f24 : n9 = 335) (f25 : n9 = hV H2 (n3).toNat 73) (f26 : n10 ≤ 7) (f27 : (-1) ≤ n10) (f28 : n10 = hV H2 (n9).toNat (n0).toNat) (f29 : n11 = 336) (f30 : n11 = hV H2 (n3).toNat 74) (f31 : n12 ≤ 5) (f32 : (-1) ≤ n12) (f33 : n12 = hV H2 (n11).toNat (n0).toNat) : 0 ≤ n10 := by
  have g4 := f8.2.1.1
  unfold Ab_290v_16 at g4
  have g3 := f8.2.1.2
  unfold preb_290v at g3
  unfold postb_289 at f22
  have e0 : hV H1 285 64 = hV H0 285 64 := f8.1.2.1.1 285 64 (by decide +kernel)
  have e1 : n5 = hV H0 285 64 := (by rw [f6] at f11; exact f11 : n5 = hV H1 285 64).trans (e0)
  have e2 : n7 = hV H1 354 (n0).toNat := (by rw [f14] at f18; exact f18 : n7 = hV H1 354 (n0).toNat)
  have e3 : hV H2 335 = hV H1 335 := fRow f22.1.2.1 335 (by decide +kernel)
  have e4 : n10 = hV H1 335 (n0).toNat := (by rw [f24] at f28; exact f28 : n10 = hV H2 335 (n0).toNat).trans ((congrFun e3 _))
  have e5 : hV H2 336 = hV H1 336 := fRow f22.1.2.1 336 (by decide +kernel)
  have e6 : n12 = hV H1 336 (n0).toNat := (by rw [f29] at f33; exact f33 : n12 = hV H2 336 (n0).toNat).trans ((congrFun e5 _))
  have e7 : hV H1 285 18 = hV H0 285 18 := f8.1.2.1.1 285 18 (by decide +kernel)
  have e8 : hV H1 285 18 = hV H0 285 18 := e7
  have e9 : hV H1 285 64 = hV H0 285 64 := e0
  have e10 : hV H1 296 = hV H0 296 := fRow f8.1.2.1 296 (by decide +kernel)
  have e11 : hV H1 298 = hV H0 298 := fRow f8.1.2.1 298 (by decide +kernel)
  have e12 : hV H1 300 = hV H0 300 := fRow f8.1.2.1 300 (by decide +kernel)
  have e13 : hV H1 301 = hV H0 301 := fRow f8.1.2.1 301 (by decide +kernel)
  have e14 : hV H1 303 = hV H0 303 := fRow f8.1.2.1 303 (by decide +kernel)
  have e15 : hV H1 328 = hV H0 328 := fRow f8.1.2.1 328 (by decide +kernel)
  have e16 : hV H1 330 = hV H0 330 := fRow f8.1.2.1 330 (by decide +kernel)
  have e17 : hV H1 331 = hV H0 331 := fRow f8.1.2.1 331 (by decide +kernel)
  have e18 : hV H1 332 = hV H0 332 := fRow f8.1.2.1 332 (by decide +kernel)
  have e19 : hV H1 341 = hV H0 341 := fRow f8.1.2.1 341 (by decide +kernel)
  have e20 : hV H2 285 64 = hV H1 285 64 := f22.1.2.1.1 285 64 (by decide +kernel)
  have e21 : hV H2 285 64 = hV H0 285 64 := (e20).trans e0
  have e22 : hV H2 296 = hV H1 296 := fRow f22.1.2.1 296 (by decide +kernel)
  have e23 : hV H2 296 = hV H0 296 := e22.trans e10
  have e24 : hV H2 298 = hV H1 298 := fRow f22.1.2.1 298 (by decide +kernel)
  have e25 : hV H2 298 = hV H0 298 := e24.trans e11
  have e26 : hV H2 300 = hV H1 300 := fRow f22.1.2.1 300 (by decide +kernel)
  have e27 : hV H2 300 = hV H0 300 := e26.trans e12
  have e28 : hV H2 328 = hV H1 328 := fRow f22.1.2.1 328 (by decide +kernel)
  have e29 : hV H2 328 = hV H0 328 := e28.trans e15
  have e30 : hV H2 332 = hV H1 332 := fRow f22.1.2.1 332 (by decide +kernel)
  have e31 : hV H2 332 = hV H0 332 := e30.trans e18
  have e32 : hV H2 354 = hV H1 354 := fRow f22.1.2.1 354 (by decide +kernel)
  have e33 : (0 : Int) ≤ hV H1 285 18 ∧ hV H1 285 18 ≤ 8 := f8.1.2.2 285 18 _ _ (by decide +kernel)
  have e34 : (0 : Int) ≤ hV H1 285 64 ∧ hV H1 285 64 ≤ 20 := f8.1.2.2 285 64 _ _ (by decide +kernel)
  have e35 : (0 : Int) ≤ hV H1 285 65 ∧ hV H1 285 65 ≤ 2147483647 := f8.1.2.2 285 65 _ _ (by decide +kernel)
  have e36 : (0 : Int) ≤ hV H2 285 64 ∧ hV H2 285 64 ≤ 20 := f22.1.2.2.2 285 64 _ _ (by decide +kernel)
  try simp only [SO, SS, AC]
  try simp only [e8] at e33
  try simp only [e9] at e34
  try simp only [e21] at e36
  try simp only [e8, e9, e10, e11, e12, e13, e14, e15, e16, e17, e18, e19, e21, e23, e25, e27, e29, e31, e3, e32]
  have y0 := g4.1
  have y1 := g4.2.1
  have y2 := g4.2.2.1
  have y3 := g4.2.2.2.1
  have y4 := g4.2.2.2.2.1
  have y5 := g4.2.2.2.2.2
  have p0 := g3.1
  have p1 := g3.2.1
  have p2 := g3.2.2.1
  have p3 := g3.2.2.2.1
  have p4 := g3.2.2.2.2
  have r0_0 := f22.2.1
  have r0_1 := f22.2.2
  try simp only [SO] at y0
  try simp only [SS] at y1
  try simp only [AC] at y2
  try simp only [SO] at p0
  try simp only [SS] at p1
  try simp only [AC] at p3
  try simp only [e8, e9, e10, e11, e12, e13, e14, e15, e16, e17, e18, e19] at y0
  try simp only [e8, e9, e10, e11, e12, e13, e14, e15, e16, e17, e18, e19] at y1
  try simp only [e8, e9, e10, e11, e12, e13, e14, e15, e16, e17, e18, e19] at y2
  try simp only [e8, e9, e10, e11, e12, e13, e14, e15, e16, e17, e18, e19] at y3
  try simp only [e8, e9, e10, e11, e12, e13, e14, e15, e16, e17, e18, e19] at y4
  try simp only [e8, e9, e10, e11, e12, e13, e14, e15, e16, e17, e18, e19] at y5
  try simp only [e8, e9, e10, e11, e12, e13, e14, e15, e16, e17, e18, e19] at p0
  try simp only [e8, e9, e10, e11, e12, e13, e14, e15, e16, e17, e18, e19] at p1
  try simp only [e8, e9, e10, e11, e12, e13, e14, e15, e16, e17, e18, e19] at p2
  try simp only [e8, e9, e10, e11, e12, e13, e14, e15, e16, e17, e18, e19] at p3
  try simp only [e8, e9, e10, e11, e12, e13, e14, e15, e16, e17, e18, e19] at p4
  try simp only [e8, e9, e10, e11, e12, e13, e14, e15, e16, e17, e18, e19, e21, e23, e25, e27, e29, e31, e3, e32] at r0_0
  try simp only [e8, e9, e10, e11, e12, e13, e14, e15, e16, e17, e18, e19, e21, e23, e25, e27, e29, e31, e3, e32] at r0_1
  clear g3
  clear g4
  clear f11 f15 f18 f25 f28 f30 f33 e0 e3 e5 e7 e8 e9 e10 e11 e12 e13 e14 e15 e16 e17 e18 e19 e20 e21 e22 e23 e24 e25 e26 e27 e28 e29 e30 e31 e32
  clear f8 f22
  subst e1
  subst e2
  subst e4
  subst e6
  try have sm := SL_made ((y4 (by omega) (n0).toNat (by omega)).mp (by omega)) NX_made
  try have so := (y0 (n0).toNat (by omega)).2.2.2 (by omega)
  omega
def g_290v_16_11 : vG := ([(22, [12, 11, 4], [2], 0), (90, [12], [], -1), (91, [12], [], 5), (20, [11, 1], [2], 74), (0, [11], [], 336), (22, [10, 9, 4], [2], 0), (90, [10], [], -1), (91, [10], [], 7), (20, [9, 1], [2], 73), (0, [9], [], 335), (30, [8], [], 0), (1289, [8, 1, 4], [1, 2], 0), (90, [8], [], 0), (91, [8], [], 1), (31, [7], [], 0), (22, [7, 6, 4], [1], 0), (90, [7], [], 0), (91, [7], [], 1), (20, [6, 1], [1], 96), (0, [6], [], 354), (30, [3], [], 0), (42, [4, 5], [], 0), (20, [5, 1], [1], 64), (90, [5], [], 0), (91, [5], [], 20), (5000, [0, 1, 2, 3, 4], [0, 1], 16), (0, [0], [], 285), (0, [1], [], 285), (90, [2], [], -2147483648), (91, [2], [], 2147483647), (90, [3], [], 0), (91, [3], [], 1), (90, [4], [], 0), (91, [4], [], 20)], (90, [10], [], 0))
theorem c_290v_16_11 {q0 : Nat} : vOkm T0 (eP e_290v L_290v A_290v mu_290v (some q0)) 1 g_290v_16_11 := vOk_in fun ρ η h => by
  obtain ⟨f0, f1, f2, f3, f4, f5, f6, f7, f8, f9, f10, f11, f12, f13, f14, f15, f16, f17, f18, f19, f20, f21, f22, f23, f24, f25, f26, f27, f28, f29, f30, f31, f32, f33, _⟩ := h
  exact q_290v_15 (q0 := q0) (n0 := ρ 4) (n1 := ρ 3) (n2 := ρ 2) (n3 := ρ 1) (n4 := ρ 0) (n5 := ρ 5) (n6 := ρ 6) (n7 := ρ 7) (n8 := ρ 8) (n9 := ρ 9) (n10 := ρ 10) (n11 := ρ 11) (n12 := ρ 12) (H0 := η 0) (H1 := η 1) (H2 := η 2) f33 f32 f31 f30 f29 f28 f27 f26 f25 f24 f23 f22 f21 f20 f19 f18 f17 f16 f15 f14 f13 f12 f11 f10 f9 f8 f7 f6 f5 f4 f3 f2 f1 f0
theorem q_290v_16 {q0 : Nat} {n0 n1 n2 n3 n4 n5 n6 n7 n8 n9 n10 n11 n12 : Int} {H0 H1 H2 : gH} (f0 : n0 ≤ 20) (f1 : 0 ≤ n0) (f2 : n1 ≤ 1) (f3 : 0 ≤ n1) (f4 : n2 ≤ 2147483647) (f5 : (-2147483648) ≤ n2) (f6 : n3 = 285) (f7 : n4 = 285) (f8 : (hLe T0 H0 H1 ∧ hFr s_290v.2.2.2.2 H0 H1 ∧ hWt T0 H1) ∧ (Ab_290v_16 n4 n3 n2 n1 n0 H0 H1 ∧ preb_290v n4 H0) ∧ some q0 = some (mub_290v_16 n4 n3 n2 n1 n0 H0 H1)) (f9 : n5 ≤ 20) (f10 : 0 ≤ n5) (f11 : n5 = hV H1 (n3).toNat 64) (f12 : n0 < n5) (f13 : n1 = 0) (f14 : n6 = 354) (f15 : n6 = hV H1 (n3).toNat 96) (f16 : n7 ≤ 1) (f17 : 0 ≤ n7) (f18 : n7 = hV H1 (n6).toNat (n0).toNat) (f19 : n7 ≠ 0) (f20 : n8 ≤ 1) (f21 : 0 ≤ n8) (f22 : (hLe T0 H1 H2 ∧ hFr s_289.2.2.2.2 H1 H2 ∧ ((0 : Int) = 0 → H2.length = H1.length) ∧ hWt T0 H2) ∧ postb_289 n8 n3 n0 H1 H2) (f23 : n8 = 0) (f24 : n9 = 335) (f25 : n9 = hV H2 (n3).toNat 73) (f26 : n10 ≤ 7) (f27 : (-1) ≤ n10) (f28 : n10 = hV H2 (n9).toNat (n0).toNat) (f29 : n11 = 336) (f30 : n11 = hV H2 (n3).toNat 74) (f31 : n12 ≤ 5) (f32 : (-1) ≤ n12) (f33 : n12 = hV H2 (n11).toNat (n0).toNat) : 0 ≤ n12 := by
  have g4 := f8.2.1.1
  unfold Ab_290v_16 at g4
  have g3 := f8.2.1.2
  unfold preb_290v at g3
  unfold postb_289 at f22
  have e0 : hV H1 285 64 = hV H0 285 64 := f8.1.2.1.1 285 64 (by decide +kernel)
  have e1 : n5 = hV H0 285 64 := (by rw [f6] at f11; exact f11 : n5 = hV H1 285 64).trans (e0)
  have e2 : n7 = hV H1 354 (n0).toNat := (by rw [f14] at f18; exact f18 : n7 = hV H1 354 (n0).toNat)
  have e3 : hV H2 335 = hV H1 335 := fRow f22.1.2.1 335 (by decide +kernel)
  have e4 : n10 = hV H1 335 (n0).toNat := (by rw [f24] at f28; exact f28 : n10 = hV H2 335 (n0).toNat).trans ((congrFun e3 _))
  have e5 : hV H2 336 = hV H1 336 := fRow f22.1.2.1 336 (by decide +kernel)
  have e6 : n12 = hV H1 336 (n0).toNat := (by rw [f29] at f33; exact f33 : n12 = hV H2 336 (n0).toNat).trans ((congrFun e5 _))
  have e7 : hV H1 285 18 = hV H0 285 18 := f8.1.2.1.1 285 18 (by decide +kernel)
  have e8 : hV H1 285 18 = hV H0 285 18 := e7
  have e9 : hV H1 285 64 = hV H0 285 64 := e0
  have e10 : hV H1 296 = hV H0 296 := fRow f8.1.2.1 296 (by decide +kernel)
  have e11 : hV H1 298 = hV H0 298 := fRow f8.1.2.1 298 (by decide +kernel)
  have e12 : hV H1 300 = hV H0 300 := fRow f8.1.2.1 300 (by decide +kernel)
  have e13 : hV H1 301 = hV H0 301 := fRow f8.1.2.1 301 (by decide +kernel)
  have e14 : hV H1 303 = hV H0 303 := fRow f8.1.2.1 303 (by decide +kernel)
  have e15 : hV H1 328 = hV H0 328 := fRow f8.1.2.1 328 (by decide +kernel)
  have e16 : hV H1 330 = hV H0 330 := fRow f8.1.2.1 330 (by decide +kernel)
  have e17 : hV H1 331 = hV H0 331 := fRow f8.1.2.1 331 (by decide +kernel)
  have e18 : hV H1 332 = hV H0 332 := fRow f8.1.2.1 332 (by decide +kernel)
  have e19 : hV H1 341 = hV H0 341 := fRow f8.1.2.1 341 (by decide +kernel)
  have e20 : hV H2 285 64 = hV H1 285 64 := f22.1.2.1.1 285 64 (by decide +kernel)
  have e21 : hV H2 285 64 = hV H0 285 64 := (e20).trans e0
  have e22 : hV H2 296 = hV H1 296 := fRow f22.1.2.1 296 (by decide +kernel)
  have e23 : hV H2 296 = hV H0 296 := e22.trans e10
  have e24 : hV H2 298 = hV H1 298 := fRow f22.1.2.1 298 (by decide +kernel)
  have e25 : hV H2 298 = hV H0 298 := e24.trans e11
  have e26 : hV H2 300 = hV H1 300 := fRow f22.1.2.1 300 (by decide +kernel)
  have e27 : hV H2 300 = hV H0 300 := e26.trans e12
  have e28 : hV H2 328 = hV H1 328 := fRow f22.1.2.1 328 (by decide +kernel)
  have e29 : hV H2 328 = hV H0 328 := e28.trans e15
  have e30 : hV H2 332 = hV H1 332 := fRow f22.1.2.1 332 (by decide +kernel)
  have e31 : hV H2 332 = hV H0 332 := e30.trans e18
  have e32 : hV H2 354 = hV H1 354 := fRow f22.1.2.1 354 (by decide +kernel)
  have e33 : (0 : Int) ≤ hV H1 285 18 ∧ hV H1 285 18 ≤ 8 := f8.1.2.2 285 18 _ _ (by decide +kernel)
  have e34 : (0 : Int) ≤ hV H1 285 64 ∧ hV H1 285 64 ≤ 20 := f8.1.2.2 285 64 _ _ (by decide +kernel)
  have e35 : (0 : Int) ≤ hV H1 285 65 ∧ hV H1 285 65 ≤ 2147483647 := f8.1.2.2 285 65 _ _ (by decide +kernel)
  have e36 : (0 : Int) ≤ hV H2 285 64 ∧ hV H2 285 64 ≤ 20 := f22.1.2.2.2 285 64 _ _ (by decide +kernel)
  try simp only [SO, SS, AC]
  try simp only [e8] at e33
  try simp only [e9] at e34
  try simp only [e21] at e36
  try simp only [e8, e9, e10, e11, e12, e13, e14, e15, e16, e17, e18, e19, e21, e23, e25, e27, e29, e31, e3, e32]
  have y0 := g4.1
  have y1 := g4.2.1
  have y2 := g4.2.2.1
  have y3 := g4.2.2.2.1
  have y4 := g4.2.2.2.2.1
  have y5 := g4.2.2.2.2.2
  have p0 := g3.1
  have p1 := g3.2.1
  have p2 := g3.2.2.1
  have p3 := g3.2.2.2.1
  have p4 := g3.2.2.2.2
  have r0_0 := f22.2.1
  have r0_1 := f22.2.2
  try simp only [SO] at y0
  try simp only [SS] at y1
  try simp only [AC] at y2
  try simp only [SO] at p0
  try simp only [SS] at p1
  try simp only [AC] at p3
  try simp only [e8, e9, e10, e11, e12, e13, e14, e15, e16, e17, e18, e19] at y0
  try simp only [e8, e9, e10, e11, e12, e13, e14, e15, e16, e17, e18, e19] at y1
  try simp only [e8, e9, e10, e11, e12, e13, e14, e15, e16, e17, e18, e19] at y2
  try simp only [e8, e9, e10, e11, e12, e13, e14, e15, e16, e17, e18, e19] at y3
  try simp only [e8, e9, e10, e11, e12, e13, e14, e15, e16, e17, e18, e19] at y4
  try simp only [e8, e9, e10, e11, e12, e13, e14, e15, e16, e17, e18, e19] at y5
  try simp only [e8, e9, e10, e11, e12, e13, e14, e15, e16, e17, e18, e19] at p0
  try simp only [e8, e9, e10, e11, e12, e13, e14, e15, e16, e17, e18, e19] at p1
  try simp only [e8, e9, e10, e11, e12, e13, e14, e15, e16, e17, e18, e19] at p2
  try simp only [e8, e9, e10, e11, e12, e13, e14, e15, e16, e17, e18, e19] at p3
  try simp only [e8, e9, e10, e11, e12, e13, e14, e15, e16, e17, e18, e19] at p4
  try simp only [e8, e9, e10, e11, e12, e13, e14, e15, e16, e17, e18, e19, e21, e23, e25, e27, e29, e31, e3, e32] at r0_0
  try simp only [e8, e9, e10, e11, e12, e13, e14, e15, e16, e17, e18, e19, e21, e23, e25, e27, e29, e31, e3, e32] at r0_1
  clear g3
  clear g4
  clear f11 f15 f18 f25 f28 f30 f33 e0 e3 e5 e7 e8 e9 e10 e11 e12 e13 e14 e15 e16 e17 e18 e19 e20 e21 e22 e23 e24 e25 e26 e27 e28 e29 e30 e31 e32
  clear f8 f22
  subst e1
  subst e2
  subst e4
  subst e6
  try have sm := SL_made ((y4 (by omega) (n0).toNat (by omega)).mp (by omega)) NX_made
  try have so := (y0 (n0).toNat (by omega)).2.2.2 (by omega)
  omega
def g_290v_16_12 : vG := ([(22, [12, 11, 4], [2], 0), (90, [12], [], -1), (91, [12], [], 5), (20, [11, 1], [2], 74), (0, [11], [], 336), (22, [10, 9, 4], [2], 0), (90, [10], [], -1), (91, [10], [], 7), (20, [9, 1], [2], 73), (0, [9], [], 335), (30, [8], [], 0), (1289, [8, 1, 4], [1, 2], 0), (90, [8], [], 0), (91, [8], [], 1), (31, [7], [], 0), (22, [7, 6, 4], [1], 0), (90, [7], [], 0), (91, [7], [], 1), (20, [6, 1], [1], 96), (0, [6], [], 354), (30, [3], [], 0), (42, [4, 5], [], 0), (20, [5, 1], [1], 64), (90, [5], [], 0), (91, [5], [], 20), (5000, [0, 1, 2, 3, 4], [0, 1], 16), (0, [0], [], 285), (0, [1], [], 285), (90, [2], [], -2147483648), (91, [2], [], 2147483647), (90, [3], [], 0), (91, [3], [], 1), (90, [4], [], 0), (91, [4], [], 20)], (90, [12], [], 0))
theorem c_290v_16_12 {q0 : Nat} : vOkm T0 (eP e_290v L_290v A_290v mu_290v (some q0)) 1 g_290v_16_12 := vOk_in fun ρ η h => by
  obtain ⟨f0, f1, f2, f3, f4, f5, f6, f7, f8, f9, f10, f11, f12, f13, f14, f15, f16, f17, f18, f19, f20, f21, f22, f23, f24, f25, f26, f27, f28, f29, f30, f31, f32, f33, _⟩ := h
  exact q_290v_16 (q0 := q0) (n0 := ρ 4) (n1 := ρ 3) (n2 := ρ 2) (n3 := ρ 1) (n4 := ρ 0) (n5 := ρ 5) (n6 := ρ 6) (n7 := ρ 7) (n8 := ρ 8) (n9 := ρ 9) (n10 := ρ 10) (n11 := ρ 11) (n12 := ρ 12) (H0 := η 0) (H1 := η 1) (H2 := η 2) f33 f32 f31 f30 f29 f28 f27 f26 f25 f24 f23 f22 f21 f20 f19 f18 f17 f16 f15 f14 f13 f12 f11 f10 f9 f8 f7 f6 f5 f4 f3 f2 f1 f0
theorem q_290v_17 {q0 : Nat} {n0 n1 n2 n3 n4 n5 n6 n7 n8 n9 n10 n11 n12 : Int} {H0 H1 H2 : gH} (f0 : n0 ≤ 20) (f1 : 0 ≤ n0) (f2 : n1 ≤ 1) (f3 : 0 ≤ n1) (f4 : n2 ≤ 2147483647) (f5 : (-2147483648) ≤ n2) (f6 : n3 = 285) (f7 : n4 = 285) (f8 : (hLe T0 H0 H1 ∧ hFr s_290v.2.2.2.2 H0 H1 ∧ hWt T0 H1) ∧ (Ab_290v_16 n4 n3 n2 n1 n0 H0 H1 ∧ preb_290v n4 H0) ∧ some q0 = some (mub_290v_16 n4 n3 n2 n1 n0 H0 H1)) (f9 : n5 ≤ 20) (f10 : 0 ≤ n5) (f11 : n5 = hV H1 (n3).toNat 64) (f12 : n0 < n5) (f13 : n1 = 0) (f14 : n6 = 354) (f15 : n6 = hV H1 (n3).toNat 96) (f16 : n7 ≤ 1) (f17 : 0 ≤ n7) (f18 : n7 = hV H1 (n6).toNat (n0).toNat) (f19 : n7 ≠ 0) (f20 : n8 ≤ 1) (f21 : 0 ≤ n8) (f22 : (hLe T0 H1 H2 ∧ hFr s_289.2.2.2.2 H1 H2 ∧ ((0 : Int) = 0 → H2.length = H1.length) ∧ hWt T0 H2) ∧ postb_289 n8 n3 n0 H1 H2) (f23 : n8 = 0) (f24 : n9 = 335) (f25 : n9 = hV H2 (n3).toNat 73) (f26 : n10 ≤ 7) (f27 : (-1) ≤ n10) (f28 : n10 = hV H2 (n9).toNat (n0).toNat) (f29 : n11 = 336) (f30 : n11 = hV H2 (n3).toNat 74) (f31 : n12 ≤ 5) (f32 : (-1) ≤ n12) (f33 : n12 = hV H2 (n11).toNat (n0).toNat) : preb_283v n3 n0 n10 n12 H2 := by
  have g4 := f8.2.1.1
  unfold Ab_290v_16 at g4
  have g3 := f8.2.1.2
  unfold preb_290v at g3
  unfold postb_289 at f22
  unfold preb_283v
  have e0 : hV H1 285 64 = hV H0 285 64 := f8.1.2.1.1 285 64 (by decide +kernel)
  have e1 : n5 = hV H0 285 64 := (by rw [f6] at f11; exact f11 : n5 = hV H1 285 64).trans (e0)
  have e2 : n7 = hV H1 354 (n0).toNat := (by rw [f14] at f18; exact f18 : n7 = hV H1 354 (n0).toNat)
  have e3 : hV H2 335 = hV H1 335 := fRow f22.1.2.1 335 (by decide +kernel)
  have e4 : n10 = hV H1 335 (n0).toNat := (by rw [f24] at f28; exact f28 : n10 = hV H2 335 (n0).toNat).trans ((congrFun e3 _))
  have e5 : hV H2 336 = hV H1 336 := fRow f22.1.2.1 336 (by decide +kernel)
  have e6 : n12 = hV H1 336 (n0).toNat := (by rw [f29] at f33; exact f33 : n12 = hV H2 336 (n0).toNat).trans ((congrFun e5 _))
  have e7 : hV H1 285 18 = hV H0 285 18 := f8.1.2.1.1 285 18 (by decide +kernel)
  have e8 : hV H1 285 18 = hV H0 285 18 := e7
  have e9 : hV H1 285 64 = hV H0 285 64 := e0
  have e10 : hV H1 296 = hV H0 296 := fRow f8.1.2.1 296 (by decide +kernel)
  have e11 : hV H1 298 = hV H0 298 := fRow f8.1.2.1 298 (by decide +kernel)
  have e12 : hV H1 300 = hV H0 300 := fRow f8.1.2.1 300 (by decide +kernel)
  have e13 : hV H1 301 = hV H0 301 := fRow f8.1.2.1 301 (by decide +kernel)
  have e14 : hV H1 303 = hV H0 303 := fRow f8.1.2.1 303 (by decide +kernel)
  have e15 : hV H1 328 = hV H0 328 := fRow f8.1.2.1 328 (by decide +kernel)
  have e16 : hV H1 330 = hV H0 330 := fRow f8.1.2.1 330 (by decide +kernel)
  have e17 : hV H1 331 = hV H0 331 := fRow f8.1.2.1 331 (by decide +kernel)
  have e18 : hV H1 332 = hV H0 332 := fRow f8.1.2.1 332 (by decide +kernel)
  have e19 : hV H1 341 = hV H0 341 := fRow f8.1.2.1 341 (by decide +kernel)
  have e20 : hV H2 285 18 = hV H1 285 18 := f22.1.2.1.1 285 18 (by decide +kernel)
  have e21 : hV H2 285 18 = hV H0 285 18 := (e20).trans e7
  have e22 : hV H2 285 64 = hV H1 285 64 := f22.1.2.1.1 285 64 (by decide +kernel)
  have e23 : hV H2 285 64 = hV H0 285 64 := (e22).trans e0
  have e24 : hV H2 285 65 = hV H1 285 65 := f22.1.2.1.1 285 65 (by decide +kernel)
  have e25 : hV H2 285 65 = hV H1 285 65 := e24
  have e26 : hV H2 296 = hV H1 296 := fRow f22.1.2.1 296 (by decide +kernel)
  have e27 : hV H2 296 = hV H0 296 := e26.trans e10
  have e28 : hV H2 298 = hV H1 298 := fRow f22.1.2.1 298 (by decide +kernel)
  have e29 : hV H2 298 = hV H0 298 := e28.trans e11
  have e30 : hV H2 300 = hV H1 300 := fRow f22.1.2.1 300 (by decide +kernel)
  have e31 : hV H2 300 = hV H0 300 := e30.trans e12
  have e32 : hV H2 328 = hV H1 328 := fRow f22.1.2.1 328 (by decide +kernel)
  have e33 : hV H2 328 = hV H0 328 := e32.trans e15
  have e34 : hV H2 330 = hV H1 330 := fRow f22.1.2.1 330 (by decide +kernel)
  have e35 : hV H2 330 = hV H0 330 := e34.trans e16
  have e36 : hV H2 331 = hV H1 331 := fRow f22.1.2.1 331 (by decide +kernel)
  have e37 : hV H2 331 = hV H0 331 := e36.trans e17
  have e38 : hV H2 332 = hV H1 332 := fRow f22.1.2.1 332 (by decide +kernel)
  have e39 : hV H2 332 = hV H0 332 := e38.trans e18
  have e40 : hV H2 333 = hV H1 333 := fRow f22.1.2.1 333 (by decide +kernel)
  have e41 : hV H2 334 = hV H1 334 := fRow f22.1.2.1 334 (by decide +kernel)
  have e42 : hV H2 341 = hV H1 341 := fRow f22.1.2.1 341 (by decide +kernel)
  have e43 : hV H2 341 = hV H0 341 := e42.trans e19
  have e44 : hV H2 354 = hV H1 354 := fRow f22.1.2.1 354 (by decide +kernel)
  have e45 : PG H1 = PG H0 := PG_fr f8.1.2.1 (by decide +kernel)
  have e46 : PG H2 = PG H1 := PG_fr f22.1.2.1 (by decide +kernel)
  have e47 : PG H2 = PG H0 := e46.trans e45
  have e48 : (0 : Int) ≤ hV H1 285 18 ∧ hV H1 285 18 ≤ 8 := f8.1.2.2 285 18 _ _ (by decide +kernel)
  have e49 : (0 : Int) ≤ hV H1 285 64 ∧ hV H1 285 64 ≤ 20 := f8.1.2.2 285 64 _ _ (by decide +kernel)
  have e50 : (0 : Int) ≤ hV H1 285 65 ∧ hV H1 285 65 ≤ 2147483647 := f8.1.2.2 285 65 _ _ (by decide +kernel)
  have e51 : (0 : Int) ≤ hV H2 285 18 ∧ hV H2 285 18 ≤ 8 := f22.1.2.2.2 285 18 _ _ (by decide +kernel)
  have e52 : (0 : Int) ≤ hV H2 285 64 ∧ hV H2 285 64 ≤ 20 := f22.1.2.2.2 285 64 _ _ (by decide +kernel)
  have e53 : (0 : Int) ≤ hV H2 285 65 ∧ hV H2 285 65 ≤ 2147483647 := f22.1.2.2.2 285 65 _ _ (by decide +kernel)
  try simp only [SO, SS, AC]
  try simp only [e8] at e48
  try simp only [e9] at e49
  try simp only [e21] at e51
  try simp only [e23] at e52
  try simp only [e25] at e53
  try simp only [e8, e9, e10, e11, e12, e13, e14, e15, e16, e17, e18, e19, e21, e23, e25, e27, e29, e31, e33, e35, e37, e39, e40, e41, e3, e5, e43, e44, e47]
  have y0 := g4.1
  have y1 := g4.2.1
  have y2 := g4.2.2.1
  have y3 := g4.2.2.2.1
  have y4 := g4.2.2.2.2.1
  have y5 := g4.2.2.2.2.2
  have p0 := g3.1
  have p1 := g3.2.1
  have p2 := g3.2.2.1
  have p3 := g3.2.2.2.1
  have p4 := g3.2.2.2.2
  have r0_0 := f22.2.1
  have r0_1 := f22.2.2
  try simp only [SO] at y0
  try simp only [SS] at y1
  try simp only [AC] at y2
  try simp only [SO] at p0
  try simp only [SS] at p1
  try simp only [AC] at p3
  try simp only [e8, e9, e10, e11, e12, e13, e14, e15, e16, e17, e18, e19] at y0
  try simp only [e8, e9, e10, e11, e12, e13, e14, e15, e16, e17, e18, e19] at y1
  try simp only [e8, e9, e10, e11, e12, e13, e14, e15, e16, e17, e18, e19] at y2
  try simp only [e8, e9, e10, e11, e12, e13, e14, e15, e16, e17, e18, e19] at y3
  try simp only [e8, e9, e10, e11, e12, e13, e14, e15, e16, e17, e18, e19] at y4
  try simp only [e8, e9, e10, e11, e12, e13, e14, e15, e16, e17, e18, e19] at y5
  try simp only [e8, e9, e10, e11, e12, e13, e14, e15, e16, e17, e18, e19] at p0
  try simp only [e8, e9, e10, e11, e12, e13, e14, e15, e16, e17, e18, e19] at p1
  try simp only [e8, e9, e10, e11, e12, e13, e14, e15, e16, e17, e18, e19] at p2
  try simp only [e8, e9, e10, e11, e12, e13, e14, e15, e16, e17, e18, e19] at p3
  try simp only [e8, e9, e10, e11, e12, e13, e14, e15, e16, e17, e18, e19] at p4
  try simp only [e8, e9, e10, e11, e12, e13, e14, e15, e16, e17, e18, e19, e21, e23, e25, e27, e29, e31, e33, e35, e37, e39, e40, e41, e3, e5, e43, e44, e47] at r0_0
  try simp only [e8, e9, e10, e11, e12, e13, e14, e15, e16, e17, e18, e19, e21, e23, e25, e27, e29, e31, e33, e35, e37, e39, e40, e41, e3, e5, e43, e44, e47] at r0_1
  clear g3
  clear g4
  clear f11 f15 f18 f25 f28 f30 f33 e0 e3 e5 e7 e8 e9 e10 e11 e12 e13 e14 e15 e16 e17 e18 e19 e20 e21 e22 e23 e24 e25 e26 e27 e28 e29 e30 e31 e32 e33 e34 e35 e36 e37 e38 e39 e40 e41 e42 e43 e44 e45 e46 e47
  clear f8 f22
  subst e1
  subst e2
  subst e4
  subst e6
  try have sm := SL_made ((y4 (by omega) (n0).toNat (by omega)).mp (by omega)) NX_made
  try have so := (y0 (n0).toNat (by omega)).2.2.2 (by omega)
  refine ⟨?_, ?_, ?_, ?_, ?_, ?_, ?_⟩ <;> first | assumption | omega | trivial
def g_290v_16_13 : vG := ([(22, [12, 11, 4], [2], 0), (90, [12], [], -1), (91, [12], [], 5), (20, [11, 1], [2], 74), (0, [11], [], 336), (22, [10, 9, 4], [2], 0), (90, [10], [], -1), (91, [10], [], 7), (20, [9, 1], [2], 73), (0, [9], [], 335), (30, [8], [], 0), (1289, [8, 1, 4], [1, 2], 0), (90, [8], [], 0), (91, [8], [], 1), (31, [7], [], 0), (22, [7, 6, 4], [1], 0), (90, [7], [], 0), (91, [7], [], 1), (20, [6, 1], [1], 96), (0, [6], [], 354), (30, [3], [], 0), (42, [4, 5], [], 0), (20, [5, 1], [1], 64), (90, [5], [], 0), (91, [5], [], 20), (5000, [0, 1, 2, 3, 4], [0, 1], 16), (0, [0], [], 285), (0, [1], [], 285), (90, [2], [], -2147483648), (91, [2], [], 2147483647), (90, [3], [], 0), (91, [3], [], 1), (90, [4], [], 0), (91, [4], [], 20)], (2283, [1, 4, 10, 12], [2], 0))
theorem c_290v_16_13 {q0 : Nat} : vOkm T0 (eP e_290v L_290v A_290v mu_290v (some q0)) 1 g_290v_16_13 := vOk_in fun ρ η h => by
  obtain ⟨f0, f1, f2, f3, f4, f5, f6, f7, f8, f9, f10, f11, f12, f13, f14, f15, f16, f17, f18, f19, f20, f21, f22, f23, f24, f25, f26, f27, f28, f29, f30, f31, f32, f33, _⟩ := h
  exact q_290v_17 (q0 := q0) (n0 := ρ 4) (n1 := ρ 3) (n2 := ρ 2) (n3 := ρ 1) (n4 := ρ 0) (n5 := ρ 5) (n6 := ρ 6) (n7 := ρ 7) (n8 := ρ 8) (n9 := ρ 9) (n10 := ρ 10) (n11 := ρ 11) (n12 := ρ 12) (H0 := η 0) (H1 := η 1) (H2 := η 2) f33 f32 f31 f30 f29 f28 f27 f26 f25 f24 f23 f22 f21 f20 f19 f18 f17 f16 f15 f14 f13 f12 f11 f10 f9 f8 f7 f6 f5 f4 f3 f2 f1 f0
theorem q_290v_18 {q0 : Nat} {n0 n1 n2 n3 n4 n5 n6 n7 n8 n9 n10 n11 n12 n13 n14 n15 n16 : Int} {H0 H1 H2 H3 : gH} (f0 : n0 ≤ 20) (f1 : 0 ≤ n0) (f2 : n1 ≤ 1) (f3 : 0 ≤ n1) (f4 : n2 ≤ 2147483647) (f5 : (-2147483648) ≤ n2) (f6 : n3 = 285) (f7 : n4 = 285) (f8 : (hLe T0 H0 H1 ∧ hFr s_290v.2.2.2.2 H0 H1 ∧ hWt T0 H1) ∧ (Ab_290v_16 n4 n3 n2 n1 n0 H0 H1 ∧ preb_290v n4 H0) ∧ some q0 = some (mub_290v_16 n4 n3 n2 n1 n0 H0 H1)) (f9 : n5 ≤ 20) (f10 : 0 ≤ n5) (f11 : n5 = hV H1 (n3).toNat 64) (f12 : n0 < n5) (f13 : n1 = 0) (f14 : n6 = 354) (f15 : n6 = hV H1 (n3).toNat 96) (f16 : n7 ≤ 1) (f17 : 0 ≤ n7) (f18 : n7 = hV H1 (n6).toNat (n0).toNat) (f19 : n7 ≠ 0) (f20 : n8 ≤ 1) (f21 : 0 ≤ n8) (f22 : (hLe T0 H1 H2 ∧ hFr s_289.2.2.2.2 H1 H2 ∧ ((0 : Int) = 0 → H2.length = H1.length) ∧ hWt T0 H2) ∧ postb_289 n8 n3 n0 H1 H2) (f23 : n8 = 0) (f24 : n9 = 335) (f25 : n9 = hV H2 (n3).toNat 73) (f26 : n10 ≤ 7) (f27 : (-1) ≤ n10) (f28 : n10 = hV H2 (n9).toNat (n0).toNat) (f29 : n11 = 336) (f30 : n11 = hV H2 (n3).toNat 74) (f31 : n12 ≤ 5) (f32 : (-1) ≤ n12) (f33 : n12 = hV H2 (n11).toNat (n0).toNat) (f34 : n13 ≤ 2147483647) (f35 : (-2147483648) ≤ n13) (f36 : (hLe T0 H2 H3 ∧ hFr s_283v.2.2.2.2 H2 H3 ∧ ((0 : Int) = 0 → H3.length = H2.length) ∧ hWt T0 H3) ∧ postb_283v n13 n3 n0 n10 n12 H2 H3) (f37 : n13 ≤ 0) (f38 : n14 = 0) (f39 : n15 = w32 (n2 + n14)) (f40 : n16 = w32 (n0 + 1)) : 0 ≤ n16 := by
  have g4 := f8.2.1.1
  unfold Ab_290v_16 at g4
  have g3 := f8.2.1.2
  unfold preb_290v at g3
  unfold postb_289 at f22
  unfold postb_283v at f36
  have e0 : hV H1 285 64 = hV H0 285 64 := f8.1.2.1.1 285 64 (by decide +kernel)
  have e1 : n5 = hV H0 285 64 := (by rw [f6] at f11; exact f11 : n5 = hV H1 285 64).trans (e0)
  have e2 : n7 = hV H1 354 (n0).toNat := (by rw [f14] at f18; exact f18 : n7 = hV H1 354 (n0).toNat)
  have e3 : hV H2 335 = hV H1 335 := fRow f22.1.2.1 335 (by decide +kernel)
  have e4 : n10 = hV H1 335 (n0).toNat := (by rw [f24] at f28; exact f28 : n10 = hV H2 335 (n0).toNat).trans ((congrFun e3 _))
  have e5 : hV H2 336 = hV H1 336 := fRow f22.1.2.1 336 (by decide +kernel)
  have e6 : n12 = hV H1 336 (n0).toNat := (by rw [f29] at f33; exact f33 : n12 = hV H2 336 (n0).toNat).trans ((congrFun e5 _))
  have e7 : hV H1 285 18 = hV H0 285 18 := f8.1.2.1.1 285 18 (by decide +kernel)
  have e8 : hV H1 285 18 = hV H0 285 18 := e7
  have e9 : hV H1 285 64 = hV H0 285 64 := e0
  have e10 : hV H1 296 = hV H0 296 := fRow f8.1.2.1 296 (by decide +kernel)
  have e11 : hV H1 298 = hV H0 298 := fRow f8.1.2.1 298 (by decide +kernel)
  have e12 : hV H1 300 = hV H0 300 := fRow f8.1.2.1 300 (by decide +kernel)
  have e13 : hV H1 301 = hV H0 301 := fRow f8.1.2.1 301 (by decide +kernel)
  have e14 : hV H1 303 = hV H0 303 := fRow f8.1.2.1 303 (by decide +kernel)
  have e15 : hV H1 328 = hV H0 328 := fRow f8.1.2.1 328 (by decide +kernel)
  have e16 : hV H1 330 = hV H0 330 := fRow f8.1.2.1 330 (by decide +kernel)
  have e17 : hV H1 331 = hV H0 331 := fRow f8.1.2.1 331 (by decide +kernel)
  have e18 : hV H1 332 = hV H0 332 := fRow f8.1.2.1 332 (by decide +kernel)
  have e19 : hV H1 341 = hV H0 341 := fRow f8.1.2.1 341 (by decide +kernel)
  have e20 : hV H2 285 64 = hV H1 285 64 := f22.1.2.1.1 285 64 (by decide +kernel)
  have e21 : hV H2 285 64 = hV H0 285 64 := (e20).trans e0
  have e22 : hV H2 285 65 = hV H1 285 65 := f22.1.2.1.1 285 65 (by decide +kernel)
  have e23 : hV H2 285 65 = hV H1 285 65 := e22
  have e24 : hV H2 296 = hV H1 296 := fRow f22.1.2.1 296 (by decide +kernel)
  have e25 : hV H2 296 = hV H0 296 := e24.trans e10
  have e26 : hV H2 298 = hV H1 298 := fRow f22.1.2.1 298 (by decide +kernel)
  have e27 : hV H2 298 = hV H0 298 := e26.trans e11
  have e28 : hV H2 300 = hV H1 300 := fRow f22.1.2.1 300 (by decide +kernel)
  have e29 : hV H2 300 = hV H0 300 := e28.trans e12
  have e30 : hV H2 328 = hV H1 328 := fRow f22.1.2.1 328 (by decide +kernel)
  have e31 : hV H2 328 = hV H0 328 := e30.trans e15
  have e32 : hV H2 329 = hV H1 329 := fRow f22.1.2.1 329 (by decide +kernel)
  have e33 : hV H2 332 = hV H1 332 := fRow f22.1.2.1 332 (by decide +kernel)
  have e34 : hV H2 332 = hV H0 332 := e33.trans e18
  have e35 : hV H2 333 = hV H1 333 := fRow f22.1.2.1 333 (by decide +kernel)
  have e36 : hV H2 354 = hV H1 354 := fRow f22.1.2.1 354 (by decide +kernel)
  have e37 : hV H3 285 18 = hV H2 285 18 := f36.1.2.1.1 285 18 (by decide +kernel)
  have e38 : hV H2 285 18 = hV H1 285 18 := f22.1.2.1.1 285 18 (by decide +kernel)
  have e39 : hV H3 285 18 = hV H0 285 18 := (e37).trans ((e38).trans e7)
  have e40 : hV H3 285 64 = hV H2 285 64 := f36.1.2.1.1 285 64 (by decide +kernel)
  have e41 : hV H3 285 64 = hV H0 285 64 := (e40).trans ((e20).trans e0)
  have e42 : hV H3 328 = hV H2 328 := fRow f36.1.2.1 328 (by decide +kernel)
  have e43 : hV H3 328 = hV H0 328 := e42.trans e31
  have e44 : hV H3 330 = hV H2 330 := fRow f36.1.2.1 330 (by decide +kernel)
  have e45 : hV H2 330 = hV H1 330 := fRow f22.1.2.1 330 (by decide +kernel)
  have e46 : hV H2 330 = hV H0 330 := e45.trans e16
  have e47 : hV H3 330 = hV H0 330 := e44.trans e46
  have e48 : hV H3 331 = hV H2 331 := fRow f36.1.2.1 331 (by decide +kernel)
  have e49 : hV H2 331 = hV H1 331 := fRow f22.1.2.1 331 (by decide +kernel)
  have e50 : hV H2 331 = hV H0 331 := e49.trans e17
  have e51 : hV H3 331 = hV H0 331 := e48.trans e50
  have e52 : hV H3 332 = hV H2 332 := fRow f36.1.2.1 332 (by decide +kernel)
  have e53 : hV H3 332 = hV H0 332 := e52.trans e34
  have e54 : hV H3 341 = hV H2 341 := fRow f36.1.2.1 341 (by decide +kernel)
  have e55 : hV H2 341 = hV H1 341 := fRow f22.1.2.1 341 (by decide +kernel)
  have e56 : hV H2 341 = hV H0 341 := e55.trans e19
  have e57 : hV H3 341 = hV H0 341 := e54.trans e56
  have e58 : (0 : Int) ≤ hV H1 285 18 ∧ hV H1 285 18 ≤ 8 := f8.1.2.2 285 18 _ _ (by decide +kernel)
  have e59 : (0 : Int) ≤ hV H1 285 64 ∧ hV H1 285 64 ≤ 20 := f8.1.2.2 285 64 _ _ (by decide +kernel)
  have e60 : (0 : Int) ≤ hV H1 285 65 ∧ hV H1 285 65 ≤ 2147483647 := f8.1.2.2 285 65 _ _ (by decide +kernel)
  have e61 : (0 : Int) ≤ hV H2 285 64 ∧ hV H2 285 64 ≤ 20 := f22.1.2.2.2 285 64 _ _ (by decide +kernel)
  have e62 : (0 : Int) ≤ hV H2 285 65 ∧ hV H2 285 65 ≤ 2147483647 := f22.1.2.2.2 285 65 _ _ (by decide +kernel)
  have e63 : (0 : Int) ≤ hV H3 285 18 ∧ hV H3 285 18 ≤ 8 := f36.1.2.2.2 285 18 _ _ (by decide +kernel)
  have e64 : (0 : Int) ≤ hV H3 285 64 ∧ hV H3 285 64 ≤ 20 := f36.1.2.2.2 285 64 _ _ (by decide +kernel)
  have e65 : (0 : Int) ≤ hV H3 285 65 ∧ hV H3 285 65 ≤ 2147483647 := f36.1.2.2.2 285 65 _ _ (by decide +kernel)
  try simp only [SO, SS, AC]
  try simp only [e8] at e58
  try simp only [e9] at e59
  try simp only [e21] at e61
  try simp only [e23] at e62
  try simp only [e39] at e63
  try simp only [e41] at e64
  try simp only [e8, e9, e10, e11, e12, e13, e14, e15, e16, e17, e18, e19, e21, e23, e25, e27, e29, e31, e32, e34, e35, e3, e36, e39, e41, e43, e47, e51, e53, e57]
  have y0 := g4.1
  have y1 := g4.2.1
  have y2 := g4.2.2.1
  have y3 := g4.2.2.2.1
  have y4 := g4.2.2.2.2.1
  have y5 := g4.2.2.2.2.2
  have p0 := g3.1
  have p1 := g3.2.1
  have p2 := g3.2.2.1
  have p3 := g3.2.2.2.1
  have p4 := g3.2.2.2.2
  have r0_0 := f22.2.1
  have r0_1 := f22.2.2
  have r1_0 := f36.2.1
  have r1_1 := f36.2.2.1
  have r1_2 := f36.2.2.2.1
  have r1_3 := f36.2.2.2.2.1
  have r1_4 := f36.2.2.2.2.2.1
  have r1_5 := f36.2.2.2.2.2.2
  try simp only [SO] at y0
  try simp only [SS] at y1
  try simp only [AC] at y2
  try simp only [SO] at p0
  try simp only [SS] at p1
  try simp only [AC] at p3
  try simp only [SO] at r1_0
  try simp only [SS] at r1_1
  try simp only [e8, e9, e10, e11, e12, e13, e14, e15, e16, e17, e18, e19] at y0
  try simp only [e8, e9, e10, e11, e12, e13, e14, e15, e16, e17, e18, e19] at y1
  try simp only [e8, e9, e10, e11, e12, e13, e14, e15, e16, e17, e18, e19] at y2
  try simp only [e8, e9, e10, e11, e12, e13, e14, e15, e16, e17, e18, e19] at y3
  try simp only [e8, e9, e10, e11, e12, e13, e14, e15, e16, e17, e18, e19] at y4
  try simp only [e8, e9, e10, e11, e12, e13, e14, e15, e16, e17, e18, e19] at y5
  try simp only [e8, e9, e10, e11, e12, e13, e14, e15, e16, e17, e18, e19] at p0
  try simp only [e8, e9, e10, e11, e12, e13, e14, e15, e16, e17, e18, e19] at p1
  try simp only [e8, e9, e10, e11, e12, e13, e14, e15, e16, e17, e18, e19] at p2
  try simp only [e8, e9, e10, e11, e12, e13, e14, e15, e16, e17, e18, e19] at p3
  try simp only [e8, e9, e10, e11, e12, e13, e14, e15, e16, e17, e18, e19] at p4
  try simp only [e8, e9, e10, e11, e12, e13, e14, e15, e16, e17, e18, e19, e21, e23, e25, e27, e29, e31, e32, e34, e35, e3, e36] at r0_0
  try simp only [e8, e9, e10, e11, e12, e13, e14, e15, e16, e17, e18, e19, e21, e23, e25, e27, e29, e31, e32, e34, e35, e3, e36] at r0_1
  try simp only [e21, e23, e25, e27, e29, e31, e32, e34, e35, e3, e36, e39, e41, e43, e47, e51, e53, e57] at r1_0
  try simp only [e21, e23, e25, e27, e29, e31, e32, e34, e35, e3, e36, e39, e41, e43, e47, e51, e53, e57] at r1_1
  try simp only [e21, e23, e25, e27, e29, e31, e32, e34, e35, e3, e36, e39, e41, e43, e47, e51, e53, e57] at r1_2
  try simp only [e21, e23, e25, e27, e29, e31, e32, e34, e35, e3, e36, e39, e41, e43, e47, e51, e53, e57] at r1_3
  try simp only [e21, e23, e25, e27, e29, e31, e32, e34, e35, e3, e36, e39, e41, e43, e47, e51, e53, e57] at r1_4
  try simp only [e21, e23, e25, e27, e29, e31, e32, e34, e35, e3, e36, e39, e41, e43, e47, e51, e53, e57] at r1_5
  clear g3
  clear g4
  clear f11 f15 f18 f25 f28 f30 f33 e0 e3 e5 e7 e8 e9 e10 e11 e12 e13 e14 e15 e16 e17 e18 e19 e20 e21 e22 e23 e24 e25 e26 e27 e28 e29 e30 e31 e32 e33 e34 e35 e36 e37 e38 e39 e40 e41 e42 e43 e44 e45 e46 e47 e48 e49 e50 e51 e52 e53 e54 e55 e56 e57
  clear f8 f22 f36
  subst e1
  subst e2
  subst e4
  subst e6
  unfold w32 at *
  try have sm := SL_made ((y4 (by omega) (n0).toNat (by omega)).mp (by omega)) NX_made
  try have so := (y0 (n0).toNat (by omega)).2.2.2 (by omega)
  try (have ix0 : n16 = n0 + 1 := (by omega); subst ix0)
  omega
def g_290v_16_14 : vG := ([(10, [17, 4], [], 1), (1, [15, 2, 14], [], 0), (0, [14], [], 0), (35, [13], [], 0), (1283, [13, 1, 4, 10, 12], [2, 3], 0), (90, [13], [], -2147483648), (91, [13], [], 2147483647), (22, [12, 11, 4], [2], 0), (90, [12], [], -1), (91, [12], [], 5), (20, [11, 1], [2], 74), (0, [11], [], 336), (22, [10, 9, 4], [2], 0), (90, [10], [], -1), (91, [10], [], 7), (20, [9, 1], [2], 73), (0, [9], [], 335), (30, [8], [], 0), (1289, [8, 1, 4], [1, 2], 0), (90, [8], [], 0), (91, [8], [], 1), (31, [7], [], 0), (22, [7, 6, 4], [1], 0), (90, [7], [], 0), (91, [7], [], 1), (20, [6, 1], [1], 96), (0, [6], [], 354), (30, [3], [], 0), (42, [4, 5], [], 0), (20, [5, 1], [1], 64), (90, [5], [], 0), (91, [5], [], 20), (5000, [0, 1, 2, 3, 4], [0, 1], 16), (0, [0], [], 285), (0, [1], [], 285), (90, [2], [], -2147483648), (91, [2], [], 2147483647), (90, [3], [], 0), (91, [3], [], 1), (90, [4], [], 0), (91, [4], [], 20)], (90, [17], [], 0))
theorem c_290v_16_14 {q0 : Nat} : vOkm T0 (eP e_290v L_290v A_290v mu_290v (some q0)) 1 g_290v_16_14 := vOk_in fun ρ η h => by
  obtain ⟨f0, f1, f2, f3, f4, f5, f6, f7, f8, f9, f10, f11, f12, f13, f14, f15, f16, f17, f18, f19, f20, f21, f22, f23, f24, f25, f26, f27, f28, f29, f30, f31, f32, f33, f34, f35, f36, f37, f38, f39, f40, _⟩ := h
  exact q_290v_18 (q0 := q0) (n0 := ρ 4) (n1 := ρ 3) (n2 := ρ 2) (n3 := ρ 1) (n4 := ρ 0) (n5 := ρ 5) (n6 := ρ 6) (n7 := ρ 7) (n8 := ρ 8) (n9 := ρ 9) (n10 := ρ 10) (n11 := ρ 11) (n12 := ρ 12) (n13 := ρ 13) (n14 := ρ 14) (n15 := ρ 15) (n16 := ρ 17) (H0 := η 0) (H1 := η 1) (H2 := η 2) (H3 := η 3) f40 f39 f38 f37 f36 f35 f34 f33 f32 f31 f30 f29 f28 f27 f26 f25 f24 f23 f22 f21 f20 f19 f18 f17 f16 f15 f14 f13 f12 f11 f10 f9 f8 f7 f6 f5 f4 f3 f2 f1 f0
theorem q_290v_19 {q0 : Nat} {n0 n1 n2 n3 n4 n5 n6 n7 n8 n9 n10 n11 n12 n13 n14 n15 n16 : Int} {H0 H1 H2 H3 : gH} (f0 : n0 ≤ 20) (f1 : 0 ≤ n0) (f2 : n1 ≤ 1) (f3 : 0 ≤ n1) (f4 : n2 ≤ 2147483647) (f5 : (-2147483648) ≤ n2) (f6 : n3 = 285) (f7 : n4 = 285) (f8 : (hLe T0 H0 H1 ∧ hFr s_290v.2.2.2.2 H0 H1 ∧ hWt T0 H1) ∧ (Ab_290v_16 n4 n3 n2 n1 n0 H0 H1 ∧ preb_290v n4 H0) ∧ some q0 = some (mub_290v_16 n4 n3 n2 n1 n0 H0 H1)) (f9 : n5 ≤ 20) (f10 : 0 ≤ n5) (f11 : n5 = hV H1 (n3).toNat 64) (f12 : n0 < n5) (f13 : n1 = 0) (f14 : n6 = 354) (f15 : n6 = hV H1 (n3).toNat 96) (f16 : n7 ≤ 1) (f17 : 0 ≤ n7) (f18 : n7 = hV H1 (n6).toNat (n0).toNat) (f19 : n7 ≠ 0) (f20 : n8 ≤ 1) (f21 : 0 ≤ n8) (f22 : (hLe T0 H1 H2 ∧ hFr s_289.2.2.2.2 H1 H2 ∧ ((0 : Int) = 0 → H2.length = H1.length) ∧ hWt T0 H2) ∧ postb_289 n8 n3 n0 H1 H2) (f23 : n8 = 0) (f24 : n9 = 335) (f25 : n9 = hV H2 (n3).toNat 73) (f26 : n10 ≤ 7) (f27 : (-1) ≤ n10) (f28 : n10 = hV H2 (n9).toNat (n0).toNat) (f29 : n11 = 336) (f30 : n11 = hV H2 (n3).toNat 74) (f31 : n12 ≤ 5) (f32 : (-1) ≤ n12) (f33 : n12 = hV H2 (n11).toNat (n0).toNat) (f34 : n13 ≤ 2147483647) (f35 : (-2147483648) ≤ n13) (f36 : (hLe T0 H2 H3 ∧ hFr s_283v.2.2.2.2 H2 H3 ∧ ((0 : Int) = 0 → H3.length = H2.length) ∧ hWt T0 H3) ∧ postb_283v n13 n3 n0 n10 n12 H2 H3) (f37 : n13 ≤ 0) (f38 : n14 = 0) (f39 : n15 = w32 (n2 + n14)) (f40 : n16 = w32 (n0 + 1)) : n16 ≤ 20 := by
  have g4 := f8.2.1.1
  unfold Ab_290v_16 at g4
  have g3 := f8.2.1.2
  unfold preb_290v at g3
  unfold postb_289 at f22
  unfold postb_283v at f36
  have e0 : hV H1 285 64 = hV H0 285 64 := f8.1.2.1.1 285 64 (by decide +kernel)
  have e1 : n5 = hV H0 285 64 := (by rw [f6] at f11; exact f11 : n5 = hV H1 285 64).trans (e0)
  have e2 : n7 = hV H1 354 (n0).toNat := (by rw [f14] at f18; exact f18 : n7 = hV H1 354 (n0).toNat)
  have e3 : hV H2 335 = hV H1 335 := fRow f22.1.2.1 335 (by decide +kernel)
  have e4 : n10 = hV H1 335 (n0).toNat := (by rw [f24] at f28; exact f28 : n10 = hV H2 335 (n0).toNat).trans ((congrFun e3 _))
  have e5 : hV H2 336 = hV H1 336 := fRow f22.1.2.1 336 (by decide +kernel)
  have e6 : n12 = hV H1 336 (n0).toNat := (by rw [f29] at f33; exact f33 : n12 = hV H2 336 (n0).toNat).trans ((congrFun e5 _))
  have e7 : hV H1 285 18 = hV H0 285 18 := f8.1.2.1.1 285 18 (by decide +kernel)
  have e8 : hV H1 285 18 = hV H0 285 18 := e7
  have e9 : hV H1 285 64 = hV H0 285 64 := e0
  have e10 : hV H1 296 = hV H0 296 := fRow f8.1.2.1 296 (by decide +kernel)
  have e11 : hV H1 298 = hV H0 298 := fRow f8.1.2.1 298 (by decide +kernel)
  have e12 : hV H1 300 = hV H0 300 := fRow f8.1.2.1 300 (by decide +kernel)
  have e13 : hV H1 301 = hV H0 301 := fRow f8.1.2.1 301 (by decide +kernel)
  have e14 : hV H1 303 = hV H0 303 := fRow f8.1.2.1 303 (by decide +kernel)
  have e15 : hV H1 328 = hV H0 328 := fRow f8.1.2.1 328 (by decide +kernel)
  have e16 : hV H1 330 = hV H0 330 := fRow f8.1.2.1 330 (by decide +kernel)
  have e17 : hV H1 331 = hV H0 331 := fRow f8.1.2.1 331 (by decide +kernel)
  have e18 : hV H1 332 = hV H0 332 := fRow f8.1.2.1 332 (by decide +kernel)
  have e19 : hV H1 341 = hV H0 341 := fRow f8.1.2.1 341 (by decide +kernel)
  have e20 : hV H2 285 64 = hV H1 285 64 := f22.1.2.1.1 285 64 (by decide +kernel)
  have e21 : hV H2 285 64 = hV H0 285 64 := (e20).trans e0
  have e22 : hV H2 285 65 = hV H1 285 65 := f22.1.2.1.1 285 65 (by decide +kernel)
  have e23 : hV H2 285 65 = hV H1 285 65 := e22
  have e24 : hV H2 296 = hV H1 296 := fRow f22.1.2.1 296 (by decide +kernel)
  have e25 : hV H2 296 = hV H0 296 := e24.trans e10
  have e26 : hV H2 298 = hV H1 298 := fRow f22.1.2.1 298 (by decide +kernel)
  have e27 : hV H2 298 = hV H0 298 := e26.trans e11
  have e28 : hV H2 300 = hV H1 300 := fRow f22.1.2.1 300 (by decide +kernel)
  have e29 : hV H2 300 = hV H0 300 := e28.trans e12
  have e30 : hV H2 328 = hV H1 328 := fRow f22.1.2.1 328 (by decide +kernel)
  have e31 : hV H2 328 = hV H0 328 := e30.trans e15
  have e32 : hV H2 329 = hV H1 329 := fRow f22.1.2.1 329 (by decide +kernel)
  have e33 : hV H2 332 = hV H1 332 := fRow f22.1.2.1 332 (by decide +kernel)
  have e34 : hV H2 332 = hV H0 332 := e33.trans e18
  have e35 : hV H2 333 = hV H1 333 := fRow f22.1.2.1 333 (by decide +kernel)
  have e36 : hV H2 354 = hV H1 354 := fRow f22.1.2.1 354 (by decide +kernel)
  have e37 : hV H3 285 18 = hV H2 285 18 := f36.1.2.1.1 285 18 (by decide +kernel)
  have e38 : hV H2 285 18 = hV H1 285 18 := f22.1.2.1.1 285 18 (by decide +kernel)
  have e39 : hV H3 285 18 = hV H0 285 18 := (e37).trans ((e38).trans e7)
  have e40 : hV H3 285 64 = hV H2 285 64 := f36.1.2.1.1 285 64 (by decide +kernel)
  have e41 : hV H3 285 64 = hV H0 285 64 := (e40).trans ((e20).trans e0)
  have e42 : hV H3 328 = hV H2 328 := fRow f36.1.2.1 328 (by decide +kernel)
  have e43 : hV H3 328 = hV H0 328 := e42.trans e31
  have e44 : hV H3 330 = hV H2 330 := fRow f36.1.2.1 330 (by decide +kernel)
  have e45 : hV H2 330 = hV H1 330 := fRow f22.1.2.1 330 (by decide +kernel)
  have e46 : hV H2 330 = hV H0 330 := e45.trans e16
  have e47 : hV H3 330 = hV H0 330 := e44.trans e46
  have e48 : hV H3 331 = hV H2 331 := fRow f36.1.2.1 331 (by decide +kernel)
  have e49 : hV H2 331 = hV H1 331 := fRow f22.1.2.1 331 (by decide +kernel)
  have e50 : hV H2 331 = hV H0 331 := e49.trans e17
  have e51 : hV H3 331 = hV H0 331 := e48.trans e50
  have e52 : hV H3 332 = hV H2 332 := fRow f36.1.2.1 332 (by decide +kernel)
  have e53 : hV H3 332 = hV H0 332 := e52.trans e34
  have e54 : hV H3 341 = hV H2 341 := fRow f36.1.2.1 341 (by decide +kernel)
  have e55 : hV H2 341 = hV H1 341 := fRow f22.1.2.1 341 (by decide +kernel)
  have e56 : hV H2 341 = hV H0 341 := e55.trans e19
  have e57 : hV H3 341 = hV H0 341 := e54.trans e56
  have e58 : (0 : Int) ≤ hV H1 285 18 ∧ hV H1 285 18 ≤ 8 := f8.1.2.2 285 18 _ _ (by decide +kernel)
  have e59 : (0 : Int) ≤ hV H1 285 64 ∧ hV H1 285 64 ≤ 20 := f8.1.2.2 285 64 _ _ (by decide +kernel)
  have e60 : (0 : Int) ≤ hV H1 285 65 ∧ hV H1 285 65 ≤ 2147483647 := f8.1.2.2 285 65 _ _ (by decide +kernel)
  have e61 : (0 : Int) ≤ hV H2 285 64 ∧ hV H2 285 64 ≤ 20 := f22.1.2.2.2 285 64 _ _ (by decide +kernel)
  have e62 : (0 : Int) ≤ hV H2 285 65 ∧ hV H2 285 65 ≤ 2147483647 := f22.1.2.2.2 285 65 _ _ (by decide +kernel)
  have e63 : (0 : Int) ≤ hV H3 285 18 ∧ hV H3 285 18 ≤ 8 := f36.1.2.2.2 285 18 _ _ (by decide +kernel)
  have e64 : (0 : Int) ≤ hV H3 285 64 ∧ hV H3 285 64 ≤ 20 := f36.1.2.2.2 285 64 _ _ (by decide +kernel)
  have e65 : (0 : Int) ≤ hV H3 285 65 ∧ hV H3 285 65 ≤ 2147483647 := f36.1.2.2.2 285 65 _ _ (by decide +kernel)
  try simp only [SO, SS, AC]
  try simp only [e8] at e58
  try simp only [e9] at e59
  try simp only [e21] at e61
  try simp only [e23] at e62
  try simp only [e39] at e63
  try simp only [e41] at e64
  try simp only [e8, e9, e10, e11, e12, e13, e14, e15, e16, e17, e18, e19, e21, e23, e25, e27, e29, e31, e32, e34, e35, e3, e36, e39, e41, e43, e47, e51, e53, e57]
  have y0 := g4.1
  have y1 := g4.2.1
  have y2 := g4.2.2.1
  have y3 := g4.2.2.2.1
  have y4 := g4.2.2.2.2.1
  have y5 := g4.2.2.2.2.2
  have p0 := g3.1
  have p1 := g3.2.1
  have p2 := g3.2.2.1
  have p3 := g3.2.2.2.1
  have p4 := g3.2.2.2.2
  have r0_0 := f22.2.1
  have r0_1 := f22.2.2
  have r1_0 := f36.2.1
  have r1_1 := f36.2.2.1
  have r1_2 := f36.2.2.2.1
  have r1_3 := f36.2.2.2.2.1
  have r1_4 := f36.2.2.2.2.2.1
  have r1_5 := f36.2.2.2.2.2.2
  try simp only [SO] at y0
  try simp only [SS] at y1
  try simp only [AC] at y2
  try simp only [SO] at p0
  try simp only [SS] at p1
  try simp only [AC] at p3
  try simp only [SO] at r1_0
  try simp only [SS] at r1_1
  try simp only [e8, e9, e10, e11, e12, e13, e14, e15, e16, e17, e18, e19] at y0
  try simp only [e8, e9, e10, e11, e12, e13, e14, e15, e16, e17, e18, e19] at y1
  try simp only [e8, e9, e10, e11, e12, e13, e14, e15, e16, e17, e18, e19] at y2
  try simp only [e8, e9, e10, e11, e12, e13, e14, e15, e16, e17, e18, e19] at y3
  try simp only [e8, e9, e10, e11, e12, e13, e14, e15, e16, e17, e18, e19] at y4
  try simp only [e8, e9, e10, e11, e12, e13, e14, e15, e16, e17, e18, e19] at y5
  try simp only [e8, e9, e10, e11, e12, e13, e14, e15, e16, e17, e18, e19] at p0
  try simp only [e8, e9, e10, e11, e12, e13, e14, e15, e16, e17, e18, e19] at p1
  try simp only [e8, e9, e10, e11, e12, e13, e14, e15, e16, e17, e18, e19] at p2
  try simp only [e8, e9, e10, e11, e12, e13, e14, e15, e16, e17, e18, e19] at p3
  try simp only [e8, e9, e10, e11, e12, e13, e14, e15, e16, e17, e18, e19] at p4
  try simp only [e8, e9, e10, e11, e12, e13, e14, e15, e16, e17, e18, e19, e21, e23, e25, e27, e29, e31, e32, e34, e35, e3, e36] at r0_0
  try simp only [e8, e9, e10, e11, e12, e13, e14, e15, e16, e17, e18, e19, e21, e23, e25, e27, e29, e31, e32, e34, e35, e3, e36] at r0_1
  try simp only [e21, e23, e25, e27, e29, e31, e32, e34, e35, e3, e36, e39, e41, e43, e47, e51, e53, e57] at r1_0
  try simp only [e21, e23, e25, e27, e29, e31, e32, e34, e35, e3, e36, e39, e41, e43, e47, e51, e53, e57] at r1_1
  try simp only [e21, e23, e25, e27, e29, e31, e32, e34, e35, e3, e36, e39, e41, e43, e47, e51, e53, e57] at r1_2
  try simp only [e21, e23, e25, e27, e29, e31, e32, e34, e35, e3, e36, e39, e41, e43, e47, e51, e53, e57] at r1_3
  try simp only [e21, e23, e25, e27, e29, e31, e32, e34, e35, e3, e36, e39, e41, e43, e47, e51, e53, e57] at r1_4
  try simp only [e21, e23, e25, e27, e29, e31, e32, e34, e35, e3, e36, e39, e41, e43, e47, e51, e53, e57] at r1_5
  clear g3
  clear g4
  clear f11 f15 f18 f25 f28 f30 f33 e0 e3 e5 e7 e8 e9 e10 e11 e12 e13 e14 e15 e16 e17 e18 e19 e20 e21 e22 e23 e24 e25 e26 e27 e28 e29 e30 e31 e32 e33 e34 e35 e36 e37 e38 e39 e40 e41 e42 e43 e44 e45 e46 e47 e48 e49 e50 e51 e52 e53 e54 e55 e56 e57
  clear f8 f22 f36
  subst e1
  subst e2
  subst e4
  subst e6
  unfold w32 at *
  try have sm := SL_made ((y4 (by omega) (n0).toNat (by omega)).mp (by omega)) NX_made
  try have so := (y0 (n0).toNat (by omega)).2.2.2 (by omega)
  try (have ix0 : n16 = n0 + 1 := (by omega); subst ix0)
  omega
def g_290v_16_15 : vG := ([(10, [17, 4], [], 1), (1, [15, 2, 14], [], 0), (0, [14], [], 0), (35, [13], [], 0), (1283, [13, 1, 4, 10, 12], [2, 3], 0), (90, [13], [], -2147483648), (91, [13], [], 2147483647), (22, [12, 11, 4], [2], 0), (90, [12], [], -1), (91, [12], [], 5), (20, [11, 1], [2], 74), (0, [11], [], 336), (22, [10, 9, 4], [2], 0), (90, [10], [], -1), (91, [10], [], 7), (20, [9, 1], [2], 73), (0, [9], [], 335), (30, [8], [], 0), (1289, [8, 1, 4], [1, 2], 0), (90, [8], [], 0), (91, [8], [], 1), (31, [7], [], 0), (22, [7, 6, 4], [1], 0), (90, [7], [], 0), (91, [7], [], 1), (20, [6, 1], [1], 96), (0, [6], [], 354), (30, [3], [], 0), (42, [4, 5], [], 0), (20, [5, 1], [1], 64), (90, [5], [], 0), (91, [5], [], 20), (5000, [0, 1, 2, 3, 4], [0, 1], 16), (0, [0], [], 285), (0, [1], [], 285), (90, [2], [], -2147483648), (91, [2], [], 2147483647), (90, [3], [], 0), (91, [3], [], 1), (90, [4], [], 0), (91, [4], [], 20)], (91, [17], [], 20))
theorem c_290v_16_15 {q0 : Nat} : vOkm T0 (eP e_290v L_290v A_290v mu_290v (some q0)) 1 g_290v_16_15 := vOk_in fun ρ η h => by
  obtain ⟨f0, f1, f2, f3, f4, f5, f6, f7, f8, f9, f10, f11, f12, f13, f14, f15, f16, f17, f18, f19, f20, f21, f22, f23, f24, f25, f26, f27, f28, f29, f30, f31, f32, f33, f34, f35, f36, f37, f38, f39, f40, _⟩ := h
  exact q_290v_19 (q0 := q0) (n0 := ρ 4) (n1 := ρ 3) (n2 := ρ 2) (n3 := ρ 1) (n4 := ρ 0) (n5 := ρ 5) (n6 := ρ 6) (n7 := ρ 7) (n8 := ρ 8) (n9 := ρ 9) (n10 := ρ 10) (n11 := ρ 11) (n12 := ρ 12) (n13 := ρ 13) (n14 := ρ 14) (n15 := ρ 15) (n16 := ρ 17) (H0 := η 0) (H1 := η 1) (H2 := η 2) (H3 := η 3) f40 f39 f38 f37 f36 f35 f34 f33 f32 f31 f30 f29 f28 f27 f26 f25 f24 f23 f22 f21 f20 f19 f18 f17 f16 f15 f14 f13 f12 f11 f10 f9 f8 f7 f6 f5 f4 f3 f2 f1 f0
theorem q_290v_20 {q0 : Nat} {n0 n1 n2 n3 n4 n5 n6 n7 n8 n9 n10 n11 n12 n13 n14 n15 n16 n17 : Int} {H0 H1 H2 H3 : gH} (f0 : n0 ≤ 20) (f1 : 0 ≤ n0) (f2 : n1 ≤ 1) (f3 : 0 ≤ n1) (f4 : n2 ≤ 2147483647) (f5 : (-2147483648) ≤ n2) (f6 : n3 = 285) (f7 : n4 = 285) (f8 : (hLe T0 H0 H1 ∧ hFr s_290v.2.2.2.2 H0 H1 ∧ hWt T0 H1) ∧ (Ab_290v_16 n4 n3 n2 n1 n0 H0 H1 ∧ preb_290v n4 H0) ∧ some q0 = some (mub_290v_16 n4 n3 n2 n1 n0 H0 H1)) (f9 : n5 ≤ 20) (f10 : 0 ≤ n5) (f11 : n5 = hV H1 (n3).toNat 64) (f12 : n0 < n5) (f13 : n1 = 0) (f14 : n6 = 354) (f15 : n6 = hV H1 (n3).toNat 96) (f16 : n7 ≤ 1) (f17 : 0 ≤ n7) (f18 : n7 = hV H1 (n6).toNat (n0).toNat) (f19 : n7 ≠ 0) (f20 : n8 ≤ 1) (f21 : 0 ≤ n8) (f22 : (hLe T0 H1 H2 ∧ hFr s_289.2.2.2.2 H1 H2 ∧ ((0 : Int) = 0 → H2.length = H1.length) ∧ hWt T0 H2) ∧ postb_289 n8 n3 n0 H1 H2) (f23 : n8 = 0) (f24 : n9 = 335) (f25 : n9 = hV H2 (n3).toNat 73) (f26 : n10 ≤ 7) (f27 : (-1) ≤ n10) (f28 : n10 = hV H2 (n9).toNat (n0).toNat) (f29 : n11 = 336) (f30 : n11 = hV H2 (n3).toNat 74) (f31 : n12 ≤ 5) (f32 : (-1) ≤ n12) (f33 : n12 = hV H2 (n11).toNat (n0).toNat) (f34 : n13 ≤ 2147483647) (f35 : (-2147483648) ≤ n13) (f36 : (hLe T0 H2 H3 ∧ hFr s_283v.2.2.2.2 H2 H3 ∧ ((0 : Int) = 0 → H3.length = H2.length) ∧ hWt T0 H3) ∧ postb_283v n13 n3 n0 n10 n12 H2 H3) (f37 : n13 ≤ 0) (f38 : n14 = 0) (f39 : n15 = w32 (n2 + n14)) (f40 : n16 = 1) (f41 : n17 = w32 (n0 + 1)) : Ab_290v_16 n4 n3 n15 n16 n17 H0 H3 ∧ ∀ q, some q0 = some q → mub_290v_16 n4 n3 n15 n16 n17 H0 H3 < q := by
  have g4 := f8.2.1.1
  unfold Ab_290v_16 at g4
  have g3 := f8.2.1.2
  unfold preb_290v at g3
  have g5 := Option.some.inj f8.2.2
  unfold mub_290v_16 at g5
  unfold postb_289 at f22
  unfold postb_283v at f36
  unfold Ab_290v_16
  unfold mub_290v_16
  have e0 : hV H1 285 64 = hV H0 285 64 := f8.1.2.1.1 285 64 (by decide +kernel)
  have e1 : n5 = hV H0 285 64 := (by rw [f6] at f11; exact f11 : n5 = hV H1 285 64).trans (e0)
  have e2 : n7 = hV H1 354 (n0).toNat := (by rw [f14] at f18; exact f18 : n7 = hV H1 354 (n0).toNat)
  have e3 : hV H2 335 = hV H1 335 := fRow f22.1.2.1 335 (by decide +kernel)
  have e4 : n10 = hV H1 335 (n0).toNat := (by rw [f24] at f28; exact f28 : n10 = hV H2 335 (n0).toNat).trans ((congrFun e3 _))
  have e5 : hV H2 336 = hV H1 336 := fRow f22.1.2.1 336 (by decide +kernel)
  have e6 : n12 = hV H1 336 (n0).toNat := (by rw [f29] at f33; exact f33 : n12 = hV H2 336 (n0).toNat).trans ((congrFun e5 _))
  have e7 : hV H1 285 18 = hV H0 285 18 := f8.1.2.1.1 285 18 (by decide +kernel)
  have e8 : hV H1 285 18 = hV H0 285 18 := e7
  have e9 : hV H1 285 64 = hV H0 285 64 := e0
  have e10 : hV H1 296 = hV H0 296 := fRow f8.1.2.1 296 (by decide +kernel)
  have e11 : hV H1 298 = hV H0 298 := fRow f8.1.2.1 298 (by decide +kernel)
  have e12 : hV H1 300 = hV H0 300 := fRow f8.1.2.1 300 (by decide +kernel)
  have e13 : hV H1 301 = hV H0 301 := fRow f8.1.2.1 301 (by decide +kernel)
  have e14 : hV H1 303 = hV H0 303 := fRow f8.1.2.1 303 (by decide +kernel)
  have e15 : hV H1 328 = hV H0 328 := fRow f8.1.2.1 328 (by decide +kernel)
  have e16 : hV H1 330 = hV H0 330 := fRow f8.1.2.1 330 (by decide +kernel)
  have e17 : hV H1 331 = hV H0 331 := fRow f8.1.2.1 331 (by decide +kernel)
  have e18 : hV H1 332 = hV H0 332 := fRow f8.1.2.1 332 (by decide +kernel)
  have e19 : hV H1 341 = hV H0 341 := fRow f8.1.2.1 341 (by decide +kernel)
  have e20 : hV H2 285 64 = hV H1 285 64 := f22.1.2.1.1 285 64 (by decide +kernel)
  have e21 : hV H2 285 64 = hV H0 285 64 := (e20).trans e0
  have e22 : hV H2 285 65 = hV H1 285 65 := f22.1.2.1.1 285 65 (by decide +kernel)
  have e23 : hV H2 285 65 = hV H1 285 65 := e22
  have e24 : hV H2 296 = hV H1 296 := fRow f22.1.2.1 296 (by decide +kernel)
  have e25 : hV H2 296 = hV H0 296 := e24.trans e10
  have e26 : hV H2 298 = hV H1 298 := fRow f22.1.2.1 298 (by decide +kernel)
  have e27 : hV H2 298 = hV H0 298 := e26.trans e11
  have e28 : hV H2 300 = hV H1 300 := fRow f22.1.2.1 300 (by decide +kernel)
  have e29 : hV H2 300 = hV H0 300 := e28.trans e12
  have e30 : hV H2 328 = hV H1 328 := fRow f22.1.2.1 328 (by decide +kernel)
  have e31 : hV H2 328 = hV H0 328 := e30.trans e15
  have e32 : hV H2 329 = hV H1 329 := fRow f22.1.2.1 329 (by decide +kernel)
  have e33 : hV H2 332 = hV H1 332 := fRow f22.1.2.1 332 (by decide +kernel)
  have e34 : hV H2 332 = hV H0 332 := e33.trans e18
  have e35 : hV H2 333 = hV H1 333 := fRow f22.1.2.1 333 (by decide +kernel)
  have e36 : hV H2 354 = hV H1 354 := fRow f22.1.2.1 354 (by decide +kernel)
  have e37 : hV H3 285 18 = hV H2 285 18 := f36.1.2.1.1 285 18 (by decide +kernel)
  have e38 : hV H2 285 18 = hV H1 285 18 := f22.1.2.1.1 285 18 (by decide +kernel)
  have e39 : hV H3 285 18 = hV H0 285 18 := (e37).trans ((e38).trans e7)
  have e40 : hV H3 285 64 = hV H2 285 64 := f36.1.2.1.1 285 64 (by decide +kernel)
  have e41 : hV H3 285 64 = hV H0 285 64 := (e40).trans ((e20).trans e0)
  have e42 : hV H3 296 = hV H2 296 := fRow f36.1.2.1 296 (by decide +kernel)
  have e43 : hV H3 296 = hV H0 296 := e42.trans e25
  have e44 : hV H3 298 = hV H2 298 := fRow f36.1.2.1 298 (by decide +kernel)
  have e45 : hV H3 298 = hV H0 298 := e44.trans e27
  have e46 : hV H3 300 = hV H2 300 := fRow f36.1.2.1 300 (by decide +kernel)
  have e47 : hV H3 300 = hV H0 300 := e46.trans e29
  have e48 : hV H3 301 = hV H2 301 := fRow f36.1.2.1 301 (by decide +kernel)
  have e49 : hV H2 301 = hV H1 301 := fRow f22.1.2.1 301 (by decide +kernel)
  have e50 : hV H2 301 = hV H0 301 := e49.trans e13
  have e51 : hV H3 301 = hV H0 301 := e48.trans e50
  have e52 : hV H3 303 = hV H2 303 := fRow f36.1.2.1 303 (by decide +kernel)
  have e53 : hV H2 303 = hV H1 303 := fRow f22.1.2.1 303 (by decide +kernel)
  have e54 : hV H2 303 = hV H0 303 := e53.trans e14
  have e55 : hV H3 303 = hV H0 303 := e52.trans e54
  have e56 : hV H3 328 = hV H2 328 := fRow f36.1.2.1 328 (by decide +kernel)
  have e57 : hV H3 328 = hV H0 328 := e56.trans e31
  have e58 : hV H3 330 = hV H2 330 := fRow f36.1.2.1 330 (by decide +kernel)
  have e59 : hV H2 330 = hV H1 330 := fRow f22.1.2.1 330 (by decide +kernel)
  have e60 : hV H2 330 = hV H0 330 := e59.trans e16
  have e61 : hV H3 330 = hV H0 330 := e58.trans e60
  have e62 : hV H3 331 = hV H2 331 := fRow f36.1.2.1 331 (by decide +kernel)
  have e63 : hV H2 331 = hV H1 331 := fRow f22.1.2.1 331 (by decide +kernel)
  have e64 : hV H2 331 = hV H0 331 := e63.trans e17
  have e65 : hV H3 331 = hV H0 331 := e62.trans e64
  have e66 : hV H3 332 = hV H2 332 := fRow f36.1.2.1 332 (by decide +kernel)
  have e67 : hV H3 332 = hV H0 332 := e66.trans e34
  have e68 : hV H3 341 = hV H2 341 := fRow f36.1.2.1 341 (by decide +kernel)
  have e69 : hV H2 341 = hV H1 341 := fRow f22.1.2.1 341 (by decide +kernel)
  have e70 : hV H2 341 = hV H0 341 := e69.trans e19
  have e71 : hV H3 341 = hV H0 341 := e68.trans e70
  have e72 : hV H3 354 = hV H2 354 := fRow f36.1.2.1 354 (by decide +kernel)
  have e73 : hV H3 354 = hV H1 354 := e72.trans e36
  have e74 : (0 : Int) ≤ hV H1 285 18 ∧ hV H1 285 18 ≤ 8 := f8.1.2.2 285 18 _ _ (by decide +kernel)
  have e75 : (0 : Int) ≤ hV H1 285 64 ∧ hV H1 285 64 ≤ 20 := f8.1.2.2 285 64 _ _ (by decide +kernel)
  have e76 : (0 : Int) ≤ hV H1 285 65 ∧ hV H1 285 65 ≤ 2147483647 := f8.1.2.2 285 65 _ _ (by decide +kernel)
  have e77 : (0 : Int) ≤ hV H2 285 64 ∧ hV H2 285 64 ≤ 20 := f22.1.2.2.2 285 64 _ _ (by decide +kernel)
  have e78 : (0 : Int) ≤ hV H2 285 65 ∧ hV H2 285 65 ≤ 2147483647 := f22.1.2.2.2 285 65 _ _ (by decide +kernel)
  have e79 : (0 : Int) ≤ hV H3 285 18 ∧ hV H3 285 18 ≤ 8 := f36.1.2.2.2 285 18 _ _ (by decide +kernel)
  have e80 : (0 : Int) ≤ hV H3 285 64 ∧ hV H3 285 64 ≤ 20 := f36.1.2.2.2 285 64 _ _ (by decide +kernel)
  have e81 : (0 : Int) ≤ hV H3 285 65 ∧ hV H3 285 65 ≤ 2147483647 := f36.1.2.2.2 285 65 _ _ (by decide +kernel)
  try simp only [SO, SS, AC]
  try simp only [e8] at e74
  try simp only [e9] at e75
  try simp only [e21] at e77
  try simp only [e23] at e78
  try simp only [e39] at e79
  try simp only [e41] at e80
  try simp only [e8, e9, e10, e11, e12, e13, e14, e15, e16, e17, e18, e19, e21, e23, e25, e27, e29, e31, e32, e34, e35, e3, e36, e39, e41, e43, e45, e47, e51, e55, e57, e61, e65, e67, e71, e73] at g5
  try simp only [e8, e9, e10, e11, e12, e13, e14, e15, e16, e17, e18, e19, e21, e23, e25, e27, e29, e31, e32, e34, e35, e3, e36, e39, e41, e43, e45, e47, e51, e55, e57, e61, e65, e67, e71, e73]
  have y0 := g4.1
  have y1 := g4.2.1
  have y2 := g4.2.2.1
  have y3 := g4.2.2.2.1
  have y4 := g4.2.2.2.2.1
  have y5 := g4.2.2.2.2.2
  have p0 := g3.1
  have p1 := g3.2.1
  have p2 := g3.2.2.1
  have p3 := g3.2.2.2.1
  have p4 := g3.2.2.2.2
  have r0_0 := f22.2.1
  have r0_1 := f22.2.2
  have r1_0 := f36.2.1
  have r1_1 := f36.2.2.1
  have r1_2 := f36.2.2.2.1
  have r1_3 := f36.2.2.2.2.1
  have r1_4 := f36.2.2.2.2.2.1
  have r1_5 := f36.2.2.2.2.2.2
  try simp only [SO] at y0
  try simp only [SS] at y1
  try simp only [AC] at y2
  try simp only [SO] at p0
  try simp only [SS] at p1
  try simp only [AC] at p3
  try simp only [SO] at r1_0
  try simp only [SS] at r1_1
  try simp only [e8, e9, e10, e11, e12, e13, e14, e15, e16, e17, e18, e19] at y0
  try simp only [e8, e9, e10, e11, e12, e13, e14, e15, e16, e17, e18, e19] at y1
  try simp only [e8, e9, e10, e11, e12, e13, e14, e15, e16, e17, e18, e19] at y2
  try simp only [e8, e9, e10, e11, e12, e13, e14, e15, e16, e17, e18, e19] at y3
  try simp only [e8, e9, e10, e11, e12, e13, e14, e15, e16, e17, e18, e19] at y4
  try simp only [e8, e9, e10, e11, e12, e13, e14, e15, e16, e17, e18, e19] at y5
  try simp only [e8, e9, e10, e11, e12, e13, e14, e15, e16, e17, e18, e19] at p0
  try simp only [e8, e9, e10, e11, e12, e13, e14, e15, e16, e17, e18, e19] at p1
  try simp only [e8, e9, e10, e11, e12, e13, e14, e15, e16, e17, e18, e19] at p2
  try simp only [e8, e9, e10, e11, e12, e13, e14, e15, e16, e17, e18, e19] at p3
  try simp only [e8, e9, e10, e11, e12, e13, e14, e15, e16, e17, e18, e19] at p4
  try simp only [e8, e9, e10, e11, e12, e13, e14, e15, e16, e17, e18, e19, e21, e23, e25, e27, e29, e31, e32, e34, e35, e3, e36] at r0_0
  try simp only [e8, e9, e10, e11, e12, e13, e14, e15, e16, e17, e18, e19, e21, e23, e25, e27, e29, e31, e32, e34, e35, e3, e36] at r0_1
  try simp only [e21, e23, e25, e27, e29, e31, e32, e34, e35, e3, e36, e39, e41, e43, e45, e47, e51, e55, e57, e61, e65, e67, e71, e73] at r1_0
  try simp only [e21, e23, e25, e27, e29, e31, e32, e34, e35, e3, e36, e39, e41, e43, e45, e47, e51, e55, e57, e61, e65, e67, e71, e73] at r1_1
  try simp only [e21, e23, e25, e27, e29, e31, e32, e34, e35, e3, e36, e39, e41, e43, e45, e47, e51, e55, e57, e61, e65, e67, e71, e73] at r1_2
  try simp only [e21, e23, e25, e27, e29, e31, e32, e34, e35, e3, e36, e39, e41, e43, e45, e47, e51, e55, e57, e61, e65, e67, e71, e73] at r1_3
  try simp only [e21, e23, e25, e27, e29, e31, e32, e34, e35, e3, e36, e39, e41, e43, e45, e47, e51, e55, e57, e61, e65, e67, e71, e73] at r1_4
  try simp only [e21, e23, e25, e27, e29, e31, e32, e34, e35, e3, e36, e39, e41, e43, e45, e47, e51, e55, e57, e61, e65, e67, e71, e73] at r1_5
  clear g3
  clear g4
  clear f11 f15 f18 f25 f28 f30 f33 e0 e3 e5 e7 e8 e9 e10 e11 e12 e13 e14 e15 e16 e17 e18 e19 e20 e21 e22 e23 e24 e25 e26 e27 e28 e29 e30 e31 e32 e33 e34 e35 e36 e37 e38 e39 e40 e41 e42 e43 e44 e45 e46 e47 e48 e49 e50 e51 e52 e53 e54 e55 e56 e57 e58 e59 e60 e61 e62 e63 e64 e65 e66 e67 e68 e69 e70 e71 e72 e73
  clear f8 f22 f36
  subst e1
  subst e2
  subst e4
  subst e6
  unfold w32 at *
  try have sm := SL_made ((y4 (by omega) (n0).toNat (by omega)).mp (by omega)) NX_made
  try have so := (y0 (n0).toNat (by omega)).2.2.2 (by omega)
  try (have ix0 : n15 = n2 + 0 := (by omega); subst ix0)
  try (have ix1 : n17 = n0 + 1 := (by omega); subst ix1)

  obtain ⟨sm1, sm2, sm3⟩ := SL_made ((y4 (by omega) (n0).toNat (by omega)).mp (by omega)) NX_made
  have ms := uF_same (f := hV H1 335) (i := n0) (w := hV H1 335 (n0).toNat) rfl
  have e4 := r1_4
  rw [ms] at e4
  have e5 := r1_3
  rw [r1_2] at e5
  have less := SN_less (S := hV H0 285 64) (w := hV H1 285 65 + 1) (i := n0) (by omega) (s := (n0).toNat) (by omega) ((y4 (by omega) (n0).toNat (by omega)).mp (by omega)) (fun k hk hl z => absurd (r0_1 (by omega) k hk hl) ((y4 (by omega) k hk).mpr z)) (Classical.choose_spec y2.2) (by omega) (fun k hk => by have := (y1.1 k hk).1; omega) (fun k hk k6 k0 => by have := MK_le (p2 (hV H1 335 k).toNat (by have := y2.1 k hk k6 k0; omega)) y1 (by omega); omega)
  refine ⟨?_, fun q hq => ?_⟩
  · exact ⟨r1_0, r1_1, (by rw [e4]; exact y2), (by rw [e4, e5]; omega), fun z => by omega, fun s hs => by
      have hq := r1_5 s (fun e => hs (by rw [show s = (n0).toNat by omega]; first | exact sm1 | omega))
      rw [hq]
      exact y5 s hs⟩
  · have g6 := Option.some.inj hq
    subst g6
    rw [e4, e5]
    try clear r0_0
    omega
def g_290v_16_16 : vG := ([(10, [17, 4], [], 1), (0, [16], [], 1), (1, [15, 2, 14], [], 0), (0, [14], [], 0), (35, [13], [], 0), (1283, [13, 1, 4, 10, 12], [2, 3], 0), (90, [13], [], -2147483648), (91, [13], [], 2147483647), (22, [12, 11, 4], [2], 0), (90, [12], [], -1), (91, [12], [], 5), (20, [11, 1], [2], 74), (0, [11], [], 336), (22, [10, 9, 4], [2], 0), (90, [10], [], -1), (91, [10], [], 7), (20, [9, 1], [2], 73), (0, [9], [], 335), (30, [8], [], 0), (1289, [8, 1, 4], [1, 2], 0), (90, [8], [], 0), (91, [8], [], 1), (31, [7], [], 0), (22, [7, 6, 4], [1], 0), (90, [7], [], 0), (91, [7], [], 1), (20, [6, 1], [1], 96), (0, [6], [], 354), (30, [3], [], 0), (42, [4, 5], [], 0), (20, [5, 1], [1], 64), (90, [5], [], 0), (91, [5], [], 20), (5000, [0, 1, 2, 3, 4], [0, 1], 16), (0, [0], [], 285), (0, [1], [], 285), (90, [2], [], -2147483648), (91, [2], [], 2147483647), (90, [3], [], 0), (91, [3], [], 1), (90, [4], [], 0), (91, [4], [], 20)], (4000, [1, 15, 16, 17], [3], 16))
theorem c_290v_16_16 {q0 : Nat} : vOkm T0 (eP e_290v L_290v A_290v mu_290v (some q0)) 1 g_290v_16_16 := vOk_in fun ρ η h => by
  obtain ⟨f0, f1, f2, f3, f4, f5, f6, f7, f8, f9, f10, f11, f12, f13, f14, f15, f16, f17, f18, f19, f20, f21, f22, f23, f24, f25, f26, f27, f28, f29, f30, f31, f32, f33, f34, f35, f36, f37, f38, f39, f40, f41, _⟩ := h
  exact q_290v_20 (q0 := q0) (n0 := ρ 4) (n1 := ρ 3) (n2 := ρ 2) (n3 := ρ 1) (n4 := ρ 0) (n5 := ρ 5) (n6 := ρ 6) (n7 := ρ 7) (n8 := ρ 8) (n9 := ρ 9) (n10 := ρ 10) (n11 := ρ 11) (n12 := ρ 12) (n13 := ρ 13) (n14 := ρ 14) (n15 := ρ 15) (n16 := ρ 16) (n17 := ρ 17) (H0 := η 0) (H1 := η 1) (H2 := η 2) (H3 := η 3) f41 f40 f39 f38 f37 f36 f35 f34 f33 f32 f31 f30 f29 f28 f27 f26 f25 f24 f23 f22 f21 f20 f19 f18 f17 f16 f15 f14 f13 f12 f11 f10 f9 f8 f7 f6 f5 f4 f3 f2 f1 f0
theorem q_290v_21 {q0 : Nat} {n0 n1 n2 n3 n4 n5 n6 n7 n8 n9 n10 n11 n12 n13 n14 n15 n16 : Int} {H0 H1 H2 H3 : gH} (f0 : n0 ≤ 20) (f1 : 0 ≤ n0) (f2 : n1 ≤ 1) (f3 : 0 ≤ n1) (f4 : n2 ≤ 2147483647) (f5 : (-2147483648) ≤ n2) (f6 : n3 = 285) (f7 : n4 = 285) (f8 : (hLe T0 H0 H1 ∧ hFr s_290v.2.2.2.2 H0 H1 ∧ hWt T0 H1) ∧ (Ab_290v_16 n4 n3 n2 n1 n0 H0 H1 ∧ preb_290v n4 H0) ∧ some q0 = some (mub_290v_16 n4 n3 n2 n1 n0 H0 H1)) (f9 : n5 ≤ 20) (f10 : 0 ≤ n5) (f11 : n5 = hV H1 (n3).toNat 64) (f12 : n0 < n5) (f13 : n1 = 0) (f14 : n6 = 354) (f15 : n6 = hV H1 (n3).toNat 96) (f16 : n7 ≤ 1) (f17 : 0 ≤ n7) (f18 : n7 = hV H1 (n6).toNat (n0).toNat) (f19 : n7 ≠ 0) (f20 : n8 ≤ 1) (f21 : 0 ≤ n8) (f22 : (hLe T0 H1 H2 ∧ hFr s_289.2.2.2.2 H1 H2 ∧ ((0 : Int) = 0 → H2.length = H1.length) ∧ hWt T0 H2) ∧ postb_289 n8 n3 n0 H1 H2) (f23 : n8 = 0) (f24 : n9 = 335) (f25 : n9 = hV H2 (n3).toNat 73) (f26 : n10 ≤ 7) (f27 : (-1) ≤ n10) (f28 : n10 = hV H2 (n9).toNat (n0).toNat) (f29 : n11 = 336) (f30 : n11 = hV H2 (n3).toNat 74) (f31 : n12 ≤ 5) (f32 : (-1) ≤ n12) (f33 : n12 = hV H2 (n11).toNat (n0).toNat) (f34 : n13 ≤ 2147483647) (f35 : (-2147483648) ≤ n13) (f36 : (hLe T0 H2 H3 ∧ hFr s_283v.2.2.2.2 H2 H3 ∧ ((0 : Int) = 0 → H3.length = H2.length) ∧ hWt T0 H3) ∧ postb_283v n13 n3 n0 n10 n12 H2 H3) (f37 : 0 < n13) (f38 : n14 = 1) (f39 : n15 = w32 (n2 + n14)) (f40 : n16 = w32 (n0 + 1)) : 0 ≤ n16 := by
  have g4 := f8.2.1.1
  unfold Ab_290v_16 at g4
  have g3 := f8.2.1.2
  unfold preb_290v at g3
  unfold postb_289 at f22
  unfold postb_283v at f36
  have e0 : hV H1 285 64 = hV H0 285 64 := f8.1.2.1.1 285 64 (by decide +kernel)
  have e1 : n5 = hV H0 285 64 := (by rw [f6] at f11; exact f11 : n5 = hV H1 285 64).trans (e0)
  have e2 : n7 = hV H1 354 (n0).toNat := (by rw [f14] at f18; exact f18 : n7 = hV H1 354 (n0).toNat)
  have e3 : hV H2 335 = hV H1 335 := fRow f22.1.2.1 335 (by decide +kernel)
  have e4 : n10 = hV H1 335 (n0).toNat := (by rw [f24] at f28; exact f28 : n10 = hV H2 335 (n0).toNat).trans ((congrFun e3 _))
  have e5 : hV H2 336 = hV H1 336 := fRow f22.1.2.1 336 (by decide +kernel)
  have e6 : n12 = hV H1 336 (n0).toNat := (by rw [f29] at f33; exact f33 : n12 = hV H2 336 (n0).toNat).trans ((congrFun e5 _))
  have e7 : hV H1 285 18 = hV H0 285 18 := f8.1.2.1.1 285 18 (by decide +kernel)
  have e8 : hV H1 285 18 = hV H0 285 18 := e7
  have e9 : hV H1 285 64 = hV H0 285 64 := e0
  have e10 : hV H1 296 = hV H0 296 := fRow f8.1.2.1 296 (by decide +kernel)
  have e11 : hV H1 298 = hV H0 298 := fRow f8.1.2.1 298 (by decide +kernel)
  have e12 : hV H1 300 = hV H0 300 := fRow f8.1.2.1 300 (by decide +kernel)
  have e13 : hV H1 301 = hV H0 301 := fRow f8.1.2.1 301 (by decide +kernel)
  have e14 : hV H1 303 = hV H0 303 := fRow f8.1.2.1 303 (by decide +kernel)
  have e15 : hV H1 328 = hV H0 328 := fRow f8.1.2.1 328 (by decide +kernel)
  have e16 : hV H1 330 = hV H0 330 := fRow f8.1.2.1 330 (by decide +kernel)
  have e17 : hV H1 331 = hV H0 331 := fRow f8.1.2.1 331 (by decide +kernel)
  have e18 : hV H1 332 = hV H0 332 := fRow f8.1.2.1 332 (by decide +kernel)
  have e19 : hV H1 341 = hV H0 341 := fRow f8.1.2.1 341 (by decide +kernel)
  have e20 : hV H2 285 64 = hV H1 285 64 := f22.1.2.1.1 285 64 (by decide +kernel)
  have e21 : hV H2 285 64 = hV H0 285 64 := (e20).trans e0
  have e22 : hV H2 285 65 = hV H1 285 65 := f22.1.2.1.1 285 65 (by decide +kernel)
  have e23 : hV H2 285 65 = hV H1 285 65 := e22
  have e24 : hV H2 296 = hV H1 296 := fRow f22.1.2.1 296 (by decide +kernel)
  have e25 : hV H2 296 = hV H0 296 := e24.trans e10
  have e26 : hV H2 298 = hV H1 298 := fRow f22.1.2.1 298 (by decide +kernel)
  have e27 : hV H2 298 = hV H0 298 := e26.trans e11
  have e28 : hV H2 300 = hV H1 300 := fRow f22.1.2.1 300 (by decide +kernel)
  have e29 : hV H2 300 = hV H0 300 := e28.trans e12
  have e30 : hV H2 328 = hV H1 328 := fRow f22.1.2.1 328 (by decide +kernel)
  have e31 : hV H2 328 = hV H0 328 := e30.trans e15
  have e32 : hV H2 329 = hV H1 329 := fRow f22.1.2.1 329 (by decide +kernel)
  have e33 : hV H2 332 = hV H1 332 := fRow f22.1.2.1 332 (by decide +kernel)
  have e34 : hV H2 332 = hV H0 332 := e33.trans e18
  have e35 : hV H2 333 = hV H1 333 := fRow f22.1.2.1 333 (by decide +kernel)
  have e36 : hV H2 354 = hV H1 354 := fRow f22.1.2.1 354 (by decide +kernel)
  have e37 : hV H3 285 18 = hV H2 285 18 := f36.1.2.1.1 285 18 (by decide +kernel)
  have e38 : hV H2 285 18 = hV H1 285 18 := f22.1.2.1.1 285 18 (by decide +kernel)
  have e39 : hV H3 285 18 = hV H0 285 18 := (e37).trans ((e38).trans e7)
  have e40 : hV H3 285 64 = hV H2 285 64 := f36.1.2.1.1 285 64 (by decide +kernel)
  have e41 : hV H3 285 64 = hV H0 285 64 := (e40).trans ((e20).trans e0)
  have e42 : hV H3 328 = hV H2 328 := fRow f36.1.2.1 328 (by decide +kernel)
  have e43 : hV H3 328 = hV H0 328 := e42.trans e31
  have e44 : hV H3 330 = hV H2 330 := fRow f36.1.2.1 330 (by decide +kernel)
  have e45 : hV H2 330 = hV H1 330 := fRow f22.1.2.1 330 (by decide +kernel)
  have e46 : hV H2 330 = hV H0 330 := e45.trans e16
  have e47 : hV H3 330 = hV H0 330 := e44.trans e46
  have e48 : hV H3 331 = hV H2 331 := fRow f36.1.2.1 331 (by decide +kernel)
  have e49 : hV H2 331 = hV H1 331 := fRow f22.1.2.1 331 (by decide +kernel)
  have e50 : hV H2 331 = hV H0 331 := e49.trans e17
  have e51 : hV H3 331 = hV H0 331 := e48.trans e50
  have e52 : hV H3 332 = hV H2 332 := fRow f36.1.2.1 332 (by decide +kernel)
  have e53 : hV H3 332 = hV H0 332 := e52.trans e34
  have e54 : hV H3 341 = hV H2 341 := fRow f36.1.2.1 341 (by decide +kernel)
  have e55 : hV H2 341 = hV H1 341 := fRow f22.1.2.1 341 (by decide +kernel)
  have e56 : hV H2 341 = hV H0 341 := e55.trans e19
  have e57 : hV H3 341 = hV H0 341 := e54.trans e56
  have e58 : (0 : Int) ≤ hV H1 285 18 ∧ hV H1 285 18 ≤ 8 := f8.1.2.2 285 18 _ _ (by decide +kernel)
  have e59 : (0 : Int) ≤ hV H1 285 64 ∧ hV H1 285 64 ≤ 20 := f8.1.2.2 285 64 _ _ (by decide +kernel)
  have e60 : (0 : Int) ≤ hV H1 285 65 ∧ hV H1 285 65 ≤ 2147483647 := f8.1.2.2 285 65 _ _ (by decide +kernel)
  have e61 : (0 : Int) ≤ hV H2 285 64 ∧ hV H2 285 64 ≤ 20 := f22.1.2.2.2 285 64 _ _ (by decide +kernel)
  have e62 : (0 : Int) ≤ hV H2 285 65 ∧ hV H2 285 65 ≤ 2147483647 := f22.1.2.2.2 285 65 _ _ (by decide +kernel)
  have e63 : (0 : Int) ≤ hV H3 285 18 ∧ hV H3 285 18 ≤ 8 := f36.1.2.2.2 285 18 _ _ (by decide +kernel)
  have e64 : (0 : Int) ≤ hV H3 285 64 ∧ hV H3 285 64 ≤ 20 := f36.1.2.2.2 285 64 _ _ (by decide +kernel)
  have e65 : (0 : Int) ≤ hV H3 285 65 ∧ hV H3 285 65 ≤ 2147483647 := f36.1.2.2.2 285 65 _ _ (by decide +kernel)
  try simp only [SO, SS, AC]
  try simp only [e8] at e58
  try simp only [e9] at e59
  try simp only [e21] at e61
  try simp only [e23] at e62
  try simp only [e39] at e63
  try simp only [e41] at e64
  try simp only [e8, e9, e10, e11, e12, e13, e14, e15, e16, e17, e18, e19, e21, e23, e25, e27, e29, e31, e32, e34, e35, e3, e36, e39, e41, e43, e47, e51, e53, e57]
  have y0 := g4.1
  have y1 := g4.2.1
  have y2 := g4.2.2.1
  have y3 := g4.2.2.2.1
  have y4 := g4.2.2.2.2.1
  have y5 := g4.2.2.2.2.2
  have p0 := g3.1
  have p1 := g3.2.1
  have p2 := g3.2.2.1
  have p3 := g3.2.2.2.1
  have p4 := g3.2.2.2.2
  have r0_0 := f22.2.1
  have r0_1 := f22.2.2
  have r1_0 := f36.2.1
  have r1_1 := f36.2.2.1
  have r1_2 := f36.2.2.2.1
  have r1_3 := f36.2.2.2.2.1
  have r1_4 := f36.2.2.2.2.2.1
  have r1_5 := f36.2.2.2.2.2.2
  try simp only [SO] at y0
  try simp only [SS] at y1
  try simp only [AC] at y2
  try simp only [SO] at p0
  try simp only [SS] at p1
  try simp only [AC] at p3
  try simp only [SO] at r1_0
  try simp only [SS] at r1_1
  try simp only [e8, e9, e10, e11, e12, e13, e14, e15, e16, e17, e18, e19] at y0
  try simp only [e8, e9, e10, e11, e12, e13, e14, e15, e16, e17, e18, e19] at y1
  try simp only [e8, e9, e10, e11, e12, e13, e14, e15, e16, e17, e18, e19] at y2
  try simp only [e8, e9, e10, e11, e12, e13, e14, e15, e16, e17, e18, e19] at y3
  try simp only [e8, e9, e10, e11, e12, e13, e14, e15, e16, e17, e18, e19] at y4
  try simp only [e8, e9, e10, e11, e12, e13, e14, e15, e16, e17, e18, e19] at y5
  try simp only [e8, e9, e10, e11, e12, e13, e14, e15, e16, e17, e18, e19] at p0
  try simp only [e8, e9, e10, e11, e12, e13, e14, e15, e16, e17, e18, e19] at p1
  try simp only [e8, e9, e10, e11, e12, e13, e14, e15, e16, e17, e18, e19] at p2
  try simp only [e8, e9, e10, e11, e12, e13, e14, e15, e16, e17, e18, e19] at p3
  try simp only [e8, e9, e10, e11, e12, e13, e14, e15, e16, e17, e18, e19] at p4
  try simp only [e8, e9, e10, e11, e12, e13, e14, e15, e16, e17, e18, e19, e21, e23, e25, e27, e29, e31, e32, e34, e35, e3, e36] at r0_0
  try simp only [e8, e9, e10, e11, e12, e13, e14, e15, e16, e17, e18, e19, e21, e23, e25, e27, e29, e31, e32, e34, e35, e3, e36] at r0_1
  try simp only [e21, e23, e25, e27, e29, e31, e32, e34, e35, e3, e36, e39, e41, e43, e47, e51, e53, e57] at r1_0
  try simp only [e21, e23, e25, e27, e29, e31, e32, e34, e35, e3, e36, e39, e41, e43, e47, e51, e53, e57] at r1_1
  try simp only [e21, e23, e25, e27, e29, e31, e32, e34, e35, e3, e36, e39, e41, e43, e47, e51, e53, e57] at r1_2
  try simp only [e21, e23, e25, e27, e29, e31, e32, e34, e35, e3, e36, e39, e41, e43, e47, e51, e53, e57] at r1_3
  try simp only [e21, e23, e25, e27, e29, e31, e32, e34, e35, e3, e36, e39, e41, e43, e47, e51, e53, e57] at r1_4
  try simp only [e21, e23, e25, e27, e29, e31, e32, e34, e35, e3, e36, e39, e41, e43, e47, e51, e53, e57] at r1_5
  clear g3
  clear g4
  clear f11 f15 f18 f25 f28 f30 f33 e0 e3 e5 e7 e8 e9 e10 e11 e12 e13 e14 e15 e16 e17 e18 e19 e20 e21 e22 e23 e24 e25 e26 e27 e28 e29 e30 e31 e32 e33 e34 e35 e36 e37 e38 e39 e40 e41 e42 e43 e44 e45 e46 e47 e48 e49 e50 e51 e52 e53 e54 e55 e56 e57
  clear f8 f22 f36
  subst e1
  subst e2
  subst e4
  subst e6
  unfold w32 at *
  try have sm := SL_made ((y4 (by omega) (n0).toNat (by omega)).mp (by omega)) NX_made
  try have so := (y0 (n0).toNat (by omega)).2.2.2 (by omega)
  try (have ix0 : n16 = n0 + 1 := (by omega); subst ix0)
  omega
def g_290v_16_17 : vG := ([(10, [17, 4], [], 1), (1, [15, 2, 14], [], 0), (0, [14], [], 1), (34, [13], [], 0), (1283, [13, 1, 4, 10, 12], [2, 3], 0), (90, [13], [], -2147483648), (91, [13], [], 2147483647), (22, [12, 11, 4], [2], 0), (90, [12], [], -1), (91, [12], [], 5), (20, [11, 1], [2], 74), (0, [11], [], 336), (22, [10, 9, 4], [2], 0), (90, [10], [], -1), (91, [10], [], 7), (20, [9, 1], [2], 73), (0, [9], [], 335), (30, [8], [], 0), (1289, [8, 1, 4], [1, 2], 0), (90, [8], [], 0), (91, [8], [], 1), (31, [7], [], 0), (22, [7, 6, 4], [1], 0), (90, [7], [], 0), (91, [7], [], 1), (20, [6, 1], [1], 96), (0, [6], [], 354), (30, [3], [], 0), (42, [4, 5], [], 0), (20, [5, 1], [1], 64), (90, [5], [], 0), (91, [5], [], 20), (5000, [0, 1, 2, 3, 4], [0, 1], 16), (0, [0], [], 285), (0, [1], [], 285), (90, [2], [], -2147483648), (91, [2], [], 2147483647), (90, [3], [], 0), (91, [3], [], 1), (90, [4], [], 0), (91, [4], [], 20)], (90, [17], [], 0))
theorem c_290v_16_17 {q0 : Nat} : vOkm T0 (eP e_290v L_290v A_290v mu_290v (some q0)) 1 g_290v_16_17 := vOk_in fun ρ η h => by
  obtain ⟨f0, f1, f2, f3, f4, f5, f6, f7, f8, f9, f10, f11, f12, f13, f14, f15, f16, f17, f18, f19, f20, f21, f22, f23, f24, f25, f26, f27, f28, f29, f30, f31, f32, f33, f34, f35, f36, f37, f38, f39, f40, _⟩ := h
  exact q_290v_21 (q0 := q0) (n0 := ρ 4) (n1 := ρ 3) (n2 := ρ 2) (n3 := ρ 1) (n4 := ρ 0) (n5 := ρ 5) (n6 := ρ 6) (n7 := ρ 7) (n8 := ρ 8) (n9 := ρ 9) (n10 := ρ 10) (n11 := ρ 11) (n12 := ρ 12) (n13 := ρ 13) (n14 := ρ 14) (n15 := ρ 15) (n16 := ρ 17) (H0 := η 0) (H1 := η 1) (H2 := η 2) (H3 := η 3) f40 f39 f38 f37 f36 f35 f34 f33 f32 f31 f30 f29 f28 f27 f26 f25 f24 f23 f22 f21 f20 f19 f18 f17 f16 f15 f14 f13 f12 f11 f10 f9 f8 f7 f6 f5 f4 f3 f2 f1 f0
theorem q_290v_22 {q0 : Nat} {n0 n1 n2 n3 n4 n5 n6 n7 n8 n9 n10 n11 n12 n13 n14 n15 n16 : Int} {H0 H1 H2 H3 : gH} (f0 : n0 ≤ 20) (f1 : 0 ≤ n0) (f2 : n1 ≤ 1) (f3 : 0 ≤ n1) (f4 : n2 ≤ 2147483647) (f5 : (-2147483648) ≤ n2) (f6 : n3 = 285) (f7 : n4 = 285) (f8 : (hLe T0 H0 H1 ∧ hFr s_290v.2.2.2.2 H0 H1 ∧ hWt T0 H1) ∧ (Ab_290v_16 n4 n3 n2 n1 n0 H0 H1 ∧ preb_290v n4 H0) ∧ some q0 = some (mub_290v_16 n4 n3 n2 n1 n0 H0 H1)) (f9 : n5 ≤ 20) (f10 : 0 ≤ n5) (f11 : n5 = hV H1 (n3).toNat 64) (f12 : n0 < n5) (f13 : n1 = 0) (f14 : n6 = 354) (f15 : n6 = hV H1 (n3).toNat 96) (f16 : n7 ≤ 1) (f17 : 0 ≤ n7) (f18 : n7 = hV H1 (n6).toNat (n0).toNat) (f19 : n7 ≠ 0) (f20 : n8 ≤ 1) (f21 : 0 ≤ n8) (f22 : (hLe T0 H1 H2 ∧ hFr s_289.2.2.2.2 H1 H2 ∧ ((0 : Int) = 0 → H2.length = H1.length) ∧ hWt T0 H2) ∧ postb_289 n8 n3 n0 H1 H2) (f23 : n8 = 0) (f24 : n9 = 335) (f25 : n9 = hV H2 (n3).toNat 73) (f26 : n10 ≤ 7) (f27 : (-1) ≤ n10) (f28 : n10 = hV H2 (n9).toNat (n0).toNat) (f29 : n11 = 336) (f30 : n11 = hV H2 (n3).toNat 74) (f31 : n12 ≤ 5) (f32 : (-1) ≤ n12) (f33 : n12 = hV H2 (n11).toNat (n0).toNat) (f34 : n13 ≤ 2147483647) (f35 : (-2147483648) ≤ n13) (f36 : (hLe T0 H2 H3 ∧ hFr s_283v.2.2.2.2 H2 H3 ∧ ((0 : Int) = 0 → H3.length = H2.length) ∧ hWt T0 H3) ∧ postb_283v n13 n3 n0 n10 n12 H2 H3) (f37 : 0 < n13) (f38 : n14 = 1) (f39 : n15 = w32 (n2 + n14)) (f40 : n16 = w32 (n0 + 1)) : n16 ≤ 20 := by
  have g4 := f8.2.1.1
  unfold Ab_290v_16 at g4
  have g3 := f8.2.1.2
  unfold preb_290v at g3
  unfold postb_289 at f22
  unfold postb_283v at f36
  have e0 : hV H1 285 64 = hV H0 285 64 := f8.1.2.1.1 285 64 (by decide +kernel)
  have e1 : n5 = hV H0 285 64 := (by rw [f6] at f11; exact f11 : n5 = hV H1 285 64).trans (e0)
  have e2 : n7 = hV H1 354 (n0).toNat := (by rw [f14] at f18; exact f18 : n7 = hV H1 354 (n0).toNat)
  have e3 : hV H2 335 = hV H1 335 := fRow f22.1.2.1 335 (by decide +kernel)
  have e4 : n10 = hV H1 335 (n0).toNat := (by rw [f24] at f28; exact f28 : n10 = hV H2 335 (n0).toNat).trans ((congrFun e3 _))
  have e5 : hV H2 336 = hV H1 336 := fRow f22.1.2.1 336 (by decide +kernel)
  have e6 : n12 = hV H1 336 (n0).toNat := (by rw [f29] at f33; exact f33 : n12 = hV H2 336 (n0).toNat).trans ((congrFun e5 _))
  have e7 : hV H1 285 18 = hV H0 285 18 := f8.1.2.1.1 285 18 (by decide +kernel)
  have e8 : hV H1 285 18 = hV H0 285 18 := e7
  have e9 : hV H1 285 64 = hV H0 285 64 := e0
  have e10 : hV H1 296 = hV H0 296 := fRow f8.1.2.1 296 (by decide +kernel)
  have e11 : hV H1 298 = hV H0 298 := fRow f8.1.2.1 298 (by decide +kernel)
  have e12 : hV H1 300 = hV H0 300 := fRow f8.1.2.1 300 (by decide +kernel)
  have e13 : hV H1 301 = hV H0 301 := fRow f8.1.2.1 301 (by decide +kernel)
  have e14 : hV H1 303 = hV H0 303 := fRow f8.1.2.1 303 (by decide +kernel)
  have e15 : hV H1 328 = hV H0 328 := fRow f8.1.2.1 328 (by decide +kernel)
  have e16 : hV H1 330 = hV H0 330 := fRow f8.1.2.1 330 (by decide +kernel)
  have e17 : hV H1 331 = hV H0 331 := fRow f8.1.2.1 331 (by decide +kernel)
  have e18 : hV H1 332 = hV H0 332 := fRow f8.1.2.1 332 (by decide +kernel)
  have e19 : hV H1 341 = hV H0 341 := fRow f8.1.2.1 341 (by decide +kernel)
  have e20 : hV H2 285 64 = hV H1 285 64 := f22.1.2.1.1 285 64 (by decide +kernel)
  have e21 : hV H2 285 64 = hV H0 285 64 := (e20).trans e0
  have e22 : hV H2 285 65 = hV H1 285 65 := f22.1.2.1.1 285 65 (by decide +kernel)
  have e23 : hV H2 285 65 = hV H1 285 65 := e22
  have e24 : hV H2 296 = hV H1 296 := fRow f22.1.2.1 296 (by decide +kernel)
  have e25 : hV H2 296 = hV H0 296 := e24.trans e10
  have e26 : hV H2 298 = hV H1 298 := fRow f22.1.2.1 298 (by decide +kernel)
  have e27 : hV H2 298 = hV H0 298 := e26.trans e11
  have e28 : hV H2 300 = hV H1 300 := fRow f22.1.2.1 300 (by decide +kernel)
  have e29 : hV H2 300 = hV H0 300 := e28.trans e12
  have e30 : hV H2 328 = hV H1 328 := fRow f22.1.2.1 328 (by decide +kernel)
  have e31 : hV H2 328 = hV H0 328 := e30.trans e15
  have e32 : hV H2 329 = hV H1 329 := fRow f22.1.2.1 329 (by decide +kernel)
  have e33 : hV H2 332 = hV H1 332 := fRow f22.1.2.1 332 (by decide +kernel)
  have e34 : hV H2 332 = hV H0 332 := e33.trans e18
  have e35 : hV H2 333 = hV H1 333 := fRow f22.1.2.1 333 (by decide +kernel)
  have e36 : hV H2 354 = hV H1 354 := fRow f22.1.2.1 354 (by decide +kernel)
  have e37 : hV H3 285 18 = hV H2 285 18 := f36.1.2.1.1 285 18 (by decide +kernel)
  have e38 : hV H2 285 18 = hV H1 285 18 := f22.1.2.1.1 285 18 (by decide +kernel)
  have e39 : hV H3 285 18 = hV H0 285 18 := (e37).trans ((e38).trans e7)
  have e40 : hV H3 285 64 = hV H2 285 64 := f36.1.2.1.1 285 64 (by decide +kernel)
  have e41 : hV H3 285 64 = hV H0 285 64 := (e40).trans ((e20).trans e0)
  have e42 : hV H3 328 = hV H2 328 := fRow f36.1.2.1 328 (by decide +kernel)
  have e43 : hV H3 328 = hV H0 328 := e42.trans e31
  have e44 : hV H3 330 = hV H2 330 := fRow f36.1.2.1 330 (by decide +kernel)
  have e45 : hV H2 330 = hV H1 330 := fRow f22.1.2.1 330 (by decide +kernel)
  have e46 : hV H2 330 = hV H0 330 := e45.trans e16
  have e47 : hV H3 330 = hV H0 330 := e44.trans e46
  have e48 : hV H3 331 = hV H2 331 := fRow f36.1.2.1 331 (by decide +kernel)
  have e49 : hV H2 331 = hV H1 331 := fRow f22.1.2.1 331 (by decide +kernel)
  have e50 : hV H2 331 = hV H0 331 := e49.trans e17
  have e51 : hV H3 331 = hV H0 331 := e48.trans e50
  have e52 : hV H3 332 = hV H2 332 := fRow f36.1.2.1 332 (by decide +kernel)
  have e53 : hV H3 332 = hV H0 332 := e52.trans e34
  have e54 : hV H3 341 = hV H2 341 := fRow f36.1.2.1 341 (by decide +kernel)
  have e55 : hV H2 341 = hV H1 341 := fRow f22.1.2.1 341 (by decide +kernel)
  have e56 : hV H2 341 = hV H0 341 := e55.trans e19
  have e57 : hV H3 341 = hV H0 341 := e54.trans e56
  have e58 : (0 : Int) ≤ hV H1 285 18 ∧ hV H1 285 18 ≤ 8 := f8.1.2.2 285 18 _ _ (by decide +kernel)
  have e59 : (0 : Int) ≤ hV H1 285 64 ∧ hV H1 285 64 ≤ 20 := f8.1.2.2 285 64 _ _ (by decide +kernel)
  have e60 : (0 : Int) ≤ hV H1 285 65 ∧ hV H1 285 65 ≤ 2147483647 := f8.1.2.2 285 65 _ _ (by decide +kernel)
  have e61 : (0 : Int) ≤ hV H2 285 64 ∧ hV H2 285 64 ≤ 20 := f22.1.2.2.2 285 64 _ _ (by decide +kernel)
  have e62 : (0 : Int) ≤ hV H2 285 65 ∧ hV H2 285 65 ≤ 2147483647 := f22.1.2.2.2 285 65 _ _ (by decide +kernel)
  have e63 : (0 : Int) ≤ hV H3 285 18 ∧ hV H3 285 18 ≤ 8 := f36.1.2.2.2 285 18 _ _ (by decide +kernel)
  have e64 : (0 : Int) ≤ hV H3 285 64 ∧ hV H3 285 64 ≤ 20 := f36.1.2.2.2 285 64 _ _ (by decide +kernel)
  have e65 : (0 : Int) ≤ hV H3 285 65 ∧ hV H3 285 65 ≤ 2147483647 := f36.1.2.2.2 285 65 _ _ (by decide +kernel)
  try simp only [SO, SS, AC]
  try simp only [e8] at e58
  try simp only [e9] at e59
  try simp only [e21] at e61
  try simp only [e23] at e62
  try simp only [e39] at e63
  try simp only [e41] at e64
  try simp only [e8, e9, e10, e11, e12, e13, e14, e15, e16, e17, e18, e19, e21, e23, e25, e27, e29, e31, e32, e34, e35, e3, e36, e39, e41, e43, e47, e51, e53, e57]
  have y0 := g4.1
  have y1 := g4.2.1
  have y2 := g4.2.2.1
  have y3 := g4.2.2.2.1
  have y4 := g4.2.2.2.2.1
  have y5 := g4.2.2.2.2.2
  have p0 := g3.1
  have p1 := g3.2.1
  have p2 := g3.2.2.1
  have p3 := g3.2.2.2.1
  have p4 := g3.2.2.2.2
  have r0_0 := f22.2.1
  have r0_1 := f22.2.2
  have r1_0 := f36.2.1
  have r1_1 := f36.2.2.1
  have r1_2 := f36.2.2.2.1
  have r1_3 := f36.2.2.2.2.1
  have r1_4 := f36.2.2.2.2.2.1
  have r1_5 := f36.2.2.2.2.2.2
  try simp only [SO] at y0
  try simp only [SS] at y1
  try simp only [AC] at y2
  try simp only [SO] at p0
  try simp only [SS] at p1
  try simp only [AC] at p3
  try simp only [SO] at r1_0
  try simp only [SS] at r1_1
  try simp only [e8, e9, e10, e11, e12, e13, e14, e15, e16, e17, e18, e19] at y0
  try simp only [e8, e9, e10, e11, e12, e13, e14, e15, e16, e17, e18, e19] at y1
  try simp only [e8, e9, e10, e11, e12, e13, e14, e15, e16, e17, e18, e19] at y2
  try simp only [e8, e9, e10, e11, e12, e13, e14, e15, e16, e17, e18, e19] at y3
  try simp only [e8, e9, e10, e11, e12, e13, e14, e15, e16, e17, e18, e19] at y4
  try simp only [e8, e9, e10, e11, e12, e13, e14, e15, e16, e17, e18, e19] at y5
  try simp only [e8, e9, e10, e11, e12, e13, e14, e15, e16, e17, e18, e19] at p0
  try simp only [e8, e9, e10, e11, e12, e13, e14, e15, e16, e17, e18, e19] at p1
  try simp only [e8, e9, e10, e11, e12, e13, e14, e15, e16, e17, e18, e19] at p2
  try simp only [e8, e9, e10, e11, e12, e13, e14, e15, e16, e17, e18, e19] at p3
  try simp only [e8, e9, e10, e11, e12, e13, e14, e15, e16, e17, e18, e19] at p4
  try simp only [e8, e9, e10, e11, e12, e13, e14, e15, e16, e17, e18, e19, e21, e23, e25, e27, e29, e31, e32, e34, e35, e3, e36] at r0_0
  try simp only [e8, e9, e10, e11, e12, e13, e14, e15, e16, e17, e18, e19, e21, e23, e25, e27, e29, e31, e32, e34, e35, e3, e36] at r0_1
  try simp only [e21, e23, e25, e27, e29, e31, e32, e34, e35, e3, e36, e39, e41, e43, e47, e51, e53, e57] at r1_0
  try simp only [e21, e23, e25, e27, e29, e31, e32, e34, e35, e3, e36, e39, e41, e43, e47, e51, e53, e57] at r1_1
  try simp only [e21, e23, e25, e27, e29, e31, e32, e34, e35, e3, e36, e39, e41, e43, e47, e51, e53, e57] at r1_2
  try simp only [e21, e23, e25, e27, e29, e31, e32, e34, e35, e3, e36, e39, e41, e43, e47, e51, e53, e57] at r1_3
  try simp only [e21, e23, e25, e27, e29, e31, e32, e34, e35, e3, e36, e39, e41, e43, e47, e51, e53, e57] at r1_4
  try simp only [e21, e23, e25, e27, e29, e31, e32, e34, e35, e3, e36, e39, e41, e43, e47, e51, e53, e57] at r1_5
  clear g3
  clear g4
  clear f11 f15 f18 f25 f28 f30 f33 e0 e3 e5 e7 e8 e9 e10 e11 e12 e13 e14 e15 e16 e17 e18 e19 e20 e21 e22 e23 e24 e25 e26 e27 e28 e29 e30 e31 e32 e33 e34 e35 e36 e37 e38 e39 e40 e41 e42 e43 e44 e45 e46 e47 e48 e49 e50 e51 e52 e53 e54 e55 e56 e57
  clear f8 f22 f36
  subst e1
  subst e2
  subst e4
  subst e6
  unfold w32 at *
  try have sm := SL_made ((y4 (by omega) (n0).toNat (by omega)).mp (by omega)) NX_made
  try have so := (y0 (n0).toNat (by omega)).2.2.2 (by omega)
  try (have ix0 : n16 = n0 + 1 := (by omega); subst ix0)
  omega
def g_290v_16_18 : vG := ([(10, [17, 4], [], 1), (1, [15, 2, 14], [], 0), (0, [14], [], 1), (34, [13], [], 0), (1283, [13, 1, 4, 10, 12], [2, 3], 0), (90, [13], [], -2147483648), (91, [13], [], 2147483647), (22, [12, 11, 4], [2], 0), (90, [12], [], -1), (91, [12], [], 5), (20, [11, 1], [2], 74), (0, [11], [], 336), (22, [10, 9, 4], [2], 0), (90, [10], [], -1), (91, [10], [], 7), (20, [9, 1], [2], 73), (0, [9], [], 335), (30, [8], [], 0), (1289, [8, 1, 4], [1, 2], 0), (90, [8], [], 0), (91, [8], [], 1), (31, [7], [], 0), (22, [7, 6, 4], [1], 0), (90, [7], [], 0), (91, [7], [], 1), (20, [6, 1], [1], 96), (0, [6], [], 354), (30, [3], [], 0), (42, [4, 5], [], 0), (20, [5, 1], [1], 64), (90, [5], [], 0), (91, [5], [], 20), (5000, [0, 1, 2, 3, 4], [0, 1], 16), (0, [0], [], 285), (0, [1], [], 285), (90, [2], [], -2147483648), (91, [2], [], 2147483647), (90, [3], [], 0), (91, [3], [], 1), (90, [4], [], 0), (91, [4], [], 20)], (91, [17], [], 20))
theorem c_290v_16_18 {q0 : Nat} : vOkm T0 (eP e_290v L_290v A_290v mu_290v (some q0)) 1 g_290v_16_18 := vOk_in fun ρ η h => by
  obtain ⟨f0, f1, f2, f3, f4, f5, f6, f7, f8, f9, f10, f11, f12, f13, f14, f15, f16, f17, f18, f19, f20, f21, f22, f23, f24, f25, f26, f27, f28, f29, f30, f31, f32, f33, f34, f35, f36, f37, f38, f39, f40, _⟩ := h
  exact q_290v_22 (q0 := q0) (n0 := ρ 4) (n1 := ρ 3) (n2 := ρ 2) (n3 := ρ 1) (n4 := ρ 0) (n5 := ρ 5) (n6 := ρ 6) (n7 := ρ 7) (n8 := ρ 8) (n9 := ρ 9) (n10 := ρ 10) (n11 := ρ 11) (n12 := ρ 12) (n13 := ρ 13) (n14 := ρ 14) (n15 := ρ 15) (n16 := ρ 17) (H0 := η 0) (H1 := η 1) (H2 := η 2) (H3 := η 3) f40 f39 f38 f37 f36 f35 f34 f33 f32 f31 f30 f29 f28 f27 f26 f25 f24 f23 f22 f21 f20 f19 f18 f17 f16 f15 f14 f13 f12 f11 f10 f9 f8 f7 f6 f5 f4 f3 f2 f1 f0
theorem q_290v_23 {q0 : Nat} {n0 n1 n2 n3 n4 n5 n6 n7 n8 n9 n10 n11 n12 n13 n14 n15 n16 n17 : Int} {H0 H1 H2 H3 : gH} (f0 : n0 ≤ 20) (f1 : 0 ≤ n0) (f2 : n1 ≤ 1) (f3 : 0 ≤ n1) (f4 : n2 ≤ 2147483647) (f5 : (-2147483648) ≤ n2) (f6 : n3 = 285) (f7 : n4 = 285) (f8 : (hLe T0 H0 H1 ∧ hFr s_290v.2.2.2.2 H0 H1 ∧ hWt T0 H1) ∧ (Ab_290v_16 n4 n3 n2 n1 n0 H0 H1 ∧ preb_290v n4 H0) ∧ some q0 = some (mub_290v_16 n4 n3 n2 n1 n0 H0 H1)) (f9 : n5 ≤ 20) (f10 : 0 ≤ n5) (f11 : n5 = hV H1 (n3).toNat 64) (f12 : n0 < n5) (f13 : n1 = 0) (f14 : n6 = 354) (f15 : n6 = hV H1 (n3).toNat 96) (f16 : n7 ≤ 1) (f17 : 0 ≤ n7) (f18 : n7 = hV H1 (n6).toNat (n0).toNat) (f19 : n7 ≠ 0) (f20 : n8 ≤ 1) (f21 : 0 ≤ n8) (f22 : (hLe T0 H1 H2 ∧ hFr s_289.2.2.2.2 H1 H2 ∧ ((0 : Int) = 0 → H2.length = H1.length) ∧ hWt T0 H2) ∧ postb_289 n8 n3 n0 H1 H2) (f23 : n8 = 0) (f24 : n9 = 335) (f25 : n9 = hV H2 (n3).toNat 73) (f26 : n10 ≤ 7) (f27 : (-1) ≤ n10) (f28 : n10 = hV H2 (n9).toNat (n0).toNat) (f29 : n11 = 336) (f30 : n11 = hV H2 (n3).toNat 74) (f31 : n12 ≤ 5) (f32 : (-1) ≤ n12) (f33 : n12 = hV H2 (n11).toNat (n0).toNat) (f34 : n13 ≤ 2147483647) (f35 : (-2147483648) ≤ n13) (f36 : (hLe T0 H2 H3 ∧ hFr s_283v.2.2.2.2 H2 H3 ∧ ((0 : Int) = 0 → H3.length = H2.length) ∧ hWt T0 H3) ∧ postb_283v n13 n3 n0 n10 n12 H2 H3) (f37 : 0 < n13) (f38 : n14 = 1) (f39 : n15 = w32 (n2 + n14)) (f40 : n16 = 1) (f41 : n17 = w32 (n0 + 1)) : Ab_290v_16 n4 n3 n15 n16 n17 H0 H3 ∧ ∀ q, some q0 = some q → mub_290v_16 n4 n3 n15 n16 n17 H0 H3 < q := by
  have g4 := f8.2.1.1
  unfold Ab_290v_16 at g4
  have g3 := f8.2.1.2
  unfold preb_290v at g3
  have g5 := Option.some.inj f8.2.2
  unfold mub_290v_16 at g5
  unfold postb_289 at f22
  unfold postb_283v at f36
  unfold Ab_290v_16
  unfold mub_290v_16
  have e0 : hV H1 285 64 = hV H0 285 64 := f8.1.2.1.1 285 64 (by decide +kernel)
  have e1 : n5 = hV H0 285 64 := (by rw [f6] at f11; exact f11 : n5 = hV H1 285 64).trans (e0)
  have e2 : n7 = hV H1 354 (n0).toNat := (by rw [f14] at f18; exact f18 : n7 = hV H1 354 (n0).toNat)
  have e3 : hV H2 335 = hV H1 335 := fRow f22.1.2.1 335 (by decide +kernel)
  have e4 : n10 = hV H1 335 (n0).toNat := (by rw [f24] at f28; exact f28 : n10 = hV H2 335 (n0).toNat).trans ((congrFun e3 _))
  have e5 : hV H2 336 = hV H1 336 := fRow f22.1.2.1 336 (by decide +kernel)
  have e6 : n12 = hV H1 336 (n0).toNat := (by rw [f29] at f33; exact f33 : n12 = hV H2 336 (n0).toNat).trans ((congrFun e5 _))
  have e7 : hV H1 285 18 = hV H0 285 18 := f8.1.2.1.1 285 18 (by decide +kernel)
  have e8 : hV H1 285 18 = hV H0 285 18 := e7
  have e9 : hV H1 285 64 = hV H0 285 64 := e0
  have e10 : hV H1 296 = hV H0 296 := fRow f8.1.2.1 296 (by decide +kernel)
  have e11 : hV H1 298 = hV H0 298 := fRow f8.1.2.1 298 (by decide +kernel)
  have e12 : hV H1 300 = hV H0 300 := fRow f8.1.2.1 300 (by decide +kernel)
  have e13 : hV H1 301 = hV H0 301 := fRow f8.1.2.1 301 (by decide +kernel)
  have e14 : hV H1 303 = hV H0 303 := fRow f8.1.2.1 303 (by decide +kernel)
  have e15 : hV H1 328 = hV H0 328 := fRow f8.1.2.1 328 (by decide +kernel)
  have e16 : hV H1 330 = hV H0 330 := fRow f8.1.2.1 330 (by decide +kernel)
  have e17 : hV H1 331 = hV H0 331 := fRow f8.1.2.1 331 (by decide +kernel)
  have e18 : hV H1 332 = hV H0 332 := fRow f8.1.2.1 332 (by decide +kernel)
  have e19 : hV H1 341 = hV H0 341 := fRow f8.1.2.1 341 (by decide +kernel)
  have e20 : hV H2 285 64 = hV H1 285 64 := f22.1.2.1.1 285 64 (by decide +kernel)
  have e21 : hV H2 285 64 = hV H0 285 64 := (e20).trans e0
  have e22 : hV H2 285 65 = hV H1 285 65 := f22.1.2.1.1 285 65 (by decide +kernel)
  have e23 : hV H2 285 65 = hV H1 285 65 := e22
  have e24 : hV H2 296 = hV H1 296 := fRow f22.1.2.1 296 (by decide +kernel)
  have e25 : hV H2 296 = hV H0 296 := e24.trans e10
  have e26 : hV H2 298 = hV H1 298 := fRow f22.1.2.1 298 (by decide +kernel)
  have e27 : hV H2 298 = hV H0 298 := e26.trans e11
  have e28 : hV H2 300 = hV H1 300 := fRow f22.1.2.1 300 (by decide +kernel)
  have e29 : hV H2 300 = hV H0 300 := e28.trans e12
  have e30 : hV H2 328 = hV H1 328 := fRow f22.1.2.1 328 (by decide +kernel)
  have e31 : hV H2 328 = hV H0 328 := e30.trans e15
  have e32 : hV H2 329 = hV H1 329 := fRow f22.1.2.1 329 (by decide +kernel)
  have e33 : hV H2 332 = hV H1 332 := fRow f22.1.2.1 332 (by decide +kernel)
  have e34 : hV H2 332 = hV H0 332 := e33.trans e18
  have e35 : hV H2 333 = hV H1 333 := fRow f22.1.2.1 333 (by decide +kernel)
  have e36 : hV H2 354 = hV H1 354 := fRow f22.1.2.1 354 (by decide +kernel)
  have e37 : hV H3 285 18 = hV H2 285 18 := f36.1.2.1.1 285 18 (by decide +kernel)
  have e38 : hV H2 285 18 = hV H1 285 18 := f22.1.2.1.1 285 18 (by decide +kernel)
  have e39 : hV H3 285 18 = hV H0 285 18 := (e37).trans ((e38).trans e7)
  have e40 : hV H3 285 64 = hV H2 285 64 := f36.1.2.1.1 285 64 (by decide +kernel)
  have e41 : hV H3 285 64 = hV H0 285 64 := (e40).trans ((e20).trans e0)
  have e42 : hV H3 296 = hV H2 296 := fRow f36.1.2.1 296 (by decide +kernel)
  have e43 : hV H3 296 = hV H0 296 := e42.trans e25
  have e44 : hV H3 298 = hV H2 298 := fRow f36.1.2.1 298 (by decide +kernel)
  have e45 : hV H3 298 = hV H0 298 := e44.trans e27
  have e46 : hV H3 300 = hV H2 300 := fRow f36.1.2.1 300 (by decide +kernel)
  have e47 : hV H3 300 = hV H0 300 := e46.trans e29
  have e48 : hV H3 301 = hV H2 301 := fRow f36.1.2.1 301 (by decide +kernel)
  have e49 : hV H2 301 = hV H1 301 := fRow f22.1.2.1 301 (by decide +kernel)
  have e50 : hV H2 301 = hV H0 301 := e49.trans e13
  have e51 : hV H3 301 = hV H0 301 := e48.trans e50
  have e52 : hV H3 303 = hV H2 303 := fRow f36.1.2.1 303 (by decide +kernel)
  have e53 : hV H2 303 = hV H1 303 := fRow f22.1.2.1 303 (by decide +kernel)
  have e54 : hV H2 303 = hV H0 303 := e53.trans e14
  have e55 : hV H3 303 = hV H0 303 := e52.trans e54
  have e56 : hV H3 328 = hV H2 328 := fRow f36.1.2.1 328 (by decide +kernel)
  have e57 : hV H3 328 = hV H0 328 := e56.trans e31
  have e58 : hV H3 330 = hV H2 330 := fRow f36.1.2.1 330 (by decide +kernel)
  have e59 : hV H2 330 = hV H1 330 := fRow f22.1.2.1 330 (by decide +kernel)
  have e60 : hV H2 330 = hV H0 330 := e59.trans e16
  have e61 : hV H3 330 = hV H0 330 := e58.trans e60
  have e62 : hV H3 331 = hV H2 331 := fRow f36.1.2.1 331 (by decide +kernel)
  have e63 : hV H2 331 = hV H1 331 := fRow f22.1.2.1 331 (by decide +kernel)
  have e64 : hV H2 331 = hV H0 331 := e63.trans e17
  have e65 : hV H3 331 = hV H0 331 := e62.trans e64
  have e66 : hV H3 332 = hV H2 332 := fRow f36.1.2.1 332 (by decide +kernel)
  have e67 : hV H3 332 = hV H0 332 := e66.trans e34
  have e68 : hV H3 341 = hV H2 341 := fRow f36.1.2.1 341 (by decide +kernel)
  have e69 : hV H2 341 = hV H1 341 := fRow f22.1.2.1 341 (by decide +kernel)
  have e70 : hV H2 341 = hV H0 341 := e69.trans e19
  have e71 : hV H3 341 = hV H0 341 := e68.trans e70
  have e72 : hV H3 354 = hV H2 354 := fRow f36.1.2.1 354 (by decide +kernel)
  have e73 : hV H3 354 = hV H1 354 := e72.trans e36
  have e74 : (0 : Int) ≤ hV H1 285 18 ∧ hV H1 285 18 ≤ 8 := f8.1.2.2 285 18 _ _ (by decide +kernel)
  have e75 : (0 : Int) ≤ hV H1 285 64 ∧ hV H1 285 64 ≤ 20 := f8.1.2.2 285 64 _ _ (by decide +kernel)
  have e76 : (0 : Int) ≤ hV H1 285 65 ∧ hV H1 285 65 ≤ 2147483647 := f8.1.2.2 285 65 _ _ (by decide +kernel)
  have e77 : (0 : Int) ≤ hV H2 285 64 ∧ hV H2 285 64 ≤ 20 := f22.1.2.2.2 285 64 _ _ (by decide +kernel)
  have e78 : (0 : Int) ≤ hV H2 285 65 ∧ hV H2 285 65 ≤ 2147483647 := f22.1.2.2.2 285 65 _ _ (by decide +kernel)
  have e79 : (0 : Int) ≤ hV H3 285 18 ∧ hV H3 285 18 ≤ 8 := f36.1.2.2.2 285 18 _ _ (by decide +kernel)
  have e80 : (0 : Int) ≤ hV H3 285 64 ∧ hV H3 285 64 ≤ 20 := f36.1.2.2.2 285 64 _ _ (by decide +kernel)
  have e81 : (0 : Int) ≤ hV H3 285 65 ∧ hV H3 285 65 ≤ 2147483647 := f36.1.2.2.2 285 65 _ _ (by decide +kernel)
  try simp only [SO, SS, AC]
  try simp only [e8] at e74
  try simp only [e9] at e75
  try simp only [e21] at e77
  try simp only [e23] at e78
  try simp only [e39] at e79
  try simp only [e41] at e80
  try simp only [e8, e9, e10, e11, e12, e13, e14, e15, e16, e17, e18, e19, e21, e23, e25, e27, e29, e31, e32, e34, e35, e3, e36, e39, e41, e43, e45, e47, e51, e55, e57, e61, e65, e67, e71, e73] at g5
  try simp only [e8, e9, e10, e11, e12, e13, e14, e15, e16, e17, e18, e19, e21, e23, e25, e27, e29, e31, e32, e34, e35, e3, e36, e39, e41, e43, e45, e47, e51, e55, e57, e61, e65, e67, e71, e73]
  have y0 := g4.1
  have y1 := g4.2.1
  have y2 := g4.2.2.1
  have y3 := g4.2.2.2.1
  have y4 := g4.2.2.2.2.1
  have y5 := g4.2.2.2.2.2
  have p0 := g3.1
  have p1 := g3.2.1
  have p2 := g3.2.2.1
  have p3 := g3.2.2.2.1
  have p4 := g3.2.2.2.2
  have r0_0 := f22.2.1
  have r0_1 := f22.2.2
  have r1_0 := f36.2.1
  have r1_1 := f36.2.2.1
  have r1_2 := f36.2.2.2.1
  have r1_3 := f36.2.2.2.2.1
  have r1_4 := f36.2.2.2.2.2.1
  have r1_5 := f36.2.2.2.2.2.2
  try simp only [SO] at y0
  try simp only [SS] at y1
  try simp only [AC] at y2
  try simp only [SO] at p0
  try simp only [SS] at p1
  try simp only [AC] at p3
  try simp only [SO] at r1_0
  try simp only [SS] at r1_1
  try simp only [e8, e9, e10, e11, e12, e13, e14, e15, e16, e17, e18, e19] at y0
  try simp only [e8, e9, e10, e11, e12, e13, e14, e15, e16, e17, e18, e19] at y1
  try simp only [e8, e9, e10, e11, e12, e13, e14, e15, e16, e17, e18, e19] at y2
  try simp only [e8, e9, e10, e11, e12, e13, e14, e15, e16, e17, e18, e19] at y3
  try simp only [e8, e9, e10, e11, e12, e13, e14, e15, e16, e17, e18, e19] at y4
  try simp only [e8, e9, e10, e11, e12, e13, e14, e15, e16, e17, e18, e19] at y5
  try simp only [e8, e9, e10, e11, e12, e13, e14, e15, e16, e17, e18, e19] at p0
  try simp only [e8, e9, e10, e11, e12, e13, e14, e15, e16, e17, e18, e19] at p1
  try simp only [e8, e9, e10, e11, e12, e13, e14, e15, e16, e17, e18, e19] at p2
  try simp only [e8, e9, e10, e11, e12, e13, e14, e15, e16, e17, e18, e19] at p3
  try simp only [e8, e9, e10, e11, e12, e13, e14, e15, e16, e17, e18, e19] at p4
  try simp only [e8, e9, e10, e11, e12, e13, e14, e15, e16, e17, e18, e19, e21, e23, e25, e27, e29, e31, e32, e34, e35, e3, e36] at r0_0
  try simp only [e8, e9, e10, e11, e12, e13, e14, e15, e16, e17, e18, e19, e21, e23, e25, e27, e29, e31, e32, e34, e35, e3, e36] at r0_1
  try simp only [e21, e23, e25, e27, e29, e31, e32, e34, e35, e3, e36, e39, e41, e43, e45, e47, e51, e55, e57, e61, e65, e67, e71, e73] at r1_0
  try simp only [e21, e23, e25, e27, e29, e31, e32, e34, e35, e3, e36, e39, e41, e43, e45, e47, e51, e55, e57, e61, e65, e67, e71, e73] at r1_1
  try simp only [e21, e23, e25, e27, e29, e31, e32, e34, e35, e3, e36, e39, e41, e43, e45, e47, e51, e55, e57, e61, e65, e67, e71, e73] at r1_2
  try simp only [e21, e23, e25, e27, e29, e31, e32, e34, e35, e3, e36, e39, e41, e43, e45, e47, e51, e55, e57, e61, e65, e67, e71, e73] at r1_3
  try simp only [e21, e23, e25, e27, e29, e31, e32, e34, e35, e3, e36, e39, e41, e43, e45, e47, e51, e55, e57, e61, e65, e67, e71, e73] at r1_4
  try simp only [e21, e23, e25, e27, e29, e31, e32, e34, e35, e3, e36, e39, e41, e43, e45, e47, e51, e55, e57, e61, e65, e67, e71, e73] at r1_5
  clear g3
  clear g4
  clear f11 f15 f18 f25 f28 f30 f33 e0 e3 e5 e7 e8 e9 e10 e11 e12 e13 e14 e15 e16 e17 e18 e19 e20 e21 e22 e23 e24 e25 e26 e27 e28 e29 e30 e31 e32 e33 e34 e35 e36 e37 e38 e39 e40 e41 e42 e43 e44 e45 e46 e47 e48 e49 e50 e51 e52 e53 e54 e55 e56 e57 e58 e59 e60 e61 e62 e63 e64 e65 e66 e67 e68 e69 e70 e71 e72 e73
  clear f8 f22 f36
  subst e1
  subst e2
  subst e4
  subst e6
  unfold w32 at *
  try have sm := SL_made ((y4 (by omega) (n0).toNat (by omega)).mp (by omega)) NX_made
  try have so := (y0 (n0).toNat (by omega)).2.2.2 (by omega)
  try (have ix0 : n15 = n2 + 1 := (by omega); subst ix0)
  try (have ix1 : n17 = n0 + 1 := (by omega); subst ix1)

  obtain ⟨sm1, sm2, sm3⟩ := SL_made ((y4 (by omega) (n0).toNat (by omega)).mp (by omega)) NX_made
  have ms := uF_same (f := hV H1 335) (i := n0) (w := hV H1 335 (n0).toNat) rfl
  have e4 := r1_4
  rw [ms] at e4
  have e5 := r1_3
  rw [r1_2] at e5
  have less := SN_less (S := hV H0 285 64) (w := hV H1 285 65 + 1) (i := n0) (by omega) (s := (n0).toNat) (by omega) ((y4 (by omega) (n0).toNat (by omega)).mp (by omega)) (fun k hk hl z => absurd (r0_1 (by omega) k hk hl) ((y4 (by omega) k hk).mpr z)) (Classical.choose_spec y2.2) (by omega) (fun k hk => by have := (y1.1 k hk).1; omega) (fun k hk k6 k0 => by have := MK_le (p2 (hV H1 335 k).toNat (by have := y2.1 k hk k6 k0; omega)) y1 (by omega); omega)
  refine ⟨?_, fun q hq => ?_⟩
  · exact ⟨r1_0, r1_1, (by rw [e4]; exact y2), (by rw [e4, e5]; omega), fun z => by omega, fun s hs => by
      have hq := r1_5 s (fun e => hs (by rw [show s = (n0).toNat by omega]; first | exact sm1 | omega))
      rw [hq]
      exact y5 s hs⟩
  · have g6 := Option.some.inj hq
    subst g6
    rw [e4, e5]
    try clear r0_0
    omega
def g_290v_16_19 : vG := ([(10, [17, 4], [], 1), (0, [16], [], 1), (1, [15, 2, 14], [], 0), (0, [14], [], 1), (34, [13], [], 0), (1283, [13, 1, 4, 10, 12], [2, 3], 0), (90, [13], [], -2147483648), (91, [13], [], 2147483647), (22, [12, 11, 4], [2], 0), (90, [12], [], -1), (91, [12], [], 5), (20, [11, 1], [2], 74), (0, [11], [], 336), (22, [10, 9, 4], [2], 0), (90, [10], [], -1), (91, [10], [], 7), (20, [9, 1], [2], 73), (0, [9], [], 335), (30, [8], [], 0), (1289, [8, 1, 4], [1, 2], 0), (90, [8], [], 0), (91, [8], [], 1), (31, [7], [], 0), (22, [7, 6, 4], [1], 0), (90, [7], [], 0), (91, [7], [], 1), (20, [6, 1], [1], 96), (0, [6], [], 354), (30, [3], [], 0), (42, [4, 5], [], 0), (20, [5, 1], [1], 64), (90, [5], [], 0), (91, [5], [], 20), (5000, [0, 1, 2, 3, 4], [0, 1], 16), (0, [0], [], 285), (0, [1], [], 285), (90, [2], [], -2147483648), (91, [2], [], 2147483647), (90, [3], [], 0), (91, [3], [], 1), (90, [4], [], 0), (91, [4], [], 20)], (4000, [1, 15, 16, 17], [3], 16))
theorem c_290v_16_19 {q0 : Nat} : vOkm T0 (eP e_290v L_290v A_290v mu_290v (some q0)) 1 g_290v_16_19 := vOk_in fun ρ η h => by
  obtain ⟨f0, f1, f2, f3, f4, f5, f6, f7, f8, f9, f10, f11, f12, f13, f14, f15, f16, f17, f18, f19, f20, f21, f22, f23, f24, f25, f26, f27, f28, f29, f30, f31, f32, f33, f34, f35, f36, f37, f38, f39, f40, f41, _⟩ := h
  exact q_290v_23 (q0 := q0) (n0 := ρ 4) (n1 := ρ 3) (n2 := ρ 2) (n3 := ρ 1) (n4 := ρ 0) (n5 := ρ 5) (n6 := ρ 6) (n7 := ρ 7) (n8 := ρ 8) (n9 := ρ 9) (n10 := ρ 10) (n11 := ρ 11) (n12 := ρ 12) (n13 := ρ 13) (n14 := ρ 14) (n15 := ρ 15) (n16 := ρ 16) (n17 := ρ 17) (H0 := η 0) (H1 := η 1) (H2 := η 2) (H3 := η 3) f41 f40 f39 f38 f37 f36 f35 f34 f33 f32 f31 f30 f29 f28 f27 f26 f25 f24 f23 f22 f21 f20 f19 f18 f17 f16 f15 f14 f13 f12 f11 f10 f9 f8 f7 f6 f5 f4 f3 f2 f1 f0
theorem q_290v_24 {q0 : Nat} {n0 n1 n2 n3 n4 n5 n6 n7 n8 n9 : Int} {H0 H1 H2 : gH} (f0 : n0 ≤ 20) (f1 : 0 ≤ n0) (f2 : n1 ≤ 1) (f3 : 0 ≤ n1) (f4 : n2 ≤ 2147483647) (f5 : (-2147483648) ≤ n2) (f6 : n3 = 285) (f7 : n4 = 285) (f8 : (hLe T0 H0 H1 ∧ hFr s_290v.2.2.2.2 H0 H1 ∧ hWt T0 H1) ∧ (Ab_290v_16 n4 n3 n2 n1 n0 H0 H1 ∧ preb_290v n4 H0) ∧ some q0 = some (mub_290v_16 n4 n3 n2 n1 n0 H0 H1)) (f9 : n5 ≤ 20) (f10 : 0 ≤ n5) (f11 : n5 = hV H1 (n3).toNat 64) (f12 : n0 < n5) (f13 : n1 = 0) (f14 : n6 = 354) (f15 : n6 = hV H1 (n3).toNat 96) (f16 : n7 ≤ 1) (f17 : 0 ≤ n7) (f18 : n7 = hV H1 (n6).toNat (n0).toNat) (f19 : n7 ≠ 0) (f20 : n8 ≤ 1) (f21 : 0 ≤ n8) (f22 : (hLe T0 H1 H2 ∧ hFr s_289.2.2.2.2 H1 H2 ∧ ((0 : Int) = 0 → H2.length = H1.length) ∧ hWt T0 H2) ∧ postb_289 n8 n3 n0 H1 H2) (f23 : n8 ≠ 0) (f24 : n9 = w32 (n0 + 1)) : 0 ≤ n9 := by
  have g4 := f8.2.1.1
  unfold Ab_290v_16 at g4
  have g3 := f8.2.1.2
  unfold preb_290v at g3
  unfold postb_289 at f22
  have e0 : hV H1 285 64 = hV H0 285 64 := f8.1.2.1.1 285 64 (by decide +kernel)
  have e1 : n5 = hV H0 285 64 := (by rw [f6] at f11; exact f11 : n5 = hV H1 285 64).trans (e0)
  have e2 : n7 = hV H1 354 (n0).toNat := (by rw [f14] at f18; exact f18 : n7 = hV H1 354 (n0).toNat)
  have e3 : hV H1 285 18 = hV H0 285 18 := f8.1.2.1.1 285 18 (by decide +kernel)
  have e4 : hV H1 285 18 = hV H0 285 18 := e3
  have e5 : hV H1 285 64 = hV H0 285 64 := e0
  have e6 : hV H1 296 = hV H0 296 := fRow f8.1.2.1 296 (by decide +kernel)
  have e7 : hV H1 298 = hV H0 298 := fRow f8.1.2.1 298 (by decide +kernel)
  have e8 : hV H1 300 = hV H0 300 := fRow f8.1.2.1 300 (by decide +kernel)
  have e9 : hV H1 301 = hV H0 301 := fRow f8.1.2.1 301 (by decide +kernel)
  have e10 : hV H1 303 = hV H0 303 := fRow f8.1.2.1 303 (by decide +kernel)
  have e11 : hV H1 328 = hV H0 328 := fRow f8.1.2.1 328 (by decide +kernel)
  have e12 : hV H1 330 = hV H0 330 := fRow f8.1.2.1 330 (by decide +kernel)
  have e13 : hV H1 331 = hV H0 331 := fRow f8.1.2.1 331 (by decide +kernel)
  have e14 : hV H1 332 = hV H0 332 := fRow f8.1.2.1 332 (by decide +kernel)
  have e15 : hV H1 341 = hV H0 341 := fRow f8.1.2.1 341 (by decide +kernel)
  have e16 : hV H2 285 64 = hV H1 285 64 := f22.1.2.1.1 285 64 (by decide +kernel)
  have e17 : hV H2 285 64 = hV H0 285 64 := (e16).trans e0
  have e18 : hV H2 296 = hV H1 296 := fRow f22.1.2.1 296 (by decide +kernel)
  have e19 : hV H2 296 = hV H0 296 := e18.trans e6
  have e20 : hV H2 298 = hV H1 298 := fRow f22.1.2.1 298 (by decide +kernel)
  have e21 : hV H2 298 = hV H0 298 := e20.trans e7
  have e22 : hV H2 300 = hV H1 300 := fRow f22.1.2.1 300 (by decide +kernel)
  have e23 : hV H2 300 = hV H0 300 := e22.trans e8
  have e24 : hV H2 328 = hV H1 328 := fRow f22.1.2.1 328 (by decide +kernel)
  have e25 : hV H2 328 = hV H0 328 := e24.trans e11
  have e26 : hV H2 332 = hV H1 332 := fRow f22.1.2.1 332 (by decide +kernel)
  have e27 : hV H2 332 = hV H0 332 := e26.trans e14
  have e28 : hV H2 335 = hV H1 335 := fRow f22.1.2.1 335 (by decide +kernel)
  have e29 : hV H2 354 = hV H1 354 := fRow f22.1.2.1 354 (by decide +kernel)
  have e30 : (0 : Int) ≤ hV H1 285 18 ∧ hV H1 285 18 ≤ 8 := f8.1.2.2 285 18 _ _ (by decide +kernel)
  have e31 : (0 : Int) ≤ hV H1 285 64 ∧ hV H1 285 64 ≤ 20 := f8.1.2.2 285 64 _ _ (by decide +kernel)
  have e32 : (0 : Int) ≤ hV H1 285 65 ∧ hV H1 285 65 ≤ 2147483647 := f8.1.2.2 285 65 _ _ (by decide +kernel)
  have e33 : (0 : Int) ≤ hV H2 285 64 ∧ hV H2 285 64 ≤ 20 := f22.1.2.2.2 285 64 _ _ (by decide +kernel)
  try simp only [SO, SS, AC]
  try simp only [e4] at e30
  try simp only [e5] at e31
  try simp only [e17] at e33
  try simp only [e4, e5, e6, e7, e8, e9, e10, e11, e12, e13, e14, e15, e17, e19, e21, e23, e25, e27, e28, e29]
  have y0 := g4.1
  have y1 := g4.2.1
  have y2 := g4.2.2.1
  have y3 := g4.2.2.2.1
  have y4 := g4.2.2.2.2.1
  have y5 := g4.2.2.2.2.2
  have p0 := g3.1
  have p1 := g3.2.1
  have p2 := g3.2.2.1
  have p3 := g3.2.2.2.1
  have p4 := g3.2.2.2.2
  have r0_0 := f22.2.1
  have r0_1 := f22.2.2
  try simp only [SO] at y0
  try simp only [SS] at y1
  try simp only [AC] at y2
  try simp only [SO] at p0
  try simp only [SS] at p1
  try simp only [AC] at p3
  try simp only [e4, e5, e6, e7, e8, e9, e10, e11, e12, e13, e14, e15] at y0
  try simp only [e4, e5, e6, e7, e8, e9, e10, e11, e12, e13, e14, e15] at y1
  try simp only [e4, e5, e6, e7, e8, e9, e10, e11, e12, e13, e14, e15] at y2
  try simp only [e4, e5, e6, e7, e8, e9, e10, e11, e12, e13, e14, e15] at y3
  try simp only [e4, e5, e6, e7, e8, e9, e10, e11, e12, e13, e14, e15] at y4
  try simp only [e4, e5, e6, e7, e8, e9, e10, e11, e12, e13, e14, e15] at y5
  try simp only [e4, e5, e6, e7, e8, e9, e10, e11, e12, e13, e14, e15] at p0
  try simp only [e4, e5, e6, e7, e8, e9, e10, e11, e12, e13, e14, e15] at p1
  try simp only [e4, e5, e6, e7, e8, e9, e10, e11, e12, e13, e14, e15] at p2
  try simp only [e4, e5, e6, e7, e8, e9, e10, e11, e12, e13, e14, e15] at p3
  try simp only [e4, e5, e6, e7, e8, e9, e10, e11, e12, e13, e14, e15] at p4
  try simp only [e4, e5, e6, e7, e8, e9, e10, e11, e12, e13, e14, e15, e17, e19, e21, e23, e25, e27, e28, e29] at r0_0
  try simp only [e4, e5, e6, e7, e8, e9, e10, e11, e12, e13, e14, e15, e17, e19, e21, e23, e25, e27, e28, e29] at r0_1
  clear g3
  clear g4
  clear f11 f15 f18 e0 e3 e4 e5 e6 e7 e8 e9 e10 e11 e12 e13 e14 e15 e16 e17 e18 e19 e20 e21 e22 e23 e24 e25 e26 e27 e28 e29
  clear f8 f22
  subst e1
  subst e2
  unfold w32 at *
  try have sm := SL_made ((y4 (by omega) (n0).toNat (by omega)).mp (by omega)) NX_made
  try have so := (y0 (n0).toNat (by omega)).2.2.2 (by omega)
  try (have ix0 : n9 = n0 + 1 := (by omega); subst ix0)
  omega
def g_290v_16_20 : vG := ([(10, [9, 4], [], 1), (31, [8], [], 0), (1289, [8, 1, 4], [1, 2], 0), (90, [8], [], 0), (91, [8], [], 1), (31, [7], [], 0), (22, [7, 6, 4], [1], 0), (90, [7], [], 0), (91, [7], [], 1), (20, [6, 1], [1], 96), (0, [6], [], 354), (30, [3], [], 0), (42, [4, 5], [], 0), (20, [5, 1], [1], 64), (90, [5], [], 0), (91, [5], [], 20), (5000, [0, 1, 2, 3, 4], [0, 1], 16), (0, [0], [], 285), (0, [1], [], 285), (90, [2], [], -2147483648), (91, [2], [], 2147483647), (90, [3], [], 0), (91, [3], [], 1), (90, [4], [], 0), (91, [4], [], 20)], (90, [9], [], 0))
theorem c_290v_16_20 {q0 : Nat} : vOkm T0 (eP e_290v L_290v A_290v mu_290v (some q0)) 1 g_290v_16_20 := vOk_in fun ρ η h => by
  obtain ⟨f0, f1, f2, f3, f4, f5, f6, f7, f8, f9, f10, f11, f12, f13, f14, f15, f16, f17, f18, f19, f20, f21, f22, f23, f24, _⟩ := h
  exact q_290v_24 (q0 := q0) (n0 := ρ 4) (n1 := ρ 3) (n2 := ρ 2) (n3 := ρ 1) (n4 := ρ 0) (n5 := ρ 5) (n6 := ρ 6) (n7 := ρ 7) (n8 := ρ 8) (n9 := ρ 9) (H0 := η 0) (H1 := η 1) (H2 := η 2) f24 f23 f22 f21 f20 f19 f18 f17 f16 f15 f14 f13 f12 f11 f10 f9 f8 f7 f6 f5 f4 f3 f2 f1 f0
theorem q_290v_25 {q0 : Nat} {n0 n1 n2 n3 n4 n5 n6 n7 n8 n9 : Int} {H0 H1 H2 : gH} (f0 : n0 ≤ 20) (f1 : 0 ≤ n0) (f2 : n1 ≤ 1) (f3 : 0 ≤ n1) (f4 : n2 ≤ 2147483647) (f5 : (-2147483648) ≤ n2) (f6 : n3 = 285) (f7 : n4 = 285) (f8 : (hLe T0 H0 H1 ∧ hFr s_290v.2.2.2.2 H0 H1 ∧ hWt T0 H1) ∧ (Ab_290v_16 n4 n3 n2 n1 n0 H0 H1 ∧ preb_290v n4 H0) ∧ some q0 = some (mub_290v_16 n4 n3 n2 n1 n0 H0 H1)) (f9 : n5 ≤ 20) (f10 : 0 ≤ n5) (f11 : n5 = hV H1 (n3).toNat 64) (f12 : n0 < n5) (f13 : n1 = 0) (f14 : n6 = 354) (f15 : n6 = hV H1 (n3).toNat 96) (f16 : n7 ≤ 1) (f17 : 0 ≤ n7) (f18 : n7 = hV H1 (n6).toNat (n0).toNat) (f19 : n7 ≠ 0) (f20 : n8 ≤ 1) (f21 : 0 ≤ n8) (f22 : (hLe T0 H1 H2 ∧ hFr s_289.2.2.2.2 H1 H2 ∧ ((0 : Int) = 0 → H2.length = H1.length) ∧ hWt T0 H2) ∧ postb_289 n8 n3 n0 H1 H2) (f23 : n8 ≠ 0) (f24 : n9 = w32 (n0 + 1)) : n9 ≤ 20 := by
  have g4 := f8.2.1.1
  unfold Ab_290v_16 at g4
  have g3 := f8.2.1.2
  unfold preb_290v at g3
  unfold postb_289 at f22
  have e0 : hV H1 285 64 = hV H0 285 64 := f8.1.2.1.1 285 64 (by decide +kernel)
  have e1 : n5 = hV H0 285 64 := (by rw [f6] at f11; exact f11 : n5 = hV H1 285 64).trans (e0)
  have e2 : n7 = hV H1 354 (n0).toNat := (by rw [f14] at f18; exact f18 : n7 = hV H1 354 (n0).toNat)
  have e3 : hV H1 285 18 = hV H0 285 18 := f8.1.2.1.1 285 18 (by decide +kernel)
  have e4 : hV H1 285 18 = hV H0 285 18 := e3
  have e5 : hV H1 285 64 = hV H0 285 64 := e0
  have e6 : hV H1 296 = hV H0 296 := fRow f8.1.2.1 296 (by decide +kernel)
  have e7 : hV H1 298 = hV H0 298 := fRow f8.1.2.1 298 (by decide +kernel)
  have e8 : hV H1 300 = hV H0 300 := fRow f8.1.2.1 300 (by decide +kernel)
  have e9 : hV H1 301 = hV H0 301 := fRow f8.1.2.1 301 (by decide +kernel)
  have e10 : hV H1 303 = hV H0 303 := fRow f8.1.2.1 303 (by decide +kernel)
  have e11 : hV H1 328 = hV H0 328 := fRow f8.1.2.1 328 (by decide +kernel)
  have e12 : hV H1 330 = hV H0 330 := fRow f8.1.2.1 330 (by decide +kernel)
  have e13 : hV H1 331 = hV H0 331 := fRow f8.1.2.1 331 (by decide +kernel)
  have e14 : hV H1 332 = hV H0 332 := fRow f8.1.2.1 332 (by decide +kernel)
  have e15 : hV H1 341 = hV H0 341 := fRow f8.1.2.1 341 (by decide +kernel)
  have e16 : hV H2 285 64 = hV H1 285 64 := f22.1.2.1.1 285 64 (by decide +kernel)
  have e17 : hV H2 285 64 = hV H0 285 64 := (e16).trans e0
  have e18 : hV H2 296 = hV H1 296 := fRow f22.1.2.1 296 (by decide +kernel)
  have e19 : hV H2 296 = hV H0 296 := e18.trans e6
  have e20 : hV H2 298 = hV H1 298 := fRow f22.1.2.1 298 (by decide +kernel)
  have e21 : hV H2 298 = hV H0 298 := e20.trans e7
  have e22 : hV H2 300 = hV H1 300 := fRow f22.1.2.1 300 (by decide +kernel)
  have e23 : hV H2 300 = hV H0 300 := e22.trans e8
  have e24 : hV H2 328 = hV H1 328 := fRow f22.1.2.1 328 (by decide +kernel)
  have e25 : hV H2 328 = hV H0 328 := e24.trans e11
  have e26 : hV H2 332 = hV H1 332 := fRow f22.1.2.1 332 (by decide +kernel)
  have e27 : hV H2 332 = hV H0 332 := e26.trans e14
  have e28 : hV H2 335 = hV H1 335 := fRow f22.1.2.1 335 (by decide +kernel)
  have e29 : hV H2 354 = hV H1 354 := fRow f22.1.2.1 354 (by decide +kernel)
  have e30 : (0 : Int) ≤ hV H1 285 18 ∧ hV H1 285 18 ≤ 8 := f8.1.2.2 285 18 _ _ (by decide +kernel)
  have e31 : (0 : Int) ≤ hV H1 285 64 ∧ hV H1 285 64 ≤ 20 := f8.1.2.2 285 64 _ _ (by decide +kernel)
  have e32 : (0 : Int) ≤ hV H1 285 65 ∧ hV H1 285 65 ≤ 2147483647 := f8.1.2.2 285 65 _ _ (by decide +kernel)
  have e33 : (0 : Int) ≤ hV H2 285 64 ∧ hV H2 285 64 ≤ 20 := f22.1.2.2.2 285 64 _ _ (by decide +kernel)
  try simp only [SO, SS, AC]
  try simp only [e4] at e30
  try simp only [e5] at e31
  try simp only [e17] at e33
  try simp only [e4, e5, e6, e7, e8, e9, e10, e11, e12, e13, e14, e15, e17, e19, e21, e23, e25, e27, e28, e29]
  have y0 := g4.1
  have y1 := g4.2.1
  have y2 := g4.2.2.1
  have y3 := g4.2.2.2.1
  have y4 := g4.2.2.2.2.1
  have y5 := g4.2.2.2.2.2
  have p0 := g3.1
  have p1 := g3.2.1
  have p2 := g3.2.2.1
  have p3 := g3.2.2.2.1
  have p4 := g3.2.2.2.2
  have r0_0 := f22.2.1
  have r0_1 := f22.2.2
  try simp only [SO] at y0
  try simp only [SS] at y1
  try simp only [AC] at y2
  try simp only [SO] at p0
  try simp only [SS] at p1
  try simp only [AC] at p3
  try simp only [e4, e5, e6, e7, e8, e9, e10, e11, e12, e13, e14, e15] at y0
  try simp only [e4, e5, e6, e7, e8, e9, e10, e11, e12, e13, e14, e15] at y1
  try simp only [e4, e5, e6, e7, e8, e9, e10, e11, e12, e13, e14, e15] at y2
  try simp only [e4, e5, e6, e7, e8, e9, e10, e11, e12, e13, e14, e15] at y3
  try simp only [e4, e5, e6, e7, e8, e9, e10, e11, e12, e13, e14, e15] at y4
  try simp only [e4, e5, e6, e7, e8, e9, e10, e11, e12, e13, e14, e15] at y5
  try simp only [e4, e5, e6, e7, e8, e9, e10, e11, e12, e13, e14, e15] at p0
  try simp only [e4, e5, e6, e7, e8, e9, e10, e11, e12, e13, e14, e15] at p1
  try simp only [e4, e5, e6, e7, e8, e9, e10, e11, e12, e13, e14, e15] at p2
  try simp only [e4, e5, e6, e7, e8, e9, e10, e11, e12, e13, e14, e15] at p3
  try simp only [e4, e5, e6, e7, e8, e9, e10, e11, e12, e13, e14, e15] at p4
  try simp only [e4, e5, e6, e7, e8, e9, e10, e11, e12, e13, e14, e15, e17, e19, e21, e23, e25, e27, e28, e29] at r0_0
  try simp only [e4, e5, e6, e7, e8, e9, e10, e11, e12, e13, e14, e15, e17, e19, e21, e23, e25, e27, e28, e29] at r0_1
  clear g3
  clear g4
  clear f11 f15 f18 e0 e3 e4 e5 e6 e7 e8 e9 e10 e11 e12 e13 e14 e15 e16 e17 e18 e19 e20 e21 e22 e23 e24 e25 e26 e27 e28 e29
  clear f8 f22
  subst e1
  subst e2
  unfold w32 at *
  try have sm := SL_made ((y4 (by omega) (n0).toNat (by omega)).mp (by omega)) NX_made
  try have so := (y0 (n0).toNat (by omega)).2.2.2 (by omega)
  try (have ix0 : n9 = n0 + 1 := (by omega); subst ix0)
  omega
def g_290v_16_21 : vG := ([(10, [9, 4], [], 1), (31, [8], [], 0), (1289, [8, 1, 4], [1, 2], 0), (90, [8], [], 0), (91, [8], [], 1), (31, [7], [], 0), (22, [7, 6, 4], [1], 0), (90, [7], [], 0), (91, [7], [], 1), (20, [6, 1], [1], 96), (0, [6], [], 354), (30, [3], [], 0), (42, [4, 5], [], 0), (20, [5, 1], [1], 64), (90, [5], [], 0), (91, [5], [], 20), (5000, [0, 1, 2, 3, 4], [0, 1], 16), (0, [0], [], 285), (0, [1], [], 285), (90, [2], [], -2147483648), (91, [2], [], 2147483647), (90, [3], [], 0), (91, [3], [], 1), (90, [4], [], 0), (91, [4], [], 20)], (91, [9], [], 20))
theorem c_290v_16_21 {q0 : Nat} : vOkm T0 (eP e_290v L_290v A_290v mu_290v (some q0)) 1 g_290v_16_21 := vOk_in fun ρ η h => by
  obtain ⟨f0, f1, f2, f3, f4, f5, f6, f7, f8, f9, f10, f11, f12, f13, f14, f15, f16, f17, f18, f19, f20, f21, f22, f23, f24, _⟩ := h
  exact q_290v_25 (q0 := q0) (n0 := ρ 4) (n1 := ρ 3) (n2 := ρ 2) (n3 := ρ 1) (n4 := ρ 0) (n5 := ρ 5) (n6 := ρ 6) (n7 := ρ 7) (n8 := ρ 8) (n9 := ρ 9) (H0 := η 0) (H1 := η 1) (H2 := η 2) f24 f23 f22 f21 f20 f19 f18 f17 f16 f15 f14 f13 f12 f11 f10 f9 f8 f7 f6 f5 f4 f3 f2 f1 f0
theorem q_290v_26 {q0 : Nat} {n0 n1 n2 n3 n4 n5 n6 n7 n8 n9 : Int} {H0 H1 H2 : gH} (f0 : n0 ≤ 20) (f1 : 0 ≤ n0) (f2 : n1 ≤ 1) (f3 : 0 ≤ n1) (f4 : n2 ≤ 2147483647) (f5 : (-2147483648) ≤ n2) (f6 : n3 = 285) (f7 : n4 = 285) (f8 : (hLe T0 H0 H1 ∧ hFr s_290v.2.2.2.2 H0 H1 ∧ hWt T0 H1) ∧ (Ab_290v_16 n4 n3 n2 n1 n0 H0 H1 ∧ preb_290v n4 H0) ∧ some q0 = some (mub_290v_16 n4 n3 n2 n1 n0 H0 H1)) (f9 : n5 ≤ 20) (f10 : 0 ≤ n5) (f11 : n5 = hV H1 (n3).toNat 64) (f12 : n0 < n5) (f13 : n1 = 0) (f14 : n6 = 354) (f15 : n6 = hV H1 (n3).toNat 96) (f16 : n7 ≤ 1) (f17 : 0 ≤ n7) (f18 : n7 = hV H1 (n6).toNat (n0).toNat) (f19 : n7 ≠ 0) (f20 : n8 ≤ 1) (f21 : 0 ≤ n8) (f22 : (hLe T0 H1 H2 ∧ hFr s_289.2.2.2.2 H1 H2 ∧ ((0 : Int) = 0 → H2.length = H1.length) ∧ hWt T0 H2) ∧ postb_289 n8 n3 n0 H1 H2) (f23 : n8 ≠ 0) (f24 : n9 = w32 (n0 + 1)) : Ab_290v_16 n4 n3 n2 n1 n9 H0 H2 ∧ ∀ q, some q0 = some q → mub_290v_16 n4 n3 n2 n1 n9 H0 H2 < q := by
  have g4 := f8.2.1.1
  unfold Ab_290v_16 at g4
  have g3 := f8.2.1.2
  unfold preb_290v at g3
  have g5 := Option.some.inj f8.2.2
  unfold mub_290v_16 at g5
  unfold postb_289 at f22
  unfold Ab_290v_16
  unfold mub_290v_16
  have e0 : hV H1 285 64 = hV H0 285 64 := f8.1.2.1.1 285 64 (by decide +kernel)
  have e1 : n5 = hV H0 285 64 := (by rw [f6] at f11; exact f11 : n5 = hV H1 285 64).trans (e0)
  have e2 : n7 = hV H1 354 (n0).toNat := (by rw [f14] at f18; exact f18 : n7 = hV H1 354 (n0).toNat)
  have e3 : hV H1 285 18 = hV H0 285 18 := f8.1.2.1.1 285 18 (by decide +kernel)
  have e4 : hV H1 285 18 = hV H0 285 18 := e3
  have e5 : hV H1 285 64 = hV H0 285 64 := e0
  have e6 : hV H1 296 = hV H0 296 := fRow f8.1.2.1 296 (by decide +kernel)
  have e7 : hV H1 298 = hV H0 298 := fRow f8.1.2.1 298 (by decide +kernel)
  have e8 : hV H1 300 = hV H0 300 := fRow f8.1.2.1 300 (by decide +kernel)
  have e9 : hV H1 301 = hV H0 301 := fRow f8.1.2.1 301 (by decide +kernel)
  have e10 : hV H1 303 = hV H0 303 := fRow f8.1.2.1 303 (by decide +kernel)
  have e11 : hV H1 328 = hV H0 328 := fRow f8.1.2.1 328 (by decide +kernel)
  have e12 : hV H1 330 = hV H0 330 := fRow f8.1.2.1 330 (by decide +kernel)
  have e13 : hV H1 331 = hV H0 331 := fRow f8.1.2.1 331 (by decide +kernel)
  have e14 : hV H1 332 = hV H0 332 := fRow f8.1.2.1 332 (by decide +kernel)
  have e15 : hV H1 341 = hV H0 341 := fRow f8.1.2.1 341 (by decide +kernel)
  have e16 : hV H2 285 18 = hV H1 285 18 := f22.1.2.1.1 285 18 (by decide +kernel)
  have e17 : hV H2 285 18 = hV H0 285 18 := (e16).trans e3
  have e18 : hV H2 285 64 = hV H1 285 64 := f22.1.2.1.1 285 64 (by decide +kernel)
  have e19 : hV H2 285 64 = hV H0 285 64 := (e18).trans e0
  have e20 : hV H2 285 65 = hV H1 285 65 := f22.1.2.1.1 285 65 (by decide +kernel)
  have e21 : hV H2 285 65 = hV H1 285 65 := e20
  have e22 : hV H2 296 = hV H1 296 := fRow f22.1.2.1 296 (by decide +kernel)
  have e23 : hV H2 296 = hV H0 296 := e22.trans e6
  have e24 : hV H2 298 = hV H1 298 := fRow f22.1.2.1 298 (by decide +kernel)
  have e25 : hV H2 298 = hV H0 298 := e24.trans e7
  have e26 : hV H2 300 = hV H1 300 := fRow f22.1.2.1 300 (by decide +kernel)
  have e27 : hV H2 300 = hV H0 300 := e26.trans e8
  have e28 : hV H2 301 = hV H1 301 := fRow f22.1.2.1 301 (by decide +kernel)
  have e29 : hV H2 301 = hV H0 301 := e28.trans e9
  have e30 : hV H2 303 = hV H1 303 := fRow f22.1.2.1 303 (by decide +kernel)
  have e31 : hV H2 303 = hV H0 303 := e30.trans e10
  have e32 : hV H2 328 = hV H1 328 := fRow f22.1.2.1 328 (by decide +kernel)
  have e33 : hV H2 328 = hV H0 328 := e32.trans e11
  have e34 : hV H2 329 = hV H1 329 := fRow f22.1.2.1 329 (by decide +kernel)
  have e35 : hV H2 330 = hV H1 330 := fRow f22.1.2.1 330 (by decide +kernel)
  have e36 : hV H2 330 = hV H0 330 := e35.trans e12
  have e37 : hV H2 331 = hV H1 331 := fRow f22.1.2.1 331 (by decide +kernel)
  have e38 : hV H2 331 = hV H0 331 := e37.trans e13
  have e39 : hV H2 332 = hV H1 332 := fRow f22.1.2.1 332 (by decide +kernel)
  have e40 : hV H2 332 = hV H0 332 := e39.trans e14
  have e41 : hV H2 333 = hV H1 333 := fRow f22.1.2.1 333 (by decide +kernel)
  have e42 : hV H2 334 = hV H1 334 := fRow f22.1.2.1 334 (by decide +kernel)
  have e43 : hV H2 335 = hV H1 335 := fRow f22.1.2.1 335 (by decide +kernel)
  have e44 : hV H2 336 = hV H1 336 := fRow f22.1.2.1 336 (by decide +kernel)
  have e45 : hV H2 341 = hV H1 341 := fRow f22.1.2.1 341 (by decide +kernel)
  have e46 : hV H2 341 = hV H0 341 := e45.trans e15
  have e47 : hV H2 354 = hV H1 354 := fRow f22.1.2.1 354 (by decide +kernel)
  have e48 : (0 : Int) ≤ hV H1 285 18 ∧ hV H1 285 18 ≤ 8 := f8.1.2.2 285 18 _ _ (by decide +kernel)
  have e49 : (0 : Int) ≤ hV H1 285 64 ∧ hV H1 285 64 ≤ 20 := f8.1.2.2 285 64 _ _ (by decide +kernel)
  have e50 : (0 : Int) ≤ hV H1 285 65 ∧ hV H1 285 65 ≤ 2147483647 := f8.1.2.2 285 65 _ _ (by decide +kernel)
  have e51 : (0 : Int) ≤ hV H2 285 18 ∧ hV H2 285 18 ≤ 8 := f22.1.2.2.2 285 18 _ _ (by decide +kernel)
  have e52 : (0 : Int) ≤ hV H2 285 64 ∧ hV H2 285 64 ≤ 20 := f22.1.2.2.2 285 64 _ _ (by decide +kernel)
  have e53 : (0 : Int) ≤ hV H2 285 65 ∧ hV H2 285 65 ≤ 2147483647 := f22.1.2.2.2 285 65 _ _ (by decide +kernel)
  try simp only [SO, SS, AC]
  try simp only [e4] at e48
  try simp only [e5] at e49
  try simp only [e17] at e51
  try simp only [e19] at e52
  try simp only [e21] at e53
  try simp only [e4, e5, e6, e7, e8, e9, e10, e11, e12, e13, e14, e15, e17, e19, e21, e23, e25, e27, e29, e31, e33, e34, e36, e38, e40, e41, e42, e43, e44, e46, e47] at g5
  try simp only [e4, e5, e6, e7, e8, e9, e10, e11, e12, e13, e14, e15, e17, e19, e21, e23, e25, e27, e29, e31, e33, e34, e36, e38, e40, e41, e42, e43, e44, e46, e47]
  have y0 := g4.1
  have y1 := g4.2.1
  have y2 := g4.2.2.1
  have y3 := g4.2.2.2.1
  have y4 := g4.2.2.2.2.1
  have y5 := g4.2.2.2.2.2
  have p0 := g3.1
  have p1 := g3.2.1
  have p2 := g3.2.2.1
  have p3 := g3.2.2.2.1
  have p4 := g3.2.2.2.2
  have r0_0 := f22.2.1
  have r0_1 := f22.2.2
  try simp only [SO] at y0
  try simp only [SS] at y1
  try simp only [AC] at y2
  try simp only [SO] at p0
  try simp only [SS] at p1
  try simp only [AC] at p3
  try simp only [e4, e5, e6, e7, e8, e9, e10, e11, e12, e13, e14, e15] at y0
  try simp only [e4, e5, e6, e7, e8, e9, e10, e11, e12, e13, e14, e15] at y1
  try simp only [e4, e5, e6, e7, e8, e9, e10, e11, e12, e13, e14, e15] at y2
  try simp only [e4, e5, e6, e7, e8, e9, e10, e11, e12, e13, e14, e15] at y3
  try simp only [e4, e5, e6, e7, e8, e9, e10, e11, e12, e13, e14, e15] at y4
  try simp only [e4, e5, e6, e7, e8, e9, e10, e11, e12, e13, e14, e15] at y5
  try simp only [e4, e5, e6, e7, e8, e9, e10, e11, e12, e13, e14, e15] at p0
  try simp only [e4, e5, e6, e7, e8, e9, e10, e11, e12, e13, e14, e15] at p1
  try simp only [e4, e5, e6, e7, e8, e9, e10, e11, e12, e13, e14, e15] at p2
  try simp only [e4, e5, e6, e7, e8, e9, e10, e11, e12, e13, e14, e15] at p3
  try simp only [e4, e5, e6, e7, e8, e9, e10, e11, e12, e13, e14, e15] at p4
  try simp only [e4, e5, e6, e7, e8, e9, e10, e11, e12, e13, e14, e15, e17, e19, e21, e23, e25, e27, e29, e31, e33, e34, e36, e38, e40, e41, e42, e43, e44, e46, e47] at r0_0
  try simp only [e4, e5, e6, e7, e8, e9, e10, e11, e12, e13, e14, e15, e17, e19, e21, e23, e25, e27, e29, e31, e33, e34, e36, e38, e40, e41, e42, e43, e44, e46, e47] at r0_1
  clear g3
  clear g4
  clear f11 f15 f18 e0 e3 e4 e5 e6 e7 e8 e9 e10 e11 e12 e13 e14 e15 e16 e17 e18 e19 e20 e21 e22 e23 e24 e25 e26 e27 e28 e29 e30 e31 e32 e33 e34 e35 e36 e37 e38 e39 e40 e41 e42 e43 e44 e45 e46 e47
  clear f8 f22
  subst e1
  subst e2
  unfold w32 at *
  try have sm := SL_made ((y4 (by omega) (n0).toNat (by omega)).mp (by omega)) NX_made
  try have so := (y0 (n0).toNat (by omega)).2.2.2 (by omega)
  try (have ix0 : n9 = n0 + 1 := (by omega); subst ix0)

  refine ⟨?_, fun q hq => ?_⟩
  · exact ⟨y0, y1, y2, by omega, y4, y5⟩
  · have g6 := Option.some.inj hq
    subst g6
    try clear r0_0
    try clear r0_1
    omega
def g_290v_16_22 : vG := ([(10, [9, 4], [], 1), (31, [8], [], 0), (1289, [8, 1, 4], [1, 2], 0), (90, [8], [], 0), (91, [8], [], 1), (31, [7], [], 0), (22, [7, 6, 4], [1], 0), (90, [7], [], 0), (91, [7], [], 1), (20, [6, 1], [1], 96), (0, [6], [], 354), (30, [3], [], 0), (42, [4, 5], [], 0), (20, [5, 1], [1], 64), (90, [5], [], 0), (91, [5], [], 20), (5000, [0, 1, 2, 3, 4], [0, 1], 16), (0, [0], [], 285), (0, [1], [], 285), (90, [2], [], -2147483648), (91, [2], [], 2147483647), (90, [3], [], 0), (91, [3], [], 1), (90, [4], [], 0), (91, [4], [], 20)], (4000, [1, 2, 3, 9], [2], 16))
theorem c_290v_16_22 {q0 : Nat} : vOkm T0 (eP e_290v L_290v A_290v mu_290v (some q0)) 1 g_290v_16_22 := vOk_in fun ρ η h => by
  obtain ⟨f0, f1, f2, f3, f4, f5, f6, f7, f8, f9, f10, f11, f12, f13, f14, f15, f16, f17, f18, f19, f20, f21, f22, f23, f24, _⟩ := h
  exact q_290v_26 (q0 := q0) (n0 := ρ 4) (n1 := ρ 3) (n2 := ρ 2) (n3 := ρ 1) (n4 := ρ 0) (n5 := ρ 5) (n6 := ρ 6) (n7 := ρ 7) (n8 := ρ 8) (n9 := ρ 9) (H0 := η 0) (H1 := η 1) (H2 := η 2) f24 f23 f22 f21 f20 f19 f18 f17 f16 f15 f14 f13 f12 f11 f10 f9 f8 f7 f6 f5 f4 f3 f2 f1 f0
def p_290v_16 : List vG := [g_290v_16_0,
  g_290v_16_1,
  g_290v_16_2,
  g_290v_16_3,
  g_290v_16_4,
  g_290v_16_5,
  g_290v_16_6,
  g_290v_16_7,
  g_290v_16_8,
  g_290v_16_9,
  g_290v_16_10,
  g_290v_16_11,
  g_290v_16_12,
  g_290v_16_13,
  g_290v_16_14,
  g_290v_16_15,
  g_290v_16_16,
  g_290v_16_17,
  g_290v_16_18,
  g_290v_16_19,
  g_290v_16_20,
  g_290v_16_21,
  g_290v_16_22]
theorem r_290v_16 : vCovO false (eRc e_290v L_290v cs_290v 2000 (16, [(0, (3, 12, 285, 0)), (1, (0, -2147483648, 2147483647, 0)), (2, (0, 0, 1, 0)), (3, (0, 0, 20, 0))])) p_290v_16 = true := by decide +kernel
theorem m_290v (d : Nat) : eC e_290v (d + 8) := eC_ok (e := e_290v) (L := L_290v) (cs := cs_290v) (n := 2000) (d := d + 7) (A := A_290v) (μ := mu_290v) (tp := false) (p0 := p_290v_s) rfl ⟨m_283v (d + 2), ⟨m_288 d, ⟨m_289 (d + 1), trivial⟩⟩⟩ rfl (.inl rfl) (by decide +kernel) (fun z => nomatch z) r_290v_s (allC c_290v_s_0 allN) (allC (.inl ⟨p_290v_4, r_290v_4, fun q0 => (allC c_290v_4_0 (allC c_290v_4_1 (allC c_290v_4_2 allN)))⟩) (allC (.inl ⟨p_290v_16, r_290v_16, fun q0 => (allC c_290v_16_0 (allC c_290v_16_1 (allC c_290v_16_2 (allC c_290v_16_3 (allC c_290v_16_4 (allC c_290v_16_5 (allC c_290v_16_6 (allC c_290v_16_7 (allC c_290v_16_8 (allC c_290v_16_9 (allC c_290v_16_10 (allC c_290v_16_11 (allC c_290v_16_12 (allC c_290v_16_13 (allC c_290v_16_14 (allC c_290v_16_15 (allC c_290v_16_16 (allC c_290v_16_17 (allC c_290v_16_18 (allC c_290v_16_19 (allC c_290v_16_20 (allC c_290v_16_21 (allC c_290v_16_22 allN)))))))))))))))))))))))⟩) allN))
