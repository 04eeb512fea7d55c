/-! CONTRACTS of methods (printed by wip/gen/emit.py). -/
/- MixStageModel.again ()I -/
noncomputable def s_290 : vM := ([(3, 12, 285, 0)], (0, -2147483648, 2147483647, 0), 1, 0, [(12, 65), (12, 82), (12, 88), (12, 93), (460, 0), (492, 0), (500, 0), (508, 0), (516, 0), (524, 0), (572, 0), (580, 0), (588, 0), (596, 0), (604, 0), (612, 0), (621, 0), (631, 0), (637, 0), (644, 0), (652, 0), (663, 0)])
def preb_290 (a0 : Int) (h : gH) : Prop := SO h ∧ SS h ∧ PG h ∧ AC h ∧ hV h 285 65 ≤ 20000
def pre_290 : List Int → gH → Prop := fun xs h => match xs with
  | [a0] => preb_290 a0 h
  | _ => False
def postb_290 (r a0 : Int) (h0 h : gH) : Prop := SO h ∧ SS h ∧ AC h ∧ hV h 285 65 ≤ hV h0 285 65 + 20
def post_290 : List Int → gH → gH → Prop := fun xs h0 h => match xs with
  | [r, a0] => postb_290 r a0 h0 h
  | _ => True
noncomputable def e_290 : vE := (290, s_290, pre_290, post_290)
noncomputable def L_290 : List vE := [e_283, e_288, e_289]
def cs_290 : List vC := [(4, [(0, (3, 12, 285, 0)), (1, (0, -2147483648, 2147483647, 0)), (2, (0, 0, 1, 0))]), (16, [(0, (3, 12, 285, 0)), (1, (0, -2147483648, 2147483647, 0)), (2, (0, 0, 1, 0)), (3, (0, 0, 20, 0))])]
def Ab_290_4 (a0 x0 x1 x2 : Int) (h0 h : gH) : Prop := SO h ∧ SS h ∧ AC h ∧ hV h 285 65 + ((SNv (hV h 285 64) (NXp (hV h 328) (hV h 332) (hV h 335) (hV h 296) (hV h 298) (hV h 300)) (hV h 328) (hV h 335) (hV h 333) (MKv (hV h 296) (hV h 298) (hV h 300) (hV h 301) (hV h 303) (hV h 341)) : Nat) : Int) ≤ hV h0 285 65 + 20
noncomputable def mub_290_4 (a0 x0 x1 x2 : Int) (h0 h : gH) : Nat := SNv (hV h 285 64) (NXp (hV h 328) (hV h 332) (hV h 335) (hV h 296) (hV h 298) (hV h 300)) (hV h 328) (hV h 335) (hV h 333) (MKv (hV h 296) (hV h 298) (hV h 300) (hV h 301) (hV h 303) (hV h 341)) * 100 + 45 * (x2).toNat
def Ab_290_16 (a0 x0 x1 x2 x3 : Int) (h0 h : gH) : Prop := SO h ∧ SS h ∧ AC h ∧ hV h 285 65 + ((SNv (hV h 285 64) (NXp (hV h 328) (hV h 332) (hV h 335) (hV h 296) (hV h 298) (hV h 300)) (hV h 328) (hV h 335) (hV h 333) (MKv (hV h 296) (hV h 298) (hV h 300) (hV h 301) (hV h 303) (hV h 341)) : Nat) : Int) ≤ hV h0 285 65 + 20 ∧ (x2 = 0 → ∀ s : Nat, (s : Int) < hV h 285 64 → (¬ hV h 354 (s) = 0 ↔ SLp (hV h 285 64) (NXp (hV h 328) (hV h 332) (hV h 335) (hV h 296) (hV h 298) (hV h 300)) (hV h 328) (hV h 335) (hV h 333) (MKv (hV h 296) (hV h 298) (hV h 300) (hV h 301) (hV h 303) (hV h 341)) s))
noncomputable def mub_290_16 (a0 x0 x1 x2 x3 : Int) (h0 h : gH) : Nat := SNv (hV h 285 64) (NXp (hV h 328) (hV h 332) (hV h 335) (hV h 296) (hV h 298) (hV h 300)) (hV h 328) (hV h 335) (hV h 333) (MKv (hV h 296) (hV h 298) (hV h 300) (hV h 301) (hV h 303) (hV h 341)) * 100 + 40 + 30 * (x2).toNat - (x3).toNat
def A_290 : Int → List Int → gH → gH → Prop := fun c xs h0 h => match c.toNat with
  | 4 => SO h ∧ SS h ∧ AC h ∧ hV h 285 65 + ((SNv (hV h 285 64) (NXp (hV h 328) (hV h 332) (hV h 335) (hV h 296) (hV h 298) (hV h 300)) (hV h 328) (hV h 335) (hV h 333) (MKv (hV h 296) (hV h 298) (hV h 300) (hV h 301) (hV h 303) (hV h 341)) : Nat) : Int) ≤ hV h0 285 65 + 20
  | 16 => (match xs with
    | [a0, x0, x1, x2, x3] => Ab_290_16 a0 x0 x1 x2 x3 h0 h
    | _ => False)
  | _ => True
noncomputable def mu_290 : Int → List Int → gH → gH → Nat := fun c xs h0 h => match c.toNat with
  | 4 => (match xs with
    | [a0, x0, x1, x2] => mub_290_4 a0 x0 x1 x2 h0 h
    | _ => 0)
  | 16 => (match xs with
    | [a0, x0, x1, x2, x3] => mub_290_16 a0 x0 x1 x2 x3 h0 h
    | _ => 0)
  | _ => 0
theorem q_290_0 {n0 n1 n2 : Int} {H0 : gH} (f0 : n0 = 285) (f1 : hWt T0 H0 ∧ preb_290 n0 H0) (f2 : n1 = 0) (f3 : n2 = 1) : Ab_290_4 n0 n0 n1 n2 H0 H0 ∧ ∀ q, none = some q → mub_290_4 n0 n0 n1 n2 H0 H0 < q := by
  unfold preb_290 at f1
  unfold Ab_290_4
  have e0 : (0 : Int) ≤ hV H0 285 18 ∧ hV H0 285 18 ≤ 8 := f1.1 285 18 _ _ kW_285_18
  have e1 : (0 : Int) ≤ hV H0 285 64 ∧ hV H0 285 64 ≤ 20 := f1.1 285 64 _ _ kW_285_64
  have e2 : (0 : Int) ≤ hV H0 285 65 ∧ hV H0 285 65 ≤ 2147483647 := f1.1 285 65 _ _ kW_285_65
  try simp only [SO, SS, AC]
  have p0 := f1.2.1
  have p1 := f1.2.2.1
  have p2 := f1.2.2.2.1
  have p3 := f1.2.2.2.2.1
  have p4 := f1.2.2.2.2.2
  try simp only [SO] at p0
  try simp only [SS] at p1
  try simp only [AC] at p3
  clear f1

  have sn := cnt_le (p := fun s => (s : Int) < hV H0 285 64 ∧ SLp (hV H0 285 64) (NXp (hV H0 328) (hV H0 332) (hV H0 335) (hV H0 296) (hV H0 298) (hV H0 300)) (hV H0 328) (hV H0 335) (hV H0 333) (MKv (hV H0 296) (hV H0 298) (hV H0 300) (hV H0 301) (hV H0 303) (hV H0 341)) s) 20
  unfold SNv
  refine ⟨?_, fun q hq => ?_⟩
  · exact ⟨p0, p1, p3, by omega⟩
  · exact nomatch hq
def g_290_s_0 : vG := ([(0, [2], [], 1), (0, [1], [], 0), (6000, [0], [0], 0), (0, [0], [], 285)], (4000, [0, 1, 2], [0], 4))
theorem c_290_s_0 : vOkm T0 (eP e_290 L_290 A_290 mu_290 none) 1 g_290_s_0 := vOk_inI fun ρ η f0 f1 f2 f3 => q_290_0 (n0 := ρ 0) (n1 := ρ 1) (n2 := ρ 2) (H0 := η 0) f3 f2 f1 f0
def p_290_s : List vG := [g_290_s_0]
theorem r_290_s : vCovO false (eR0 e_290 L_290 cs_290 2000) p_290_s = true := by decide +kernel
theorem kR_290_296 : vFreeR s_290.2.2.2.2 296 = true := by decide +kernel
theorem kR_290_298 : vFreeR s_290.2.2.2.2 298 = true := by decide +kernel
theorem kR_290_300 : vFreeR s_290.2.2.2.2 300 = true := by decide +kernel
theorem kR_290_301 : vFreeR s_290.2.2.2.2 301 = true := by decide +kernel
theorem kR_290_303 : vFreeR s_290.2.2.2.2 303 = true := by decide +kernel
theorem kR_290_328 : vFreeR s_290.2.2.2.2 328 = true := by decide +kernel
theorem kR_290_330 : vFreeR s_290.2.2.2.2 330 = true := by decide +kernel
theorem kR_290_331 : vFreeR s_290.2.2.2.2 331 = true := by decide +kernel
theorem kR_290_332 : vFreeR s_290.2.2.2.2 332 = true := by decide +kernel
theorem kR_290_341 : vFreeR s_290.2.2.2.2 341 = true := by decide +kernel
theorem kF_290_285_18 : vFree s_290.2.2.2.2 285 18 = true := by decide +kernel
theorem kF_290_285_64 : vFree s_290.2.2.2.2 285 64 = true := by decide +kernel
theorem q_290_1 {q0 : Nat} {n0 n1 n2 n3 : Int} {H0 H1 : gH} (f0 : n0 ≤ 1) (f1 : 0 ≤ n0) (f2 : n1 ≤ 2147483647) (f3 : (-2147483648) ≤ n1) (f4 : n2 = 285) (f5 : n3 = 285) (f6 : (hLe T0 H0 H1 ∧ hFr s_290.2.2.2.2 H0 H1 ∧ hWt T0 H1) ∧ (Ab_290_4 n3 n2 n1 n0 H0 H1 ∧ preb_290 n3 H0) ∧ some q0 = some (mub_290_4 n3 n2 n1 n0 H0 H1)) (f7 : n0 = 0) : postb_290 n1 n3 H0 H1 := by
  have g4 := f6.2.1.1
  unfold Ab_290_4 at g4
  have g3 := f6.2.1.2
  unfold preb_290 at g3
  unfold postb_290
  have e1 : hV H1 285 18 = hV H0 285 18 := (f6.1.2.1.1 285 18 kF_290_285_18)
  have e3 : hV H1 285 64 = hV H0 285 64 := (f6.1.2.1.1 285 64 kF_290_285_64)
  have e4 : hV H1 296 = hV H0 296 := fRow f6.1.2.1 296 kR_290_296
  have e5 : hV H1 298 = hV H0 298 := fRow f6.1.2.1 298 kR_290_298
  have e6 : hV H1 300 = hV H0 300 := fRow f6.1.2.1 300 kR_290_300
  have e7 : hV H1 301 = hV H0 301 := fRow f6.1.2.1 301 kR_290_301
  have e8 : hV H1 303 = hV H0 303 := fRow f6.1.2.1 303 kR_290_303
  have e9 : hV H1 328 = hV H0 328 := fRow f6.1.2.1 328 kR_290_328
  have e10 : hV H1 330 = hV H0 330 := fRow f6.1.2.1 330 kR_290_330
  have e11 : hV H1 331 = hV H0 331 := fRow f6.1.2.1 331 kR_290_331
  have e12 : hV H1 332 = hV H0 332 := fRow f6.1.2.1 332 kR_290_332
  have e13 : hV H1 341 = hV H0 341 := fRow f6.1.2.1 341 kR_290_341
  have e14 : (0 : Int) ≤ hV H0 285 18 ∧ hV H0 285 18 ≤ 8 := bTo e1 (f6.1.2.2 285 18 _ _ kW_285_18)
  have e15 : (0 : Int) ≤ hV H0 285 64 ∧ hV H0 285 64 ≤ 20 := bTo e3 (f6.1.2.2 285 64 _ _ kW_285_64)
  have e16 : (0 : Int) ≤ hV H1 285 65 ∧ hV H1 285 65 ≤ 2147483647 := f6.1.2.2 285 65 _ _ kW_285_65
  try simp only [SO, SS, AC]
  try simp only [e1, e3, e4, e5, e6, e9, e10, e11, e12, e13]
  have y0 := g4.1
  have y1 := g4.2.1
  have y2 := g4.2.2.1
  have y3 := g4.2.2.2
  have p0 := g3.1
  have p1 := g3.2.1
  have p2 := g3.2.2.1
  have p3 := g3.2.2.2.1
  have p4 := g3.2.2.2.2
  try simp only [SO] at y0
  try simp only [SS] at y1
  try simp only [AC] at y2
  try simp only [SO] at p0
  try simp only [SS] at p1
  try simp only [AC] at p3
  try simp only [e1, e3, e9, e10, e11, e12] at y0
  try simp only [e13] at y1
  try simp only [e1, e3, e4, e5, e6, e9, e12] at y2
  try simp only [e3, e4, e5, e6, e7, e8, e9, e12, e13] at y3
  clear g3
  clear g4
  clear e1 e3 e4 e5 e6 e7 e8 e9 e10 e11 e12 e13
  clear f6

  exact ⟨y0, y1, y2, by omega⟩
def g_290_4_0 : vG := ([(30, [3], [], 0), (5000, [0, 1, 2, 3], [0, 1], 4), (0, [0], [], 285), (0, [1], [], 285), (90, [2], [], -2147483648), (91, [2], [], 2147483647), (90, [3], [], 0), (91, [3], [], 1)], (3000, [2], [1], 92))
theorem c_290_4_0 {q0 : Nat} : vOkm T0 (eP e_290 L_290 A_290 mu_290 (some q0)) 1 g_290_4_0 := vOk_inI fun ρ η f0 f1 f2 f3 f4 f5 f6 f7 => q_290_1 (q0 := q0) (n0 := ρ 3) (n1 := ρ 2) (n2 := ρ 1) (n3 := ρ 0) (H0 := η 0) (H1 := η 1) f7 f6 f5 f4 f3 f2 f1 f0
theorem q_290_2 {q0 : Nat} {n0 n1 n2 n3 : Int} {H0 H1 : gH} (f0 : n0 ≤ 1) (f1 : 0 ≤ n0) (f2 : n1 ≤ 2147483647) (f3 : (-2147483648) ≤ n1) (f4 : n2 = 285) (f5 : n3 = 285) (f6 : (hLe T0 H0 H1 ∧ hFr s_290.2.2.2.2 H0 H1 ∧ hWt T0 H1) ∧ (Ab_290_4 n3 n2 n1 n0 H0 H1 ∧ preb_290 n3 H0) ∧ some q0 = some (mub_290_4 n3 n2 n1 n0 H0 H1)) (f7 : n0 ≠ 0) : preb_288 n2 H1 := by
  have g4 := f6.2.1.1
  unfold Ab_290_4 at g4
  have g3 := f6.2.1.2
  unfold preb_290 at g3
  unfold preb_288
  have e1 : hV H1 285 18 = hV H0 285 18 := (f6.1.2.1.1 285 18 kF_290_285_18)
  have e3 : hV H1 285 64 = hV H0 285 64 := (f6.1.2.1.1 285 64 kF_290_285_64)
  have e4 : hV H1 296 = hV H0 296 := fRow f6.1.2.1 296 kR_290_296
  have e5 : hV H1 298 = hV H0 298 := fRow f6.1.2.1 298 kR_290_298
  have e6 : hV H1 300 = hV H0 300 := fRow f6.1.2.1 300 kR_290_300
  have e7 : hV H1 301 = hV H0 301 := fRow f6.1.2.1 301 kR_290_301
  have e8 : hV H1 303 = hV H0 303 := fRow f6.1.2.1 303 kR_290_303
  have e9 : hV H1 328 = hV H0 328 := fRow f6.1.2.1 328 kR_290_328
  have e10 : hV H1 330 = hV H0 330 := fRow f6.1.2.1 330 kR_290_330
  have e11 : hV H1 331 = hV H0 331 := fRow f6.1.2.1 331 kR_290_331
  have e12 : hV H1 332 = hV H0 332 := fRow f6.1.2.1 332 kR_290_332
  have e13 : hV H1 341 = hV H0 341 := fRow f6.1.2.1 341 kR_290_341
  have e14 : PG H1 = PG H0 := PG_fr f6.1.2.1 (by decide +kernel)
  have e15 : (0 : Int) ≤ hV H0 285 18 ∧ hV H0 285 18 ≤ 8 := bTo e1 (f6.1.2.2 285 18 _ _ kW_285_18)
  have e16 : (0 : Int) ≤ hV H0 285 64 ∧ hV H0 285 64 ≤ 20 := bTo e3 (f6.1.2.2 285 64 _ _ kW_285_64)
  have e17 : (0 : Int) ≤ hV H1 285 65 ∧ hV H1 285 65 ≤ 2147483647 := f6.1.2.2 285 65 _ _ kW_285_65
  try simp only [SO, SS, AC]
  try simp only [e1, e3, e4, e5, e6, e9, e10, e11, e12, e13, e14]
  have y0 := g4.1
  have y1 := g4.2.1
  have y2 := g4.2.2.1
  have y3 := g4.2.2.2
  have p0 := g3.1
  have p1 := g3.2.1
  have p2 := g3.2.2.1
  have p3 := g3.2.2.2.1
  have p4 := g3.2.2.2.2
  try simp only [SO] at y0
  try simp only [SS] at y1
  try simp only [AC] at y2
  try simp only [SO] at p0
  try simp only [SS] at p1
  try simp only [AC] at p3
  try simp only [e1, e3, e9, e10, e11, e12] at y0
  try simp only [e13] at y1
  try simp only [e1, e3, e4, e5, e6, e9, e12] at y2
  try simp only [e3, e4, e5, e6, e7, e8, e9, e12, e13] at y3
  clear g3
  clear g4
  clear e1 e3 e4 e5 e6 e7 e8 e9 e10 e11 e12 e13 e14
  clear f6
  refine ⟨?_, ?_, ?_, ?_⟩ <;> first | assumption | omega | trivial
def g_290_4_1 : vG := ([(31, [3], [], 0), (5000, [0, 1, 2, 3], [0, 1], 4), (0, [0], [], 285), (0, [1], [], 285), (90, [2], [], -2147483648), (91, [2], [], 2147483647), (90, [3], [], 0), (91, [3], [], 1)], (2288, [1], [1], 0))
theorem c_290_4_1 {q0 : Nat} : vOkm T0 (eP e_290 L_290 A_290 mu_290 (some q0)) 1 g_290_4_1 := vOk_inI fun ρ η f0 f1 f2 f3 f4 f5 f6 f7 => q_290_2 (q0 := q0) (n0 := ρ 3) (n1 := ρ 2) (n2 := ρ 1) (n3 := ρ 0) (H0 := η 0) (H1 := η 1) f7 f6 f5 f4 f3 f2 f1 f0
theorem kR_288_330 : vFreeR s_288.2.2.2.2 330 = true := by decide +kernel
theorem kR_288_331 : vFreeR s_288.2.2.2.2 331 = true := by decide +kernel
theorem kR_288_334 : vFreeR s_288.2.2.2.2 334 = true := by decide +kernel
theorem kR_288_336 : vFreeR s_288.2.2.2.2 336 = true := by decide +kernel
theorem q_290_3 {q0 : Nat} {n0 n1 n2 n3 n4 n5 : Int} {H0 H1 H2 : gH} (f0 : n0 ≤ 1) (f1 : 0 ≤ n0) (f2 : n1 ≤ 2147483647) (f3 : (-2147483648) ≤ n1) (f4 : n2 = 285) (f5 : n3 = 285) (f6 : (hLe T0 H0 H1 ∧ hFr s_290.2.2.2.2 H0 H1 ∧ hWt T0 H1) ∧ (Ab_290_4 n3 n2 n1 n0 H0 H1 ∧ preb_290 n3 H0) ∧ some q0 = some (mub_290_4 n3 n2 n1 n0 H0 H1)) (f7 : n0 ≠ 0) (f8 : (hLe T0 H1 H2 ∧ hFr s_288.2.2.2.2 H1 H2 ∧ ((0 : Int) = 0 → H2.length = H1.length) ∧ hWt T0 H2) ∧ postb_288 n2 H1 H2) (f9 : n4 = 0) (f10 : n5 = 0) : Ab_290_16 n3 n2 n1 n4 n5 H0 H2 ∧ ∀ q, some q0 = some q → mub_290_16 n3 n2 n1 n4 n5 H0 H2 < q := by
  have g4 := f6.2.1.1
  unfold Ab_290_4 at g4
  have g3 := f6.2.1.2
  unfold preb_290 at g3
  have g5 := Option.some.inj f6.2.2
  unfold mub_290_4 at g5
  unfold postb_288 at f8
  unfold Ab_290_16
  unfold mub_290_16
  have e1 : hV H1 285 18 = hV H0 285 18 := (f6.1.2.1.1 285 18 kF_290_285_18)
  have e3 : hV H1 285 64 = hV H0 285 64 := (f6.1.2.1.1 285 64 kF_290_285_64)
  have e4 : hV H1 296 = hV H0 296 := fRow f6.1.2.1 296 kR_290_296
  have e5 : hV H1 298 = hV H0 298 := fRow f6.1.2.1 298 kR_290_298
  have e6 : hV H1 300 = hV H0 300 := fRow f6.1.2.1 300 kR_290_300
  have e7 : hV H1 301 = hV H0 301 := fRow f6.1.2.1 301 kR_290_301
  have e8 : hV H1 303 = hV H0 303 := fRow f6.1.2.1 303 kR_290_303
  have e9 : hV H1 328 = hV H0 328 := fRow f6.1.2.1 328 kR_290_328
  have e10 : hV H1 330 = hV H0 330 := fRow f6.1.2.1 330 kR_290_330
  have e11 : hV H1 331 = hV H0 331 := fRow f6.1.2.1 331 kR_290_331
  have e12 : hV H1 332 = hV H0 332 := fRow f6.1.2.1 332 kR_290_332
  have e13 : hV H1 341 = hV H0 341 := fRow f6.1.2.1 341 kR_290_341
  have e15 : hV H2 285 18 = hV H0 285 18 := ((f8.1.2.1.1 285 18 kF_288_285_18)).trans (f6.1.2.1.1 285 18 kF_290_285_18)
  have e17 : hV H2 285 64 = hV H0 285 64 := ((f8.1.2.1.1 285 64 kF_288_285_64)).trans (f6.1.2.1.1 285 64 kF_290_285_64)
  have e19 : hV H2 285 65 = hV H1 285 65 := (f8.1.2.1.1 285 65 kF_288_285_65)
  have e21 : hV H2 296 = hV H0 296 := (fRow f8.1.2.1 296 kR_288_296).trans e4
  have e23 : hV H2 298 = hV H0 298 := (fRow f8.1.2.1 298 kR_288_298).trans e5
  have e25 : hV H2 300 = hV H0 300 := (fRow f8.1.2.1 300 kR_288_300).trans e6
  have e27 : hV H2 301 = hV H0 301 := (fRow f8.1.2.1 301 kR_288_301).trans e7
  have e29 : hV H2 303 = hV H0 303 := (fRow f8.1.2.1 303 kR_288_303).trans e8
  have e31 : hV H2 328 = hV H0 328 := (fRow f8.1.2.1 328 kR_288_328).trans e9
  have e33 : hV H2 330 = hV H0 330 := (fRow f8.1.2.1 330 kR_288_330).trans e10
  have e35 : hV H2 331 = hV H0 331 := (fRow f8.1.2.1 331 kR_288_331).trans e11
  have e37 : hV H2 332 = hV H0 332 := (fRow f8.1.2.1 332 kR_288_332).trans e12
  have e38 : hV H2 333 = hV H1 333 := fRow f8.1.2.1 333 kR_288_333
  have e39 : hV H2 334 = hV H1 334 := fRow f8.1.2.1 334 kR_288_334
  have e40 : hV H2 335 = hV H1 335 := fRow f8.1.2.1 335 kR_288_335
  have e41 : hV H2 336 = hV H1 336 := fRow f8.1.2.1 336 kR_288_336
  have e43 : hV H2 341 = hV H0 341 := (fRow f8.1.2.1 341 kR_288_341).trans e13
  have e44 : (0 : Int) ≤ hV H0 285 18 ∧ hV H0 285 18 ≤ 8 := bTo e1 (f6.1.2.2 285 18 _ _ kW_285_18)
  have e45 : (0 : Int) ≤ hV H0 285 64 ∧ hV H0 285 64 ≤ 20 := bTo e3 (f6.1.2.2 285 64 _ _ kW_285_64)
  have e46 : (0 : Int) ≤ hV H1 285 65 ∧ hV H1 285 65 ≤ 2147483647 := f6.1.2.2 285 65 _ _ kW_285_65
  try simp only [SO, SS, AC]
  try simp only [e3, e4, e5, e6, e7, e8, e9, e12, e13] at g5
  try simp only [e15, e17, e19, e21, e23, e25, e27, e29, e31, e33, e35, e37, e38, e39, e40, e41, e43]
  have y0 := g4.1
  have y1 := g4.2.1
  have y2 := g4.2.2.1
  have y3 := g4.2.2.2
  have p0 := g3.1
  have p1 := g3.2.1
  have p2 := g3.2.2.1
  have p3 := g3.2.2.2.1
  have p4 := g3.2.2.2.2
  have r0_0 := f8.2
  try simp only [SO] at y0
  try simp only [SS] at y1
  try simp only [AC] at y2
  try simp only [SO] at p0
  try simp only [SS] at p1
  try simp only [AC] at p3
  try simp only [e1, e3, e9, e10, e11, e12] at y0
  try simp only [e13] at y1
  try simp only [e1, e3, e4, e5, e6, e9, e12] at y2
  try simp only [e3, e4, e5, e6, e7, e8, e9, e12, e13] at y3
  try simp only [e17, e21, e23, e25, e27, e29, e31, e37, e38, e40, e43] at r0_0
  clear g3
  clear g4
  clear e1 e3 e4 e5 e6 e7 e8 e9 e10 e11 e12 e13 e15 e17 e19 e21 e23 e25 e27 e29 e31 e33 e35 e37 e38 e39 e40 e41 e43
  clear f6 f8

  refine ⟨?_, fun q hq => ?_⟩
  · exact ⟨y0, y1, y2, by omega, fun _ => r0_0⟩
  · have g6 := Option.some.inj hq
    subst g6
    omega
def g_290_4_2 : vG := ([(0, [5], [], 0), (0, [4], [], 0), (1288, [1], [1, 2], 0), (31, [3], [], 0), (5000, [0, 1, 2, 3], [0, 1], 4), (0, [0], [], 285), (0, [1], [], 285), (90, [2], [], -2147483648), (91, [2], [], 2147483647), (90, [3], [], 0), (91, [3], [], 1)], (4000, [1, 2, 4, 5], [2], 16))
theorem c_290_4_2 {q0 : Nat} : vOkm T0 (eP e_290 L_290 A_290 mu_290 (some q0)) 1 g_290_4_2 := vOk_inI fun ρ η f0 f1 f2 f3 f4 f5 f6 f7 f8 f9 f10 => q_290_3 (q0 := q0) (n0 := ρ 3) (n1 := ρ 2) (n2 := ρ 1) (n3 := ρ 0) (n4 := ρ 4) (n5 := ρ 5) (H0 := η 0) (H1 := η 1) (H2 := η 2) f10 f9 f8 f7 f6 f5 f4 f3 f2 f1 f0
def p_290_4 : List vG := [g_290_4_0,
  g_290_4_1,
  g_290_4_2]
theorem r_290_4 : vCovO false (eRc e_290 L_290 cs_290 2000 (4, [(0, (3, 12, 285, 0)), (1, (0, -2147483648, 2147483647, 0)), (2, (0, 0, 1, 0))])) p_290_4 = true := by decide +kernel
theorem q_290_4 {q0 : Nat} {n0 n1 n2 n3 n4 n5 : Int} {H0 H1 : gH} (f0 : n0 ≤ 20) (f1 : 0 ≤ n0) (f2 : n1 ≤ 1) (f3 : 0 ≤ n1) (f4 : n2 ≤ 2147483647) (f5 : (-2147483648) ≤ n2) (f6 : n3 = 285) (f7 : n4 = 285) (f8 : (hLe T0 H0 H1 ∧ hFr s_290.2.2.2.2 H0 H1 ∧ hWt T0 H1) ∧ (Ab_290_16 n4 n3 n2 n1 n0 H0 H1 ∧ preb_290 n4 H0) ∧ some q0 = some (mub_290_16 n4 n3 n2 n1 n0 H0 H1)) (f9 : n5 ≤ 20) (f10 : 0 ≤ n5) (f11 : n5 = hV H1 (n3).toNat 64) (f12 : n5 ≤ n0) : Ab_290_4 n4 n3 n2 n1 H0 H1 ∧ ∀ q, some q0 = some q → mub_290_4 n4 n3 n2 n1 H0 H1 < q := by
  have g4 := f8.2.1.1
  unfold Ab_290_16 at g4
  have g3 := f8.2.1.2
  unfold preb_290 at g3
  have g5 := Option.some.inj f8.2.2
  unfold mub_290_16 at g5
  unfold Ab_290_4
  unfold mub_290_4
  have e1 : n5 = hV H0 285 64 := (by rw [f6] at f11; exact f11 : n5 = hV H1 285 64).trans ((f8.1.2.1.1 285 64 kF_290_285_64))
  have e3 : hV H1 285 18 = hV H0 285 18 := (f8.1.2.1.1 285 18 kF_290_285_18)
  have e4 : hV H1 285 64 = hV H0 285 64 := (f8.1.2.1.1 285 64 kF_290_285_64)
  have e5 : hV H1 296 = hV H0 296 := fRow f8.1.2.1 296 kR_290_296
  have e6 : hV H1 298 = hV H0 298 := fRow f8.1.2.1 298 kR_290_298
  have e7 : hV H1 300 = hV H0 300 := fRow f8.1.2.1 300 kR_290_300
  have e8 : hV H1 301 = hV H0 301 := fRow f8.1.2.1 301 kR_290_301
  have e9 : hV H1 303 = hV H0 303 := fRow f8.1.2.1 303 kR_290_303
  have e10 : hV H1 328 = hV H0 328 := fRow f8.1.2.1 328 kR_290_328
  have e11 : hV H1 330 = hV H0 330 := fRow f8.1.2.1 330 kR_290_330
  have e12 : hV H1 331 = hV H0 331 := fRow f8.1.2.1 331 kR_290_331
  have e13 : hV H1 332 = hV H0 332 := fRow f8.1.2.1 332 kR_290_332
  have e14 : hV H1 341 = hV H0 341 := fRow f8.1.2.1 341 kR_290_341
  have e15 : (0 : Int) ≤ hV H0 285 18 ∧ hV H0 285 18 ≤ 8 := bTo e3 (f8.1.2.2 285 18 _ _ kW_285_18)
  have e16 : (0 : Int) ≤ hV H0 285 64 ∧ hV H0 285 64 ≤ 20 := bTo e4 (f8.1.2.2 285 64 _ _ kW_285_64)
  have e17 : (0 : Int) ≤ hV H1 285 65 ∧ hV H1 285 65 ≤ 2147483647 := f8.1.2.2 285 65 _ _ kW_285_65
  try simp only [SO, SS, AC]
  try simp only [e4, e5, e6, e7, e8, e9, e10, e13, e14] at g5
  try simp only [e3, e4, e5, e6, e7, e8, e9, e10, e11, e12, e13, e14]
  have y0 := g4.1
  have y1 := g4.2.1
  have y2 := g4.2.2.1
  have y3 := g4.2.2.2.1
  have y4 := g4.2.2.2.2
  have p0 := g3.1
  have p1 := g3.2.1
  have p2 := g3.2.2.1
  have p3 := g3.2.2.2.1
  have p4 := g3.2.2.2.2
  try simp only [SO] at y0
  try simp only [SS] at y1
  try simp only [AC] at y2
  try simp only [SO] at p0
  try simp only [SS] at p1
  try simp only [AC] at p3
  try simp only [e3, e4, e10, e11, e12, e13] at y0
  try simp only [e14] at y1
  try simp only [e3, e4, e5, e6, e7, e10, e13] at y2
  try simp only [e4, e5, e6, e7, e8, e9, e10, e13, e14] at y3
  try simp only [e4, e5, e6, e7, e8, e9, e10, e13, e14] at y4
  clear g3
  clear g4
  clear f11 e3 e4 e5 e6 e7 e8 e9 e10 e11 e12 e13 e14
  clear f8
  subst e1
  try have sm := SL_made ((y4 (by omega) (n0).toNat (by omega)).mp (by omega)) NX_made
  try have so := (y0 (n0).toNat (by omega)).2.2.2 (by omega)

  refine ⟨?_, fun q hq => ?_⟩
  · exact ⟨y0, y1, y2, by omega⟩
  · have g6 := Option.some.inj hq
    subst g6
    omega
def g_290_16_0 : vG := ([(43, [4, 5], [], 0), (20, [5, 1], [1], 64), (90, [5], [], 0), (91, [5], [], 20), (5000, [0, 1, 2, 3, 4], [0, 1], 16), (0, [0], [], 285), (0, [1], [], 285), (90, [2], [], -2147483648), (91, [2], [], 2147483647), (90, [3], [], 0), (91, [3], [], 1), (90, [4], [], 0), (91, [4], [], 20)], (4000, [1, 2, 3], [1], 4))
theorem c_290_16_0 {q0 : Nat} : vOkm T0 (eP e_290 L_290 A_290 mu_290 (some q0)) 1 g_290_16_0 := vOk_inI fun ρ η f0 f1 f2 f3 f4 f5 f6 f7 f8 f9 f10 f11 f12 => q_290_4 (q0 := q0) (n0 := ρ 4) (n1 := ρ 3) (n2 := ρ 2) (n3 := ρ 1) (n4 := ρ 0) (n5 := ρ 5) (H0 := η 0) (H1 := η 1) f12 f11 f10 f9 f8 f7 f6 f5 f4 f3 f2 f1 f0
theorem q_290_5 {q0 : Nat} {n0 n1 n2 n3 n4 n5 : Int} {H0 H1 : gH} (f0 : n0 ≤ 20) (f1 : 0 ≤ n0) (f2 : n1 ≤ 1) (f3 : 0 ≤ n1) (f4 : n2 ≤ 2147483647) (f5 : (-2147483648) ≤ n2) (f6 : n3 = 285) (f7 : n4 = 285) (f8 : (hLe T0 H0 H1 ∧ hFr s_290.2.2.2.2 H0 H1 ∧ hWt T0 H1) ∧ (Ab_290_16 n4 n3 n2 n1 n0 H0 H1 ∧ preb_290 n4 H0) ∧ some q0 = some (mub_290_16 n4 n3 n2 n1 n0 H0 H1)) (f9 : n5 ≤ 20) (f10 : 0 ≤ n5) (f11 : n5 = hV H1 (n3).toNat 64) (f12 : n0 < n5) (f13 : n1 ≠ 0) : Ab_290_4 n4 n3 n2 n1 H0 H1 ∧ ∀ q, some q0 = some q → mub_290_4 n4 n3 n2 n1 H0 H1 < q := by
  have g4 := f8.2.1.1
  unfold Ab_290_16 at g4
  have g3 := f8.2.1.2
  unfold preb_290 at g3
  have g5 := Option.some.inj f8.2.2
  unfold mub_290_16 at g5
  unfold Ab_290_4
  unfold mub_290_4
  have e1 : n5 = hV H0 285 64 := (by rw [f6] at f11; exact f11 : n5 = hV H1 285 64).trans ((f8.1.2.1.1 285 64 kF_290_285_64))
  have e3 : hV H1 285 18 = hV H0 285 18 := (f8.1.2.1.1 285 18 kF_290_285_18)
  have e4 : hV H1 285 64 = hV H0 285 64 := (f8.1.2.1.1 285 64 kF_290_285_64)
  have e5 : hV H1 296 = hV H0 296 := fRow f8.1.2.1 296 kR_290_296
  have e6 : hV H1 298 = hV H0 298 := fRow f8.1.2.1 298 kR_290_298
  have e7 : hV H1 300 = hV H0 300 := fRow f8.1.2.1 300 kR_290_300
  have e8 : hV H1 301 = hV H0 301 := fRow f8.1.2.1 301 kR_290_301
  have e9 : hV H1 303 = hV H0 303 := fRow f8.1.2.1 303 kR_290_303
  have e10 : hV H1 328 = hV H0 328 := fRow f8.1.2.1 328 kR_290_328
  have e11 : hV H1 330 = hV H0 330 := fRow f8.1.2.1 330 kR_290_330
  have e12 : hV H1 331 = hV H0 331 := fRow f8.1.2.1 331 kR_290_331
  have e13 : hV H1 332 = hV H0 332 := fRow f8.1.2.1 332 kR_290_332
  have e14 : hV H1 341 = hV H0 341 := fRow f8.1.2.1 341 kR_290_341
  have e15 : (0 : Int) ≤ hV H0 285 18 ∧ hV H0 285 18 ≤ 8 := bTo e3 (f8.1.2.2 285 18 _ _ kW_285_18)
  have e16 : (0 : Int) ≤ hV H0 285 64 ∧ hV H0 285 64 ≤ 20 := bTo e4 (f8.1.2.2 285 64 _ _ kW_285_64)
  have e17 : (0 : Int) ≤ hV H1 285 65 ∧ hV H1 285 65 ≤ 2147483647 := f8.1.2.2 285 65 _ _ kW_285_65
  try simp only [SO, SS, AC]
  try simp only [e4, e5, e6, e7, e8, e9, e10, e13, e14] at g5
  try simp only [e3, e4, e5, e6, e7, e8, e9, e10, e11, e12, e13, e14]
  have y0 := g4.1
  have y1 := g4.2.1
  have y2 := g4.2.2.1
  have y3 := g4.2.2.2.1
  have y4 := g4.2.2.2.2
  have p0 := g3.1
  have p1 := g3.2.1
  have p2 := g3.2.2.1
  have p3 := g3.2.2.2.1
  have p4 := g3.2.2.2.2
  try simp only [SO] at y0
  try simp only [SS] at y1
  try simp only [AC] at y2
  try simp only [SO] at p0
  try simp only [SS] at p1
  try simp only [AC] at p3
  try simp only [e3, e4, e10, e11, e12, e13] at y0
  try simp only [e14] at y1
  try simp only [e3, e4, e5, e6, e7, e10, e13] at y2
  try simp only [e4, e5, e6, e7, e8, e9, e10, e13, e14] at y3
  try simp only [e4, e5, e6, e7, e8, e9, e10, e13, e14] at y4
  clear g3
  clear g4
  clear f11 e3 e4 e5 e6 e7 e8 e9 e10 e11 e12 e13 e14
  clear f8
  subst e1
  try have sm := SL_made ((y4 (by omega) (n0).toNat (by omega)).mp (by omega)) NX_made
  try have so := (y0 (n0).toNat (by omega)).2.2.2 (by omega)

  refine ⟨?_, fun q hq => ?_⟩
  · exact ⟨y0, y1, y2, by omega⟩
  · have g6 := Option.some.inj hq
    subst g6
    omega
def g_290_16_1 : vG := ([(31, [3], [], 0), (42, [4, 5], [], 0), (20, [5, 1], [1], 64), (90, [5], [], 0), (91, [5], [], 20), (5000, [0, 1, 2, 3, 4], [0, 1], 16), (0, [0], [], 285), (0, [1], [], 285), (90, [2], [], -2147483648), (91, [2], [], 2147483647), (90, [3], [], 0), (91, [3], [], 1), (90, [4], [], 0), (91, [4], [], 20)], (4000, [1, 2, 3], [1], 4))
theorem c_290_16_1 {q0 : Nat} : vOkm T0 (eP e_290 L_290 A_290 mu_290 (some q0)) 1 g_290_16_1 := vOk_inI fun ρ η f0 f1 f2 f3 f4 f5 f6 f7 f8 f9 f10 f11 f12 f13 => q_290_5 (q0 := q0) (n0 := ρ 4) (n1 := ρ 3) (n2 := ρ 2) (n3 := ρ 1) (n4 := ρ 0) (n5 := ρ 5) (H0 := η 0) (H1 := η 1) f13 f12 f11 f10 f9 f8 f7 f6 f5 f4 f3 f2 f1 f0
theorem q_290_6 {q0 : Nat} {n0 n1 : Int} {H0 : gH} (f0 : 0 ≤ n0) (f1 : n1 ≤ 20) (f2 : n0 < n1) : 0 ≤ n0 ∧ n0 < 20 := by
  try simp only [SO, SS, AC]
  omega
def g_290_16_2 : vG := ([(42, [4, 5], [], 0), (91, [5], [], 20), (90, [4], [], 0)], (70, [4], [], 20))
theorem c_290_16_2 {q0 : Nat} : vOkm T0 (eP e_290 L_290 A_290 mu_290 (some q0)) 1 g_290_16_2 := vOk_inI fun ρ η f0 f1 f2 => q_290_6 (q0 := q0) (n0 := ρ 4) (n1 := ρ 5) (H0 := η 0) f2 f1 f0
theorem q_290_7 {q0 : Nat} {n0 n1 n2 : Int} {H0 : gH} (f0 : 0 ≤ n0) (f1 : n1 ≤ 20) (f2 : n0 < n1) (f3 : n2 = w32 (n0 + 1)) : 0 ≤ n2 := by
  try simp only [SO, SS, AC]
  first
  | (have ix0 : n2 = n0 + 1 := Eq.trans f3 (w32_id (by omega) (by omega)); subst ix0; clear f3)
  | (unfold w32 at f3; have ix0 : n2 = n0 + 1 := (by omega); subst ix0)
  | skip
  try unfold w32 at f3
  omega
def g_290_16_3 : vG := ([(10, [8, 4], [], 1), (42, [4, 5], [], 0), (91, [5], [], 20), (90, [4], [], 0)], (90, [8], [], 0))
theorem c_290_16_3 {q0 : Nat} : vOkm T0 (eP e_290 L_290 A_290 mu_290 (some q0)) 1 g_290_16_3 := vOk_inI fun ρ η f0 f1 f2 f3 => q_290_7 (q0 := q0) (n0 := ρ 4) (n1 := ρ 5) (n2 := ρ 8) (H0 := η 0) f3 f2 f1 f0
theorem q_290_8 {q0 : Nat} {n0 n1 n2 : Int} {H0 : gH} (f0 : 0 ≤ n0) (f1 : n1 ≤ 20) (f2 : n0 < n1) (f3 : n2 = w32 (n0 + 1)) : n2 ≤ 20 := by
  try simp only [SO, SS, AC]
  first
  | (have ix0 : n2 = n0 + 1 := Eq.trans f3 (w32_id (by omega) (by omega)); subst ix0; clear f3)
  | (unfold w32 at f3; have ix0 : n2 = n0 + 1 := (by omega); subst ix0)
  | skip
  try unfold w32 at f3
  omega
def g_290_16_4 : vG := ([(10, [8, 4], [], 1), (42, [4, 5], [], 0), (91, [5], [], 20), (90, [4], [], 0)], (91, [8], [], 20))
theorem c_290_16_4 {q0 : Nat} : vOkm T0 (eP e_290 L_290 A_290 mu_290 (some q0)) 1 g_290_16_4 := vOk_inI fun ρ η f0 f1 f2 f3 => q_290_8 (q0 := q0) (n0 := ρ 4) (n1 := ρ 5) (n2 := ρ 8) (H0 := η 0) f3 f2 f1 f0
theorem q_290_9 {q0 : Nat} {n0 n1 n2 n3 n4 n5 n6 n7 n8 : Int} {H0 H1 : gH} (f0 : n0 ≤ 20) (f1 : 0 ≤ n0) (f2 : n1 ≤ 1) (f3 : 0 ≤ n1) (f4 : n2 ≤ 2147483647) (f5 : (-2147483648) ≤ n2) (f6 : n3 = 285) (f7 : n4 = 285) (f8 : (hLe T0 H0 H1 ∧ hFr s_290.2.2.2.2 H0 H1 ∧ hWt T0 H1) ∧ (Ab_290_16 n4 n3 n2 n1 n0 H0 H1 ∧ preb_290 n4 H0) ∧ some q0 = some (mub_290_16 n4 n3 n2 n1 n0 H0 H1)) (f9 : n5 ≤ 20) (f10 : 0 ≤ n5) (f11 : n5 = hV H1 (n3).toNat 64) (f12 : n0 < n5) (f13 : n1 = 0) (f14 : n6 = 354) (f15 : n6 = hV H1 (n3).toNat 96) (f16 : n7 ≤ 1) (f17 : 0 ≤ n7) (f18 : n7 = hV H1 (n6).toNat (n0).toNat) (f19 : n7 = 0) (f20 : n8 = w32 (n0 + 1)) : Ab_290_16 n4 n3 n2 n1 n8 H0 H1 ∧ ∀ q, some q0 = some q → mub_290_16 n4 n3 n2 n1 n8 H0 H1 < q := by
  have g4 := f8.2.1.1
  unfold Ab_290_16 at g4
  have g3 := f8.2.1.2
  unfold preb_290 at g3
  have g5 := Option.some.inj f8.2.2
  unfold mub_290_16 at g5
  unfold Ab_290_16
  unfold mub_290_16
  have e1 : n5 = hV H0 285 64 := (by rw [f6] at f11; exact f11 : n5 = hV H1 285 64).trans ((f8.1.2.1.1 285 64 kF_290_285_64))
  have e2 : n7 = hV H1 354 (n0).toNat := (by rw [f14] at f18; exact f18 : n7 = hV H1 354 (n0).toNat)
  have e4 : hV H1 285 18 = hV H0 285 18 := (f8.1.2.1.1 285 18 kF_290_285_18)
  have e5 : hV H1 285 64 = hV H0 285 64 := (f8.1.2.1.1 285 64 kF_290_285_64)
  have e6 : hV H1 296 = hV H0 296 := fRow f8.1.2.1 296 kR_290_296
  have e7 : hV H1 298 = hV H0 298 := fRow f8.1.2.1 298 kR_290_298
  have e8 : hV H1 300 = hV H0 300 := fRow f8.1.2.1 300 kR_290_300
  have e9 : hV H1 301 = hV H0 301 := fRow f8.1.2.1 301 kR_290_301
  have e10 : hV H1 303 = hV H0 303 := fRow f8.1.2.1 303 kR_290_303
  have e11 : hV H1 328 = hV H0 328 := fRow f8.1.2.1 328 kR_290_328
  have e12 : hV H1 330 = hV H0 330 := fRow f8.1.2.1 330 kR_290_330
  have e13 : hV H1 331 = hV H0 331 := fRow f8.1.2.1 331 kR_290_331
  have e14 : hV H1 332 = hV H0 332 := fRow f8.1.2.1 332 kR_290_332
  have e15 : hV H1 341 = hV H0 341 := fRow f8.1.2.1 341 kR_290_341
  have e16 : (0 : Int) ≤ hV H0 285 18 ∧ hV H0 285 18 ≤ 8 := bTo e4 (f8.1.2.2 285 18 _ _ kW_285_18)
  have e17 : (0 : Int) ≤ hV H0 285 64 ∧ hV H0 285 64 ≤ 20 := bTo e5 (f8.1.2.2 285 64 _ _ kW_285_64)
  have e18 : (0 : Int) ≤ hV H1 285 65 ∧ hV H1 285 65 ≤ 2147483647 := f8.1.2.2 285 65 _ _ kW_285_65
  try simp only [SO, SS, AC]
  try simp only [e5, e6, e7, e8, e9, e10, e11, e14, e15] at g5
  try simp only [e4, e5, e6, e7, e8, e9, e10, e11, e12, e13, e14, e15]
  have y0 := g4.1
  have y1 := g4.2.1
  have y2 := g4.2.2.1
  have y3 := g4.2.2.2.1
  have y4 := g4.2.2.2.2
  have p0 := g3.1
  have p1 := g3.2.1
  have p2 := g3.2.2.1
  have p3 := g3.2.2.2.1
  have p4 := g3.2.2.2.2
  try simp only [SO] at y0
  try simp only [SS] at y1
  try simp only [AC] at y2
  try simp only [SO] at p0
  try simp only [SS] at p1
  try simp only [AC] at p3
  try simp only [e4, e5, e11, e12, e13, e14] at y0
  try simp only [e15] at y1
  try simp only [e4, e5, e6, e7, e8, e11, e14] at y2
  try simp only [e5, e6, e7, e8, e9, e10, e11, e14, e15] at y3
  try simp only [e5, e6, e7, e8, e9, e10, e11, e14, e15] at y4
  clear g3
  clear g4
  clear f11 f15 f18 e4 e5 e6 e7 e8 e9 e10 e11 e12 e13 e14 e15
  clear f8
  subst e1
  subst e2
  try have sm := SL_made ((y4 (by omega) (n0).toNat (by omega)).mp (by omega)) NX_made
  try have so := (y0 (n0).toNat (by omega)).2.2.2 (by omega)
  first
  | (have ix0 : n8 = n0 + 1 := Eq.trans f20 (w32_iv (Iad (Iat f1 f0) (IC 1)) (by decide)); subst ix0; clear f20)
  | (have ix0 : n8 = n0 + 1 := Eq.trans f20 (w32_id (by omega) (by omega)); subst ix0; clear f20)
  | (unfold w32 at f20; have ix0 : n8 = n0 + 1 := (by omega); subst ix0)
  | skip
  try unfold w32 at f20

  refine ⟨?_, fun q hq => ?_⟩
  · exact ⟨y0, y1, y2, by omega, y4⟩
  · have g6 := Option.some.inj hq
    subst g6
    try clear r0_0
    try clear r0_1
    omega
def g_290_16_5 : vG := ([(10, [8, 4], [], 1), (30, [7], [], 0), (22, [7, 6, 4], [1], 0), (90, [7], [], 0), (91, [7], [], 1), (20, [6, 1], [1], 96), (0, [6], [], 354), (30, [3], [], 0), (42, [4, 5], [], 0), (20, [5, 1], [1], 64), (90, [5], [], 0), (91, [5], [], 20), (5000, [0, 1, 2, 3, 4], [0, 1], 16), (0, [0], [], 285), (0, [1], [], 285), (90, [2], [], -2147483648), (91, [2], [], 2147483647), (90, [3], [], 0), (91, [3], [], 1), (90, [4], [], 0), (91, [4], [], 20)], (4000, [1, 2, 3, 8], [1], 16))
theorem c_290_16_5 {q0 : Nat} : vOkm T0 (eP e_290 L_290 A_290 mu_290 (some q0)) 1 g_290_16_5 := vOk_inI fun ρ η f0 f1 f2 f3 f4 f5 f6 f7 f8 f9 f10 f11 f12 f13 f14 f15 f16 f17 f18 f19 f20 => q_290_9 (q0 := q0) (n0 := ρ 4) (n1 := ρ 3) (n2 := ρ 2) (n3 := ρ 1) (n4 := ρ 0) (n5 := ρ 5) (n6 := ρ 6) (n7 := ρ 7) (n8 := ρ 8) (H0 := η 0) (H1 := η 1) f20 f19 f18 f17 f16 f15 f14 f13 f12 f11 f10 f9 f8 f7 f6 f5 f4 f3 f2 f1 f0
theorem q_290_10 {q0 : Nat} {n0 n1 : Int} {H0 : gH} (f0 : n0 ≤ 20) (f1 : n1 < n0) : n1 ≤ 19 := by
  try simp only [SO, SS, AC]
  omega
def g_290_16_6 : vG := ([(42, [4, 5], [], 0), (91, [5], [], 20)], (91, [4], [], 19))
theorem c_290_16_6 {q0 : Nat} : vOkm T0 (eP e_290 L_290 A_290 mu_290 (some q0)) 1 g_290_16_6 := vOk_inI fun ρ η f0 f1 => q_290_10 (q0 := q0) (n0 := ρ 5) (n1 := ρ 4) (H0 := η 0) f1 f0
theorem q_290_11 {q0 : Nat} {n0 n1 n2 n3 n4 n5 n6 n7 : Int} {H0 H1 : gH} (f0 : n0 ≤ 20) (f1 : 0 ≤ n0) (f2 : n1 ≤ 1) (f3 : 0 ≤ n1) (f4 : n2 ≤ 2147483647) (f5 : (-2147483648) ≤ n2) (f6 : n3 = 285) (f7 : n4 = 285) (f8 : (hLe T0 H0 H1 ∧ hFr s_290.2.2.2.2 H0 H1 ∧ hWt T0 H1) ∧ (Ab_290_16 n4 n3 n2 n1 n0 H0 H1 ∧ preb_290 n4 H0) ∧ some q0 = some (mub_290_16 n4 n3 n2 n1 n0 H0 H1)) (f9 : n5 ≤ 20) (f10 : 0 ≤ n5) (f11 : n5 = hV H1 (n3).toNat 64) (f12 : n0 < n5) (f13 : n1 = 0) (f14 : n6 = 354) (f15 : n6 = hV H1 (n3).toNat 96) (f16 : n7 ≤ 1) (f17 : 0 ≤ n7) (f18 : n7 = hV H1 (n6).toNat (n0).toNat) (f19 : n7 ≠ 0) : preb_289 n3 n0 H1 := by
  have g4 := f8.2.1.1
  unfold Ab_290_16 at g4
  have g3 := f8.2.1.2
  unfold preb_290 at g3
  unfold preb_289
  have e1 : n5 = hV H0 285 64 := (by rw [f6] at f11; exact f11 : n5 = hV H1 285 64).trans ((f8.1.2.1.1 285 64 kF_290_285_64))
  have e2 : n7 = hV H1 354 (n0).toNat := (by rw [f14] at f18; exact f18 : n7 = hV H1 354 (n0).toNat)
  have e4 : hV H1 285 18 = hV H0 285 18 := (f8.1.2.1.1 285 18 kF_290_285_18)
  have e5 : hV H1 285 64 = hV H0 285 64 := (f8.1.2.1.1 285 64 kF_290_285_64)
  have e6 : hV H1 296 = hV H0 296 := fRow f8.1.2.1 296 kR_290_296
  have e7 : hV H1 298 = hV H0 298 := fRow f8.1.2.1 298 kR_290_298
  have e8 : hV H1 300 = hV H0 300 := fRow f8.1.2.1 300 kR_290_300
  have e9 : hV H1 301 = hV H0 301 := fRow f8.1.2.1 301 kR_290_301
  have e10 : hV H1 303 = hV H0 303 := fRow f8.1.2.1 303 kR_290_303
  have e11 : hV H1 328 = hV H0 328 := fRow f8.1.2.1 328 kR_290_328
  have e12 : hV H1 330 = hV H0 330 := fRow f8.1.2.1 330 kR_290_330
  have e13 : hV H1 331 = hV H0 331 := fRow f8.1.2.1 331 kR_290_331
  have e14 : hV H1 332 = hV H0 332 := fRow f8.1.2.1 332 kR_290_332
  have e15 : hV H1 341 = hV H0 341 := fRow f8.1.2.1 341 kR_290_341
  have e16 : PG H1 = PG H0 := PG_fr f8.1.2.1 (by decide +kernel)
  have e17 : (0 : Int) ≤ hV H0 285 18 ∧ hV H0 285 18 ≤ 8 := bTo e4 (f8.1.2.2 285 18 _ _ kW_285_18)
  have e18 : (0 : Int) ≤ hV H0 285 64 ∧ hV H0 285 64 ≤ 20 := bTo e5 (f8.1.2.2 285 64 _ _ kW_285_64)
  have e19 : (0 : Int) ≤ hV H1 285 65 ∧ hV H1 285 65 ≤ 2147483647 := f8.1.2.2 285 65 _ _ kW_285_65
  try simp only [SO, SS, AC]
  try simp only [e4, e5, e11, e12, e13, e14, e16]
  have y0 := g4.1
  have y1 := g4.2.1
  have y2 := g4.2.2.1
  have y3 := g4.2.2.2.1
  have y4 := g4.2.2.2.2
  have p0 := g3.1
  have p1 := g3.2.1
  have p2 := g3.2.2.1
  have p3 := g3.2.2.2.1
  have p4 := g3.2.2.2.2
  try simp only [SO] at y0
  try simp only [SS] at y1
  try simp only [AC] at y2
  try simp only [SO] at p0
  try simp only [SS] at p1
  try simp only [AC] at p3
  try simp only [e4, e5, e11, e12, e13, e14] at y0
  try simp only [e15] at y1
  try simp only [e4, e5, e6, e7, e8, e11, e14] at y2
  try simp only [e5, e6, e7, e8, e9, e10, e11, e14, e15] at y3
  try simp only [e5, e6, e7, e8, e9, e10, e11, e14, e15] at y4
  clear g3
  clear g4
  clear f11 f15 f18 e4 e5 e6 e7 e8 e9 e10 e11 e12 e13 e14 e15 e16
  clear f8
  subst e1
  subst e2
  try have sm := SL_made ((y4 (by omega) (n0).toNat (by omega)).mp (by omega)) NX_made
  try have so := (y0 (n0).toNat (by omega)).2.2.2 (by omega)
  refine ⟨?_, ?_, ?_⟩ <;> first | assumption | omega | trivial
def g_290_16_7 : vG := ([(31, [7], [], 0), (22, [7, 6, 4], [1], 0), (90, [7], [], 0), (91, [7], [], 1), (20, [6, 1], [1], 96), (0, [6], [], 354), (30, [3], [], 0), (42, [4, 5], [], 0), (20, [5, 1], [1], 64), (90, [5], [], 0), (91, [5], [], 20), (5000, [0, 1, 2, 3, 4], [0, 1], 16), (0, [0], [], 285), (0, [1], [], 285), (90, [2], [], -2147483648), (91, [2], [], 2147483647), (90, [3], [], 0), (91, [3], [], 1), (90, [4], [], 0), (91, [4], [], 20)], (2289, [1, 4], [1], 0))
theorem c_290_16_7 {q0 : Nat} : vOkm T0 (eP e_290 L_290 A_290 mu_290 (some q0)) 1 g_290_16_7 := vOk_inI fun ρ η f0 f1 f2 f3 f4 f5 f6 f7 f8 f9 f10 f11 f12 f13 f14 f15 f16 f17 f18 f19 => q_290_11 (q0 := q0) (n0 := ρ 4) (n1 := ρ 3) (n2 := ρ 2) (n3 := ρ 1) (n4 := ρ 0) (n5 := ρ 5) (n6 := ρ 6) (n7 := ρ 7) (H0 := η 0) (H1 := η 1) f19 f18 f17 f16 f15 f14 f13 f12 f11 f10 f9 f8 f7 f6 f5 f4 f3 f2 f1 f0
def g_290_16_8 : vG := ([(42, [4, 5], [], 0), (91, [5], [], 20), (90, [4], [], 0)], (70, [4], [], 20))
theorem c_290_16_8 {q0 : Nat} : vOkm T0 (eP e_290 L_290 A_290 mu_290 (some q0)) 1 g_290_16_8 := vOk_inI fun ρ η f0 f1 f2 => q_290_6 (q0 := q0) (n0 := ρ 4) (n1 := ρ 5) (H0 := η 0) f2 f1 f0
def g_290_16_9 : vG := ([(42, [4, 5], [], 0), (91, [5], [], 20), (90, [4], [], 0)], (70, [4], [], 20))
theorem c_290_16_9 {q0 : Nat} : vOkm T0 (eP e_290 L_290 A_290 mu_290 (some q0)) 1 g_290_16_9 := vOk_inI fun ρ η f0 f1 f2 => q_290_6 (q0 := q0) (n0 := ρ 4) (n1 := ρ 5) (H0 := η 0) f2 f1 f0
def g_290_16_10 : vG := ([(42, [4, 5], [], 0), (91, [5], [], 20)], (91, [4], [], 19))
theorem c_290_16_10 {q0 : Nat} : vOkm T0 (eP e_290 L_290 A_290 mu_290 (some q0)) 1 g_290_16_10 := vOk_inI fun ρ η f0 f1 => q_290_10 (q0 := q0) (n0 := ρ 5) (n1 := ρ 4) (H0 := η 0) f1 f0
theorem kR_289_336 : vFreeR s_289.2.2.2.2 336 = true := by decide +kernel
theorem q_290_12 {q0 : Nat} {n0 n1 n2 n3 n4 n5 n6 n7 n8 n9 n10 n11 n12 : Int} {H0 H1 H2 : gH} (f0 : n0 ≤ 20) (f1 : 0 ≤ n0) (f2 : n1 ≤ 1) (f3 : 0 ≤ n1) (f4 : n2 ≤ 2147483647) (f5 : (-2147483648) ≤ n2) (f6 : n3 = 285) (f7 : n4 = 285) (f8 : (hLe T0 H0 H1 ∧ hFr s_290.2.2.2.2 H0 H1 ∧ hWt T0 H1) ∧ (Ab_290_16 n4 n3 n2 n1 n0 H0 H1 ∧ preb_290 n4 H0) ∧ some q0 = some (mub_290_16 n4 n3 n2 n1 n0 H0 H1)) (f9 : n5 ≤ 20) (f10 : 0 ≤ n5) (f11 : n5 = hV H1 (n3).toNat 64) (f12 : n0 < n5) (f13 : n1 = 0) (f14 : n6 = 354) (f15 : n6 = hV H1 (n3).toNat 96) (f16 : n7 ≤ 1) (f17 : 0 ≤ n7) (f18 : n7 = hV H1 (n6).toNat (n0).toNat) (f19 : n7 ≠ 0) (f20 : n8 ≤ 1) (f21 : 0 ≤ n8) (f22 : (hLe T0 H1 H2 ∧ hFr s_289.2.2.2.2 H1 H2 ∧ ((0 : Int) = 0 → H2.length = H1.length) ∧ hWt T0 H2) ∧ postb_289 n8 n3 n0 H1 H2) (f23 : n8 = 0) (f24 : n9 = 335) (f25 : n9 = hV H2 (n3).toNat 73) (f26 : n10 ≤ 7) (f27 : (-1) ≤ n10) (f28 : n10 = hV H2 (n9).toNat (n0).toNat) (f29 : n11 = 336) (f30 : n11 = hV H2 (n3).toNat 74) (f31 : n12 ≤ 5) (f32 : (-1) ≤ n12) (f33 : n12 = hV H2 (n11).toNat (n0).toNat) : 0 ≤ n10 := by
  have g4 := f8.2.1.1
  unfold Ab_290_16 at g4
  have g3 := f8.2.1.2
  unfold preb_290 at g3
  unfold postb_289 at f22
  have e1 : n5 = hV H0 285 64 := (by rw [f6] at f11; exact f11 : n5 = hV H1 285 64).trans ((f8.1.2.1.1 285 64 kF_290_285_64))
  have e2 : n7 = hV H1 354 (n0).toNat := (by rw [f14] at f18; exact f18 : n7 = hV H1 354 (n0).toNat)
  have e3 : hV H2 335 = hV H1 335 := fRow f22.1.2.1 335 kR_289_335
  have e4 : n10 = hV H1 335 (n0).toNat := (by rw [f24] at f28; exact f28 : n10 = hV H2 335 (n0).toNat).trans ((congrFun e3 _))
  have e6 : n12 = hV H1 336 (n0).toNat := (by rw [f29] at f33; exact f33 : n12 = hV H2 336 (n0).toNat).trans ((congrFun (fRow f22.1.2.1 336 kR_289_336) _))
  have e8 : hV H1 285 18 = hV H0 285 18 := (f8.1.2.1.1 285 18 kF_290_285_18)
  have e9 : hV H1 285 64 = hV H0 285 64 := (f8.1.2.1.1 285 64 kF_290_285_64)
  have e10 : hV H1 296 = hV H0 296 := fRow f8.1.2.1 296 kR_290_296
  have e11 : hV H1 298 = hV H0 298 := fRow f8.1.2.1 298 kR_290_298
  have e12 : hV H1 300 = hV H0 300 := fRow f8.1.2.1 300 kR_290_300
  have e13 : hV H1 301 = hV H0 301 := fRow f8.1.2.1 301 kR_290_301
  have e14 : hV H1 303 = hV H0 303 := fRow f8.1.2.1 303 kR_290_303
  have e15 : hV H1 328 = hV H0 328 := fRow f8.1.2.1 328 kR_290_328
  have e16 : hV H1 330 = hV H0 330 := fRow f8.1.2.1 330 kR_290_330
  have e17 : hV H1 331 = hV H0 331 := fRow f8.1.2.1 331 kR_290_331
  have e18 : hV H1 332 = hV H0 332 := fRow f8.1.2.1 332 kR_290_332
  have e19 : hV H1 341 = hV H0 341 := fRow f8.1.2.1 341 kR_290_341
  have e21 : hV H2 285 64 = hV H0 285 64 := ((f22.1.2.1.1 285 64 kF_289_285_64)).trans (f8.1.2.1.1 285 64 kF_290_285_64)
  have e23 : hV H2 296 = hV H0 296 := (fRow f22.1.2.1 296 kR_289_296).trans e10
  have e25 : hV H2 298 = hV H0 298 := (fRow f22.1.2.1 298 kR_289_298).trans e11
  have e27 : hV H2 300 = hV H0 300 := (fRow f22.1.2.1 300 kR_289_300).trans e12
  have e29 : hV H2 328 = hV H0 328 := (fRow f22.1.2.1 328 kR_289_328).trans e15
  have e31 : hV H2 332 = hV H0 332 := (fRow f22.1.2.1 332 kR_289_332).trans e18
  have e32 : hV H2 354 = hV H1 354 := fRow f22.1.2.1 354 kR_289_354
  have e33 : (0 : Int) ≤ hV H0 285 18 ∧ hV H0 285 18 ≤ 8 := bTo e8 (f8.1.2.2 285 18 _ _ kW_285_18)
  have e34 : (0 : Int) ≤ hV H0 285 64 ∧ hV H0 285 64 ≤ 20 := bTo e9 (f8.1.2.2 285 64 _ _ kW_285_64)
  have e35 : (0 : Int) ≤ hV H1 285 65 ∧ hV H1 285 65 ≤ 2147483647 := f8.1.2.2 285 65 _ _ kW_285_65
  try simp only [SO, SS, AC]
  have y0 := g4.1
  have y1 := g4.2.1
  have y2 := g4.2.2.1
  have y3 := g4.2.2.2.1
  have y4 := g4.2.2.2.2
  have p0 := g3.1
  have p1 := g3.2.1
  have p2 := g3.2.2.1
  have p3 := g3.2.2.2.1
  have p4 := g3.2.2.2.2
  have r0_0 := f22.2.1
  have r0_1 := f22.2.2
  try simp only [SO] at y0
  try simp only [SS] at y1
  try simp only [AC] at y2
  try simp only [SO] at p0
  try simp only [SS] at p1
  try simp only [AC] at p3
  try simp only [e8, e9, e15, e16, e17, e18] at y0
  try simp only [e19] at y1
  try simp only [e8, e9, e10, e11, e12, e15, e18] at y2
  try simp only [e9, e10, e11, e12, e13, e14, e15, e18, e19] at y3
  try simp only [e9, e10, e11, e12, e13, e14, e15, e18, e19] at y4
  try simp only [e21, e23, e25, e27, e29, e31, e3, e32] at r0_0
  try simp only [e21, e23, e25, e27, e29, e31, e3, e32] at r0_1
  clear g3
  clear g4
  clear f11 f15 f18 f25 f28 f30 f33 e3 e8 e9 e10 e11 e12 e13 e14 e15 e16 e17 e18 e19 e21 e23 e25 e27 e29 e31 e32
  clear f8 f22
  subst e1
  subst e2
  subst e4
  subst e6
  try have sm := SL_made ((y4 (by omega) (n0).toNat (by omega)).mp (by omega)) NX_made
  try have so := (y0 (n0).toNat (by omega)).2.2.2 (by omega)
  omega
def g_290_16_11 : vG := ([(22, [12, 11, 4], [2], 0), (90, [12], [], -1), (91, [12], [], 5), (20, [11, 1], [2], 74), (0, [11], [], 336), (22, [10, 9, 4], [2], 0), (90, [10], [], -1), (91, [10], [], 7), (20, [9, 1], [2], 73), (0, [9], [], 335), (30, [8], [], 0), (1289, [8, 1, 4], [1, 2], 0), (90, [8], [], 0), (91, [8], [], 1), (31, [7], [], 0), (22, [7, 6, 4], [1], 0), (90, [7], [], 0), (91, [7], [], 1), (20, [6, 1], [1], 96), (0, [6], [], 354), (30, [3], [], 0), (42, [4, 5], [], 0), (20, [5, 1], [1], 64), (90, [5], [], 0), (91, [5], [], 20), (5000, [0, 1, 2, 3, 4], [0, 1], 16), (0, [0], [], 285), (0, [1], [], 285), (90, [2], [], -2147483648), (91, [2], [], 2147483647), (90, [3], [], 0), (91, [3], [], 1), (90, [4], [], 0), (91, [4], [], 20)], (90, [10], [], 0))
theorem c_290_16_11 {q0 : Nat} : vOkm T0 (eP e_290 L_290 A_290 mu_290 (some q0)) 1 g_290_16_11 := vOk_inI fun ρ η f0 f1 f2 f3 f4 f5 f6 f7 f8 f9 f10 f11 f12 f13 f14 f15 f16 f17 f18 f19 f20 f21 f22 f23 f24 f25 f26 f27 f28 f29 f30 f31 f32 f33 => q_290_12 (q0 := q0) (n0 := ρ 4) (n1 := ρ 3) (n2 := ρ 2) (n3 := ρ 1) (n4 := ρ 0) (n5 := ρ 5) (n6 := ρ 6) (n7 := ρ 7) (n8 := ρ 8) (n9 := ρ 9) (n10 := ρ 10) (n11 := ρ 11) (n12 := ρ 12) (H0 := η 0) (H1 := η 1) (H2 := η 2) f33 f32 f31 f30 f29 f28 f27 f26 f25 f24 f23 f22 f21 f20 f19 f18 f17 f16 f15 f14 f13 f12 f11 f10 f9 f8 f7 f6 f5 f4 f3 f2 f1 f0
theorem q_290_13 {q0 : Nat} {n0 n1 n2 n3 n4 n5 n6 n7 n8 n9 n10 n11 n12 : Int} {H0 H1 H2 : gH} (f0 : n0 ≤ 20) (f1 : 0 ≤ n0) (f2 : n1 ≤ 1) (f3 : 0 ≤ n1) (f4 : n2 ≤ 2147483647) (f5 : (-2147483648) ≤ n2) (f6 : n3 = 285) (f7 : n4 = 285) (f8 : (hLe T0 H0 H1 ∧ hFr s_290.2.2.2.2 H0 H1 ∧ hWt T0 H1) ∧ (Ab_290_16 n4 n3 n2 n1 n0 H0 H1 ∧ preb_290 n4 H0) ∧ some q0 = some (mub_290_16 n4 n3 n2 n1 n0 H0 H1)) (f9 : n5 ≤ 20) (f10 : 0 ≤ n5) (f11 : n5 = hV H1 (n3).toNat 64) (f12 : n0 < n5) (f13 : n1 = 0) (f14 : n6 = 354) (f15 : n6 = hV H1 (n3).toNat 96) (f16 : n7 ≤ 1) (f17 : 0 ≤ n7) (f18 : n7 = hV H1 (n6).toNat (n0).toNat) (f19 : n7 ≠ 0) (f20 : n8 ≤ 1) (f21 : 0 ≤ n8) (f22 : (hLe T0 H1 H2 ∧ hFr s_289.2.2.2.2 H1 H2 ∧ ((0 : Int) = 0 → H2.length = H1.length) ∧ hWt T0 H2) ∧ postb_289 n8 n3 n0 H1 H2) (f23 : n8 = 0) (f24 : n9 = 335) (f25 : n9 = hV H2 (n3).toNat 73) (f26 : n10 ≤ 7) (f27 : (-1) ≤ n10) (f28 : n10 = hV H2 (n9).toNat (n0).toNat) (f29 : n11 = 336) (f30 : n11 = hV H2 (n3).toNat 74) (f31 : n12 ≤ 5) (f32 : (-1) ≤ n12) (f33 : n12 = hV H2 (n11).toNat (n0).toNat) : 0 ≤ n12 := by
  have g4 := f8.2.1.1
  unfold Ab_290_16 at g4
  have g3 := f8.2.1.2
  unfold preb_290 at g3
  unfold postb_289 at f22
  have e1 : n5 = hV H0 285 64 := (by rw [f6] at f11; exact f11 : n5 = hV H1 285 64).trans ((f8.1.2.1.1 285 64 kF_290_285_64))
  have e2 : n7 = hV H1 354 (n0).toNat := (by rw [f14] at f18; exact f18 : n7 = hV H1 354 (n0).toNat)
  have e3 : hV H2 335 = hV H1 335 := fRow f22.1.2.1 335 kR_289_335
  have e4 : n10 = hV H1 335 (n0).toNat := (by rw [f24] at f28; exact f28 : n10 = hV H2 335 (n0).toNat).trans ((congrFun e3 _))
  have e6 : n12 = hV H1 336 (n0).toNat := (by rw [f29] at f33; exact f33 : n12 = hV H2 336 (n0).toNat).trans ((congrFun (fRow f22.1.2.1 336 kR_289_336) _))
  have e8 : hV H1 285 18 = hV H0 285 18 := (f8.1.2.1.1 285 18 kF_290_285_18)
  have e9 : hV H1 285 64 = hV H0 285 64 := (f8.1.2.1.1 285 64 kF_290_285_64)
  have e10 : hV H1 296 = hV H0 296 := fRow f8.1.2.1 296 kR_290_296
  have e11 : hV H1 298 = hV H0 298 := fRow f8.1.2.1 298 kR_290_298
  have e12 : hV H1 300 = hV H0 300 := fRow f8.1.2.1 300 kR_290_300
  have e13 : hV H1 301 = hV H0 301 := fRow f8.1.2.1 301 kR_290_301
  have e14 : hV H1 303 = hV H0 303 := fRow f8.1.2.1 303 kR_290_303
  have e15 : hV H1 328 = hV H0 328 := fRow f8.1.2.1 328 kR_290_328
  have e16 : hV H1 330 = hV H0 330 := fRow f8.1.2.1 330 kR_290_330
  have e17 : hV H1 331 = hV H0 331 := fRow f8.1.2.1 331 kR_290_331
  have e18 : hV H1 332 = hV H0 332 := fRow f8.1.2.1 332 kR_290_332
  have e19 : hV H1 341 = hV H0 341 := fRow f8.1.2.1 341 kR_290_341
  have e21 : hV H2 285 64 = hV H0 285 64 := ((f22.1.2.1.1 285 64 kF_289_285_64)).trans (f8.1.2.1.1 285 64 kF_290_285_64)
  have e23 : hV H2 296 = hV H0 296 := (fRow f22.1.2.1 296 kR_289_296).trans e10
  have e25 : hV H2 298 = hV H0 298 := (fRow f22.1.2.1 298 kR_289_298).trans e11
  have e27 : hV H2 300 = hV H0 300 := (fRow f22.1.2.1 300 kR_289_300).trans e12
  have e29 : hV H2 328 = hV H0 328 := (fRow f22.1.2.1 328 kR_289_328).trans e15
  have e31 : hV H2 332 = hV H0 332 := (fRow f22.1.2.1 332 kR_289_332).trans e18
  have e32 : hV H2 354 = hV H1 354 := fRow f22.1.2.1 354 kR_289_354
  have e33 : (0 : Int) ≤ hV H0 285 18 ∧ hV H0 285 18 ≤ 8 := bTo e8 (f8.1.2.2 285 18 _ _ kW_285_18)
  have e34 : (0 : Int) ≤ hV H0 285 64 ∧ hV H0 285 64 ≤ 20 := bTo e9 (f8.1.2.2 285 64 _ _ kW_285_64)
  have e35 : (0 : Int) ≤ hV H1 285 65 ∧ hV H1 285 65 ≤ 2147483647 := f8.1.2.2 285 65 _ _ kW_285_65
  try simp only [SO, SS, AC]
  have y0 := g4.1
  have y1 := g4.2.1
  have y2 := g4.2.2.1
  have y3 := g4.2.2.2.1
  have y4 := g4.2.2.2.2
  have p0 := g3.1
  have p1 := g3.2.1
  have p2 := g3.2.2.1
  have p3 := g3.2.2.2.1
  have p4 := g3.2.2.2.2
  have r0_0 := f22.2.1
  have r0_1 := f22.2.2
  try simp only [SO] at y0
  try simp only [SS] at y1
  try simp only [AC] at y2
  try simp only [SO] at p0
  try simp only [SS] at p1
  try simp only [AC] at p3
  try simp only [e8, e9, e15, e16, e17, e18] at y0
  try simp only [e19] at y1
  try simp only [e8, e9, e10, e11, e12, e15, e18] at y2
  try simp only [e9, e10, e11, e12, e13, e14, e15, e18, e19] at y3
  try simp only [e9, e10, e11, e12, e13, e14, e15, e18, e19] at y4
  try simp only [e21, e23, e25, e27, e29, e31, e3, e32] at r0_0
  try simp only [e21, e23, e25, e27, e29, e31, e3, e32] at r0_1
  clear g3
  clear g4
  clear f11 f15 f18 f25 f28 f30 f33 e3 e8 e9 e10 e11 e12 e13 e14 e15 e16 e17 e18 e19 e21 e23 e25 e27 e29 e31 e32
  clear f8 f22
  subst e1
  subst e2
  subst e4
  subst e6
  try have sm := SL_made ((y4 (by omega) (n0).toNat (by omega)).mp (by omega)) NX_made
  try have so := (y0 (n0).toNat (by omega)).2.2.2 (by omega)
  omega
def g_290_16_12 : vG := ([(22, [12, 11, 4], [2], 0), (90, [12], [], -1), (91, [12], [], 5), (20, [11, 1], [2], 74), (0, [11], [], 336), (22, [10, 9, 4], [2], 0), (90, [10], [], -1), (91, [10], [], 7), (20, [9, 1], [2], 73), (0, [9], [], 335), (30, [8], [], 0), (1289, [8, 1, 4], [1, 2], 0), (90, [8], [], 0), (91, [8], [], 1), (31, [7], [], 0), (22, [7, 6, 4], [1], 0), (90, [7], [], 0), (91, [7], [], 1), (20, [6, 1], [1], 96), (0, [6], [], 354), (30, [3], [], 0), (42, [4, 5], [], 0), (20, [5, 1], [1], 64), (90, [5], [], 0), (91, [5], [], 20), (5000, [0, 1, 2, 3, 4], [0, 1], 16), (0, [0], [], 285), (0, [1], [], 285), (90, [2], [], -2147483648), (91, [2], [], 2147483647), (90, [3], [], 0), (91, [3], [], 1), (90, [4], [], 0), (91, [4], [], 20)], (90, [12], [], 0))
theorem c_290_16_12 {q0 : Nat} : vOkm T0 (eP e_290 L_290 A_290 mu_290 (some q0)) 1 g_290_16_12 := vOk_inI fun ρ η f0 f1 f2 f3 f4 f5 f6 f7 f8 f9 f10 f11 f12 f13 f14 f15 f16 f17 f18 f19 f20 f21 f22 f23 f24 f25 f26 f27 f28 f29 f30 f31 f32 f33 => q_290_13 (q0 := q0) (n0 := ρ 4) (n1 := ρ 3) (n2 := ρ 2) (n3 := ρ 1) (n4 := ρ 0) (n5 := ρ 5) (n6 := ρ 6) (n7 := ρ 7) (n8 := ρ 8) (n9 := ρ 9) (n10 := ρ 10) (n11 := ρ 11) (n12 := ρ 12) (H0 := η 0) (H1 := η 1) (H2 := η 2) f33 f32 f31 f30 f29 f28 f27 f26 f25 f24 f23 f22 f21 f20 f19 f18 f17 f16 f15 f14 f13 f12 f11 f10 f9 f8 f7 f6 f5 f4 f3 f2 f1 f0
theorem kR_289_330 : vFreeR s_289.2.2.2.2 330 = true := by decide +kernel
theorem kR_289_331 : vFreeR s_289.2.2.2.2 331 = true := by decide +kernel
theorem kR_289_334 : vFreeR s_289.2.2.2.2 334 = true := by decide +kernel
theorem kF_289_285_18 : vFree s_289.2.2.2.2 285 18 = true := by decide +kernel
theorem kF_289_285_65 : vFree s_289.2.2.2.2 285 65 = true := by decide +kernel
theorem q_290_14 {q0 : Nat} {n0 n1 n2 n3 n4 n5 n6 n7 n8 n9 n10 n11 n12 : Int} {H0 H1 H2 : gH} (f0 : n0 ≤ 20) (f1 : 0 ≤ n0) (f2 : n1 ≤ 1) (f3 : 0 ≤ n1) (f4 : n2 ≤ 2147483647) (f5 : (-2147483648) ≤ n2) (f6 : n3 = 285) (f7 : n4 = 285) (f8 : (hLe T0 H0 H1 ∧ hFr s_290.2.2.2.2 H0 H1 ∧ hWt T0 H1) ∧ (Ab_290_16 n4 n3 n2 n1 n0 H0 H1 ∧ preb_290 n4 H0) ∧ some q0 = some (mub_290_16 n4 n3 n2 n1 n0 H0 H1)) (f9 : n5 ≤ 20) (f10 : 0 ≤ n5) (f11 : n5 = hV H1 (n3).toNat 64) (f12 : n0 < n5) (f13 : n1 = 0) (f14 : n6 = 354) (f15 : n6 = hV H1 (n3).toNat 96) (f16 : n7 ≤ 1) (f17 : 0 ≤ n7) (f18 : n7 = hV H1 (n6).toNat (n0).toNat) (f19 : n7 ≠ 0) (f20 : n8 ≤ 1) (f21 : 0 ≤ n8) (f22 : (hLe T0 H1 H2 ∧ hFr s_289.2.2.2.2 H1 H2 ∧ ((0 : Int) = 0 → H2.length = H1.length) ∧ hWt T0 H2) ∧ postb_289 n8 n3 n0 H1 H2) (f23 : n8 = 0) (f24 : n9 = 335) (f25 : n9 = hV H2 (n3).toNat 73) (f26 : n10 ≤ 7) (f27 : (-1) ≤ n10) (f28 : n10 = hV H2 (n9).toNat (n0).toNat) (f29 : n11 = 336) (f30 : n11 = hV H2 (n3).toNat 74) (f31 : n12 ≤ 5) (f32 : (-1) ≤ n12) (f33 : n12 = hV H2 (n11).toNat (n0).toNat) : preb_283 n3 n0 n10 n12 H2 := by
  have g4 := f8.2.1.1
  unfold Ab_290_16 at g4
  have g3 := f8.2.1.2
  unfold preb_290 at g3
  unfold postb_289 at f22
  unfold preb_283
  have e1 : n5 = hV H0 285 64 := (by rw [f6] at f11; exact f11 : n5 = hV H1 285 64).trans ((f8.1.2.1.1 285 64 kF_290_285_64))
  have e2 : n7 = hV H1 354 (n0).toNat := (by rw [f14] at f18; exact f18 : n7 = hV H1 354 (n0).toNat)
  have e3 : hV H2 335 = hV H1 335 := fRow f22.1.2.1 335 kR_289_335
  have e4 : n10 = hV H1 335 (n0).toNat := (by rw [f24] at f28; exact f28 : n10 = hV H2 335 (n0).toNat).trans ((congrFun e3 _))
  have e5 : hV H2 336 = hV H1 336 := fRow f22.1.2.1 336 kR_289_336
  have e6 : n12 = hV H1 336 (n0).toNat := (by rw [f29] at f33; exact f33 : n12 = hV H2 336 (n0).toNat).trans ((congrFun e5 _))
  have e8 : hV H1 285 18 = hV H0 285 18 := (f8.1.2.1.1 285 18 kF_290_285_18)
  have e9 : hV H1 285 64 = hV H0 285 64 := (f8.1.2.1.1 285 64 kF_290_285_64)
  have e10 : hV H1 296 = hV H0 296 := fRow f8.1.2.1 296 kR_290_296
  have e11 : hV H1 298 = hV H0 298 := fRow f8.1.2.1 298 kR_290_298
  have e12 : hV H1 300 = hV H0 300 := fRow f8.1.2.1 300 kR_290_300
  have e13 : hV H1 301 = hV H0 301 := fRow f8.1.2.1 301 kR_290_301
  have e14 : hV H1 303 = hV H0 303 := fRow f8.1.2.1 303 kR_290_303
  have e15 : hV H1 328 = hV H0 328 := fRow f8.1.2.1 328 kR_290_328
  have e16 : hV H1 330 = hV H0 330 := fRow f8.1.2.1 330 kR_290_330
  have e17 : hV H1 331 = hV H0 331 := fRow f8.1.2.1 331 kR_290_331
  have e18 : hV H1 332 = hV H0 332 := fRow f8.1.2.1 332 kR_290_332
  have e19 : hV H1 341 = hV H0 341 := fRow f8.1.2.1 341 kR_290_341
  have e21 : hV H2 285 18 = hV H0 285 18 := ((f22.1.2.1.1 285 18 kF_289_285_18)).trans (f8.1.2.1.1 285 18 kF_290_285_18)
  have e23 : hV H2 285 64 = hV H0 285 64 := ((f22.1.2.1.1 285 64 kF_289_285_64)).trans (f8.1.2.1.1 285 64 kF_290_285_64)
  have e25 : hV H2 285 65 = hV H1 285 65 := (f22.1.2.1.1 285 65 kF_289_285_65)
  have e27 : hV H2 296 = hV H0 296 := (fRow f22.1.2.1 296 kR_289_296).trans e10
  have e29 : hV H2 298 = hV H0 298 := (fRow f22.1.2.1 298 kR_289_298).trans e11
  have e31 : hV H2 300 = hV H0 300 := (fRow f22.1.2.1 300 kR_289_300).trans e12
  have e33 : hV H2 328 = hV H0 328 := (fRow f22.1.2.1 328 kR_289_328).trans e15
  have e35 : hV H2 330 = hV H0 330 := (fRow f22.1.2.1 330 kR_289_330).trans e16
  have e37 : hV H2 331 = hV H0 331 := (fRow f22.1.2.1 331 kR_289_331).trans e17
  have e39 : hV H2 332 = hV H0 332 := (fRow f22.1.2.1 332 kR_289_332).trans e18
  have e40 : hV H2 333 = hV H1 333 := fRow f22.1.2.1 333 kR_289_333
  have e41 : hV H2 334 = hV H1 334 := fRow f22.1.2.1 334 kR_289_334
  have e43 : hV H2 341 = hV H0 341 := (fRow f22.1.2.1 341 kR_289_341).trans e19
  have e44 : hV H2 354 = hV H1 354 := fRow f22.1.2.1 354 kR_289_354
  have e45 : PG H1 = PG H0 := PG_fr f8.1.2.1 (by decide +kernel)
  have e46 : PG H2 = PG H1 := PG_fr f22.1.2.1 (by decide +kernel)
  have e47 : PG H2 = PG H0 := e46.trans e45
  have e48 : (0 : Int) ≤ hV H0 285 18 ∧ hV H0 285 18 ≤ 8 := bTo e8 (f8.1.2.2 285 18 _ _ kW_285_18)
  have e49 : (0 : Int) ≤ hV H0 285 64 ∧ hV H0 285 64 ≤ 20 := bTo e9 (f8.1.2.2 285 64 _ _ kW_285_64)
  have e50 : (0 : Int) ≤ hV H1 285 65 ∧ hV H1 285 65 ≤ 2147483647 := f8.1.2.2 285 65 _ _ kW_285_65
  try simp only [SO, SS, AC]
  try simp only [e21, e23, e25, e33, e35, e37, e39, e40, e41, e3, e5, e43, e47]
  have y0 := g4.1
  have y1 := g4.2.1
  have y2 := g4.2.2.1
  have y3 := g4.2.2.2.1
  have y4 := g4.2.2.2.2
  have p0 := g3.1
  have p1 := g3.2.1
  have p2 := g3.2.2.1
  have p3 := g3.2.2.2.1
  have p4 := g3.2.2.2.2
  have r0_0 := f22.2.1
  have r0_1 := f22.2.2
  try simp only [SO] at y0
  try simp only [SS] at y1
  try simp only [AC] at y2
  try simp only [SO] at p0
  try simp only [SS] at p1
  try simp only [AC] at p3
  try simp only [e8, e9, e15, e16, e17, e18] at y0
  try simp only [e19] at y1
  try simp only [e8, e9, e10, e11, e12, e15, e18] at y2
  try simp only [e9, e10, e11, e12, e13, e14, e15, e18, e19] at y3
  try simp only [e9, e10, e11, e12, e13, e14, e15, e18, e19] at y4
  try simp only [e23, e27, e29, e31, e33, e39, e3, e44] at r0_0
  try simp only [e23, e27, e29, e31, e33, e39, e3, e44] at r0_1
  clear g3
  clear g4
  clear f11 f15 f18 f25 f28 f30 f33 e3 e5 e8 e9 e10 e11 e12 e13 e14 e15 e16 e17 e18 e19 e21 e23 e25 e27 e29 e31 e33 e35 e37 e39 e40 e41 e43 e44 e45 e46 e47
  clear f8 f22
  subst e1
  subst e2
  subst e4
  subst e6
  try have sm := SL_made ((y4 (by omega) (n0).toNat (by omega)).mp (by omega)) NX_made
  try have so := (y0 (n0).toNat (by omega)).2.2.2 (by omega)
  refine ⟨?_, ?_, ?_, ?_, ?_, ?_, ?_⟩ <;> first | assumption | omega | trivial
def g_290_16_13 : vG := ([(22, [12, 11, 4], [2], 0), (90, [12], [], -1), (91, [12], [], 5), (20, [11, 1], [2], 74), (0, [11], [], 336), (22, [10, 9, 4], [2], 0), (90, [10], [], -1), (91, [10], [], 7), (20, [9, 1], [2], 73), (0, [9], [], 335), (30, [8], [], 0), (1289, [8, 1, 4], [1, 2], 0), (90, [8], [], 0), (91, [8], [], 1), (31, [7], [], 0), (22, [7, 6, 4], [1], 0), (90, [7], [], 0), (91, [7], [], 1), (20, [6, 1], [1], 96), (0, [6], [], 354), (30, [3], [], 0), (42, [4, 5], [], 0), (20, [5, 1], [1], 64), (90, [5], [], 0), (91, [5], [], 20), (5000, [0, 1, 2, 3, 4], [0, 1], 16), (0, [0], [], 285), (0, [1], [], 285), (90, [2], [], -2147483648), (91, [2], [], 2147483647), (90, [3], [], 0), (91, [3], [], 1), (90, [4], [], 0), (91, [4], [], 20)], (2283, [1, 4, 10, 12], [2], 0))
theorem c_290_16_13 {q0 : Nat} : vOkm T0 (eP e_290 L_290 A_290 mu_290 (some q0)) 1 g_290_16_13 := vOk_inI fun ρ η f0 f1 f2 f3 f4 f5 f6 f7 f8 f9 f10 f11 f12 f13 f14 f15 f16 f17 f18 f19 f20 f21 f22 f23 f24 f25 f26 f27 f28 f29 f30 f31 f32 f33 => q_290_14 (q0 := q0) (n0 := ρ 4) (n1 := ρ 3) (n2 := ρ 2) (n3 := ρ 1) (n4 := ρ 0) (n5 := ρ 5) (n6 := ρ 6) (n7 := ρ 7) (n8 := ρ 8) (n9 := ρ 9) (n10 := ρ 10) (n11 := ρ 11) (n12 := ρ 12) (H0 := η 0) (H1 := η 1) (H2 := η 2) f33 f32 f31 f30 f29 f28 f27 f26 f25 f24 f23 f22 f21 f20 f19 f18 f17 f16 f15 f14 f13 f12 f11 f10 f9 f8 f7 f6 f5 f4 f3 f2 f1 f0
def g_290_16_14 : vG := ([(10, [17, 4], [], 1), (42, [4, 5], [], 0), (91, [5], [], 20), (90, [4], [], 0)], (90, [17], [], 0))
theorem c_290_16_14 {q0 : Nat} : vOkm T0 (eP e_290 L_290 A_290 mu_290 (some q0)) 1 g_290_16_14 := vOk_inI fun ρ η f0 f1 f2 f3 => q_290_7 (q0 := q0) (n0 := ρ 4) (n1 := ρ 5) (n2 := ρ 17) (H0 := η 0) f3 f2 f1 f0
def g_290_16_15 : vG := ([(10, [17, 4], [], 1), (42, [4, 5], [], 0), (91, [5], [], 20), (90, [4], [], 0)], (91, [17], [], 20))
theorem c_290_16_15 {q0 : Nat} : vOkm T0 (eP e_290 L_290 A_290 mu_290 (some q0)) 1 g_290_16_15 := vOk_inI fun ρ η f0 f1 f2 f3 => q_290_8 (q0 := q0) (n0 := ρ 4) (n1 := ρ 5) (n2 := ρ 17) (H0 := η 0) f3 f2 f1 f0
theorem kR_283_354 : vFreeR s_283.2.2.2.2 354 = true := by decide +kernel
theorem q_290_15 {q0 : Nat} {n0 n1 n2 n3 n4 n5 n6 n7 n8 n9 n10 n11 n12 n13 n14 n15 n16 n17 : Int} {H0 H1 H2 H3 : gH} (f0 : n0 ≤ 20) (f1 : 0 ≤ n0) (f2 : n1 ≤ 1) (f3 : 0 ≤ n1) (f4 : n2 ≤ 2147483647) (f5 : (-2147483648) ≤ n2) (f6 : n3 = 285) (f7 : n4 = 285) (f8 : (hLe T0 H0 H1 ∧ hFr s_290.2.2.2.2 H0 H1 ∧ hWt T0 H1) ∧ (Ab_290_16 n4 n3 n2 n1 n0 H0 H1 ∧ preb_290 n4 H0) ∧ some q0 = some (mub_290_16 n4 n3 n2 n1 n0 H0 H1)) (f9 : n5 ≤ 20) (f10 : 0 ≤ n5) (f11 : n5 = hV H1 (n3).toNat 64) (f12 : n0 < n5) (f13 : n1 = 0) (f14 : n6 = 354) (f15 : n6 = hV H1 (n3).toNat 96) (f16 : n7 ≤ 1) (f17 : 0 ≤ n7) (f18 : n7 = hV H1 (n6).toNat (n0).toNat) (f19 : n7 ≠ 0) (f20 : n8 ≤ 1) (f21 : 0 ≤ n8) (f22 : (hLe T0 H1 H2 ∧ hFr s_289.2.2.2.2 H1 H2 ∧ ((0 : Int) = 0 → H2.length = H1.length) ∧ hWt T0 H2) ∧ postb_289 n8 n3 n0 H1 H2) (f23 : n8 = 0) (f24 : n9 = 335) (f25 : n9 = hV H2 (n3).toNat 73) (f26 : n10 ≤ 7) (f27 : (-1) ≤ n10) (f28 : n10 = hV H2 (n9).toNat (n0).toNat) (f29 : n11 = 336) (f30 : n11 = hV H2 (n3).toNat 74) (f31 : n12 ≤ 5) (f32 : (-1) ≤ n12) (f33 : n12 = hV H2 (n11).toNat (n0).toNat) (f34 : n13 ≤ 2147483647) (f35 : (-2147483648) ≤ n13) (f36 : (hLe T0 H2 H3 ∧ hFr s_283.2.2.2.2 H2 H3 ∧ ((0 : Int) = 0 → H3.length = H2.length) ∧ hWt T0 H3) ∧ postb_283 n13 n3 n0 n10 n12 H2 H3) (f37 : n13 ≤ 0) (f38 : n14 = 0) (f39 : n15 = w32 (n2 + n14)) (f40 : n16 = 1) (f41 : n17 = w32 (n0 + 1)) : Ab_290_16 n4 n3 n15 n16 n17 H0 H3 ∧ ∀ q, some q0 = some q → mub_290_16 n4 n3 n15 n16 n17 H0 H3 < q := by
  have g4 := f8.2.1.1
  unfold Ab_290_16 at g4
  have g3 := f8.2.1.2
  unfold preb_290 at g3
  have g5 := Option.some.inj f8.2.2
  unfold mub_290_16 at g5
  unfold postb_289 at f22
  unfold postb_283 at f36
  unfold Ab_290_16
  unfold mub_290_16
  have e1 : n5 = hV H0 285 64 := (by rw [f6] at f11; exact f11 : n5 = hV H1 285 64).trans ((f8.1.2.1.1 285 64 kF_290_285_64))
  have e2 : n7 = hV H1 354 (n0).toNat := (by rw [f14] at f18; exact f18 : n7 = hV H1 354 (n0).toNat)
  have e3 : hV H2 335 = hV H1 335 := fRow f22.1.2.1 335 kR_289_335
  have e4 : n10 = hV H1 335 (n0).toNat := (by rw [f24] at f28; exact f28 : n10 = hV H2 335 (n0).toNat).trans ((congrFun e3 _))
  have e5 : hV H2 336 = hV H1 336 := fRow f22.1.2.1 336 kR_289_336
  have e6 : n12 = hV H1 336 (n0).toNat := (by rw [f29] at f33; exact f33 : n12 = hV H2 336 (n0).toNat).trans ((congrFun e5 _))
  have e8 : hV H1 285 18 = hV H0 285 18 := (f8.1.2.1.1 285 18 kF_290_285_18)
  have e9 : hV H1 285 64 = hV H0 285 64 := (f8.1.2.1.1 285 64 kF_290_285_64)
  have e10 : hV H1 296 = hV H0 296 := fRow f8.1.2.1 296 kR_290_296
  have e11 : hV H1 298 = hV H0 298 := fRow f8.1.2.1 298 kR_290_298
  have e12 : hV H1 300 = hV H0 300 := fRow f8.1.2.1 300 kR_290_300
  have e13 : hV H1 301 = hV H0 301 := fRow f8.1.2.1 301 kR_290_301
  have e14 : hV H1 303 = hV H0 303 := fRow f8.1.2.1 303 kR_290_303
  have e15 : hV H1 328 = hV H0 328 := fRow f8.1.2.1 328 kR_290_328
  have e16 : hV H1 330 = hV H0 330 := fRow f8.1.2.1 330 kR_290_330
  have e17 : hV H1 331 = hV H0 331 := fRow f8.1.2.1 331 kR_290_331
  have e18 : hV H1 332 = hV H0 332 := fRow f8.1.2.1 332 kR_290_332
  have e19 : hV H1 341 = hV H0 341 := fRow f8.1.2.1 341 kR_290_341
  have e21 : hV H2 285 64 = hV H0 285 64 := ((f22.1.2.1.1 285 64 kF_289_285_64)).trans (f8.1.2.1.1 285 64 kF_290_285_64)
  have e23 : hV H2 285 65 = hV H1 285 65 := (f22.1.2.1.1 285 65 kF_289_285_65)
  have e25 : hV H2 296 = hV H0 296 := (fRow f22.1.2.1 296 kR_289_296).trans e10
  have e27 : hV H2 298 = hV H0 298 := (fRow f22.1.2.1 298 kR_289_298).trans e11
  have e29 : hV H2 300 = hV H0 300 := (fRow f22.1.2.1 300 kR_289_300).trans e12
  have e31 : hV H2 328 = hV H0 328 := (fRow f22.1.2.1 328 kR_289_328).trans e15
  have e33 : hV H2 332 = hV H0 332 := (fRow f22.1.2.1 332 kR_289_332).trans e18
  have e34 : hV H2 333 = hV H1 333 := fRow f22.1.2.1 333 kR_289_333
  have e35 : hV H2 354 = hV H1 354 := fRow f22.1.2.1 354 kR_289_354
  have e38 : hV H3 285 18 = hV H0 285 18 := ((f36.1.2.1.1 285 18 kF_283_285_18)).trans (((f22.1.2.1.1 285 18 kF_289_285_18)).trans (f8.1.2.1.1 285 18 kF_290_285_18))
  have e40 : hV H3 285 64 = hV H0 285 64 := ((f36.1.2.1.1 285 64 kF_283_285_64)).trans (((f22.1.2.1.1 285 64 kF_289_285_64)).trans (f8.1.2.1.1 285 64 kF_290_285_64))
  have e42 : hV H3 296 = hV H0 296 := (fRow f36.1.2.1 296 kR_283_296).trans e25
  have e44 : hV H3 298 = hV H0 298 := (fRow f36.1.2.1 298 kR_283_298).trans e27
  have e46 : hV H3 300 = hV H0 300 := (fRow f36.1.2.1 300 kR_283_300).trans e29
  have e50 : hV H3 301 = hV H0 301 := (fRow f36.1.2.1 301 kR_283_301).trans ((fRow f22.1.2.1 301 kR_289_301).trans e13)
  have e54 : hV H3 303 = hV H0 303 := (fRow f36.1.2.1 303 kR_283_303).trans ((fRow f22.1.2.1 303 kR_289_303).trans e14)
  have e56 : hV H3 328 = hV H0 328 := (fRow f36.1.2.1 328 kR_283_328).trans e31
  have e60 : hV H3 330 = hV H0 330 := (fRow f36.1.2.1 330 kR_283_330).trans ((fRow f22.1.2.1 330 kR_289_330).trans e16)
  have e64 : hV H3 331 = hV H0 331 := (fRow f36.1.2.1 331 kR_283_331).trans ((fRow f22.1.2.1 331 kR_289_331).trans e17)
  have e66 : hV H3 332 = hV H0 332 := (fRow f36.1.2.1 332 kR_283_332).trans e33
  have e70 : hV H3 341 = hV H0 341 := (fRow f36.1.2.1 341 kR_283_341).trans ((fRow f22.1.2.1 341 kR_289_341).trans e19)
  have e72 : hV H3 354 = hV H1 354 := (fRow f36.1.2.1 354 kR_283_354).trans e35
  have e73 : (0 : Int) ≤ hV H0 285 18 ∧ hV H0 285 18 ≤ 8 := bTo e8 (f8.1.2.2 285 18 _ _ kW_285_18)
  have e74 : (0 : Int) ≤ hV H0 285 64 ∧ hV H0 285 64 ≤ 20 := bTo e9 (f8.1.2.2 285 64 _ _ kW_285_64)
  have e75 : (0 : Int) ≤ hV H1 285 65 ∧ hV H1 285 65 ≤ 2147483647 := f8.1.2.2 285 65 _ _ kW_285_65
  have e80 : (0 : Int) ≤ hV H3 285 65 ∧ hV H3 285 65 ≤ 2147483647 := f36.1.2.2.2 285 65 _ _ kW_285_65
  try simp only [SO, SS, AC]
  try simp only [e9, e10, e11, e12, e13, e14, e15, e18, e19] at g5
  try simp only [e38, e40, e42, e44, e46, e50, e54, e56, e60, e64, e66, e70, e72]
  have y0 := g4.1
  have y1 := g4.2.1
  have y2 := g4.2.2.1
  have y3 := g4.2.2.2.1
  have y4 := g4.2.2.2.2
  have p0 := g3.1
  have p1 := g3.2.1
  have p2 := g3.2.2.1
  have p3 := g3.2.2.2.1
  have p4 := g3.2.2.2.2
  have r0_0 := f22.2.1
  have r0_1 := f22.2.2
  have r1_0 := f36.2.1
  have r1_1 := f36.2.2.1
  have r1_2 := f36.2.2.2.1
  have r1_3 := f36.2.2.2.2.1
  have r1_4 := f36.2.2.2.2.2
  try simp only [SO] at y0
  try simp only [SS] at y1
  try simp only [AC] at y2
  try simp only [SO] at p0
  try simp only [SS] at p1
  try simp only [AC] at p3
  try simp only [SO] at r1_0
  try simp only [SS] at r1_1
  try simp only [e8, e9, e15, e16, e17, e18] at y0
  try simp only [e19] at y1
  try simp only [e8, e9, e10, e11, e12, e15, e18] at y2
  try simp only [e9, e10, e11, e12, e13, e14, e15, e18, e19] at y3
  try simp only [e9, e10, e11, e12, e13, e14, e15, e18, e19] at y4
  try simp only [e21, e25, e27, e29, e31, e33, e3, e35] at r0_0
  try simp only [e21, e25, e27, e29, e31, e33, e3, e35] at r0_1
  try simp only [e38, e40, e56, e60, e64, e66] at r1_0
  try simp only [e70] at r1_1
  try simp only [e23] at r1_2
  try simp only [e34] at r1_3
  try simp only [e3] at r1_4
  clear g3
  clear g4
  clear f11 f15 f18 f25 f28 f30 f33 e3 e5 e8 e9 e10 e11 e12 e13 e14 e15 e16 e17 e18 e19 e21 e23 e25 e27 e29 e31 e33 e34 e35 e38 e40 e42 e44 e46 e50 e54 e56 e60 e64 e66 e70 e72
  clear f8 f22 f36
  subst e1
  subst e2
  subst e4
  subst e6
  try have sm := SL_made ((y4 (by omega) (n0).toNat (by omega)).mp (by omega)) NX_made
  try have so := (y0 (n0).toNat (by omega)).2.2.2 (by omega)
  first
  | (have ix0 : n15 = n2 + 0 := Eq.trans f39 (w32_iv (Iad (Iat f5 f4) (IC 0)) (by decide)); subst ix0; clear f39)
  | (have ix0 : n15 = n2 + 0 := Eq.trans f39 (w32_id (by omega) (by omega)); subst ix0; clear f39)
  | (unfold w32 at f39; have ix0 : n15 = n2 + 0 := (by omega); subst ix0)
  | skip
  first
  | (have ix1 : n17 = n0 + 1 := Eq.trans f41 (w32_iv (Iad (Iat f1 f0) (IC 1)) (by decide)); subst ix1; clear f41)
  | (have ix1 : n17 = n0 + 1 := Eq.trans f41 (w32_id (by omega) (by omega)); subst ix1; clear f41)
  | (unfold w32 at f41; have ix1 : n17 = n0 + 1 := (by omega); subst ix1)
  | skip
  try unfold w32 at f39
  try unfold w32 at f41

  obtain ⟨sm1, sm2, sm3⟩ := SL_made ((y4 (by omega) (n0).toNat (by omega)).mp (by omega)) NX_made
  have ms := uF_same (f := hV H1 335) (i := n0) (w := hV H1 335 (n0).toNat) rfl
  have e4 := r1_4
  rw [ms] at e4
  have e5 := r1_3
  rw [r1_2] at e5
  have less := SN_less (S := hV H0 285 64) (w := hV H1 285 65 + 1) (i := n0) (by omega) (s := (n0).toNat) (by omega) ((y4 (by omega) (n0).toNat (by omega)).mp (by omega)) (fun k hk hl z => absurd (r0_1 (by omega) k hk hl) ((y4 (by omega) k hk).mpr z)) (Classical.choose_spec y2.2) (by omega) (fun k hk => by have := (y1.1 k hk).1; omega) (fun k hk k6 k0 => by have := MK_le (p2 (hV H1 335 k).toNat (by have := y2.1 k hk k6 k0; omega)) y1 (by omega); omega)
  refine ⟨?_, fun q hq => ?_⟩
  · exact ⟨r1_0, r1_1, (by rw [e4]; exact y2), (by rw [e4, e5]; omega), fun z => by omega⟩
  · have g6 := Option.some.inj hq
    subst g6
    rw [e4, e5]
    try clear r0_0
    omega
def g_290_16_16 : vG := ([(10, [17, 4], [], 1), (0, [16], [], 1), (1, [15, 2, 14], [], 0), (0, [14], [], 0), (35, [13], [], 0), (1283, [13, 1, 4, 10, 12], [2, 3], 0), (90, [13], [], -2147483648), (91, [13], [], 2147483647), (22, [12, 11, 4], [2], 0), (90, [12], [], -1), (91, [12], [], 5), (20, [11, 1], [2], 74), (0, [11], [], 336), (22, [10, 9, 4], [2], 0), (90, [10], [], -1), (91, [10], [], 7), (20, [9, 1], [2], 73), (0, [9], [], 335), (30, [8], [], 0), (1289, [8, 1, 4], [1, 2], 0), (90, [8], [], 0), (91, [8], [], 1), (31, [7], [], 0), (22, [7, 6, 4], [1], 0), (90, [7], [], 0), (91, [7], [], 1), (20, [6, 1], [1], 96), (0, [6], [], 354), (30, [3], [], 0), (42, [4, 5], [], 0), (20, [5, 1], [1], 64), (90, [5], [], 0), (91, [5], [], 20), (5000, [0, 1, 2, 3, 4], [0, 1], 16), (0, [0], [], 285), (0, [1], [], 285), (90, [2], [], -2147483648), (91, [2], [], 2147483647), (90, [3], [], 0), (91, [3], [], 1), (90, [4], [], 0), (91, [4], [], 20)], (4000, [1, 15, 16, 17], [3], 16))
theorem c_290_16_16 {q0 : Nat} : vOkm T0 (eP e_290 L_290 A_290 mu_290 (some q0)) 1 g_290_16_16 := vOk_inI fun ρ η f0 f1 f2 f3 f4 f5 f6 f7 f8 f9 f10 f11 f12 f13 f14 f15 f16 f17 f18 f19 f20 f21 f22 f23 f24 f25 f26 f27 f28 f29 f30 f31 f32 f33 f34 f35 f36 f37 f38 f39 f40 f41 => q_290_15 (q0 := q0) (n0 := ρ 4) (n1 := ρ 3) (n2 := ρ 2) (n3 := ρ 1) (n4 := ρ 0) (n5 := ρ 5) (n6 := ρ 6) (n7 := ρ 7) (n8 := ρ 8) (n9 := ρ 9) (n10 := ρ 10) (n11 := ρ 11) (n12 := ρ 12) (n13 := ρ 13) (n14 := ρ 14) (n15 := ρ 15) (n16 := ρ 16) (n17 := ρ 17) (H0 := η 0) (H1 := η 1) (H2 := η 2) (H3 := η 3) f41 f40 f39 f38 f37 f36 f35 f34 f33 f32 f31 f30 f29 f28 f27 f26 f25 f24 f23 f22 f21 f20 f19 f18 f17 f16 f15 f14 f13 f12 f11 f10 f9 f8 f7 f6 f5 f4 f3 f2 f1 f0
def g_290_16_17 : vG := ([(10, [17, 4], [], 1), (42, [4, 5], [], 0), (91, [5], [], 20), (90, [4], [], 0)], (90, [17], [], 0))
theorem c_290_16_17 {q0 : Nat} : vOkm T0 (eP e_290 L_290 A_290 mu_290 (some q0)) 1 g_290_16_17 := vOk_inI fun ρ η f0 f1 f2 f3 => q_290_7 (q0 := q0) (n0 := ρ 4) (n1 := ρ 5) (n2 := ρ 17) (H0 := η 0) f3 f2 f1 f0
def g_290_16_18 : vG := ([(10, [17, 4], [], 1), (42, [4, 5], [], 0), (91, [5], [], 20), (90, [4], [], 0)], (91, [17], [], 20))
theorem c_290_16_18 {q0 : Nat} : vOkm T0 (eP e_290 L_290 A_290 mu_290 (some q0)) 1 g_290_16_18 := vOk_inI fun ρ η f0 f1 f2 f3 => q_290_8 (q0 := q0) (n0 := ρ 4) (n1 := ρ 5) (n2 := ρ 17) (H0 := η 0) f3 f2 f1 f0
theorem q_290_16 {q0 : Nat} {n0 n1 n2 n3 n4 n5 n6 n7 n8 n9 n10 n11 n12 n13 n14 n15 n16 n17 : Int} {H0 H1 H2 H3 : gH} (f0 : n0 ≤ 20) (f1 : 0 ≤ n0) (f2 : n1 ≤ 1) (f3 : 0 ≤ n1) (f4 : n2 ≤ 2147483647) (f5 : (-2147483648) ≤ n2) (f6 : n3 = 285) (f7 : n4 = 285) (f8 : (hLe T0 H0 H1 ∧ hFr s_290.2.2.2.2 H0 H1 ∧ hWt T0 H1) ∧ (Ab_290_16 n4 n3 n2 n1 n0 H0 H1 ∧ preb_290 n4 H0) ∧ some q0 = some (mub_290_16 n4 n3 n2 n1 n0 H0 H1)) (f9 : n5 ≤ 20) (f10 : 0 ≤ n5) (f11 : n5 = hV H1 (n3).toNat 64) (f12 : n0 < n5) (f13 : n1 = 0) (f14 : n6 = 354) (f15 : n6 = hV H1 (n3).toNat 96) (f16 : n7 ≤ 1) (f17 : 0 ≤ n7) (f18 : n7 = hV H1 (n6).toNat (n0).toNat) (f19 : n7 ≠ 0) (f20 : n8 ≤ 1) (f21 : 0 ≤ n8) (f22 : (hLe T0 H1 H2 ∧ hFr s_289.2.2.2.2 H1 H2 ∧ ((0 : Int) = 0 → H2.length = H1.length) ∧ hWt T0 H2) ∧ postb_289 n8 n3 n0 H1 H2) (f23 : n8 = 0) (f24 : n9 = 335) (f25 : n9 = hV H2 (n3).toNat 73) (f26 : n10 ≤ 7) (f27 : (-1) ≤ n10) (f28 : n10 = hV H2 (n9).toNat (n0).toNat) (f29 : n11 = 336) (f30 : n11 = hV H2 (n3).toNat 74) (f31 : n12 ≤ 5) (f32 : (-1) ≤ n12) (f33 : n12 = hV H2 (n11).toNat (n0).toNat) (f34 : n13 ≤ 2147483647) (f35 : (-2147483648) ≤ n13) (f36 : (hLe T0 H2 H3 ∧ hFr s_283.2.2.2.2 H2 H3 ∧ ((0 : Int) = 0 → H3.length = H2.length) ∧ hWt T0 H3) ∧ postb_283 n13 n3 n0 n10 n12 H2 H3) (f37 : 0 < n13) (f38 : n14 = 1) (f39 : n15 = w32 (n2 + n14)) (f40 : n16 = 1) (f41 : n17 = w32 (n0 + 1)) : Ab_290_16 n4 n3 n15 n16 n17 H0 H3 ∧ ∀ q, some q0 = some q → mub_290_16 n4 n3 n15 n16 n17 H0 H3 < q := by
  have g4 := f8.2.1.1
  unfold Ab_290_16 at g4
  have g3 := f8.2.1.2
  unfold preb_290 at g3
  have g5 := Option.some.inj f8.2.2
  unfold mub_290_16 at g5
  unfold postb_289 at f22
  unfold postb_283 at f36
  unfold Ab_290_16
  unfold mub_290_16
  have e1 : n5 = hV H0 285 64 := (by rw [f6] at f11; exact f11 : n5 = hV H1 285 64).trans ((f8.1.2.1.1 285 64 kF_290_285_64))
  have e2 : n7 = hV H1 354 (n0).toNat := (by rw [f14] at f18; exact f18 : n7 = hV H1 354 (n0).toNat)
  have e3 : hV H2 335 = hV H1 335 := fRow f22.1.2.1 335 kR_289_335
  have e4 : n10 = hV H1 335 (n0).toNat := (by rw [f24] at f28; exact f28 : n10 = hV H2 335 (n0).toNat).trans ((congrFun e3 _))
  have e5 : hV H2 336 = hV H1 336 := fRow f22.1.2.1 336 kR_289_336
  have e6 : n12 = hV H1 336 (n0).toNat := (by rw [f29] at f33; exact f33 : n12 = hV H2 336 (n0).toNat).trans ((congrFun e5 _))
  have e8 : hV H1 285 18 = hV H0 285 18 := (f8.1.2.1.1 285 18 kF_290_285_18)
  have e9 : hV H1 285 64 = hV H0 285 64 := (f8.1.2.1.1 285 64 kF_290_285_64)
  have e10 : hV H1 296 = hV H0 296 := fRow f8.1.2.1 296 kR_290_296
  have e11 : hV H1 298 = hV H0 298 := fRow f8.1.2.1 298 kR_290_298
  have e12 : hV H1 300 = hV H0 300 := fRow f8.1.2.1 300 kR_290_300
  have e13 : hV H1 301 = hV H0 301 := fRow f8.1.2.1 301 kR_290_301
  have e14 : hV H1 303 = hV H0 303 := fRow f8.1.2.1 303 kR_290_303
  have e15 : hV H1 328 = hV H0 328 := fRow f8.1.2.1 328 kR_290_328
  have e16 : hV H1 330 = hV H0 330 := fRow f8.1.2.1 330 kR_290_330
  have e17 : hV H1 331 = hV H0 331 := fRow f8.1.2.1 331 kR_290_331
  have e18 : hV H1 332 = hV H0 332 := fRow f8.1.2.1 332 kR_290_332
  have e19 : hV H1 341 = hV H0 341 := fRow f8.1.2.1 341 kR_290_341
  have e21 : hV H2 285 64 = hV H0 285 64 := ((f22.1.2.1.1 285 64 kF_289_285_64)).trans (f8.1.2.1.1 285 64 kF_290_285_64)
  have e23 : hV H2 285 65 = hV H1 285 65 := (f22.1.2.1.1 285 65 kF_289_285_65)
  have e25 : hV H2 296 = hV H0 296 := (fRow f22.1.2.1 296 kR_289_296).trans e10
  have e27 : hV H2 298 = hV H0 298 := (fRow f22.1.2.1 298 kR_289_298).trans e11
  have e29 : hV H2 300 = hV H0 300 := (fRow f22.1.2.1 300 kR_289_300).trans e12
  have e31 : hV H2 328 = hV H0 328 := (fRow f22.1.2.1 328 kR_289_328).trans e15
  have e33 : hV H2 332 = hV H0 332 := (fRow f22.1.2.1 332 kR_289_332).trans e18
  have e34 : hV H2 333 = hV H1 333 := fRow f22.1.2.1 333 kR_289_333
  have e35 : hV H2 354 = hV H1 354 := fRow f22.1.2.1 354 kR_289_354
  have e38 : hV H3 285 18 = hV H0 285 18 := ((f36.1.2.1.1 285 18 kF_283_285_18)).trans (((f22.1.2.1.1 285 18 kF_289_285_18)).trans (f8.1.2.1.1 285 18 kF_290_285_18))
  have e40 : hV H3 285 64 = hV H0 285 64 := ((f36.1.2.1.1 285 64 kF_283_285_64)).trans (((f22.1.2.1.1 285 64 kF_289_285_64)).trans (f8.1.2.1.1 285 64 kF_290_285_64))
  have e42 : hV H3 296 = hV H0 296 := (fRow f36.1.2.1 296 kR_283_296).trans e25
  have e44 : hV H3 298 = hV H0 298 := (fRow f36.1.2.1 298 kR_283_298).trans e27
  have e46 : hV H3 300 = hV H0 300 := (fRow f36.1.2.1 300 kR_283_300).trans e29
  have e50 : hV H3 301 = hV H0 301 := (fRow f36.1.2.1 301 kR_283_301).trans ((fRow f22.1.2.1 301 kR_289_301).trans e13)
  have e54 : hV H3 303 = hV H0 303 := (fRow f36.1.2.1 303 kR_283_303).trans ((fRow f22.1.2.1 303 kR_289_303).trans e14)
  have e56 : hV H3 328 = hV H0 328 := (fRow f36.1.2.1 328 kR_283_328).trans e31
  have e60 : hV H3 330 = hV H0 330 := (fRow f36.1.2.1 330 kR_283_330).trans ((fRow f22.1.2.1 330 kR_289_330).trans e16)
  have e64 : hV H3 331 = hV H0 331 := (fRow f36.1.2.1 331 kR_283_331).trans ((fRow f22.1.2.1 331 kR_289_331).trans e17)
  have e66 : hV H3 332 = hV H0 332 := (fRow f36.1.2.1 332 kR_283_332).trans e33
  have e70 : hV H3 341 = hV H0 341 := (fRow f36.1.2.1 341 kR_283_341).trans ((fRow f22.1.2.1 341 kR_289_341).trans e19)
  have e72 : hV H3 354 = hV H1 354 := (fRow f36.1.2.1 354 kR_283_354).trans e35
  have e73 : (0 : Int) ≤ hV H0 285 18 ∧ hV H0 285 18 ≤ 8 := bTo e8 (f8.1.2.2 285 18 _ _ kW_285_18)
  have e74 : (0 : Int) ≤ hV H0 285 64 ∧ hV H0 285 64 ≤ 20 := bTo e9 (f8.1.2.2 285 64 _ _ kW_285_64)
  have e75 : (0 : Int) ≤ hV H1 285 65 ∧ hV H1 285 65 ≤ 2147483647 := f8.1.2.2 285 65 _ _ kW_285_65
  have e80 : (0 : Int) ≤ hV H3 285 65 ∧ hV H3 285 65 ≤ 2147483647 := f36.1.2.2.2 285 65 _ _ kW_285_65
  try simp only [SO, SS, AC]
  try simp only [e9, e10, e11, e12, e13, e14, e15, e18, e19] at g5
  try simp only [e38, e40, e42, e44, e46, e50, e54, e56, e60, e64, e66, e70, e72]
  have y0 := g4.1
  have y1 := g4.2.1
  have y2 := g4.2.2.1
  have y3 := g4.2.2.2.1
  have y4 := g4.2.2.2.2
  have p0 := g3.1
  have p1 := g3.2.1
  have p2 := g3.2.2.1
  have p3 := g3.2.2.2.1
  have p4 := g3.2.2.2.2
  have r0_0 := f22.2.1
  have r0_1 := f22.2.2
  have r1_0 := f36.2.1
  have r1_1 := f36.2.2.1
  have r1_2 := f36.2.2.2.1
  have r1_3 := f36.2.2.2.2.1
  have r1_4 := f36.2.2.2.2.2
  try simp only [SO] at y0
  try simp only [SS] at y1
  try simp only [AC] at y2
  try simp only [SO] at p0
  try simp only [SS] at p1
  try simp only [AC] at p3
  try simp only [SO] at r1_0
  try simp only [SS] at r1_1
  try simp only [e8, e9, e15, e16, e17, e18] at y0
  try simp only [e19] at y1
  try simp only [e8, e9, e10, e11, e12, e15, e18] at y2
  try simp only [e9, e10, e11, e12, e13, e14, e15, e18, e19] at y3
  try simp only [e9, e10, e11, e12, e13, e14, e15, e18, e19] at y4
  try simp only [e21, e25, e27, e29, e31, e33, e3, e35] at r0_0
  try simp only [e21, e25, e27, e29, e31, e33, e3, e35] at r0_1
  try simp only [e38, e40, e56, e60, e64, e66] at r1_0
  try simp only [e70] at r1_1
  try simp only [e23] at r1_2
  try simp only [e34] at r1_3
  try simp only [e3] at r1_4
  clear g3
  clear g4
  clear f11 f15 f18 f25 f28 f30 f33 e3 e5 e8 e9 e10 e11 e12 e13 e14 e15 e16 e17 e18 e19 e21 e23 e25 e27 e29 e31 e33 e34 e35 e38 e40 e42 e44 e46 e50 e54 e56 e60 e64 e66 e70 e72
  clear f8 f22 f36
  subst e1
  subst e2
  subst e4
  subst e6
  try have sm := SL_made ((y4 (by omega) (n0).toNat (by omega)).mp (by omega)) NX_made
  try have so := (y0 (n0).toNat (by omega)).2.2.2 (by omega)
  first
  | (have ix0 : n15 = n2 + 1 := Eq.trans f39 (w32_id (by omega) (by omega)); subst ix0; clear f39)
  | (unfold w32 at f39; have ix0 : n15 = n2 + 1 := (by omega); subst ix0)
  | skip
  first
  | (have ix1 : n17 = n0 + 1 := Eq.trans f41 (w32_iv (Iad (Iat f1 f0) (IC 1)) (by decide)); subst ix1; clear f41)
  | (have ix1 : n17 = n0 + 1 := Eq.trans f41 (w32_id (by omega) (by omega)); subst ix1; clear f41)
  | (unfold w32 at f41; have ix1 : n17 = n0 + 1 := (by omega); subst ix1)
  | skip
  try unfold w32 at f39
  try unfold w32 at f41

  obtain ⟨sm1, sm2, sm3⟩ := SL_made ((y4 (by omega) (n0).toNat (by omega)).mp (by omega)) NX_made
  have ms := uF_same (f := hV H1 335) (i := n0) (w := hV H1 335 (n0).toNat) rfl
  have e4 := r1_4
  rw [ms] at e4
  have e5 := r1_3
  rw [r1_2] at e5
  have less := SN_less (S := hV H0 285 64) (w := hV H1 285 65 + 1) (i := n0) (by omega) (s := (n0).toNat) (by omega) ((y4 (by omega) (n0).toNat (by omega)).mp (by omega)) (fun k hk hl z => absurd (r0_1 (by omega) k hk hl) ((y4 (by omega) k hk).mpr z)) (Classical.choose_spec y2.2) (by omega) (fun k hk => by have := (y1.1 k hk).1; omega) (fun k hk k6 k0 => by have := MK_le (p2 (hV H1 335 k).toNat (by have := y2.1 k hk k6 k0; omega)) y1 (by omega); omega)
  refine ⟨?_, fun q hq => ?_⟩
  · exact ⟨r1_0, r1_1, (by rw [e4]; exact y2), (by rw [e4, e5]; omega), fun z => by omega⟩
  · have g6 := Option.some.inj hq
    subst g6
    rw [e4, e5]
    try clear r0_0
    omega
def g_290_16_19 : vG := ([(10, [17, 4], [], 1), (0, [16], [], 1), (1, [15, 2, 14], [], 0), (0, [14], [], 1), (34, [13], [], 0), (1283, [13, 1, 4, 10, 12], [2, 3], 0), (90, [13], [], -2147483648), (91, [13], [], 2147483647), (22, [12, 11, 4], [2], 0), (90, [12], [], -1), (91, [12], [], 5), (20, [11, 1], [2], 74), (0, [11], [], 336), (22, [10, 9, 4], [2], 0), (90, [10], [], -1), (91, [10], [], 7), (20, [9, 1], [2], 73), (0, [9], [], 335), (30, [8], [], 0), (1289, [8, 1, 4], [1, 2], 0), (90, [8], [], 0), (91, [8], [], 1), (31, [7], [], 0), (22, [7, 6, 4], [1], 0), (90, [7], [], 0), (91, [7], [], 1), (20, [6, 1], [1], 96), (0, [6], [], 354), (30, [3], [], 0), (42, [4, 5], [], 0), (20, [5, 1], [1], 64), (90, [5], [], 0), (91, [5], [], 20), (5000, [0, 1, 2, 3, 4], [0, 1], 16), (0, [0], [], 285), (0, [1], [], 285), (90, [2], [], -2147483648), (91, [2], [], 2147483647), (90, [3], [], 0), (91, [3], [], 1), (90, [4], [], 0), (91, [4], [], 20)], (4000, [1, 15, 16, 17], [3], 16))
theorem c_290_16_19 {q0 : Nat} : vOkm T0 (eP e_290 L_290 A_290 mu_290 (some q0)) 1 g_290_16_19 := vOk_inI fun ρ η f0 f1 f2 f3 f4 f5 f6 f7 f8 f9 f10 f11 f12 f13 f14 f15 f16 f17 f18 f19 f20 f21 f22 f23 f24 f25 f26 f27 f28 f29 f30 f31 f32 f33 f34 f35 f36 f37 f38 f39 f40 f41 => q_290_16 (q0 := q0) (n0 := ρ 4) (n1 := ρ 3) (n2 := ρ 2) (n3 := ρ 1) (n4 := ρ 0) (n5 := ρ 5) (n6 := ρ 6) (n7 := ρ 7) (n8 := ρ 8) (n9 := ρ 9) (n10 := ρ 10) (n11 := ρ 11) (n12 := ρ 12) (n13 := ρ 13) (n14 := ρ 14) (n15 := ρ 15) (n16 := ρ 16) (n17 := ρ 17) (H0 := η 0) (H1 := η 1) (H2 := η 2) (H3 := η 3) f41 f40 f39 f38 f37 f36 f35 f34 f33 f32 f31 f30 f29 f28 f27 f26 f25 f24 f23 f22 f21 f20 f19 f18 f17 f16 f15 f14 f13 f12 f11 f10 f9 f8 f7 f6 f5 f4 f3 f2 f1 f0
def g_290_16_20 : vG := ([(10, [9, 4], [], 1), (42, [4, 5], [], 0), (91, [5], [], 20), (90, [4], [], 0)], (90, [9], [], 0))
theorem c_290_16_20 {q0 : Nat} : vOkm T0 (eP e_290 L_290 A_290 mu_290 (some q0)) 1 g_290_16_20 := vOk_inI fun ρ η f0 f1 f2 f3 => q_290_7 (q0 := q0) (n0 := ρ 4) (n1 := ρ 5) (n2 := ρ 9) (H0 := η 0) f3 f2 f1 f0
def g_290_16_21 : vG := ([(10, [9, 4], [], 1), (42, [4, 5], [], 0), (91, [5], [], 20), (90, [4], [], 0)], (91, [9], [], 20))
theorem c_290_16_21 {q0 : Nat} : vOkm T0 (eP e_290 L_290 A_290 mu_290 (some q0)) 1 g_290_16_21 := vOk_inI fun ρ η f0 f1 f2 f3 => q_290_8 (q0 := q0) (n0 := ρ 4) (n1 := ρ 5) (n2 := ρ 9) (H0 := η 0) f3 f2 f1 f0
theorem q_290_17 {q0 : Nat} {n0 n1 n2 n3 n4 n5 n6 n7 n8 n9 : Int} {H0 H1 H2 : gH} (f0 : n0 ≤ 20) (f1 : 0 ≤ n0) (f2 : n1 ≤ 1) (f3 : 0 ≤ n1) (f4 : n2 ≤ 2147483647) (f5 : (-2147483648) ≤ n2) (f6 : n3 = 285) (f7 : n4 = 285) (f8 : (hLe T0 H0 H1 ∧ hFr s_290.2.2.2.2 H0 H1 ∧ hWt T0 H1) ∧ (Ab_290_16 n4 n3 n2 n1 n0 H0 H1 ∧ preb_290 n4 H0) ∧ some q0 = some (mub_290_16 n4 n3 n2 n1 n0 H0 H1)) (f9 : n5 ≤ 20) (f10 : 0 ≤ n5) (f11 : n5 = hV H1 (n3).toNat 64) (f12 : n0 < n5) (f13 : n1 = 0) (f14 : n6 = 354) (f15 : n6 = hV H1 (n3).toNat 96) (f16 : n7 ≤ 1) (f17 : 0 ≤ n7) (f18 : n7 = hV H1 (n6).toNat (n0).toNat) (f19 : n7 ≠ 0) (f20 : n8 ≤ 1) (f21 : 0 ≤ n8) (f22 : (hLe T0 H1 H2 ∧ hFr s_289.2.2.2.2 H1 H2 ∧ ((0 : Int) = 0 → H2.length = H1.length) ∧ hWt T0 H2) ∧ postb_289 n8 n3 n0 H1 H2) (f23 : n8 ≠ 0) (f24 : n9 = w32 (n0 + 1)) : Ab_290_16 n4 n3 n2 n1 n9 H0 H2 ∧ ∀ q, some q0 = some q → mub_290_16 n4 n3 n2 n1 n9 H0 H2 < q := by
  have g4 := f8.2.1.1
  unfold Ab_290_16 at g4
  have g3 := f8.2.1.2
  unfold preb_290 at g3
  have g5 := Option.some.inj f8.2.2
  unfold mub_290_16 at g5
  unfold postb_289 at f22
  unfold Ab_290_16
  unfold mub_290_16
  have e1 : n5 = hV H0 285 64 := (by rw [f6] at f11; exact f11 : n5 = hV H1 285 64).trans ((f8.1.2.1.1 285 64 kF_290_285_64))
  have e2 : n7 = hV H1 354 (n0).toNat := (by rw [f14] at f18; exact f18 : n7 = hV H1 354 (n0).toNat)
  have e4 : hV H1 285 18 = hV H0 285 18 := (f8.1.2.1.1 285 18 kF_290_285_18)
  have e5 : hV H1 285 64 = hV H0 285 64 := (f8.1.2.1.1 285 64 kF_290_285_64)
  have e6 : hV H1 296 = hV H0 296 := fRow f8.1.2.1 296 kR_290_296
  have e7 : hV H1 298 = hV H0 298 := fRow f8.1.2.1 298 kR_290_298
  have e8 : hV H1 300 = hV H0 300 := fRow f8.1.2.1 300 kR_290_300
  have e9 : hV H1 301 = hV H0 301 := fRow f8.1.2.1 301 kR_290_301
  have e10 : hV H1 303 = hV H0 303 := fRow f8.1.2.1 303 kR_290_303
  have e11 : hV H1 328 = hV H0 328 := fRow f8.1.2.1 328 kR_290_328
  have e12 : hV H1 330 = hV H0 330 := fRow f8.1.2.1 330 kR_290_330
  have e13 : hV H1 331 = hV H0 331 := fRow f8.1.2.1 331 kR_290_331
  have e14 : hV H1 332 = hV H0 332 := fRow f8.1.2.1 332 kR_290_332
  have e15 : hV H1 341 = hV H0 341 := fRow f8.1.2.1 341 kR_290_341
  have e17 : hV H2 285 18 = hV H0 285 18 := ((f22.1.2.1.1 285 18 kF_289_285_18)).trans (f8.1.2.1.1 285 18 kF_290_285_18)
  have e19 : hV H2 285 64 = hV H0 285 64 := ((f22.1.2.1.1 285 64 kF_289_285_64)).trans (f8.1.2.1.1 285 64 kF_290_285_64)
  have e21 : hV H2 285 65 = hV H1 285 65 := (f22.1.2.1.1 285 65 kF_289_285_65)
  have e23 : hV H2 296 = hV H0 296 := (fRow f22.1.2.1 296 kR_289_296).trans e6
  have e25 : hV H2 298 = hV H0 298 := (fRow f22.1.2.1 298 kR_289_298).trans e7
  have e27 : hV H2 300 = hV H0 300 := (fRow f22.1.2.1 300 kR_289_300).trans e8
  have e29 : hV H2 301 = hV H0 301 := (fRow f22.1.2.1 301 kR_289_301).trans e9
  have e31 : hV H2 303 = hV H0 303 := (fRow f22.1.2.1 303 kR_289_303).trans e10
  have e33 : hV H2 328 = hV H0 328 := (fRow f22.1.2.1 328 kR_289_328).trans e11
  have e35 : hV H2 330 = hV H0 330 := (fRow f22.1.2.1 330 kR_289_330).trans e12
  have e37 : hV H2 331 = hV H0 331 := (fRow f22.1.2.1 331 kR_289_331).trans e13
  have e39 : hV H2 332 = hV H0 332 := (fRow f22.1.2.1 332 kR_289_332).trans e14
  have e40 : hV H2 333 = hV H1 333 := fRow f22.1.2.1 333 kR_289_333
  have e41 : hV H2 334 = hV H1 334 := fRow f22.1.2.1 334 kR_289_334
  have e42 : hV H2 335 = hV H1 335 := fRow f22.1.2.1 335 kR_289_335
  have e43 : hV H2 336 = hV H1 336 := fRow f22.1.2.1 336 kR_289_336
  have e45 : hV H2 341 = hV H0 341 := (fRow f22.1.2.1 341 kR_289_341).trans e15
  have e46 : hV H2 354 = hV H1 354 := fRow f22.1.2.1 354 kR_289_354
  have e47 : (0 : Int) ≤ hV H0 285 18 ∧ hV H0 285 18 ≤ 8 := bTo e4 (f8.1.2.2 285 18 _ _ kW_285_18)
  have e48 : (0 : Int) ≤ hV H0 285 64 ∧ hV H0 285 64 ≤ 20 := bTo e5 (f8.1.2.2 285 64 _ _ kW_285_64)
  have e49 : (0 : Int) ≤ hV H1 285 65 ∧ hV H1 285 65 ≤ 2147483647 := f8.1.2.2 285 65 _ _ kW_285_65
  try simp only [SO, SS, AC]
  try simp only [e5, e6, e7, e8, e9, e10, e11, e14, e15] at g5
  try simp only [e17, e19, e21, e23, e25, e27, e29, e31, e33, e35, e37, e39, e40, e41, e42, e43, e45, e46]
  have y0 := g4.1
  have y1 := g4.2.1
  have y2 := g4.2.2.1
  have y3 := g4.2.2.2.1
  have y4 := g4.2.2.2.2
  have p0 := g3.1
  have p1 := g3.2.1
  have p2 := g3.2.2.1
  have p3 := g3.2.2.2.1
  have p4 := g3.2.2.2.2
  have r0_0 := f22.2.1
  have r0_1 := f22.2.2
  try simp only [SO] at y0
  try simp only [SS] at y1
  try simp only [AC] at y2
  try simp only [SO] at p0
  try simp only [SS] at p1
  try simp only [AC] at p3
  try simp only [e4, e5, e11, e12, e13, e14] at y0
  try simp only [e15] at y1
  try simp only [e4, e5, e6, e7, e8, e11, e14] at y2
  try simp only [e5, e6, e7, e8, e9, e10, e11, e14, e15] at y3
  try simp only [e5, e6, e7, e8, e9, e10, e11, e14, e15] at y4
  try simp only [e19, e23, e25, e27, e33, e39, e42, e46] at r0_0
  try simp only [e19, e23, e25, e27, e33, e39, e42, e46] at r0_1
  clear g3
  clear g4
  clear f11 f15 f18 e4 e5 e6 e7 e8 e9 e10 e11 e12 e13 e14 e15 e17 e19 e21 e23 e25 e27 e29 e31 e33 e35 e37 e39 e40 e41 e42 e43 e45 e46
  clear f8 f22
  subst e1
  subst e2
  try have sm := SL_made ((y4 (by omega) (n0).toNat (by omega)).mp (by omega)) NX_made
  try have so := (y0 (n0).toNat (by omega)).2.2.2 (by omega)
  first
  | (have ix0 : n9 = n0 + 1 := Eq.trans f24 (w32_iv (Iad (Iat f1 f0) (IC 1)) (by decide)); subst ix0; clear f24)
  | (have ix0 : n9 = n0 + 1 := Eq.trans f24 (w32_id (by omega) (by omega)); subst ix0; clear f24)
  | (unfold w32 at f24; have ix0 : n9 = n0 + 1 := (by omega); subst ix0)
  | skip
  try unfold w32 at f24

  refine ⟨?_, fun q hq => ?_⟩
  · exact ⟨y0, y1, y2, by omega, y4⟩
  · have g6 := Option.some.inj hq
    subst g6
    try clear r0_0
    try clear r0_1
    omega
def g_290_16_22 : vG := ([(10, [9, 4], [], 1), (31, [8], [], 0), (1289, [8, 1, 4], [1, 2], 0), (90, [8], [], 0), (91, [8], [], 1), (31, [7], [], 0), (22, [7, 6, 4], [1], 0), (90, [7], [], 0), (91, [7], [], 1), (20, [6, 1], [1], 96), (0, [6], [], 354), (30, [3], [], 0), (42, [4, 5], [], 0), (20, [5, 1], [1], 64), (90, [5], [], 0), (91, [5], [], 20), (5000, [0, 1, 2, 3, 4], [0, 1], 16), (0, [0], [], 285), (0, [1], [], 285), (90, [2], [], -2147483648), (91, [2], [], 2147483647), (90, [3], [], 0), (91, [3], [], 1), (90, [4], [], 0), (91, [4], [], 20)], (4000, [1, 2, 3, 9], [2], 16))
theorem c_290_16_22 {q0 : Nat} : vOkm T0 (eP e_290 L_290 A_290 mu_290 (some q0)) 1 g_290_16_22 := vOk_inI fun ρ η f0 f1 f2 f3 f4 f5 f6 f7 f8 f9 f10 f11 f12 f13 f14 f15 f16 f17 f18 f19 f20 f21 f22 f23 f24 => q_290_17 (q0 := q0) (n0 := ρ 4) (n1 := ρ 3) (n2 := ρ 2) (n3 := ρ 1) (n4 := ρ 0) (n5 := ρ 5) (n6 := ρ 6) (n7 := ρ 7) (n8 := ρ 8) (n9 := ρ 9) (H0 := η 0) (H1 := η 1) (H2 := η 2) f24 f23 f22 f21 f20 f19 f18 f17 f16 f15 f14 f13 f12 f11 f10 f9 f8 f7 f6 f5 f4 f3 f2 f1 f0
def p_290_16 : List vG := [g_290_16_0,
  g_290_16_1,
  g_290_16_2,
  g_290_16_3,
  g_290_16_4,
  g_290_16_5,
  g_290_16_6,
  g_290_16_7,
  g_290_16_8,
  g_290_16_9,
  g_290_16_10,
  g_290_16_11,
  g_290_16_12,
  g_290_16_13,
  g_290_16_14,
  g_290_16_15,
  g_290_16_16,
  g_290_16_17,
  g_290_16_18,
  g_290_16_19,
  g_290_16_20,
  g_290_16_21,
  g_290_16_22]
theorem r_290_16 : vCovO false (eRc e_290 L_290 cs_290 2000 (16, [(0, (3, 12, 285, 0)), (1, (0, -2147483648, 2147483647, 0)), (2, (0, 0, 1, 0)), (3, (0, 0, 20, 0))])) p_290_16 = true := by decide +kernel
theorem m_290 (d : Nat) : eC e_290 (d + 8) := eC_ok (e := e_290) (L := L_290) (cs := cs_290) (n := 2000) (d := d + 7) (A := A_290) (μ := mu_290) (tp := false) (p0 := p_290_s) rfl ⟨m_283 (d + 2), ⟨m_288 d, ⟨m_289 (d + 1), trivial⟩⟩⟩ rfl (.inl rfl) (by decide +kernel) (fun z => nomatch z) r_290_s (allC c_290_s_0 allN) (allC (.inl ⟨p_290_4, r_290_4, fun q0 => (allC c_290_4_0 (allC c_290_4_1 (allC c_290_4_2 allN)))⟩) (allC (.inl ⟨p_290_16, r_290_16, fun q0 => (allC c_290_16_0 (allC c_290_16_1 (allC c_290_16_2 (allC c_290_16_3 (allC c_290_16_4 (allC c_290_16_5 (allC c_290_16_6 (allC c_290_16_7 (allC c_290_16_8 (allC c_290_16_9 (allC c_290_16_10 (allC c_290_16_11 (allC c_290_16_12 (allC c_290_16_13 (allC c_290_16_14 (allC c_290_16_15 (allC c_290_16_16 (allC c_290_16_17 (allC c_290_16_18 (allC c_290_16_19 (allC c_290_16_20 (allC c_290_16_21 (allC c_290_16_22 allN)))))))))))))))))))))))⟩) allN))
