/-! CONTRACTS of methods (printed by wip/gen/emit.py). -/
/- MixStageModel.stales ()V -/
noncomputable def s_288 : vM := ([(3, 12, 285, 0)], (9, 0, 0, 0), 1, 0, [(12, 82), (580, 0), (588, 0), (596, 0), (604, 0), (612, 0), (652, 0), (663, 0)])
def preb_288 (a0 : Int) (h : gH) : Prop := SO h ∧ PG h ∧ SS h ∧ AC h
def pre_288 : List Int → gH → Prop := fun xs h => match xs with
  | [a0] => preb_288 a0 h
  | _ => False
def postb_288 (a0 : Int) (h0 h : gH) : Prop := ∀ s : Nat, (s : Int) < hV h 285 64 → (¬ hV h 354 (s) = 0 ↔ SLp (hV h 285 64) (NXp (hV h 328) (hV h 332) (hV h 335) (hV h 296) (hV h 298) (hV h 300)) (hV h 328) (hV h 335) (hV h 333) (MKv (hV h 296) (hV h 298) (hV h 300) (hV h 301) (hV h 303) (hV h 341)) s)
def post_288 : List Int → gH → gH → Prop := fun xs h0 h => match xs with
  | [a0] => postb_288 a0 h0 h
  | _ => True
noncomputable def e_288 : vE := (288, s_288, pre_288, post_288)
noncomputable def L_288 : List vE := [e_280, e_286, e_287, e_289]
def cs_288 : List vC := [(2, [(0, (3, 12, 285, 0)), (1, (0, 0, 20, 0))]), (79, [(0, (3, 12, 285, 0)), (1, (0, 0, 19, 0)), (2, (0, -2147483648, 2147483647, 0)), (3, (0, 0, 20, 0))]), (131, [(0, (3, 12, 285, 0)), (1, (0, 0, 1, 0))]), (139, [(0, (3, 12, 285, 0)), (1, (0, 0, 1, 0)), (2, (0, 0, 20, 0))])]
def Ab_288_2 (a0 x0 x1 : Int) (h0 h : gH) : Prop := FSp (hV h 285 64) (NXp (hV h 328) (hV h 332) (hV h 335) (hV h 296) (hV h 298) (hV h 300)) (hV h 328) (hV h 335) (hV h 333) (MKv (hV h 296) (hV h 298) (hV h 300) (hV h 301) (hV h 303) (hV h 341)) (hV h 354) x1
def mub_288_2 (a0 x0 x1 : Int) (h0 h : gH) : Nat := 1000000 + (21 - x1).toNat * 100
def Ab_288_79 (a0 x0 x1 x2 x3 : Int) (h0 h : gH) : Prop := x1 < hV h 285 64 ∧ hV h 328 ((x1).toNat) = 6 ∧ 0 ≤ hV h 335 ((x1).toNat) ∧ FSp (hV h 285 64) (NXp (hV h 328) (hV h 332) (hV h 335) (hV h 296) (hV h 298) (hV h 300)) (hV h 328) (hV h 335) (hV h 333) (MKv (hV h 296) (hV h 298) (hV h 300) (hV h 301) (hV h 303) (hV h 341)) (hV h 354) x1 ∧ BTS x2 (LSp (hV h 285 64) (NXp (hV h 328) (hV h 332) (hV h 335) (hV h 296) (hV h 298) (hV h 300)) (x1).toNat) ∧ INp (hV h 285 64) (NXp (hV h 328) (hV h 332) (hV h 335) (hV h 296) (hV h 298) (hV h 300)) (hV h 335) (hV h 333) (MKv (hV h 296) (hV h 298) (hV h 300) (hV h 301) (hV h 303) (hV h 341)) (hV h 354) x1 x3
def mub_288_79 (a0 x0 x1 x2 x3 : Int) (h0 h : gH) : Nat := 1000000 + (21 - x1).toNat * 100 - 1 - (x3).toNat
def Ab_288_131 (a0 x0 x1 : Int) (h0 h : gH) : Prop := NWp (hV h 285 64) (NXp (hV h 328) (hV h 332) (hV h 335) (hV h 296) (hV h 298) (hV h 300)) (hV h 328) (hV h 335) (hV h 333) (MKv (hV h 296) (hV h 298) (hV h 300) (hV h 301) (hV h 303) (hV h 341)) (hV h 354) ∧ (x1 = 0 → CLp (hV h 285 64) (NXp (hV h 328) (hV h 332) (hV h 335) (hV h 296) (hV h 298) (hV h 300)) (hV h 328) (hV h 354) (hV h 285 64))
def mub_288_131 (a0 x0 x1 : Int) (h0 h : gH) : Nat := nzc (hV h 354) 20 * 1000 + 150 * (x1).toNat
def Ab_288_139 (a0 x0 x1 x2 : Int) (h0 h : gH) : Prop := NWp (hV h 285 64) (NXp (hV h 328) (hV h 332) (hV h 335) (hV h 296) (hV h 298) (hV h 300)) (hV h 328) (hV h 335) (hV h 333) (MKv (hV h 296) (hV h 298) (hV h 300) (hV h 301) (hV h 303) (hV h 341)) (hV h 354) ∧ (x1 = 0 → CLp (hV h 285 64) (NXp (hV h 328) (hV h 332) (hV h 335) (hV h 296) (hV h 298) (hV h 300)) (hV h 328) (hV h 354) x2)
def mub_288_139 (a0 x0 x1 x2 : Int) (h0 h : gH) : Nat := nzc (hV h 354) 20 * 1000 + 200 * (x1).toNat + 100 - (x2).toNat
def A_288 : Int → List Int → gH → gH → Prop := fun c xs h0 h => match c.toNat with
  | 2 => (match xs with
    | [a0, x0, x1] => Ab_288_2 a0 x0 x1 h0 h
    | _ => False)
  | 79 => (match xs with
    | [a0, x0, x1, x2, x3] => Ab_288_79 a0 x0 x1 x2 x3 h0 h
    | _ => False)
  | 131 => (match xs with
    | [a0, x0, x1] => Ab_288_131 a0 x0 x1 h0 h
    | _ => False)
  | 139 => (match xs with
    | [a0, x0, x1, x2] => Ab_288_139 a0 x0 x1 x2 h0 h
    | _ => False)
  | _ => True
def mu_288 : Int → List Int → gH → gH → Nat := fun c xs h0 h => match c.toNat with
  | 2 => (match xs with
    | [a0, x0, x1] => mub_288_2 a0 x0 x1 h0 h
    | _ => 0)
  | 79 => (match xs with
    | [a0, x0, x1, x2, x3] => mub_288_79 a0 x0 x1 x2 x3 h0 h
    | _ => 0)
  | 131 => (match xs with
    | [a0, x0, x1] => mub_288_131 a0 x0 x1 h0 h
    | _ => 0)
  | 139 => (match xs with
    | [a0, x0, x1, x2] => mub_288_139 a0 x0 x1 x2 h0 h
    | _ => 0)
  | _ => 0
theorem q_288_0 {n0 n1 : Int} {H0 : gH} (f0 : n0 = 285) (f1 : hWt T0 H0 ∧ preb_288 n0 H0) (f2 : n1 = 0) : Ab_288_2 n0 n0 n1 H0 H0 ∧ ∀ q, none = some q → mub_288_2 n0 n0 n1 H0 H0 < q := by
  unfold preb_288 at f1
  unfold Ab_288_2
  have e0 : (0 : Int) ≤ hV H0 285 64 ∧ hV H0 285 64 ≤ 20 := f1.1 285 64 _ _ kW_285_64
  have p0 := f1.2.1
  have p1 := f1.2.2.1
  have p2 := f1.2.2.2.1
  have p3 := f1.2.2.2.2
  clear f1

  refine ⟨?_, fun q hq => ?_⟩
  · exact FS_first (by omega)
  · exact nomatch hq
def g_288_s_0 : vG := ([(0, [1], [], 0), (6000, [0], [0], 0), (0, [0], [], 285)], (4000, [0, 1], [0], 2))
theorem c_288_s_0 : vOkm T0 (eP e_288 L_288 A_288 mu_288 none) 1 g_288_s_0 := vOk_inI fun ρ η f0 f1 f2 => q_288_0 (n0 := ρ 0) (n1 := ρ 1) (H0 := η 0) f2 f1 f0
def p_288_s : List vG := [g_288_s_0]
theorem r_288_s : vCovO false (eR0 e_288 L_288 cs_288 2000) p_288_s = true := by decide +kernel
theorem kR_288_296 : vFreeR s_288.2.2.2.2 296 = true := by decide +kernel
theorem kR_288_298 : vFreeR s_288.2.2.2.2 298 = true := by decide +kernel
theorem kR_288_300 : vFreeR s_288.2.2.2.2 300 = true := by decide +kernel
theorem kR_288_301 : vFreeR s_288.2.2.2.2 301 = true := by decide +kernel
theorem kR_288_303 : vFreeR s_288.2.2.2.2 303 = true := by decide +kernel
theorem kR_288_328 : vFreeR s_288.2.2.2.2 328 = true := by decide +kernel
theorem kR_288_332 : vFreeR s_288.2.2.2.2 332 = true := by decide +kernel
theorem kR_288_333 : vFreeR s_288.2.2.2.2 333 = true := by decide +kernel
theorem kR_288_335 : vFreeR s_288.2.2.2.2 335 = true := by decide +kernel
theorem kR_288_341 : vFreeR s_288.2.2.2.2 341 = true := by decide +kernel
theorem kF_288_285_64 : vFree s_288.2.2.2.2 285 64 = true := by decide +kernel
theorem q_288_1 {q0 : Nat} {n0 n1 n2 n3 n4 : Int} {H0 H1 : gH} (f0 : n0 ≤ 20) (f1 : 0 ≤ n0) (f2 : n1 = 285) (f3 : n2 = 285) (f4 : (hLe T0 H0 H1 ∧ hFr s_288.2.2.2.2 H0 H1 ∧ hWt T0 H1) ∧ (Ab_288_2 n2 n1 n0 H0 H1 ∧ preb_288 n2 H0) ∧ some q0 = some (mub_288_2 n2 n1 n0 H0 H1)) (f5 : n3 ≤ 20) (f6 : 0 ≤ n3) (f7 : n3 = hV H1 (n1).toNat 64) (f8 : n3 ≤ n0) (f9 : n4 = 1) : Ab_288_131 n2 n1 n4 H0 H1 ∧ ∀ q, some q0 = some q → mub_288_131 n2 n1 n4 H0 H1 < q := by
  have g4 := f4.2.1.1
  unfold Ab_288_2 at g4
  have g3 := f4.2.1.2
  unfold preb_288 at g3
  have g5 := Option.some.inj f4.2.2
  unfold mub_288_2 at g5
  unfold Ab_288_131
  unfold mub_288_131
  have e1 : n3 = hV H0 285 64 := (by rw [f2] at f7; exact f7 : n3 = hV H1 285 64).trans ((f4.1.2.1.1 285 64 kF_288_285_64))
  have e2 : hV H1 285 64 = hV H0 285 64 := (f4.1.2.1.1 285 64 kF_288_285_64)
  have e3 : hV H1 296 = hV H0 296 := fRow f4.1.2.1 296 kR_288_296
  have e4 : hV H1 298 = hV H0 298 := fRow f4.1.2.1 298 kR_288_298
  have e5 : hV H1 300 = hV H0 300 := fRow f4.1.2.1 300 kR_288_300
  have e6 : hV H1 301 = hV H0 301 := fRow f4.1.2.1 301 kR_288_301
  have e7 : hV H1 303 = hV H0 303 := fRow f4.1.2.1 303 kR_288_303
  have e8 : hV H1 328 = hV H0 328 := fRow f4.1.2.1 328 kR_288_328
  have e9 : hV H1 332 = hV H0 332 := fRow f4.1.2.1 332 kR_288_332
  have e10 : hV H1 333 = hV H0 333 := fRow f4.1.2.1 333 kR_288_333
  have e11 : hV H1 335 = hV H0 335 := fRow f4.1.2.1 335 kR_288_335
  have e12 : hV H1 341 = hV H0 341 := fRow f4.1.2.1 341 kR_288_341
  have e13 : (0 : Int) ≤ hV H0 285 64 ∧ hV H0 285 64 ≤ 20 := bTo e2 (f4.1.2.2 285 64 _ _ kW_285_64)
  try simp only [e2, e3, e4, e5, e6, e7, e8, e9, e10, e11, e12]
  have y0 := g4
  have p0 := g3.1
  have p1 := g3.2.1
  have p2 := g3.2.2.1
  have p3 := g3.2.2.2
  try simp only [e2, e3, e4, e5, e6, e7, e8, e9, e10, e11, e12] at y0
  clear g3
  clear g4
  clear f7 e2 e3 e4 e5 e6 e7 e8 e9 e10 e11 e12
  clear f4
  subst e1
  try have sm := SOm p0 (s := (n0).toNat) (by omega) (by omega)

  have nl := nzc_le (f := hV H1 354) 20
  refine ⟨?_, fun q hq => ?_⟩
  · exact ⟨NW_first (FS_le y0 (by omega)), fun z => by omega⟩
  · have g6 := Option.some.inj hq
    subst g6
    omega
def g_288_2_0 : vG := ([(0, [4], [], 1), (43, [2, 3], [], 0), (20, [3, 1], [1], 64), (90, [3], [], 0), (91, [3], [], 20), (5000, [0, 1, 2], [0, 1], 2), (0, [0], [], 285), (0, [1], [], 285), (90, [2], [], 0), (91, [2], [], 20)], (4000, [1, 4], [1], 131))
theorem c_288_2_0 {q0 : Nat} : vOkm T0 (eP e_288 L_288 A_288 mu_288 (some q0)) 1 g_288_2_0 := vOk_inI fun ρ η f0 f1 f2 f3 f4 f5 f6 f7 f8 f9 => q_288_1 (q0 := q0) (n0 := ρ 2) (n1 := ρ 1) (n2 := ρ 0) (n3 := ρ 3) (n4 := ρ 4) (H0 := η 0) (H1 := η 1) f9 f8 f7 f6 f5 f4 f3 f2 f1 f0
theorem q_288_2 {q0 : Nat} {n0 n1 : Int} {H0 : gH} (f0 : 0 ≤ n0) (f1 : n1 ≤ 20) (f2 : n0 < n1) : 0 ≤ n0 ∧ n0 < 20 := by
  omega
def g_288_2_1 : vG := ([(42, [2, 3], [], 0), (91, [3], [], 20), (90, [2], [], 0)], (70, [2], [], 20))
theorem c_288_2_1 {q0 : Nat} : vOkm T0 (eP e_288 L_288 A_288 mu_288 (some q0)) 1 g_288_2_1 := vOk_inI fun ρ η f0 f1 f2 => q_288_2 (q0 := q0) (n0 := ρ 2) (n1 := ρ 3) (H0 := η 0) f2 f1 f0
def g_288_2_2 : vG := ([(42, [2, 3], [], 0), (91, [3], [], 20), (90, [2], [], 0)], (70, [2], [], 20))
theorem c_288_2_2 {q0 : Nat} : vOkm T0 (eP e_288 L_288 A_288 mu_288 (some q0)) 1 g_288_2_2 := vOk_inI fun ρ η f0 f1 f2 => q_288_2 (q0 := q0) (n0 := ρ 2) (n1 := ρ 3) (H0 := η 0) f2 f1 f0
theorem q_288_3 {q0 : Nat} {n0 n1 n2 : Int} {H0 : gH} (f0 : 0 ≤ n0) (f1 : n1 ≤ 20) (f2 : n0 < n1) (f3 : n2 = w32 (n0 + 1)) : 0 ≤ n2 := by
  first
  | (have ix0 : n2 = n0 + 1 := Eq.trans f3 (w32_id (by omega) (by omega)); subst ix0; clear f3)
  | (unfold w32 at f3; have ix0 : n2 = n0 + 1 := (by omega); subst ix0)
  | skip
  try unfold w32 at f3
  omega
def g_288_2_3 : vG := ([(10, [10, 2], [], 1), (42, [2, 3], [], 0), (91, [3], [], 20), (90, [2], [], 0)], (90, [10], [], 0))
theorem c_288_2_3 {q0 : Nat} : vOkm T0 (eP e_288 L_288 A_288 mu_288 (some q0)) 1 g_288_2_3 := vOk_inI fun ρ η f0 f1 f2 f3 => q_288_3 (q0 := q0) (n0 := ρ 2) (n1 := ρ 3) (n2 := ρ 10) (H0 := η 0) f3 f2 f1 f0
theorem q_288_4 {q0 : Nat} {n0 n1 n2 : Int} {H0 : gH} (f0 : 0 ≤ n0) (f1 : n1 ≤ 20) (f2 : n0 < n1) (f3 : n2 = w32 (n0 + 1)) : n2 ≤ 20 := by
  first
  | (have ix0 : n2 = n0 + 1 := Eq.trans f3 (w32_id (by omega) (by omega)); subst ix0; clear f3)
  | (unfold w32 at f3; have ix0 : n2 = n0 + 1 := (by omega); subst ix0)
  | skip
  try unfold w32 at f3
  omega
def g_288_2_4 : vG := ([(10, [10, 2], [], 1), (42, [2, 3], [], 0), (91, [3], [], 20), (90, [2], [], 0)], (91, [10], [], 20))
theorem c_288_2_4 {q0 : Nat} : vOkm T0 (eP e_288 L_288 A_288 mu_288 (some q0)) 1 g_288_2_4 := vOk_inI fun ρ η f0 f1 f2 f3 => q_288_4 (q0 := q0) (n0 := ρ 2) (n1 := ρ 3) (n2 := ρ 10) (H0 := η 0) f3 f2 f1 f0
theorem q_288_5 {q0 : Nat} {n0 n1 n2 n3 n4 n5 n6 n7 n8 n9 n10 : Int} {H0 H1 H2 : gH} (f0 : n0 ≤ 20) (f1 : 0 ≤ n0) (f2 : n1 = 285) (f3 : n2 = 285) (f4 : (hLe T0 H0 H1 ∧ hFr s_288.2.2.2.2 H0 H1 ∧ hWt T0 H1) ∧ (Ab_288_2 n2 n1 n0 H0 H1 ∧ preb_288 n2 H0) ∧ some q0 = some (mub_288_2 n2 n1 n0 H0 H1)) (f5 : n3 ≤ 20) (f6 : 0 ≤ n3) (f7 : n3 = hV H1 (n1).toNat 64) (f8 : n0 < n3) (f9 : n4 = 354) (f10 : n4 = hV H1 (n1).toNat 96) (f11 : n5 = 0) (f12 : n6 = o32 (fun x _ => x &&& 1) n5 0) (f13 : hUpd H2 H1 n4 n0 n6) (f14 : n7 = 328) (f15 : n7 = hV H2 (n1).toNat 66) (f16 : n8 ≤ 6) (f17 : 0 ≤ n8) (f18 : n8 = hV H2 (n7).toNat (n0).toNat) (f19 : n9 = 6) (f20 : n8 ≠ n9) (f21 : n10 = w32 (n0 + 1)) : Ab_288_2 n2 n1 n10 H0 H2 ∧ ∀ q, some q0 = some q → mub_288_2 n2 n1 n10 H0 H2 < q := by
  have g4 := f4.2.1.1
  unfold Ab_288_2 at g4
  have g3 := f4.2.1.2
  unfold preb_288 at g3
  have g5 := Option.some.inj f4.2.2
  unfold mub_288_2 at g5
  unfold Ab_288_2
  unfold mub_288_2
  have e1 : n3 = hV H0 285 64 := (by rw [f2] at f7; exact f7 : n3 = hV H1 285 64).trans ((f4.1.2.1.1 285 64 kF_288_285_64))
  have e3 : hV H1 328 = hV H0 328 := fRow f4.1.2.1 328 kR_288_328
  have e4 : n8 = hV H0 328 (n0).toNat := (by rw [f14] at f18; exact f18 : n8 = hV H2 328 (n0).toNat).trans (((congrFun (uRowNe f13 328 (iS (show n4 = ((354 : Nat) : Int) from f9) rfl)) _)).trans ((congrFun e3 _)))
  have e5 : hV H1 285 64 = hV H0 285 64 := (f4.1.2.1.1 285 64 kF_288_285_64)
  have e6 : hV H1 296 = hV H0 296 := fRow f4.1.2.1 296 kR_288_296
  have e7 : hV H1 298 = hV H0 298 := fRow f4.1.2.1 298 kR_288_298
  have e8 : hV H1 300 = hV H0 300 := fRow f4.1.2.1 300 kR_288_300
  have e9 : hV H1 301 = hV H0 301 := fRow f4.1.2.1 301 kR_288_301
  have e10 : hV H1 303 = hV H0 303 := fRow f4.1.2.1 303 kR_288_303
  have e11 : hV H1 332 = hV H0 332 := fRow f4.1.2.1 332 kR_288_332
  have e12 : hV H1 333 = hV H0 333 := fRow f4.1.2.1 333 kR_288_333
  have e13 : hV H1 335 = hV H0 335 := fRow f4.1.2.1 335 kR_288_335
  have e14 : hV H1 341 = hV H0 341 := fRow f4.1.2.1 341 kR_288_341
  have e16 : hV H2 285 64 = hV H0 285 64 := ((uPlace f13 285 64 (iS (show n4 = ((354 : Nat) : Int) from f9) rfl))).trans (f4.1.2.1.1 285 64 kF_288_285_64)
  have e18 : hV H2 296 = hV H0 296 := (uRowNe f13 296 (iS (show n4 = ((354 : Nat) : Int) from f9) rfl)).trans e6
  have e20 : hV H2 298 = hV H0 298 := (uRowNe f13 298 (iS (show n4 = ((354 : Nat) : Int) from f9) rfl)).trans e7
  have e22 : hV H2 300 = hV H0 300 := (uRowNe f13 300 (iS (show n4 = ((354 : Nat) : Int) from f9) rfl)).trans e8
  have e24 : hV H2 301 = hV H0 301 := (uRowNe f13 301 (iS (show n4 = ((354 : Nat) : Int) from f9) rfl)).trans e9
  have e26 : hV H2 303 = hV H0 303 := (uRowNe f13 303 (iS (show n4 = ((354 : Nat) : Int) from f9) rfl)).trans e10
  have e27 : hV H2 328 = hV H0 328 := (uRowNe f13 328 (iS (show n4 = ((354 : Nat) : Int) from f9) rfl)).trans e3
  have e29 : hV H2 332 = hV H0 332 := (uRowNe f13 332 (iS (show n4 = ((354 : Nat) : Int) from f9) rfl)).trans e11
  have e31 : hV H2 333 = hV H0 333 := (uRowNe f13 333 (iS (show n4 = ((354 : Nat) : Int) from f9) rfl)).trans e12
  have e33 : hV H2 335 = hV H0 335 := (uRowNe f13 335 (iS (show n4 = ((354 : Nat) : Int) from f9) rfl)).trans e13
  have e35 : hV H2 341 = hV H0 341 := (uRowNe f13 341 (iS (show n4 = ((354 : Nat) : Int) from f9) rfl)).trans e14
  have e36 : hV H2 354 = uF (hV H1 354) n0 n6 := uRow f13 354 f9.symm
  have e37 : (0 : Int) ≤ hV H0 285 64 ∧ hV H0 285 64 ≤ 20 := bTo e5 (f4.1.2.2 285 64 _ _ kW_285_64)
  try simp only [e16, e18, e20, e22, e24, e26, e27, e29, e31, e33, e35, e36]
  have y0 := g4
  have p0 := g3.1
  have p1 := g3.2.1
  have p2 := g3.2.2.1
  have p3 := g3.2.2.2
  try simp only [e5, e6, e7, e8, e9, e10, e3, e11, e12, e13, e14] at y0
  clear g3
  clear g4
  clear f7 f10 f15 f18 e3 e5 e6 e7 e8 e9 e10 e11 e12 e13 e14 e16 e18 e20 e22 e24 e26 e27 e29 e31 e33 e35
  clear f4
  subst e1
  subst e4
  have b12 := b1_in f12 (by omega) (by omega)
  try have sm := SOm p0 (s := (n0).toNat) (by omega) (by omega)
  first
  | (have ix0 : n10 = n0 + 1 := Eq.trans f21 (w32_iv (Iad (Iat f1 f0) (IC 1)) (by decide)); subst ix0; clear f21)
  | (have ix0 : n10 = n0 + 1 := Eq.trans f21 (w32_id (by omega) (by omega)); subst ix0; clear f21)
  | (unfold w32 at f21; have ix0 : n10 = n0 + 1 := (by omega); subst ix0)
  | skip
  try unfold w32 at f21

  refine ⟨?_, fun q hq => ?_⟩
  · exact FS_no y0 (by omega) (by omega) (by omega) (by omega) (by omega)
  · have g6 := Option.some.inj hq
    subst g6
    omega
def g_288_2_5 : vG := ([(10, [10, 2], [], 1), (41, [8, 9], [], 0), (0, [9], [], 6), (22, [8, 7, 2], [2], 0), (90, [8], [], 0), (91, [8], [], 6), (20, [7, 1], [2], 66), (0, [7], [], 328), (80, [4, 2, 6], [2, 1], 0), (16, [6, 5], [], 0), (0, [5], [], 0), (20, [4, 1], [1], 96), (0, [4], [], 354), (42, [2, 3], [], 0), (20, [3, 1], [1], 64), (90, [3], [], 0), (91, [3], [], 20), (5000, [0, 1, 2], [0, 1], 2), (0, [0], [], 285), (0, [1], [], 285), (90, [2], [], 0), (91, [2], [], 20)], (4000, [1, 10], [2], 2))
theorem c_288_2_5 {q0 : Nat} : vOkm T0 (eP e_288 L_288 A_288 mu_288 (some q0)) 1 g_288_2_5 := vOk_inI fun ρ η f0 f1 f2 f3 f4 f5 f6 f7 f8 f9 f10 f11 f12 f13 f14 f15 f16 f17 f18 f19 f20 f21 => q_288_5 (q0 := q0) (n0 := ρ 2) (n1 := ρ 1) (n2 := ρ 0) (n3 := ρ 3) (n4 := ρ 4) (n5 := ρ 5) (n6 := ρ 6) (n7 := ρ 7) (n8 := ρ 8) (n9 := ρ 9) (n10 := ρ 10) (H0 := η 0) (H1 := η 1) (H2 := η 2) f21 f20 f19 f18 f17 f16 f15 f14 f13 f12 f11 f10 f9 f8 f7 f6 f5 f4 f3 f2 f1 f0
def g_288_2_6 : vG := ([(42, [2, 3], [], 0), (91, [3], [], 20), (90, [2], [], 0)], (70, [2], [], 20))
theorem c_288_2_6 {q0 : Nat} : vOkm T0 (eP e_288 L_288 A_288 mu_288 (some q0)) 1 g_288_2_6 := vOk_inI fun ρ η f0 f1 f2 => q_288_2 (q0 := q0) (n0 := ρ 2) (n1 := ρ 3) (H0 := η 0) f2 f1 f0
def g_288_2_7 : vG := ([(42, [2, 3], [], 0), (91, [3], [], 20), (90, [2], [], 0)], (70, [2], [], 20))
theorem c_288_2_7 {q0 : Nat} : vOkm T0 (eP e_288 L_288 A_288 mu_288 (some q0)) 1 g_288_2_7 := vOk_inI fun ρ η f0 f1 f2 => q_288_2 (q0 := q0) (n0 := ρ 2) (n1 := ρ 3) (H0 := η 0) f2 f1 f0
theorem q_288_6 {q0 : Nat} {n0 n1 n2 n3 n4 n5 : Int} {H0 H1 : gH} (f0 : n0 = 335) (f1 : n1 = hV H1 (n0).toNat (n2).toNat) (f2 : n3 = (-1)) (f3 : n1 ≠ n3) (f4 : n4 = 335) (f5 : (-1) ≤ n5) (f6 : n5 = hV H1 (n4).toNat (n2).toNat) : 0 ≤ n5 := by
  have e0 : n1 = hV H1 335 (n2).toNat := (by rw [f0] at f1; exact f1 : n1 = hV H1 335 (n2).toNat)
  have e1 : n5 = hV H1 335 (n2).toNat := (by rw [f4] at f6; exact f6 : n5 = hV H1 335 (n2).toNat)
  clear f1 f6
  subst e0
  subst e1
  omega
def g_288_2_8 : vG := ([(22, [15, 14, 2], [2], 0), (90, [15], [], -1), (0, [14], [], 335), (41, [11, 12], [], 0), (0, [12], [], -1), (22, [11, 10, 2], [2], 0), (0, [10], [], 335)], (90, [15], [], 0))
theorem c_288_2_8 {q0 : Nat} : vOkm T0 (eP e_288 L_288 A_288 mu_288 (some q0)) 1 g_288_2_8 := vOk_inI fun ρ η f0 f1 f2 f3 f4 f5 f6 => q_288_6 (q0 := q0) (n0 := ρ 10) (n1 := ρ 11) (n2 := ρ 2) (n3 := ρ 12) (n4 := ρ 14) (n5 := ρ 15) (H0 := η 0) (H1 := η 2) f6 f5 f4 f3 f2 f1 f0
theorem kF_288_285_18 : vFree s_288.2.2.2.2 285 18 = true := by decide +kernel
theorem q_288_7 {q0 : Nat} {n0 n1 n2 n3 n4 n5 n6 n7 n8 n9 n10 n11 n12 n13 n14 n15 : Int} {H0 H1 H2 : gH} (f0 : n0 ≤ 20) (f1 : 0 ≤ n0) (f2 : n1 = 285) (f3 : n2 = 285) (f4 : (hLe T0 H0 H1 ∧ hFr s_288.2.2.2.2 H0 H1 ∧ hWt T0 H1) ∧ (Ab_288_2 n2 n1 n0 H0 H1 ∧ preb_288 n2 H0) ∧ some q0 = some (mub_288_2 n2 n1 n0 H0 H1)) (f5 : n3 ≤ 20) (f6 : 0 ≤ n3) (f7 : n3 = hV H1 (n1).toNat 64) (f8 : n0 < n3) (f9 : n4 = 354) (f10 : n4 = hV H1 (n1).toNat 96) (f11 : n5 = 0) (f12 : n6 = o32 (fun x _ => x &&& 1) n5 0) (f13 : hUpd H2 H1 n4 n0 n6) (f14 : n7 = 328) (f15 : n7 = hV H2 (n1).toNat 66) (f16 : n8 ≤ 6) (f17 : 0 ≤ n8) (f18 : n8 = hV H2 (n7).toNat (n0).toNat) (f19 : n9 = 6) (f20 : n8 = n9) (f21 : n10 = 335) (f22 : n10 = hV H2 (n1).toNat 73) (f23 : n11 ≤ 7) (f24 : (-1) ≤ n11) (f25 : n11 = hV H2 (n10).toNat (n0).toNat) (f26 : n12 = (-1)) (f27 : n11 ≠ n12) (f28 : n13 = 354) (f29 : n13 = hV H2 (n1).toNat 96) (f30 : n14 = 335) (f31 : n14 = hV H2 (n1).toNat 73) (f32 : n15 ≤ 7) (f33 : (-1) ≤ n15) (f34 : n15 = hV H2 (n14).toNat (n0).toNat) : preb_287 n1 n15 H2 := by
  have g4 := f4.2.1.1
  unfold Ab_288_2 at g4
  have g3 := f4.2.1.2
  unfold preb_288 at g3
  unfold preb_287
  have e1 : n3 = hV H0 285 64 := (by rw [f2] at f7; exact f7 : n3 = hV H1 285 64).trans ((f4.1.2.1.1 285 64 kF_288_285_64))
  have e3 : hV H1 328 = hV H0 328 := fRow f4.1.2.1 328 kR_288_328
  have e4 : n8 = hV H0 328 (n0).toNat := (by rw [f14] at f18; exact f18 : n8 = hV H2 328 (n0).toNat).trans (((congrFun (uRowNe f13 328 (iS (show n4 = ((354 : Nat) : Int) from f9) rfl)) _)).trans ((congrFun e3 _)))
  have e6 : hV H1 335 = hV H0 335 := fRow f4.1.2.1 335 kR_288_335
  have e7 : n11 = hV H0 335 (n0).toNat := (by rw [f21] at f25; exact f25 : n11 = hV H2 335 (n0).toNat).trans (((congrFun (uRowNe f13 335 (iS (show n4 = ((354 : Nat) : Int) from f9) rfl)) _)).trans ((congrFun e6 _)))
  have e8 : n15 = hV H0 335 (n0).toNat := (by rw [f30] at f34; exact f34 : n15 = hV H2 335 (n0).toNat).trans (((congrFun (uRowNe f13 335 (iS (show n4 = ((354 : Nat) : Int) from f9) rfl)) _)).trans ((congrFun e6 _)))
  have e11 : hV H1 285 64 = hV H0 285 64 := (f4.1.2.1.1 285 64 kF_288_285_64)
  have e12 : hV H1 296 = hV H0 296 := fRow f4.1.2.1 296 kR_288_296
  have e13 : hV H1 298 = hV H0 298 := fRow f4.1.2.1 298 kR_288_298
  have e14 : hV H1 300 = hV H0 300 := fRow f4.1.2.1 300 kR_288_300
  have e15 : hV H1 301 = hV H0 301 := fRow f4.1.2.1 301 kR_288_301
  have e16 : hV H1 303 = hV H0 303 := fRow f4.1.2.1 303 kR_288_303
  have e17 : hV H1 332 = hV H0 332 := fRow f4.1.2.1 332 kR_288_332
  have e18 : hV H1 333 = hV H0 333 := fRow f4.1.2.1 333 kR_288_333
  have e19 : hV H1 341 = hV H0 341 := fRow f4.1.2.1 341 kR_288_341
  have e21 : hV H2 285 18 = hV H0 285 18 := ((uPlace f13 285 18 (iS (show n4 = ((354 : Nat) : Int) from f9) rfl))).trans (f4.1.2.1.1 285 18 kF_288_285_18)
  have e22 : PG H1 = PG H0 := PG_fr f4.1.2.1 (by decide +kernel)
  have e23 : PG H2 = PG H1 := PG_upR f13 (show n4 = ((354 : Nat) : Int) from f9) (by decide)
  have e24 : PG H2 = PG H0 := e23.trans e22
  have e25 : SS H1 = SS H0 := SS_fr f4.1.2.1 (by decide +kernel)
  have e26 : SS H2 = SS H1 := SS_upR f13 (show n4 = ((354 : Nat) : Int) from f9) (by decide)
  have e27 : SS H2 = SS H0 := e26.trans e25
  have e28 : (0 : Int) ≤ hV H0 285 18 ∧ hV H0 285 18 ≤ 8 := bTo ((f4.1.2.1.1 285 18 kF_288_285_18)) (f4.1.2.2 285 18 _ _ kW_285_18)
  have e29 : (0 : Int) ≤ hV H0 285 64 ∧ hV H0 285 64 ≤ 20 := bTo e11 (f4.1.2.2 285 64 _ _ kW_285_64)
  try simp only [e21, e24, e27]
  have y0 := g4
  have p0 := g3.1
  have p1 := g3.2.1
  have p2 := g3.2.2.1
  have p3 := g3.2.2.2
  try simp only [e11, e12, e13, e14, e15, e16, e3, e17, e18, e6, e19] at y0
  clear g3
  clear g4
  clear f7 f10 f15 f18 f22 f25 f29 f31 f34 e3 e6 e11 e12 e13 e14 e15 e16 e17 e18 e19 e21 e22 e23 e24 e25 e26 e27
  clear f4
  subst e1
  subst e4
  subst e7
  subst e8
  have b12 := b1_in f12 (by omega) (by omega)
  try have sm := SOm p0 (s := (n0).toNat) (by omega) (by omega)
  refine ⟨?_, ?_, ?_⟩ <;> first | assumption | omega | trivial
def g_288_2_9 : vG := ([(22, [15, 14, 2], [2], 0), (90, [15], [], -1), (91, [15], [], 7), (20, [14, 1], [2], 73), (0, [14], [], 335), (20, [13, 1], [2], 96), (0, [13], [], 354), (41, [11, 12], [], 0), (0, [12], [], -1), (22, [11, 10, 2], [2], 0), (90, [11], [], -1), (91, [11], [], 7), (20, [10, 1], [2], 73), (0, [10], [], 335), (40, [8, 9], [], 0), (0, [9], [], 6), (22, [8, 7, 2], [2], 0), (90, [8], [], 0), (91, [8], [], 6), (20, [7, 1], [2], 66), (0, [7], [], 328), (80, [4, 2, 6], [2, 1], 0), (16, [6, 5], [], 0), (0, [5], [], 0), (20, [4, 1], [1], 96), (0, [4], [], 354), (42, [2, 3], [], 0), (20, [3, 1], [1], 64), (90, [3], [], 0), (91, [3], [], 20), (5000, [0, 1, 2], [0, 1], 2), (0, [0], [], 285), (0, [1], [], 285), (90, [2], [], 0), (91, [2], [], 20)], (2287, [1, 15], [2], 0))
theorem c_288_2_9 {q0 : Nat} : vOkm T0 (eP e_288 L_288 A_288 mu_288 (some q0)) 1 g_288_2_9 := vOk_inI fun ρ η f0 f1 f2 f3 f4 f5 f6 f7 f8 f9 f10 f11 f12 f13 f14 f15 f16 f17 f18 f19 f20 f21 f22 f23 f24 f25 f26 f27 f28 f29 f30 f31 f32 f33 f34 => q_288_7 (q0 := q0) (n0 := ρ 2) (n1 := ρ 1) (n2 := ρ 0) (n3 := ρ 3) (n4 := ρ 4) (n5 := ρ 5) (n6 := ρ 6) (n7 := ρ 7) (n8 := ρ 8) (n9 := ρ 9) (n10 := ρ 10) (n11 := ρ 11) (n12 := ρ 12) (n13 := ρ 13) (n14 := ρ 14) (n15 := ρ 15) (H0 := η 0) (H1 := η 1) (H2 := η 2) f34 f33 f32 f31 f30 f29 f28 f27 f26 f25 f24 f23 f22 f21 f20 f19 f18 f17 f16 f15 f14 f13 f12 f11 f10 f9 f8 f7 f6 f5 f4 f3 f2 f1 f0
theorem kF_288_285_65 : vFree s_288.2.2.2.2 285 65 = true := by decide +kernel
theorem q_288_8 {q0 : Nat} {n0 n1 n2 n3 n4 n5 n6 n7 n8 n9 n10 n11 n12 n13 n14 n15 n16 : Int} {H0 H1 H2 H3 : gH} (f0 : n0 ≤ 20) (f1 : 0 ≤ n0) (f2 : n1 = 285) (f3 : n2 = 285) (f4 : (hLe T0 H0 H1 ∧ hFr s_288.2.2.2.2 H0 H1 ∧ hWt T0 H1) ∧ (Ab_288_2 n2 n1 n0 H0 H1 ∧ preb_288 n2 H0) ∧ some q0 = some (mub_288_2 n2 n1 n0 H0 H1)) (f5 : n3 ≤ 20) (f6 : 0 ≤ n3) (f7 : n3 = hV H1 (n1).toNat 64) (f8 : n0 < n3) (f9 : n4 = 354) (f10 : n4 = hV H1 (n1).toNat 96) (f11 : n5 = 0) (f12 : n6 = o32 (fun x _ => x &&& 1) n5 0) (f13 : hUpd H2 H1 n4 n0 n6) (f14 : n7 = 328) (f15 : n7 = hV H2 (n1).toNat 66) (f16 : n8 ≤ 6) (f17 : 0 ≤ n8) (f18 : n8 = hV H2 (n7).toNat (n0).toNat) (f19 : n9 = 6) (f20 : n8 = n9) (f21 : n10 = 335) (f22 : n10 = hV H2 (n1).toNat 73) (f23 : n11 ≤ 7) (f24 : (-1) ≤ n11) (f25 : n11 = hV H2 (n10).toNat (n0).toNat) (f26 : n12 = (-1)) (f27 : n11 ≠ n12) (f28 : n13 = 354) (f29 : n13 = hV H2 (n1).toNat 96) (f30 : n14 = 335) (f31 : n14 = hV H2 (n1).toNat 73) (f32 : n15 ≤ 7) (f33 : (-1) ≤ n15) (f34 : n15 = hV H2 (n14).toNat (n0).toNat) (f35 : n16 ≤ 2147483647) (f36 : (-2147483648) ≤ n16) (f37 : (hLe T0 H2 H3 ∧ hFr s_287.2.2.2.2 H2 H3 ∧ ((0 : Int) = 0 → H3.length = H2.length) ∧ hWt T0 H3) ∧ postb_287 n16 n1 n15 H2 H3) : 0 ≤ n0 ∧ n0 < 20 := by
  have g4 := f4.2.1.1
  unfold Ab_288_2 at g4
  have g3 := f4.2.1.2
  unfold preb_288 at g3
  unfold postb_287 at f37
  have e1 : n3 = hV H0 285 64 := (by rw [f2] at f7; exact f7 : n3 = hV H1 285 64).trans ((f4.1.2.1.1 285 64 kF_288_285_64))
  have e3 : hV H1 328 = hV H0 328 := fRow f4.1.2.1 328 kR_288_328
  have e4 : n8 = hV H0 328 (n0).toNat := (by rw [f14] at f18; exact f18 : n8 = hV H2 328 (n0).toNat).trans (((congrFun (uRowNe f13 328 (iS (show n4 = ((354 : Nat) : Int) from f9) rfl)) _)).trans ((congrFun e3 _)))
  have e6 : hV H1 335 = hV H0 335 := fRow f4.1.2.1 335 kR_288_335
  have e7 : n11 = hV H0 335 (n0).toNat := (by rw [f21] at f25; exact f25 : n11 = hV H2 335 (n0).toNat).trans (((congrFun (uRowNe f13 335 (iS (show n4 = ((354 : Nat) : Int) from f9) rfl)) _)).trans ((congrFun e6 _)))
  have e8 : n15 = hV H0 335 (n0).toNat := (by rw [f30] at f34; exact f34 : n15 = hV H2 335 (n0).toNat).trans (((congrFun (uRowNe f13 335 (iS (show n4 = ((354 : Nat) : Int) from f9) rfl)) _)).trans ((congrFun e6 _)))
  have e9 : hV H1 285 64 = hV H0 285 64 := (f4.1.2.1.1 285 64 kF_288_285_64)
  have e12 : hV H1 296 = hV H0 296 := fRow f4.1.2.1 296 kR_288_296
  have e13 : hV H1 298 = hV H0 298 := fRow f4.1.2.1 298 kR_288_298
  have e14 : hV H1 300 = hV H0 300 := fRow f4.1.2.1 300 kR_288_300
  have e15 : hV H1 301 = hV H0 301 := fRow f4.1.2.1 301 kR_288_301
  have e16 : hV H1 303 = hV H0 303 := fRow f4.1.2.1 303 kR_288_303
  have e17 : hV H1 332 = hV H0 332 := fRow f4.1.2.1 332 kR_288_332
  have e18 : hV H1 333 = hV H0 333 := fRow f4.1.2.1 333 kR_288_333
  have e19 : hV H1 341 = hV H0 341 := fRow f4.1.2.1 341 kR_288_341
  have e22 : hV H3 285 65 = hV H0 285 65 := ((f37.1.2.1.1 285 65 kF_287_285_65)).trans (((uPlace f13 285 65 (iS (show n4 = ((354 : Nat) : Int) from f9) rfl))).trans (f4.1.2.1.1 285 65 kF_288_285_65))
  have e26 : hV H3 296 = hV H0 296 := (fRow f37.1.2.1 296 kR_287_296).trans ((uRowNe f13 296 (iS (show n4 = ((354 : Nat) : Int) from f9) rfl)).trans e12)
  have e30 : hV H3 298 = hV H0 298 := (fRow f37.1.2.1 298 kR_287_298).trans ((uRowNe f13 298 (iS (show n4 = ((354 : Nat) : Int) from f9) rfl)).trans e13)
  have e34 : hV H3 300 = hV H0 300 := (fRow f37.1.2.1 300 kR_287_300).trans ((uRowNe f13 300 (iS (show n4 = ((354 : Nat) : Int) from f9) rfl)).trans e14)
  have e38 : hV H3 301 = hV H0 301 := (fRow f37.1.2.1 301 kR_287_301).trans ((uRowNe f13 301 (iS (show n4 = ((354 : Nat) : Int) from f9) rfl)).trans e15)
  have e42 : hV H3 303 = hV H0 303 := (fRow f37.1.2.1 303 kR_287_303).trans ((uRowNe f13 303 (iS (show n4 = ((354 : Nat) : Int) from f9) rfl)).trans e16)
  have e46 : hV H3 341 = hV H0 341 := (fRow f37.1.2.1 341 kR_287_341).trans ((uRowNe f13 341 (iS (show n4 = ((354 : Nat) : Int) from f9) rfl)).trans e19)
  have e47 : (0 : Int) ≤ hV H0 285 64 ∧ hV H0 285 64 ≤ 20 := bTo e9 (f4.1.2.2 285 64 _ _ kW_285_64)
  have e48 : (0 : Int) ≤ hV H0 285 65 ∧ hV H0 285 65 ≤ 2147483647 := bTo ((f4.1.2.1.1 285 65 kF_288_285_65)) (f4.1.2.2 285 65 _ _ kW_285_65)
  have y0 := g4
  have p0 := g3.1
  have p1 := g3.2.1
  have p2 := g3.2.2.1
  have p3 := g3.2.2.2
  have r0_0 := f37.2.1
  have r0_1 := f37.2.2
  try simp only [e9, e12, e13, e14, e15, e16, e3, e17, e18, e6, e19] at y0
  try simp only [e26, e30, e34, e38, e42, e46] at r0_0
  try simp only [e22] at r0_1
  clear g3
  clear g4
  clear f7 f10 f15 f18 f22 f25 f29 f31 f34 e3 e6 e9 e12 e13 e14 e15 e16 e17 e18 e19 e22 e26 e30 e34 e38 e42 e46
  clear f4 f37
  subst e1
  subst e4
  subst e7
  subst e8
  have b12 := b1_in f12 (by omega) (by omega)
  try have sm := SOm p0 (s := (n0).toNat) (by omega) (by omega)
  omega
def g_288_2_10 : vG := ([(1287, [16, 1, 15], [2, 3], 0), (90, [16], [], -2147483648), (91, [16], [], 2147483647), (22, [15, 14, 2], [2], 0), (90, [15], [], -1), (91, [15], [], 7), (20, [14, 1], [2], 73), (0, [14], [], 335), (20, [13, 1], [2], 96), (0, [13], [], 354), (41, [11, 12], [], 0), (0, [12], [], -1), (22, [11, 10, 2], [2], 0), (90, [11], [], -1), (91, [11], [], 7), (20, [10, 1], [2], 73), (0, [10], [], 335), (40, [8, 9], [], 0), (0, [9], [], 6), (22, [8, 7, 2], [2], 0), (90, [8], [], 0), (91, [8], [], 6), (20, [7, 1], [2], 66), (0, [7], [], 328), (80, [4, 2, 6], [2, 1], 0), (16, [6, 5], [], 0), (0, [5], [], 0), (20, [4, 1], [1], 96), (0, [4], [], 354), (42, [2, 3], [], 0), (20, [3, 1], [1], 64), (90, [3], [], 0), (91, [3], [], 20), (5000, [0, 1, 2], [0, 1], 2), (0, [0], [], 285), (0, [1], [], 285), (90, [2], [], 0), (91, [2], [], 20)], (70, [2], [], 20))
theorem c_288_2_10 {q0 : Nat} : vOkm T0 (eP e_288 L_288 A_288 mu_288 (some q0)) 1 g_288_2_10 := vOk_inI fun ρ η f0 f1 f2 f3 f4 f5 f6 f7 f8 f9 f10 f11 f12 f13 f14 f15 f16 f17 f18 f19 f20 f21 f22 f23 f24 f25 f26 f27 f28 f29 f30 f31 f32 f33 f34 f35 f36 f37 => q_288_8 (q0 := q0) (n0 := ρ 2) (n1 := ρ 1) (n2 := ρ 0) (n3 := ρ 3) (n4 := ρ 4) (n5 := ρ 5) (n6 := ρ 6) (n7 := ρ 7) (n8 := ρ 8) (n9 := ρ 9) (n10 := ρ 10) (n11 := ρ 11) (n12 := ρ 12) (n13 := ρ 13) (n14 := ρ 14) (n15 := ρ 15) (n16 := ρ 16) (H0 := η 0) (H1 := η 1) (H2 := η 2) (H3 := η 3) f37 f36 f35 f34 f33 f32 f31 f30 f29 f28 f27 f26 f25 f24 f23 f22 f21 f20 f19 f18 f17 f16 f15 f14 f13 f12 f11 f10 f9 f8 f7 f6 f5 f4 f3 f2 f1 f0
theorem kR_287_333 : vFreeR s_287.2.2.2.2 333 = true := by decide +kernel
theorem q_288_9 {q0 : Nat} {n0 n1 n2 n3 n4 n5 n6 n7 n8 n9 n10 n11 n12 n13 n14 n15 n16 n17 n18 : Int} {H0 H1 H2 H3 : gH} (f0 : n0 ≤ 20) (f1 : 0 ≤ n0) (f2 : n1 = 285) (f3 : n2 = 285) (f4 : (hLe T0 H0 H1 ∧ hFr s_288.2.2.2.2 H0 H1 ∧ hWt T0 H1) ∧ (Ab_288_2 n2 n1 n0 H0 H1 ∧ preb_288 n2 H0) ∧ some q0 = some (mub_288_2 n2 n1 n0 H0 H1)) (f5 : n3 ≤ 20) (f6 : 0 ≤ n3) (f7 : n3 = hV H1 (n1).toNat 64) (f8 : n0 < n3) (f9 : n4 = 354) (f10 : n4 = hV H1 (n1).toNat 96) (f11 : n5 = 0) (f12 : n6 = o32 (fun x _ => x &&& 1) n5 0) (f13 : hUpd H2 H1 n4 n0 n6) (f14 : n7 = 328) (f15 : n7 = hV H2 (n1).toNat 66) (f16 : n8 ≤ 6) (f17 : 0 ≤ n8) (f18 : n8 = hV H2 (n7).toNat (n0).toNat) (f19 : n9 = 6) (f20 : n8 = n9) (f21 : n10 = 335) (f22 : n10 = hV H2 (n1).toNat 73) (f23 : n11 ≤ 7) (f24 : (-1) ≤ n11) (f25 : n11 = hV H2 (n10).toNat (n0).toNat) (f26 : n12 = (-1)) (f27 : n11 ≠ n12) (f28 : n13 = 354) (f29 : n13 = hV H2 (n1).toNat 96) (f30 : n14 = 335) (f31 : n14 = hV H2 (n1).toNat 73) (f32 : n15 ≤ 7) (f33 : (-1) ≤ n15) (f34 : n15 = hV H2 (n14).toNat (n0).toNat) (f35 : n16 ≤ 2147483647) (f36 : (-2147483648) ≤ n16) (f37 : (hLe T0 H2 H3 ∧ hFr s_287.2.2.2.2 H2 H3 ∧ ((0 : Int) = 0 → H3.length = H2.length) ∧ hWt T0 H3) ∧ postb_287 n16 n1 n15 H2 H3) (f38 : n17 = 333) (f39 : n17 = hV H3 (n1).toNat 71) (f40 : n18 ≤ 2147483647) (f41 : 0 ≤ n18) (f42 : n18 = hV H3 (n17).toNat (n0).toNat) (f43 : n16 ≤ n18) : 0 ≤ n0 ∧ n0 < 20 := by
  have g4 := f4.2.1.1
  unfold Ab_288_2 at g4
  have g3 := f4.2.1.2
  unfold preb_288 at g3
  unfold postb_287 at f37
  have e1 : n3 = hV H0 285 64 := (by rw [f2] at f7; exact f7 : n3 = hV H1 285 64).trans ((f4.1.2.1.1 285 64 kF_288_285_64))
  have e3 : hV H1 328 = hV H0 328 := fRow f4.1.2.1 328 kR_288_328
  have e4 : n8 = hV H0 328 (n0).toNat := (by rw [f14] at f18; exact f18 : n8 = hV H2 328 (n0).toNat).trans (((congrFun (uRowNe f13 328 (iS (show n4 = ((354 : Nat) : Int) from f9) rfl)) _)).trans ((congrFun e3 _)))
  have e6 : hV H1 335 = hV H0 335 := fRow f4.1.2.1 335 kR_288_335
  have e7 : n11 = hV H0 335 (n0).toNat := (by rw [f21] at f25; exact f25 : n11 = hV H2 335 (n0).toNat).trans (((congrFun (uRowNe f13 335 (iS (show n4 = ((354 : Nat) : Int) from f9) rfl)) _)).trans ((congrFun e6 _)))
  have e8 : n15 = hV H0 335 (n0).toNat := (by rw [f30] at f34; exact f34 : n15 = hV H2 335 (n0).toNat).trans (((congrFun (uRowNe f13 335 (iS (show n4 = ((354 : Nat) : Int) from f9) rfl)) _)).trans ((congrFun e6 _)))
  have e11 : hV H1 333 = hV H0 333 := fRow f4.1.2.1 333 kR_288_333
  have e12 : n18 = hV H0 333 (n0).toNat := (by rw [f38] at f42; exact f42 : n18 = hV H3 333 (n0).toNat).trans (((congrFun (fRow f37.1.2.1 333 kR_287_333) _)).trans (((congrFun (uRowNe f13 333 (iS (show n4 = ((354 : Nat) : Int) from f9) rfl)) _)).trans ((congrFun e11 _))))
  have e13 : hV H1 285 64 = hV H0 285 64 := (f4.1.2.1.1 285 64 kF_288_285_64)
  have e16 : hV H1 296 = hV H0 296 := fRow f4.1.2.1 296 kR_288_296
  have e17 : hV H1 298 = hV H0 298 := fRow f4.1.2.1 298 kR_288_298
  have e18 : hV H1 300 = hV H0 300 := fRow f4.1.2.1 300 kR_288_300
  have e19 : hV H1 301 = hV H0 301 := fRow f4.1.2.1 301 kR_288_301
  have e20 : hV H1 303 = hV H0 303 := fRow f4.1.2.1 303 kR_288_303
  have e21 : hV H1 332 = hV H0 332 := fRow f4.1.2.1 332 kR_288_332
  have e22 : hV H1 341 = hV H0 341 := fRow f4.1.2.1 341 kR_288_341
  have e25 : hV H3 285 65 = hV H0 285 65 := ((f37.1.2.1.1 285 65 kF_287_285_65)).trans (((uPlace f13 285 65 (iS (show n4 = ((354 : Nat) : Int) from f9) rfl))).trans (f4.1.2.1.1 285 65 kF_288_285_65))
  have e29 : hV H3 296 = hV H0 296 := (fRow f37.1.2.1 296 kR_287_296).trans ((uRowNe f13 296 (iS (show n4 = ((354 : Nat) : Int) from f9) rfl)).trans e16)
  have e33 : hV H3 298 = hV H0 298 := (fRow f37.1.2.1 298 kR_287_298).trans ((uRowNe f13 298 (iS (show n4 = ((354 : Nat) : Int) from f9) rfl)).trans e17)
  have e37 : hV H3 300 = hV H0 300 := (fRow f37.1.2.1 300 kR_287_300).trans ((uRowNe f13 300 (iS (show n4 = ((354 : Nat) : Int) from f9) rfl)).trans e18)
  have e41 : hV H3 301 = hV H0 301 := (fRow f37.1.2.1 301 kR_287_301).trans ((uRowNe f13 301 (iS (show n4 = ((354 : Nat) : Int) from f9) rfl)).trans e19)
  have e45 : hV H3 303 = hV H0 303 := (fRow f37.1.2.1 303 kR_287_303).trans ((uRowNe f13 303 (iS (show n4 = ((354 : Nat) : Int) from f9) rfl)).trans e20)
  have e49 : hV H3 341 = hV H0 341 := (fRow f37.1.2.1 341 kR_287_341).trans ((uRowNe f13 341 (iS (show n4 = ((354 : Nat) : Int) from f9) rfl)).trans e22)
  have e50 : (0 : Int) ≤ hV H0 285 64 ∧ hV H0 285 64 ≤ 20 := bTo e13 (f4.1.2.2 285 64 _ _ kW_285_64)
  have e51 : (0 : Int) ≤ hV H0 285 65 ∧ hV H0 285 65 ≤ 2147483647 := bTo ((f4.1.2.1.1 285 65 kF_288_285_65)) (f4.1.2.2 285 65 _ _ kW_285_65)
  have y0 := g4
  have p0 := g3.1
  have p1 := g3.2.1
  have p2 := g3.2.2.1
  have p3 := g3.2.2.2
  have r0_0 := f37.2.1
  have r0_1 := f37.2.2
  try simp only [e13, e16, e17, e18, e19, e20, e3, e21, e11, e6, e22] at y0
  try simp only [e29, e33, e37, e41, e45, e49] at r0_0
  try simp only [e25] at r0_1
  clear g3
  clear g4
  clear f7 f10 f15 f18 f22 f25 f29 f31 f34 f39 f42 e3 e6 e11 e13 e16 e17 e18 e19 e20 e21 e22 e25 e29 e33 e37 e41 e45 e49
  clear f4 f37
  subst e1
  subst e4
  subst e7
  subst e8
  subst e12
  have b12 := b1_in f12 (by omega) (by omega)
  try have sm := SOm p0 (s := (n0).toNat) (by omega) (by omega)
  omega
def g_288_2_11 : vG := ([(45, [16, 18], [], 0), (22, [18, 17, 2], [3], 0), (90, [18], [], 0), (91, [18], [], 2147483647), (20, [17, 1], [3], 71), (0, [17], [], 333), (1287, [16, 1, 15], [2, 3], 0), (90, [16], [], -2147483648), (91, [16], [], 2147483647), (22, [15, 14, 2], [2], 0), (90, [15], [], -1), (91, [15], [], 7), (20, [14, 1], [2], 73), (0, [14], [], 335), (20, [13, 1], [2], 96), (0, [13], [], 354), (41, [11, 12], [], 0), (0, [12], [], -1), (22, [11, 10, 2], [2], 0), (90, [11], [], -1), (91, [11], [], 7), (20, [10, 1], [2], 73), (0, [10], [], 335), (40, [8, 9], [], 0), (0, [9], [], 6), (22, [8, 7, 2], [2], 0), (90, [8], [], 0), (91, [8], [], 6), (20, [7, 1], [2], 66), (0, [7], [], 328), (80, [4, 2, 6], [2, 1], 0), (16, [6, 5], [], 0), (0, [5], [], 0), (20, [4, 1], [1], 96), (0, [4], [], 354), (42, [2, 3], [], 0), (20, [3, 1], [1], 64), (90, [3], [], 0), (91, [3], [], 20), (5000, [0, 1, 2], [0, 1], 2), (0, [0], [], 285), (0, [1], [], 285), (90, [2], [], 0), (91, [2], [], 20)], (70, [2], [], 20))
theorem c_288_2_11 {q0 : Nat} : vOkm T0 (eP e_288 L_288 A_288 mu_288 (some q0)) 1 g_288_2_11 := vOk_inI fun ρ η f0 f1 f2 f3 f4 f5 f6 f7 f8 f9 f10 f11 f12 f13 f14 f15 f16 f17 f18 f19 f20 f21 f22 f23 f24 f25 f26 f27 f28 f29 f30 f31 f32 f33 f34 f35 f36 f37 f38 f39 f40 f41 f42 f43 => q_288_9 (q0 := q0) (n0 := ρ 2) (n1 := ρ 1) (n2 := ρ 0) (n3 := ρ 3) (n4 := ρ 4) (n5 := ρ 5) (n6 := ρ 6) (n7 := ρ 7) (n8 := ρ 8) (n9 := ρ 9) (n10 := ρ 10) (n11 := ρ 11) (n12 := ρ 12) (n13 := ρ 13) (n14 := ρ 14) (n15 := ρ 15) (n16 := ρ 16) (n17 := ρ 17) (n18 := ρ 18) (H0 := η 0) (H1 := η 1) (H2 := η 2) (H3 := η 3) f43 f42 f41 f40 f39 f38 f37 f36 f35 f34 f33 f32 f31 f30 f29 f28 f27 f26 f25 f24 f23 f22 f21 f20 f19 f18 f17 f16 f15 f14 f13 f12 f11 f10 f9 f8 f7 f6 f5 f4 f3 f2 f1 f0
theorem q_288_10 {q0 : Nat} {n0 n1 n2 n3 n4 n5 n6 n7 n8 n9 n10 n11 n12 n13 n14 n15 n16 n17 n18 : Int} {H0 H1 H2 H3 : gH} (f0 : n0 ≤ 20) (f1 : 0 ≤ n0) (f2 : n1 = 285) (f3 : n2 = 285) (f4 : (hLe T0 H0 H1 ∧ hFr s_288.2.2.2.2 H0 H1 ∧ hWt T0 H1) ∧ (Ab_288_2 n2 n1 n0 H0 H1 ∧ preb_288 n2 H0) ∧ some q0 = some (mub_288_2 n2 n1 n0 H0 H1)) (f5 : n3 ≤ 20) (f6 : 0 ≤ n3) (f7 : n3 = hV H1 (n1).toNat 64) (f8 : n0 < n3) (f9 : n4 = 354) (f10 : n4 = hV H1 (n1).toNat 96) (f11 : n5 = 0) (f12 : n6 = o32 (fun x _ => x &&& 1) n5 0) (f13 : hUpd H2 H1 n4 n0 n6) (f14 : n7 = 328) (f15 : n7 = hV H2 (n1).toNat 66) (f16 : n8 ≤ 6) (f17 : 0 ≤ n8) (f18 : n8 = hV H2 (n7).toNat (n0).toNat) (f19 : n9 = 6) (f20 : n8 = n9) (f21 : n10 = 335) (f22 : n10 = hV H2 (n1).toNat 73) (f23 : n11 ≤ 7) (f24 : (-1) ≤ n11) (f25 : n11 = hV H2 (n10).toNat (n0).toNat) (f26 : n12 = (-1)) (f27 : n11 ≠ n12) (f28 : n13 = 354) (f29 : n13 = hV H2 (n1).toNat 96) (f30 : n14 = 335) (f31 : n14 = hV H2 (n1).toNat 73) (f32 : n15 ≤ 7) (f33 : (-1) ≤ n15) (f34 : n15 = hV H2 (n14).toNat (n0).toNat) (f35 : n16 ≤ 2147483647) (f36 : (-2147483648) ≤ n16) (f37 : (hLe T0 H2 H3 ∧ hFr s_287.2.2.2.2 H2 H3 ∧ ((0 : Int) = 0 → H3.length = H2.length) ∧ hWt T0 H3) ∧ postb_287 n16 n1 n15 H2 H3) (f38 : n17 = 333) (f39 : n17 = hV H3 (n1).toNat 71) (f40 : n18 ≤ 2147483647) (f41 : 0 ≤ n18) (f42 : n18 = hV H3 (n17).toNat (n0).toNat) (f43 : n16 ≤ n18) : n0 ≤ 19 := by
  have g4 := f4.2.1.1
  unfold Ab_288_2 at g4
  have g3 := f4.2.1.2
  unfold preb_288 at g3
  unfold postb_287 at f37
  have e1 : n3 = hV H0 285 64 := (by rw [f2] at f7; exact f7 : n3 = hV H1 285 64).trans ((f4.1.2.1.1 285 64 kF_288_285_64))
  have e3 : hV H1 328 = hV H0 328 := fRow f4.1.2.1 328 kR_288_328
  have e4 : n8 = hV H0 328 (n0).toNat := (by rw [f14] at f18; exact f18 : n8 = hV H2 328 (n0).toNat).trans (((congrFun (uRowNe f13 328 (iS (show n4 = ((354 : Nat) : Int) from f9) rfl)) _)).trans ((congrFun e3 _)))
  have e6 : hV H1 335 = hV H0 335 := fRow f4.1.2.1 335 kR_288_335
  have e7 : n11 = hV H0 335 (n0).toNat := (by rw [f21] at f25; exact f25 : n11 = hV H2 335 (n0).toNat).trans (((congrFun (uRowNe f13 335 (iS (show n4 = ((354 : Nat) : Int) from f9) rfl)) _)).trans ((congrFun e6 _)))
  have e8 : n15 = hV H0 335 (n0).toNat := (by rw [f30] at f34; exact f34 : n15 = hV H2 335 (n0).toNat).trans (((congrFun (uRowNe f13 335 (iS (show n4 = ((354 : Nat) : Int) from f9) rfl)) _)).trans ((congrFun e6 _)))
  have e11 : hV H1 333 = hV H0 333 := fRow f4.1.2.1 333 kR_288_333
  have e12 : n18 = hV H0 333 (n0).toNat := (by rw [f38] at f42; exact f42 : n18 = hV H3 333 (n0).toNat).trans (((congrFun (fRow f37.1.2.1 333 kR_287_333) _)).trans (((congrFun (uRowNe f13 333 (iS (show n4 = ((354 : Nat) : Int) from f9) rfl)) _)).trans ((congrFun e11 _))))
  have e13 : hV H1 285 64 = hV H0 285 64 := (f4.1.2.1.1 285 64 kF_288_285_64)
  have e16 : hV H1 296 = hV H0 296 := fRow f4.1.2.1 296 kR_288_296
  have e17 : hV H1 298 = hV H0 298 := fRow f4.1.2.1 298 kR_288_298
  have e18 : hV H1 300 = hV H0 300 := fRow f4.1.2.1 300 kR_288_300
  have e19 : hV H1 301 = hV H0 301 := fRow f4.1.2.1 301 kR_288_301
  have e20 : hV H1 303 = hV H0 303 := fRow f4.1.2.1 303 kR_288_303
  have e21 : hV H1 332 = hV H0 332 := fRow f4.1.2.1 332 kR_288_332
  have e22 : hV H1 341 = hV H0 341 := fRow f4.1.2.1 341 kR_288_341
  have e25 : hV H3 285 65 = hV H0 285 65 := ((f37.1.2.1.1 285 65 kF_287_285_65)).trans (((uPlace f13 285 65 (iS (show n4 = ((354 : Nat) : Int) from f9) rfl))).trans (f4.1.2.1.1 285 65 kF_288_285_65))
  have e29 : hV H3 296 = hV H0 296 := (fRow f37.1.2.1 296 kR_287_296).trans ((uRowNe f13 296 (iS (show n4 = ((354 : Nat) : Int) from f9) rfl)).trans e16)
  have e33 : hV H3 298 = hV H0 298 := (fRow f37.1.2.1 298 kR_287_298).trans ((uRowNe f13 298 (iS (show n4 = ((354 : Nat) : Int) from f9) rfl)).trans e17)
  have e37 : hV H3 300 = hV H0 300 := (fRow f37.1.2.1 300 kR_287_300).trans ((uRowNe f13 300 (iS (show n4 = ((354 : Nat) : Int) from f9) rfl)).trans e18)
  have e41 : hV H3 301 = hV H0 301 := (fRow f37.1.2.1 301 kR_287_301).trans ((uRowNe f13 301 (iS (show n4 = ((354 : Nat) : Int) from f9) rfl)).trans e19)
  have e45 : hV H3 303 = hV H0 303 := (fRow f37.1.2.1 303 kR_287_303).trans ((uRowNe f13 303 (iS (show n4 = ((354 : Nat) : Int) from f9) rfl)).trans e20)
  have e49 : hV H3 341 = hV H0 341 := (fRow f37.1.2.1 341 kR_287_341).trans ((uRowNe f13 341 (iS (show n4 = ((354 : Nat) : Int) from f9) rfl)).trans e22)
  have e50 : (0 : Int) ≤ hV H0 285 64 ∧ hV H0 285 64 ≤ 20 := bTo e13 (f4.1.2.2 285 64 _ _ kW_285_64)
  have e51 : (0 : Int) ≤ hV H0 285 65 ∧ hV H0 285 65 ≤ 2147483647 := bTo ((f4.1.2.1.1 285 65 kF_288_285_65)) (f4.1.2.2 285 65 _ _ kW_285_65)
  have y0 := g4
  have p0 := g3.1
  have p1 := g3.2.1
  have p2 := g3.2.2.1
  have p3 := g3.2.2.2
  have r0_0 := f37.2.1
  have r0_1 := f37.2.2
  try simp only [e13, e16, e17, e18, e19, e20, e3, e21, e11, e6, e22] at y0
  try simp only [e29, e33, e37, e41, e45, e49] at r0_0
  try simp only [e25] at r0_1
  clear g3
  clear g4
  clear f7 f10 f15 f18 f22 f25 f29 f31 f34 f39 f42 e3 e6 e11 e13 e16 e17 e18 e19 e20 e21 e22 e25 e29 e33 e37 e41 e45 e49
  clear f4 f37
  subst e1
  subst e4
  subst e7
  subst e8
  subst e12
  have b12 := b1_in f12 (by omega) (by omega)
  try have sm := SOm p0 (s := (n0).toNat) (by omega) (by omega)
  omega
def g_288_2_12 : vG := ([(45, [16, 18], [], 0), (22, [18, 17, 2], [3], 0), (90, [18], [], 0), (91, [18], [], 2147483647), (20, [17, 1], [3], 71), (0, [17], [], 333), (1287, [16, 1, 15], [2, 3], 0), (90, [16], [], -2147483648), (91, [16], [], 2147483647), (22, [15, 14, 2], [2], 0), (90, [15], [], -1), (91, [15], [], 7), (20, [14, 1], [2], 73), (0, [14], [], 335), (20, [13, 1], [2], 96), (0, [13], [], 354), (41, [11, 12], [], 0), (0, [12], [], -1), (22, [11, 10, 2], [2], 0), (90, [11], [], -1), (91, [11], [], 7), (20, [10, 1], [2], 73), (0, [10], [], 335), (40, [8, 9], [], 0), (0, [9], [], 6), (22, [8, 7, 2], [2], 0), (90, [8], [], 0), (91, [8], [], 6), (20, [7, 1], [2], 66), (0, [7], [], 328), (80, [4, 2, 6], [2, 1], 0), (16, [6, 5], [], 0), (0, [5], [], 0), (20, [4, 1], [1], 96), (0, [4], [], 354), (42, [2, 3], [], 0), (20, [3, 1], [1], 64), (90, [3], [], 0), (91, [3], [], 20), (5000, [0, 1, 2], [0, 1], 2), (0, [0], [], 285), (0, [1], [], 285), (90, [2], [], 0), (91, [2], [], 20)], (91, [2], [], 19))
theorem c_288_2_12 {q0 : Nat} : vOkm T0 (eP e_288 L_288 A_288 mu_288 (some q0)) 1 g_288_2_12 := vOk_inI fun ρ η f0 f1 f2 f3 f4 f5 f6 f7 f8 f9 f10 f11 f12 f13 f14 f15 f16 f17 f18 f19 f20 f21 f22 f23 f24 f25 f26 f27 f28 f29 f30 f31 f32 f33 f34 f35 f36 f37 f38 f39 f40 f41 f42 f43 => q_288_10 (q0 := q0) (n0 := ρ 2) (n1 := ρ 1) (n2 := ρ 0) (n3 := ρ 3) (n4 := ρ 4) (n5 := ρ 5) (n6 := ρ 6) (n7 := ρ 7) (n8 := ρ 8) (n9 := ρ 9) (n10 := ρ 10) (n11 := ρ 11) (n12 := ρ 12) (n13 := ρ 13) (n14 := ρ 14) (n15 := ρ 15) (n16 := ρ 16) (n17 := ρ 17) (n18 := ρ 18) (H0 := η 0) (H1 := η 1) (H2 := η 2) (H3 := η 3) f43 f42 f41 f40 f39 f38 f37 f36 f35 f34 f33 f32 f31 f30 f29 f28 f27 f26 f25 f24 f23 f22 f21 f20 f19 f18 f17 f16 f15 f14 f13 f12 f11 f10 f9 f8 f7 f6 f5 f4 f3 f2 f1 f0
theorem kF_287_285_64 : vFree s_287.2.2.2.2 285 64 = true := by decide +kernel
theorem q_288_11 {q0 : Nat} {n0 n1 n2 n3 n4 n5 n6 n7 n8 n9 n10 n11 n12 n13 n14 n15 n16 n17 n18 n19 n20 : Int} {H0 H1 H2 H3 H4 : gH} (f0 : n0 ≤ 20) (f1 : 0 ≤ n0) (f2 : n1 = 285) (f3 : n2 = 285) (f4 : (hLe T0 H0 H1 ∧ hFr s_288.2.2.2.2 H0 H1 ∧ hWt T0 H1) ∧ (Ab_288_2 n2 n1 n0 H0 H1 ∧ preb_288 n2 H0) ∧ some q0 = some (mub_288_2 n2 n1 n0 H0 H1)) (f5 : n3 ≤ 20) (f6 : 0 ≤ n3) (f7 : n3 = hV H1 (n1).toNat 64) (f8 : n0 < n3) (f9 : n4 = 354) (f10 : n4 = hV H1 (n1).toNat 96) (f11 : n5 = 0) (f12 : n6 = o32 (fun x _ => x &&& 1) n5 0) (f13 : hUpd H2 H1 n4 n0 n6) (f14 : n7 = 328) (f15 : n7 = hV H2 (n1).toNat 66) (f16 : n8 ≤ 6) (f17 : 0 ≤ n8) (f18 : n8 = hV H2 (n7).toNat (n0).toNat) (f19 : n9 = 6) (f20 : n8 = n9) (f21 : n10 = 335) (f22 : n10 = hV H2 (n1).toNat 73) (f23 : n11 ≤ 7) (f24 : (-1) ≤ n11) (f25 : n11 = hV H2 (n10).toNat (n0).toNat) (f26 : n12 = (-1)) (f27 : n11 ≠ n12) (f28 : n13 = 354) (f29 : n13 = hV H2 (n1).toNat 96) (f30 : n14 = 335) (f31 : n14 = hV H2 (n1).toNat 73) (f32 : n15 ≤ 7) (f33 : (-1) ≤ n15) (f34 : n15 = hV H2 (n14).toNat (n0).toNat) (f35 : n16 ≤ 2147483647) (f36 : (-2147483648) ≤ n16) (f37 : (hLe T0 H2 H3 ∧ hFr s_287.2.2.2.2 H2 H3 ∧ ((0 : Int) = 0 → H3.length = H2.length) ∧ hWt T0 H3) ∧ postb_287 n16 n1 n15 H2 H3) (f38 : n17 = 333) (f39 : n17 = hV H3 (n1).toNat 71) (f40 : n18 ≤ 2147483647) (f41 : 0 ≤ n18) (f42 : n18 = hV H3 (n17).toNat (n0).toNat) (f43 : n16 ≤ n18) (f44 : n19 = 0) (f45 : n20 = o32 (fun x _ => x &&& 1) n19 0) (f46 : hUpd H4 H3 n13 n0 n20) : preb_280 n1 n0 H4 := by
  have g4 := f4.2.1.1
  unfold Ab_288_2 at g4
  have g3 := f4.2.1.2
  unfold preb_288 at g3
  unfold postb_287 at f37
  unfold preb_280
  have e1 : n3 = hV H0 285 64 := (by rw [f2] at f7; exact f7 : n3 = hV H1 285 64).trans ((f4.1.2.1.1 285 64 kF_288_285_64))
  have e3 : hV H1 328 = hV H0 328 := fRow f4.1.2.1 328 kR_288_328
  have e4 : n8 = hV H0 328 (n0).toNat := (by rw [f14] at f18; exact f18 : n8 = hV H2 328 (n0).toNat).trans (((congrFun (uRowNe f13 328 (iS (show n4 = ((354 : Nat) : Int) from f9) rfl)) _)).trans ((congrFun e3 _)))
  have e6 : hV H1 335 = hV H0 335 := fRow f4.1.2.1 335 kR_288_335
  have e7 : n11 = hV H0 335 (n0).toNat := (by rw [f21] at f25; exact f25 : n11 = hV H2 335 (n0).toNat).trans (((congrFun (uRowNe f13 335 (iS (show n4 = ((354 : Nat) : Int) from f9) rfl)) _)).trans ((congrFun e6 _)))
  have e8 : n15 = hV H0 335 (n0).toNat := (by rw [f30] at f34; exact f34 : n15 = hV H2 335 (n0).toNat).trans (((congrFun (uRowNe f13 335 (iS (show n4 = ((354 : Nat) : Int) from f9) rfl)) _)).trans ((congrFun e6 _)))
  have e11 : hV H1 333 = hV H0 333 := fRow f4.1.2.1 333 kR_288_333
  have e12 : n18 = hV H0 333 (n0).toNat := (by rw [f38] at f42; exact f42 : n18 = hV H3 333 (n0).toNat).trans (((congrFun (fRow f37.1.2.1 333 kR_287_333) _)).trans (((congrFun (uRowNe f13 333 (iS (show n4 = ((354 : Nat) : Int) from f9) rfl)) _)).trans ((congrFun e11 _))))
  have e13 : hV H1 285 64 = hV H0 285 64 := (f4.1.2.1.1 285 64 kF_288_285_64)
  have e16 : hV H1 296 = hV H0 296 := fRow f4.1.2.1 296 kR_288_296
  have e17 : hV H1 298 = hV H0 298 := fRow f4.1.2.1 298 kR_288_298
  have e18 : hV H1 300 = hV H0 300 := fRow f4.1.2.1 300 kR_288_300
  have e19 : hV H1 301 = hV H0 301 := fRow f4.1.2.1 301 kR_288_301
  have e20 : hV H1 303 = hV H0 303 := fRow f4.1.2.1 303 kR_288_303
  have e21 : hV H1 332 = hV H0 332 := fRow f4.1.2.1 332 kR_288_332
  have e22 : hV H1 341 = hV H0 341 := fRow f4.1.2.1 341 kR_288_341
  have e25 : hV H3 285 65 = hV H0 285 65 := ((f37.1.2.1.1 285 65 kF_287_285_65)).trans (((uPlace f13 285 65 (iS (show n4 = ((354 : Nat) : Int) from f9) rfl))).trans (f4.1.2.1.1 285 65 kF_288_285_65))
  have e29 : hV H3 296 = hV H0 296 := (fRow f37.1.2.1 296 kR_287_296).trans ((uRowNe f13 296 (iS (show n4 = ((354 : Nat) : Int) from f9) rfl)).trans e16)
  have e33 : hV H3 298 = hV H0 298 := (fRow f37.1.2.1 298 kR_287_298).trans ((uRowNe f13 298 (iS (show n4 = ((354 : Nat) : Int) from f9) rfl)).trans e17)
  have e37 : hV H3 300 = hV H0 300 := (fRow f37.1.2.1 300 kR_287_300).trans ((uRowNe f13 300 (iS (show n4 = ((354 : Nat) : Int) from f9) rfl)).trans e18)
  have e41 : hV H3 301 = hV H0 301 := (fRow f37.1.2.1 301 kR_287_301).trans ((uRowNe f13 301 (iS (show n4 = ((354 : Nat) : Int) from f9) rfl)).trans e19)
  have e45 : hV H3 303 = hV H0 303 := (fRow f37.1.2.1 303 kR_287_303).trans ((uRowNe f13 303 (iS (show n4 = ((354 : Nat) : Int) from f9) rfl)).trans e20)
  have e49 : hV H3 341 = hV H0 341 := (fRow f37.1.2.1 341 kR_287_341).trans ((uRowNe f13 341 (iS (show n4 = ((354 : Nat) : Int) from f9) rfl)).trans e22)
  have e53 : hV H4 285 64 = hV H0 285 64 := ((uPlace f46 285 64 (iS (show n13 = ((354 : Nat) : Int) from f28) rfl))).trans (((f37.1.2.1.1 285 64 kF_287_285_64)).trans (((uPlace f13 285 64 (iS (show n4 = ((354 : Nat) : Int) from f9) rfl))).trans (f4.1.2.1.1 285 64 kF_288_285_64)))
  have e54 : PG H1 = PG H0 := PG_fr f4.1.2.1 (by decide +kernel)
  have e55 : PG H2 = PG H1 := PG_upR f13 (show n4 = ((354 : Nat) : Int) from f9) (by decide)
  have e56 : PG H2 = PG H0 := e55.trans e54
  have e57 : PG H3 = PG H2 := PG_fr f37.1.2.1 (by decide +kernel)
  have e58 : PG H3 = PG H0 := e57.trans e56
  have e59 : PG H4 = PG H3 := PG_upR f46 (show n13 = ((354 : Nat) : Int) from f28) (by decide)
  have e60 : PG H4 = PG H0 := e59.trans e58
  have e61 : SO H1 = SO H0 := SO_fr f4.1.2.1 (by decide +kernel)
  have e62 : SO H2 = SO H1 := SO_upR f13 (show n4 = ((354 : Nat) : Int) from f9) (by decide)
  have e63 : SO H2 = SO H0 := e62.trans e61
  have e64 : SO H3 = SO H2 := SO_fr f37.1.2.1 (by decide +kernel)
  have e65 : SO H3 = SO H0 := e64.trans e63
  have e66 : SO H4 = SO H3 := SO_upR f46 (show n13 = ((354 : Nat) : Int) from f28) (by decide)
  have e67 : SO H4 = SO H0 := e66.trans e65
  have e68 : (0 : Int) ≤ hV H0 285 64 ∧ hV H0 285 64 ≤ 20 := bTo e13 (f4.1.2.2 285 64 _ _ kW_285_64)
  have e69 : (0 : Int) ≤ hV H0 285 65 ∧ hV H0 285 65 ≤ 2147483647 := bTo ((f4.1.2.1.1 285 65 kF_288_285_65)) (f4.1.2.2 285 65 _ _ kW_285_65)
  try simp only [e53, e60, e67]
  have y0 := g4
  have p0 := g3.1
  have p1 := g3.2.1
  have p2 := g3.2.2.1
  have p3 := g3.2.2.2
  have r0_0 := f37.2.1
  have r0_1 := f37.2.2
  try simp only [e13, e16, e17, e18, e19, e20, e3, e21, e11, e6, e22] at y0
  try simp only [e29, e33, e37, e41, e45, e49] at r0_0
  try simp only [e25] at r0_1
  clear g3
  clear g4
  clear f7 f10 f15 f18 f22 f25 f29 f31 f34 f39 f42 e3 e6 e11 e13 e16 e17 e18 e19 e20 e21 e22 e25 e29 e33 e37 e41 e45 e49 e53 e54 e55 e56 e57 e58 e59 e60 e61 e62 e63 e64 e65 e66 e67
  clear f4 f37
  subst e1
  subst e4
  subst e7
  subst e8
  subst e12
  have b12 := b1_in f12 (by omega) (by omega)
  have b45 := b1_in f45 (by omega) (by omega)
  try have sm := SOm p0 (s := (n0).toNat) (by omega) (by omega)
  refine ⟨?_, ?_, ?_⟩ <;> first | assumption | omega | trivial
def g_288_2_13 : vG := ([(80, [13, 2, 20], [4, 3], 0), (16, [20, 19], [], 0), (0, [19], [], 0), (45, [16, 18], [], 0), (22, [18, 17, 2], [3], 0), (90, [18], [], 0), (91, [18], [], 2147483647), (20, [17, 1], [3], 71), (0, [17], [], 333), (1287, [16, 1, 15], [2, 3], 0), (90, [16], [], -2147483648), (91, [16], [], 2147483647), (22, [15, 14, 2], [2], 0), (90, [15], [], -1), (91, [15], [], 7), (20, [14, 1], [2], 73), (0, [14], [], 335), (20, [13, 1], [2], 96), (0, [13], [], 354), (41, [11, 12], [], 0), (0, [12], [], -1), (22, [11, 10, 2], [2], 0), (90, [11], [], -1), (91, [11], [], 7), (20, [10, 1], [2], 73), (0, [10], [], 335), (40, [8, 9], [], 0), (0, [9], [], 6), (22, [8, 7, 2], [2], 0), (90, [8], [], 0), (91, [8], [], 6), (20, [7, 1], [2], 66), (0, [7], [], 328), (80, [4, 2, 6], [2, 1], 0), (16, [6, 5], [], 0), (0, [5], [], 0), (20, [4, 1], [1], 96), (0, [4], [], 354), (42, [2, 3], [], 0), (20, [3, 1], [1], 64), (90, [3], [], 0), (91, [3], [], 20), (5000, [0, 1, 2], [0, 1], 2), (0, [0], [], 285), (0, [1], [], 285), (90, [2], [], 0), (91, [2], [], 20)], (2280, [1, 2], [4], 0))
theorem c_288_2_13 {q0 : Nat} : vOkm T0 (eP e_288 L_288 A_288 mu_288 (some q0)) 1 g_288_2_13 := vOk_inI fun ρ η f0 f1 f2 f3 f4 f5 f6 f7 f8 f9 f10 f11 f12 f13 f14 f15 f16 f17 f18 f19 f20 f21 f22 f23 f24 f25 f26 f27 f28 f29 f30 f31 f32 f33 f34 f35 f36 f37 f38 f39 f40 f41 f42 f43 f44 f45 f46 => q_288_11 (q0 := q0) (n0 := ρ 2) (n1 := ρ 1) (n2 := ρ 0) (n3 := ρ 3) (n4 := ρ 4) (n5 := ρ 5) (n6 := ρ 6) (n7 := ρ 7) (n8 := ρ 8) (n9 := ρ 9) (n10 := ρ 10) (n11 := ρ 11) (n12 := ρ 12) (n13 := ρ 13) (n14 := ρ 14) (n15 := ρ 15) (n16 := ρ 16) (n17 := ρ 17) (n18 := ρ 18) (n19 := ρ 19) (n20 := ρ 20) (H0 := η 0) (H1 := η 1) (H2 := η 2) (H3 := η 3) (H4 := η 4) f46 f45 f44 f43 f42 f41 f40 f39 f38 f37 f36 f35 f34 f33 f32 f31 f30 f29 f28 f27 f26 f25 f24 f23 f22 f21 f20 f19 f18 f17 f16 f15 f14 f13 f12 f11 f10 f9 f8 f7 f6 f5 f4 f3 f2 f1 f0
theorem kR_287_328 : vFreeR s_287.2.2.2.2 328 = true := by decide +kernel
theorem kR_287_332 : vFreeR s_287.2.2.2.2 332 = true := by decide +kernel
theorem kR_287_335 : vFreeR s_287.2.2.2.2 335 = true := by decide +kernel
theorem q_288_12 {q0 : Nat} {n0 n1 n2 n3 n4 n5 n6 n7 n8 n9 n10 n11 n12 n13 n14 n15 n16 n17 n18 n19 n20 n21 : Int} {H0 H1 H2 H3 H4 H5 : gH} (f0 : n0 ≤ 20) (f1 : 0 ≤ n0) (f2 : n1 = 285) (f3 : n2 = 285) (f4 : (hLe T0 H0 H1 ∧ hFr s_288.2.2.2.2 H0 H1 ∧ hWt T0 H1) ∧ (Ab_288_2 n2 n1 n0 H0 H1 ∧ preb_288 n2 H0) ∧ some q0 = some (mub_288_2 n2 n1 n0 H0 H1)) (f5 : n3 ≤ 20) (f6 : 0 ≤ n3) (f7 : n3 = hV H1 (n1).toNat 64) (f8 : n0 < n3) (f9 : n4 = 354) (f10 : n4 = hV H1 (n1).toNat 96) (f11 : n5 = 0) (f12 : n6 = o32 (fun x _ => x &&& 1) n5 0) (f13 : hUpd H2 H1 n4 n0 n6) (f14 : n7 = 328) (f15 : n7 = hV H2 (n1).toNat 66) (f16 : n8 ≤ 6) (f17 : 0 ≤ n8) (f18 : n8 = hV H2 (n7).toNat (n0).toNat) (f19 : n9 = 6) (f20 : n8 = n9) (f21 : n10 = 335) (f22 : n10 = hV H2 (n1).toNat 73) (f23 : n11 ≤ 7) (f24 : (-1) ≤ n11) (f25 : n11 = hV H2 (n10).toNat (n0).toNat) (f26 : n12 = (-1)) (f27 : n11 ≠ n12) (f28 : n13 = 354) (f29 : n13 = hV H2 (n1).toNat 96) (f30 : n14 = 335) (f31 : n14 = hV H2 (n1).toNat 73) (f32 : n15 ≤ 7) (f33 : (-1) ≤ n15) (f34 : n15 = hV H2 (n14).toNat (n0).toNat) (f35 : n16 ≤ 2147483647) (f36 : (-2147483648) ≤ n16) (f37 : (hLe T0 H2 H3 ∧ hFr s_287.2.2.2.2 H2 H3 ∧ ((0 : Int) = 0 → H3.length = H2.length) ∧ hWt T0 H3) ∧ postb_287 n16 n1 n15 H2 H3) (f38 : n17 = 333) (f39 : n17 = hV H3 (n1).toNat 71) (f40 : n18 ≤ 2147483647) (f41 : 0 ≤ n18) (f42 : n18 = hV H3 (n17).toNat (n0).toNat) (f43 : n16 ≤ n18) (f44 : n19 = 0) (f45 : n20 = o32 (fun x _ => x &&& 1) n19 0) (f46 : hUpd H4 H3 n13 n0 n20) (f47 : n21 ≤ 2147483647) (f48 : (-2147483648) ≤ n21) (f49 : (hLe T0 H4 H5 ∧ hFr s_280.2.2.2.2 H4 H5 ∧ ((0 : Int) = 0 → H5.length = H4.length) ∧ hWt T0 H5) ∧ postb_280 n21 n1 n0 H4 H5) : n0 ≤ 19 := by
  have g4 := f4.2.1.1
  unfold Ab_288_2 at g4
  have g3 := f4.2.1.2
  unfold preb_288 at g3
  unfold postb_287 at f37
  unfold postb_280 at f49
  have e1 : n3 = hV H0 285 64 := (by rw [f2] at f7; exact f7 : n3 = hV H1 285 64).trans ((f4.1.2.1.1 285 64 kF_288_285_64))
  have e3 : hV H1 328 = hV H0 328 := fRow f4.1.2.1 328 kR_288_328
  have e4 : n8 = hV H0 328 (n0).toNat := (by rw [f14] at f18; exact f18 : n8 = hV H2 328 (n0).toNat).trans (((congrFun (uRowNe f13 328 (iS (show n4 = ((354 : Nat) : Int) from f9) rfl)) _)).trans ((congrFun e3 _)))
  have e6 : hV H1 335 = hV H0 335 := fRow f4.1.2.1 335 kR_288_335
  have e7 : n11 = hV H0 335 (n0).toNat := (by rw [f21] at f25; exact f25 : n11 = hV H2 335 (n0).toNat).trans (((congrFun (uRowNe f13 335 (iS (show n4 = ((354 : Nat) : Int) from f9) rfl)) _)).trans ((congrFun e6 _)))
  have e8 : n15 = hV H0 335 (n0).toNat := (by rw [f30] at f34; exact f34 : n15 = hV H2 335 (n0).toNat).trans (((congrFun (uRowNe f13 335 (iS (show n4 = ((354 : Nat) : Int) from f9) rfl)) _)).trans ((congrFun e6 _)))
  have e11 : hV H1 333 = hV H0 333 := fRow f4.1.2.1 333 kR_288_333
  have e12 : n18 = hV H0 333 (n0).toNat := (by rw [f38] at f42; exact f42 : n18 = hV H3 333 (n0).toNat).trans (((congrFun (fRow f37.1.2.1 333 kR_287_333) _)).trans (((congrFun (uRowNe f13 333 (iS (show n4 = ((354 : Nat) : Int) from f9) rfl)) _)).trans ((congrFun e11 _))))
  have e13 : hV H1 285 64 = hV H0 285 64 := (f4.1.2.1.1 285 64 kF_288_285_64)
  have e16 : hV H1 296 = hV H0 296 := fRow f4.1.2.1 296 kR_288_296
  have e17 : hV H1 298 = hV H0 298 := fRow f4.1.2.1 298 kR_288_298
  have e18 : hV H1 300 = hV H0 300 := fRow f4.1.2.1 300 kR_288_300
  have e19 : hV H1 301 = hV H0 301 := fRow f4.1.2.1 301 kR_288_301
  have e20 : hV H1 303 = hV H0 303 := fRow f4.1.2.1 303 kR_288_303
  have e21 : hV H1 332 = hV H0 332 := fRow f4.1.2.1 332 kR_288_332
  have e22 : hV H1 341 = hV H0 341 := fRow f4.1.2.1 341 kR_288_341
  have e25 : hV H3 285 65 = hV H0 285 65 := ((f37.1.2.1.1 285 65 kF_287_285_65)).trans (((uPlace f13 285 65 (iS (show n4 = ((354 : Nat) : Int) from f9) rfl))).trans (f4.1.2.1.1 285 65 kF_288_285_65))
  have e29 : hV H3 296 = hV H0 296 := (fRow f37.1.2.1 296 kR_287_296).trans ((uRowNe f13 296 (iS (show n4 = ((354 : Nat) : Int) from f9) rfl)).trans e16)
  have e33 : hV H3 298 = hV H0 298 := (fRow f37.1.2.1 298 kR_287_298).trans ((uRowNe f13 298 (iS (show n4 = ((354 : Nat) : Int) from f9) rfl)).trans e17)
  have e37 : hV H3 300 = hV H0 300 := (fRow f37.1.2.1 300 kR_287_300).trans ((uRowNe f13 300 (iS (show n4 = ((354 : Nat) : Int) from f9) rfl)).trans e18)
  have e41 : hV H3 301 = hV H0 301 := (fRow f37.1.2.1 301 kR_287_301).trans ((uRowNe f13 301 (iS (show n4 = ((354 : Nat) : Int) from f9) rfl)).trans e19)
  have e45 : hV H3 303 = hV H0 303 := (fRow f37.1.2.1 303 kR_287_303).trans ((uRowNe f13 303 (iS (show n4 = ((354 : Nat) : Int) from f9) rfl)).trans e20)
  have e49 : hV H3 341 = hV H0 341 := (fRow f37.1.2.1 341 kR_287_341).trans ((uRowNe f13 341 (iS (show n4 = ((354 : Nat) : Int) from f9) rfl)).trans e22)
  have e54 : hV H5 285 64 = hV H0 285 64 := ((f49.1.2.1.1 285 64 kF_280_285_64)).trans (((uPlace f46 285 64 (iS (show n13 = ((354 : Nat) : Int) from f28) rfl))).trans (((f37.1.2.1.1 285 64 kF_287_285_64)).trans (((uPlace f13 285 64 (iS (show n4 = ((354 : Nat) : Int) from f9) rfl))).trans (f4.1.2.1.1 285 64 kF_288_285_64))))
  have e58 : hV H5 296 = hV H0 296 := (fRow f49.1.2.1 296 kR_280_296).trans ((uRowNe f46 296 (iS (show n13 = ((354 : Nat) : Int) from f28) rfl)).trans e29)
  have e62 : hV H5 298 = hV H0 298 := (fRow f49.1.2.1 298 kR_280_298).trans ((uRowNe f46 298 (iS (show n13 = ((354 : Nat) : Int) from f28) rfl)).trans e33)
  have e66 : hV H5 300 = hV H0 300 := (fRow f49.1.2.1 300 kR_280_300).trans ((uRowNe f46 300 (iS (show n13 = ((354 : Nat) : Int) from f28) rfl)).trans e37)
  have e73 : hV H5 328 = hV H0 328 := (fRow f49.1.2.1 328 kR_280_328).trans ((uRowNe f46 328 (iS (show n13 = ((354 : Nat) : Int) from f28) rfl)).trans ((fRow f37.1.2.1 328 kR_287_328).trans ((uRowNe f13 328 (iS (show n4 = ((354 : Nat) : Int) from f9) rfl)).trans e3)))
  have e81 : hV H5 332 = hV H0 332 := (fRow f49.1.2.1 332 kR_280_332).trans ((uRowNe f46 332 (iS (show n13 = ((354 : Nat) : Int) from f28) rfl)).trans ((fRow f37.1.2.1 332 kR_287_332).trans ((uRowNe f13 332 (iS (show n4 = ((354 : Nat) : Int) from f9) rfl)).trans e21)))
  have e88 : hV H5 335 = hV H0 335 := (fRow f49.1.2.1 335 kR_280_335).trans ((uRowNe f46 335 (iS (show n13 = ((354 : Nat) : Int) from f28) rfl)).trans ((fRow f37.1.2.1 335 kR_287_335).trans ((uRowNe f13 335 (iS (show n4 = ((354 : Nat) : Int) from f9) rfl)).trans e6)))
  have e89 : (0 : Int) ≤ hV H0 285 64 ∧ hV H0 285 64 ≤ 20 := bTo e13 (f4.1.2.2 285 64 _ _ kW_285_64)
  have e90 : (0 : Int) ≤ hV H0 285 65 ∧ hV H0 285 65 ≤ 2147483647 := bTo ((f4.1.2.1.1 285 65 kF_288_285_65)) (f4.1.2.2 285 65 _ _ kW_285_65)
  have y0 := g4
  have p0 := g3.1
  have p1 := g3.2.1
  have p2 := g3.2.2.1
  have p3 := g3.2.2.2
  have r0_0 := f37.2.1
  have r0_1 := f37.2.2
  have r1_0 := f49.2
  try simp only [e13, e16, e17, e18, e19, e20, e3, e21, e11, e6, e22] at y0
  try simp only [e29, e33, e37, e41, e45, e49] at r0_0
  try simp only [e25] at r0_1
  try simp only [e54, e58, e62, e66, e73, e81, e88] at r1_0
  clear g3
  clear g4
  clear f7 f10 f15 f18 f22 f25 f29 f31 f34 f39 f42 e3 e6 e11 e13 e16 e17 e18 e19 e20 e21 e22 e25 e29 e33 e37 e41 e45 e49 e54 e58 e62 e66 e73 e81 e88
  clear f4 f37 f49
  subst e1
  subst e4
  subst e7
  subst e8
  subst e12
  have b12 := b1_in f12 (by omega) (by omega)
  have b45 := b1_in f45 (by omega) (by omega)
  try have sm := SOm p0 (s := (n0).toNat) (by omega) (by omega)
  omega
def g_288_2_14 : vG := ([(1280, [21, 1, 2], [4, 5], 0), (90, [21], [], -2147483648), (91, [21], [], 2147483647), (80, [13, 2, 20], [4, 3], 0), (16, [20, 19], [], 0), (0, [19], [], 0), (45, [16, 18], [], 0), (22, [18, 17, 2], [3], 0), (90, [18], [], 0), (91, [18], [], 2147483647), (20, [17, 1], [3], 71), (0, [17], [], 333), (1287, [16, 1, 15], [2, 3], 0), (90, [16], [], -2147483648), (91, [16], [], 2147483647), (22, [15, 14, 2], [2], 0), (90, [15], [], -1), (91, [15], [], 7), (20, [14, 1], [2], 73), (0, [14], [], 335), (20, [13, 1], [2], 96), (0, [13], [], 354), (41, [11, 12], [], 0), (0, [12], [], -1), (22, [11, 10, 2], [2], 0), (90, [11], [], -1), (91, [11], [], 7), (20, [10, 1], [2], 73), (0, [10], [], 335), (40, [8, 9], [], 0), (0, [9], [], 6), (22, [8, 7, 2], [2], 0), (90, [8], [], 0), (91, [8], [], 6), (20, [7, 1], [2], 66), (0, [7], [], 328), (80, [4, 2, 6], [2, 1], 0), (16, [6, 5], [], 0), (0, [5], [], 0), (20, [4, 1], [1], 96), (0, [4], [], 354), (42, [2, 3], [], 0), (20, [3, 1], [1], 64), (90, [3], [], 0), (91, [3], [], 20), (5000, [0, 1, 2], [0, 1], 2), (0, [0], [], 285), (0, [1], [], 285), (90, [2], [], 0), (91, [2], [], 20)], (91, [2], [], 19))
theorem c_288_2_14 {q0 : Nat} : vOkm T0 (eP e_288 L_288 A_288 mu_288 (some q0)) 1 g_288_2_14 := vOk_inI fun ρ η f0 f1 f2 f3 f4 f5 f6 f7 f8 f9 f10 f11 f12 f13 f14 f15 f16 f17 f18 f19 f20 f21 f22 f23 f24 f25 f26 f27 f28 f29 f30 f31 f32 f33 f34 f35 f36 f37 f38 f39 f40 f41 f42 f43 f44 f45 f46 f47 f48 f49 => q_288_12 (q0 := q0) (n0 := ρ 2) (n1 := ρ 1) (n2 := ρ 0) (n3 := ρ 3) (n4 := ρ 4) (n5 := ρ 5) (n6 := ρ 6) (n7 := ρ 7) (n8 := ρ 8) (n9 := ρ 9) (n10 := ρ 10) (n11 := ρ 11) (n12 := ρ 12) (n13 := ρ 13) (n14 := ρ 14) (n15 := ρ 15) (n16 := ρ 16) (n17 := ρ 17) (n18 := ρ 18) (n19 := ρ 19) (n20 := ρ 20) (n21 := ρ 21) (H0 := η 0) (H1 := η 1) (H2 := η 2) (H3 := η 3) (H4 := η 4) (H5 := η 5) f49 f48 f47 f46 f45 f44 f43 f42 f41 f40 f39 f38 f37 f36 f35 f34 f33 f32 f31 f30 f29 f28 f27 f26 f25 f24 f23 f22 f21 f20 f19 f18 f17 f16 f15 f14 f13 f12 f11 f10 f9 f8 f7 f6 f5 f4 f3 f2 f1 f0
theorem kR_280_301 : vFreeR s_280.2.2.2.2 301 = true := by decide +kernel
theorem kR_280_303 : vFreeR s_280.2.2.2.2 303 = true := by decide +kernel
theorem kR_280_333 : vFreeR s_280.2.2.2.2 333 = true := by decide +kernel
theorem kR_280_341 : vFreeR s_280.2.2.2.2 341 = true := by decide +kernel
theorem kR_287_354 : vFreeR s_287.2.2.2.2 354 = true := by decide +kernel
theorem q_288_13 {q0 : Nat} {n0 n1 n2 n3 n4 n5 n6 n7 n8 n9 n10 n11 n12 n13 n14 n15 n16 n17 n18 n19 n20 n21 n22 : Int} {H0 H1 H2 H3 H4 H5 : gH} (f0 : n0 ≤ 20) (f1 : 0 ≤ n0) (f2 : n1 = 285) (f3 : n2 = 285) (f4 : (hLe T0 H0 H1 ∧ hFr s_288.2.2.2.2 H0 H1 ∧ hWt T0 H1) ∧ (Ab_288_2 n2 n1 n0 H0 H1 ∧ preb_288 n2 H0) ∧ some q0 = some (mub_288_2 n2 n1 n0 H0 H1)) (f5 : n3 ≤ 20) (f6 : 0 ≤ n3) (f7 : n3 = hV H1 (n1).toNat 64) (f8 : n0 < n3) (f9 : n4 = 354) (f10 : n4 = hV H1 (n1).toNat 96) (f11 : n5 = 0) (f12 : n6 = o32 (fun x _ => x &&& 1) n5 0) (f13 : hUpd H2 H1 n4 n0 n6) (f14 : n7 = 328) (f15 : n7 = hV H2 (n1).toNat 66) (f16 : n8 ≤ 6) (f17 : 0 ≤ n8) (f18 : n8 = hV H2 (n7).toNat (n0).toNat) (f19 : n9 = 6) (f20 : n8 = n9) (f21 : n10 = 335) (f22 : n10 = hV H2 (n1).toNat 73) (f23 : n11 ≤ 7) (f24 : (-1) ≤ n11) (f25 : n11 = hV H2 (n10).toNat (n0).toNat) (f26 : n12 = (-1)) (f27 : n11 ≠ n12) (f28 : n13 = 354) (f29 : n13 = hV H2 (n1).toNat 96) (f30 : n14 = 335) (f31 : n14 = hV H2 (n1).toNat 73) (f32 : n15 ≤ 7) (f33 : (-1) ≤ n15) (f34 : n15 = hV H2 (n14).toNat (n0).toNat) (f35 : n16 ≤ 2147483647) (f36 : (-2147483648) ≤ n16) (f37 : (hLe T0 H2 H3 ∧ hFr s_287.2.2.2.2 H2 H3 ∧ ((0 : Int) = 0 → H3.length = H2.length) ∧ hWt T0 H3) ∧ postb_287 n16 n1 n15 H2 H3) (f38 : n17 = 333) (f39 : n17 = hV H3 (n1).toNat 71) (f40 : n18 ≤ 2147483647) (f41 : 0 ≤ n18) (f42 : n18 = hV H3 (n17).toNat (n0).toNat) (f43 : n16 ≤ n18) (f44 : n19 = 0) (f45 : n20 = o32 (fun x _ => x &&& 1) n19 0) (f46 : hUpd H4 H3 n13 n0 n20) (f47 : n21 ≤ 2147483647) (f48 : (-2147483648) ≤ n21) (f49 : (hLe T0 H4 H5 ∧ hFr s_280.2.2.2.2 H4 H5 ∧ ((0 : Int) = 0 → H5.length = H4.length) ∧ hWt T0 H5) ∧ postb_280 n21 n1 n0 H4 H5) (f50 : n22 = 0) : Ab_288_79 n2 n1 n0 n21 n22 H0 H5 ∧ ∀ q, some q0 = some q → mub_288_79 n2 n1 n0 n21 n22 H0 H5 < q := by
  have g4 := f4.2.1.1
  unfold Ab_288_2 at g4
  have g3 := f4.2.1.2
  unfold preb_288 at g3
  have g5 := Option.some.inj f4.2.2
  unfold mub_288_2 at g5
  unfold postb_287 at f37
  unfold postb_280 at f49
  unfold Ab_288_79
  unfold mub_288_79
  have e1 : n3 = hV H0 285 64 := (by rw [f2] at f7; exact f7 : n3 = hV H1 285 64).trans ((f4.1.2.1.1 285 64 kF_288_285_64))
  have e3 : hV H1 328 = hV H0 328 := fRow f4.1.2.1 328 kR_288_328
  have e4 : n8 = hV H0 328 (n0).toNat := (by rw [f14] at f18; exact f18 : n8 = hV H2 328 (n0).toNat).trans (((congrFun (uRowNe f13 328 (iS (show n4 = ((354 : Nat) : Int) from f9) rfl)) _)).trans ((congrFun e3 _)))
  have e6 : hV H1 335 = hV H0 335 := fRow f4.1.2.1 335 kR_288_335
  have e7 : n11 = hV H0 335 (n0).toNat := (by rw [f21] at f25; exact f25 : n11 = hV H2 335 (n0).toNat).trans (((congrFun (uRowNe f13 335 (iS (show n4 = ((354 : Nat) : Int) from f9) rfl)) _)).trans ((congrFun e6 _)))
  have e8 : n15 = hV H0 335 (n0).toNat := (by rw [f30] at f34; exact f34 : n15 = hV H2 335 (n0).toNat).trans (((congrFun (uRowNe f13 335 (iS (show n4 = ((354 : Nat) : Int) from f9) rfl)) _)).trans ((congrFun e6 _)))
  have e11 : hV H1 333 = hV H0 333 := fRow f4.1.2.1 333 kR_288_333
  have e12 : n18 = hV H0 333 (n0).toNat := (by rw [f38] at f42; exact f42 : n18 = hV H3 333 (n0).toNat).trans (((congrFun (fRow f37.1.2.1 333 kR_287_333) _)).trans (((congrFun (uRowNe f13 333 (iS (show n4 = ((354 : Nat) : Int) from f9) rfl)) _)).trans ((congrFun e11 _))))
  have e13 : hV H1 285 64 = hV H0 285 64 := (f4.1.2.1.1 285 64 kF_288_285_64)
  have e16 : hV H1 296 = hV H0 296 := fRow f4.1.2.1 296 kR_288_296
  have e17 : hV H1 298 = hV H0 298 := fRow f4.1.2.1 298 kR_288_298
  have e18 : hV H1 300 = hV H0 300 := fRow f4.1.2.1 300 kR_288_300
  have e19 : hV H1 301 = hV H0 301 := fRow f4.1.2.1 301 kR_288_301
  have e20 : hV H1 303 = hV H0 303 := fRow f4.1.2.1 303 kR_288_303
  have e21 : hV H1 332 = hV H0 332 := fRow f4.1.2.1 332 kR_288_332
  have e22 : hV H1 341 = hV H0 341 := fRow f4.1.2.1 341 kR_288_341
  have e25 : hV H3 285 65 = hV H0 285 65 := ((f37.1.2.1.1 285 65 kF_287_285_65)).trans (((uPlace f13 285 65 (iS (show n4 = ((354 : Nat) : Int) from f9) rfl))).trans (f4.1.2.1.1 285 65 kF_288_285_65))
  have e29 : hV H3 296 = hV H0 296 := (fRow f37.1.2.1 296 kR_287_296).trans ((uRowNe f13 296 (iS (show n4 = ((354 : Nat) : Int) from f9) rfl)).trans e16)
  have e33 : hV H3 298 = hV H0 298 := (fRow f37.1.2.1 298 kR_287_298).trans ((uRowNe f13 298 (iS (show n4 = ((354 : Nat) : Int) from f9) rfl)).trans e17)
  have e37 : hV H3 300 = hV H0 300 := (fRow f37.1.2.1 300 kR_287_300).trans ((uRowNe f13 300 (iS (show n4 = ((354 : Nat) : Int) from f9) rfl)).trans e18)
  have e41 : hV H3 301 = hV H0 301 := (fRow f37.1.2.1 301 kR_287_301).trans ((uRowNe f13 301 (iS (show n4 = ((354 : Nat) : Int) from f9) rfl)).trans e19)
  have e45 : hV H3 303 = hV H0 303 := (fRow f37.1.2.1 303 kR_287_303).trans ((uRowNe f13 303 (iS (show n4 = ((354 : Nat) : Int) from f9) rfl)).trans e20)
  have e49 : hV H3 341 = hV H0 341 := (fRow f37.1.2.1 341 kR_287_341).trans ((uRowNe f13 341 (iS (show n4 = ((354 : Nat) : Int) from f9) rfl)).trans e22)
  have e54 : hV H5 285 64 = hV H0 285 64 := ((f49.1.2.1.1 285 64 kF_280_285_64)).trans (((uPlace f46 285 64 (iS (show n13 = ((354 : Nat) : Int) from f28) rfl))).trans (((f37.1.2.1.1 285 64 kF_287_285_64)).trans (((uPlace f13 285 64 (iS (show n4 = ((354 : Nat) : Int) from f9) rfl))).trans (f4.1.2.1.1 285 64 kF_288_285_64))))
  have e58 : hV H5 296 = hV H0 296 := (fRow f49.1.2.1 296 kR_280_296).trans ((uRowNe f46 296 (iS (show n13 = ((354 : Nat) : Int) from f28) rfl)).trans e29)
  have e62 : hV H5 298 = hV H0 298 := (fRow f49.1.2.1 298 kR_280_298).trans ((uRowNe f46 298 (iS (show n13 = ((354 : Nat) : Int) from f28) rfl)).trans e33)
  have e66 : hV H5 300 = hV H0 300 := (fRow f49.1.2.1 300 kR_280_300).trans ((uRowNe f46 300 (iS (show n13 = ((354 : Nat) : Int) from f28) rfl)).trans e37)
  have e70 : hV H5 301 = hV H0 301 := (fRow f49.1.2.1 301 kR_280_301).trans ((uRowNe f46 301 (iS (show n13 = ((354 : Nat) : Int) from f28) rfl)).trans e41)
  have e74 : hV H5 303 = hV H0 303 := (fRow f49.1.2.1 303 kR_280_303).trans ((uRowNe f46 303 (iS (show n13 = ((354 : Nat) : Int) from f28) rfl)).trans e45)
  have e81 : hV H5 328 = hV H0 328 := (fRow f49.1.2.1 328 kR_280_328).trans ((uRowNe f46 328 (iS (show n13 = ((354 : Nat) : Int) from f28) rfl)).trans ((fRow f37.1.2.1 328 kR_287_328).trans ((uRowNe f13 328 (iS (show n4 = ((354 : Nat) : Int) from f9) rfl)).trans e3)))
  have e89 : hV H5 332 = hV H0 332 := (fRow f49.1.2.1 332 kR_280_332).trans ((uRowNe f46 332 (iS (show n13 = ((354 : Nat) : Int) from f28) rfl)).trans ((fRow f37.1.2.1 332 kR_287_332).trans ((uRowNe f13 332 (iS (show n4 = ((354 : Nat) : Int) from f9) rfl)).trans e21)))
  have e95 : hV H5 333 = hV H0 333 := (fRow f49.1.2.1 333 kR_280_333).trans ((uRowNe f46 333 (iS (show n13 = ((354 : Nat) : Int) from f28) rfl)).trans ((fRow f37.1.2.1 333 kR_287_333).trans ((uRowNe f13 333 (iS (show n4 = ((354 : Nat) : Int) from f9) rfl)).trans e11)))
  have e102 : hV H5 335 = hV H0 335 := (fRow f49.1.2.1 335 kR_280_335).trans ((uRowNe f46 335 (iS (show n13 = ((354 : Nat) : Int) from f28) rfl)).trans ((fRow f37.1.2.1 335 kR_287_335).trans ((uRowNe f13 335 (iS (show n4 = ((354 : Nat) : Int) from f9) rfl)).trans e6)))
  have e106 : hV H5 341 = hV H0 341 := (fRow f49.1.2.1 341 kR_280_341).trans ((uRowNe f46 341 (iS (show n13 = ((354 : Nat) : Int) from f28) rfl)).trans e49)
  have e113 : hV H5 354 = (uF (uF (hV H1 354) n0 n6) n0 n20) := (fRow f49.1.2.1 354 kR_280_354).trans ((uRow f46 354 f28.symm).trans (congrArg (fun z => uF z n0 n20) ((fRow f37.1.2.1 354 kR_287_354).trans (uRow f13 354 f9.symm))))
  have e114 : (0 : Int) ≤ hV H0 285 64 ∧ hV H0 285 64 ≤ 20 := bTo e13 (f4.1.2.2 285 64 _ _ kW_285_64)
  have e115 : (0 : Int) ≤ hV H0 285 65 ∧ hV H0 285 65 ≤ 2147483647 := bTo ((f4.1.2.1.1 285 65 kF_288_285_65)) (f4.1.2.2 285 65 _ _ kW_285_65)
  try simp only [e54, e58, e62, e66, e70, e74, e81, e89, e95, e102, e106, e113]
  have y0 := g4
  have p0 := g3.1
  have p1 := g3.2.1
  have p2 := g3.2.2.1
  have p3 := g3.2.2.2
  have r0_0 := f37.2.1
  have r0_1 := f37.2.2
  have r1_0 := f49.2
  try simp only [e13, e16, e17, e18, e19, e20, e3, e21, e11, e6, e22] at y0
  try simp only [e29, e33, e37, e41, e45, e49] at r0_0
  try simp only [e25] at r0_1
  try simp only [e54, e58, e62, e66, e81, e89, e102] at r1_0
  clear g3
  clear g4
  clear f7 f10 f15 f18 f22 f25 f29 f31 f34 f39 f42 e3 e6 e11 e13 e16 e17 e18 e19 e20 e21 e22 e25 e29 e33 e37 e41 e45 e49 e54 e58 e62 e66 e70 e74 e81 e89 e95 e102 e106 e113
  clear f4 f37 f49
  subst e1
  subst e4
  subst e7
  subst e8
  subst e12
  have b12 := b1_in f12 (by omega) (by omega)
  have b45 := b1_in f45 (by omega) (by omega)
  try have sm := SOm p0 (s := (n0).toNat) (by omega) (by omega)

  refine ⟨?_, fun q hq => ?_⟩
  · exact ⟨by omega, by omega, by omega, FS_up (FS_up y0 (by omega)) (by omega), r1_0, IN_first (by omega) (by omega) (by omega) r0_0 (by omega)⟩
  · have g6 := Option.some.inj hq
    subst g6
    omega
def g_288_2_15 : vG := ([(0, [22], [], 0), (1280, [21, 1, 2], [4, 5], 0), (90, [21], [], -2147483648), (91, [21], [], 2147483647), (80, [13, 2, 20], [4, 3], 0), (16, [20, 19], [], 0), (0, [19], [], 0), (45, [16, 18], [], 0), (22, [18, 17, 2], [3], 0), (90, [18], [], 0), (91, [18], [], 2147483647), (20, [17, 1], [3], 71), (0, [17], [], 333), (1287, [16, 1, 15], [2, 3], 0), (90, [16], [], -2147483648), (91, [16], [], 2147483647), (22, [15, 14, 2], [2], 0), (90, [15], [], -1), (91, [15], [], 7), (20, [14, 1], [2], 73), (0, [14], [], 335), (20, [13, 1], [2], 96), (0, [13], [], 354), (41, [11, 12], [], 0), (0, [12], [], -1), (22, [11, 10, 2], [2], 0), (90, [11], [], -1), (91, [11], [], 7), (20, [10, 1], [2], 73), (0, [10], [], 335), (40, [8, 9], [], 0), (0, [9], [], 6), (22, [8, 7, 2], [2], 0), (90, [8], [], 0), (91, [8], [], 6), (20, [7, 1], [2], 66), (0, [7], [], 328), (80, [4, 2, 6], [2, 1], 0), (16, [6, 5], [], 0), (0, [5], [], 0), (20, [4, 1], [1], 96), (0, [4], [], 354), (42, [2, 3], [], 0), (20, [3, 1], [1], 64), (90, [3], [], 0), (91, [3], [], 20), (5000, [0, 1, 2], [0, 1], 2), (0, [0], [], 285), (0, [1], [], 285), (90, [2], [], 0), (91, [2], [], 20)], (4000, [1, 2, 21, 22], [5], 79))
theorem c_288_2_15 {q0 : Nat} : vOkm T0 (eP e_288 L_288 A_288 mu_288 (some q0)) 1 g_288_2_15 := vOk_inI fun ρ η f0 f1 f2 f3 f4 f5 f6 f7 f8 f9 f10 f11 f12 f13 f14 f15 f16 f17 f18 f19 f20 f21 f22 f23 f24 f25 f26 f27 f28 f29 f30 f31 f32 f33 f34 f35 f36 f37 f38 f39 f40 f41 f42 f43 f44 f45 f46 f47 f48 f49 f50 => q_288_13 (q0 := q0) (n0 := ρ 2) (n1 := ρ 1) (n2 := ρ 0) (n3 := ρ 3) (n4 := ρ 4) (n5 := ρ 5) (n6 := ρ 6) (n7 := ρ 7) (n8 := ρ 8) (n9 := ρ 9) (n10 := ρ 10) (n11 := ρ 11) (n12 := ρ 12) (n13 := ρ 13) (n14 := ρ 14) (n15 := ρ 15) (n16 := ρ 16) (n17 := ρ 17) (n18 := ρ 18) (n19 := ρ 19) (n20 := ρ 20) (n21 := ρ 21) (n22 := ρ 22) (H0 := η 0) (H1 := η 1) (H2 := η 2) (H3 := η 3) (H4 := η 4) (H5 := η 5) f50 f49 f48 f47 f46 f45 f44 f43 f42 f41 f40 f39 f38 f37 f36 f35 f34 f33 f32 f31 f30 f29 f28 f27 f26 f25 f24 f23 f22 f21 f20 f19 f18 f17 f16 f15 f14 f13 f12 f11 f10 f9 f8 f7 f6 f5 f4 f3 f2 f1 f0
theorem q_288_14 {q0 : Nat} {n0 n1 n2 n3 n4 n5 n6 n7 n8 n9 n10 n11 n12 n13 n14 n15 n16 n17 n18 : Int} {H0 H1 H2 H3 : gH} (f0 : n0 ≤ 20) (f1 : 0 ≤ n0) (f2 : n1 = 285) (f3 : n2 = 285) (f4 : (hLe T0 H0 H1 ∧ hFr s_288.2.2.2.2 H0 H1 ∧ hWt T0 H1) ∧ (Ab_288_2 n2 n1 n0 H0 H1 ∧ preb_288 n2 H0) ∧ some q0 = some (mub_288_2 n2 n1 n0 H0 H1)) (f5 : n3 ≤ 20) (f6 : 0 ≤ n3) (f7 : n3 = hV H1 (n1).toNat 64) (f8 : n0 < n3) (f9 : n4 = 354) (f10 : n4 = hV H1 (n1).toNat 96) (f11 : n5 = 0) (f12 : n6 = o32 (fun x _ => x &&& 1) n5 0) (f13 : hUpd H2 H1 n4 n0 n6) (f14 : n7 = 328) (f15 : n7 = hV H2 (n1).toNat 66) (f16 : n8 ≤ 6) (f17 : 0 ≤ n8) (f18 : n8 = hV H2 (n7).toNat (n0).toNat) (f19 : n9 = 6) (f20 : n8 = n9) (f21 : n10 = 335) (f22 : n10 = hV H2 (n1).toNat 73) (f23 : n11 ≤ 7) (f24 : (-1) ≤ n11) (f25 : n11 = hV H2 (n10).toNat (n0).toNat) (f26 : n12 = (-1)) (f27 : n11 ≠ n12) (f28 : n13 = 354) (f29 : n13 = hV H2 (n1).toNat 96) (f30 : n14 = 335) (f31 : n14 = hV H2 (n1).toNat 73) (f32 : n15 ≤ 7) (f33 : (-1) ≤ n15) (f34 : n15 = hV H2 (n14).toNat (n0).toNat) (f35 : n16 ≤ 2147483647) (f36 : (-2147483648) ≤ n16) (f37 : (hLe T0 H2 H3 ∧ hFr s_287.2.2.2.2 H2 H3 ∧ ((0 : Int) = 0 → H3.length = H2.length) ∧ hWt T0 H3) ∧ postb_287 n16 n1 n15 H2 H3) (f38 : n17 = 333) (f39 : n17 = hV H3 (n1).toNat 71) (f40 : n18 ≤ 2147483647) (f41 : 0 ≤ n18) (f42 : n18 = hV H3 (n17).toNat (n0).toNat) (f43 : n18 < n16) : 0 ≤ n0 ∧ n0 < 20 := by
  have g4 := f4.2.1.1
  unfold Ab_288_2 at g4
  have g3 := f4.2.1.2
  unfold preb_288 at g3
  unfold postb_287 at f37
  have e1 : n3 = hV H0 285 64 := (by rw [f2] at f7; exact f7 : n3 = hV H1 285 64).trans ((f4.1.2.1.1 285 64 kF_288_285_64))
  have e3 : hV H1 328 = hV H0 328 := fRow f4.1.2.1 328 kR_288_328
  have e4 : n8 = hV H0 328 (n0).toNat := (by rw [f14] at f18; exact f18 : n8 = hV H2 328 (n0).toNat).trans (((congrFun (uRowNe f13 328 (iS (show n4 = ((354 : Nat) : Int) from f9) rfl)) _)).trans ((congrFun e3 _)))
  have e6 : hV H1 335 = hV H0 335 := fRow f4.1.2.1 335 kR_288_335
  have e7 : n11 = hV H0 335 (n0).toNat := (by rw [f21] at f25; exact f25 : n11 = hV H2 335 (n0).toNat).trans (((congrFun (uRowNe f13 335 (iS (show n4 = ((354 : Nat) : Int) from f9) rfl)) _)).trans ((congrFun e6 _)))
  have e8 : n15 = hV H0 335 (n0).toNat := (by rw [f30] at f34; exact f34 : n15 = hV H2 335 (n0).toNat).trans (((congrFun (uRowNe f13 335 (iS (show n4 = ((354 : Nat) : Int) from f9) rfl)) _)).trans ((congrFun e6 _)))
  have e11 : hV H1 333 = hV H0 333 := fRow f4.1.2.1 333 kR_288_333
  have e12 : n18 = hV H0 333 (n0).toNat := (by rw [f38] at f42; exact f42 : n18 = hV H3 333 (n0).toNat).trans (((congrFun (fRow f37.1.2.1 333 kR_287_333) _)).trans (((congrFun (uRowNe f13 333 (iS (show n4 = ((354 : Nat) : Int) from f9) rfl)) _)).trans ((congrFun e11 _))))
  have e13 : hV H1 285 64 = hV H0 285 64 := (f4.1.2.1.1 285 64 kF_288_285_64)
  have e16 : hV H1 296 = hV H0 296 := fRow f4.1.2.1 296 kR_288_296
  have e17 : hV H1 298 = hV H0 298 := fRow f4.1.2.1 298 kR_288_298
  have e18 : hV H1 300 = hV H0 300 := fRow f4.1.2.1 300 kR_288_300
  have e19 : hV H1 301 = hV H0 301 := fRow f4.1.2.1 301 kR_288_301
  have e20 : hV H1 303 = hV H0 303 := fRow f4.1.2.1 303 kR_288_303
  have e21 : hV H1 332 = hV H0 332 := fRow f4.1.2.1 332 kR_288_332
  have e22 : hV H1 341 = hV H0 341 := fRow f4.1.2.1 341 kR_288_341
  have e25 : hV H3 285 65 = hV H0 285 65 := ((f37.1.2.1.1 285 65 kF_287_285_65)).trans (((uPlace f13 285 65 (iS (show n4 = ((354 : Nat) : Int) from f9) rfl))).trans (f4.1.2.1.1 285 65 kF_288_285_65))
  have e29 : hV H3 296 = hV H0 296 := (fRow f37.1.2.1 296 kR_287_296).trans ((uRowNe f13 296 (iS (show n4 = ((354 : Nat) : Int) from f9) rfl)).trans e16)
  have e33 : hV H3 298 = hV H0 298 := (fRow f37.1.2.1 298 kR_287_298).trans ((uRowNe f13 298 (iS (show n4 = ((354 : Nat) : Int) from f9) rfl)).trans e17)
  have e37 : hV H3 300 = hV H0 300 := (fRow f37.1.2.1 300 kR_287_300).trans ((uRowNe f13 300 (iS (show n4 = ((354 : Nat) : Int) from f9) rfl)).trans e18)
  have e41 : hV H3 301 = hV H0 301 := (fRow f37.1.2.1 301 kR_287_301).trans ((uRowNe f13 301 (iS (show n4 = ((354 : Nat) : Int) from f9) rfl)).trans e19)
  have e45 : hV H3 303 = hV H0 303 := (fRow f37.1.2.1 303 kR_287_303).trans ((uRowNe f13 303 (iS (show n4 = ((354 : Nat) : Int) from f9) rfl)).trans e20)
  have e49 : hV H3 341 = hV H0 341 := (fRow f37.1.2.1 341 kR_287_341).trans ((uRowNe f13 341 (iS (show n4 = ((354 : Nat) : Int) from f9) rfl)).trans e22)
  have e50 : (0 : Int) ≤ hV H0 285 64 ∧ hV H0 285 64 ≤ 20 := bTo e13 (f4.1.2.2 285 64 _ _ kW_285_64)
  have e51 : (0 : Int) ≤ hV H0 285 65 ∧ hV H0 285 65 ≤ 2147483647 := bTo ((f4.1.2.1.1 285 65 kF_288_285_65)) (f4.1.2.2 285 65 _ _ kW_285_65)
  have y0 := g4
  have p0 := g3.1
  have p1 := g3.2.1
  have p2 := g3.2.2.1
  have p3 := g3.2.2.2
  have r0_0 := f37.2.1
  have r0_1 := f37.2.2
  try simp only [e13, e16, e17, e18, e19, e20, e3, e21, e11, e6, e22] at y0
  try simp only [e29, e33, e37, e41, e45, e49] at r0_0
  try simp only [e25] at r0_1
  clear g3
  clear g4
  clear f7 f10 f15 f18 f22 f25 f29 f31 f34 f39 f42 e3 e6 e11 e13 e16 e17 e18 e19 e20 e21 e22 e25 e29 e33 e37 e41 e45 e49
  clear f4 f37
  subst e1
  subst e4
  subst e7
  subst e8
  subst e12
  have b12 := b1_in f12 (by omega) (by omega)
  try have sm := SOm p0 (s := (n0).toNat) (by omega) (by omega)
  omega
def g_288_2_16 : vG := ([(44, [16, 18], [], 0), (22, [18, 17, 2], [3], 0), (90, [18], [], 0), (91, [18], [], 2147483647), (20, [17, 1], [3], 71), (0, [17], [], 333), (1287, [16, 1, 15], [2, 3], 0), (90, [16], [], -2147483648), (91, [16], [], 2147483647), (22, [15, 14, 2], [2], 0), (90, [15], [], -1), (91, [15], [], 7), (20, [14, 1], [2], 73), (0, [14], [], 335), (20, [13, 1], [2], 96), (0, [13], [], 354), (41, [11, 12], [], 0), (0, [12], [], -1), (22, [11, 10, 2], [2], 0), (90, [11], [], -1), (91, [11], [], 7), (20, [10, 1], [2], 73), (0, [10], [], 335), (40, [8, 9], [], 0), (0, [9], [], 6), (22, [8, 7, 2], [2], 0), (90, [8], [], 0), (91, [8], [], 6), (20, [7, 1], [2], 66), (0, [7], [], 328), (80, [4, 2, 6], [2, 1], 0), (16, [6, 5], [], 0), (0, [5], [], 0), (20, [4, 1], [1], 96), (0, [4], [], 354), (42, [2, 3], [], 0), (20, [3, 1], [1], 64), (90, [3], [], 0), (91, [3], [], 20), (5000, [0, 1, 2], [0, 1], 2), (0, [0], [], 285), (0, [1], [], 285), (90, [2], [], 0), (91, [2], [], 20)], (70, [2], [], 20))
theorem c_288_2_16 {q0 : Nat} : vOkm T0 (eP e_288 L_288 A_288 mu_288 (some q0)) 1 g_288_2_16 := vOk_inI fun ρ η f0 f1 f2 f3 f4 f5 f6 f7 f8 f9 f10 f11 f12 f13 f14 f15 f16 f17 f18 f19 f20 f21 f22 f23 f24 f25 f26 f27 f28 f29 f30 f31 f32 f33 f34 f35 f36 f37 f38 f39 f40 f41 f42 f43 => q_288_14 (q0 := q0) (n0 := ρ 2) (n1 := ρ 1) (n2 := ρ 0) (n3 := ρ 3) (n4 := ρ 4) (n5 := ρ 5) (n6 := ρ 6) (n7 := ρ 7) (n8 := ρ 8) (n9 := ρ 9) (n10 := ρ 10) (n11 := ρ 11) (n12 := ρ 12) (n13 := ρ 13) (n14 := ρ 14) (n15 := ρ 15) (n16 := ρ 16) (n17 := ρ 17) (n18 := ρ 18) (H0 := η 0) (H1 := η 1) (H2 := η 2) (H3 := η 3) f43 f42 f41 f40 f39 f38 f37 f36 f35 f34 f33 f32 f31 f30 f29 f28 f27 f26 f25 f24 f23 f22 f21 f20 f19 f18 f17 f16 f15 f14 f13 f12 f11 f10 f9 f8 f7 f6 f5 f4 f3 f2 f1 f0
theorem q_288_15 {q0 : Nat} {n0 n1 n2 n3 n4 n5 n6 n7 n8 n9 n10 n11 n12 n13 n14 n15 n16 n17 n18 : Int} {H0 H1 H2 H3 : gH} (f0 : n0 ≤ 20) (f1 : 0 ≤ n0) (f2 : n1 = 285) (f3 : n2 = 285) (f4 : (hLe T0 H0 H1 ∧ hFr s_288.2.2.2.2 H0 H1 ∧ hWt T0 H1) ∧ (Ab_288_2 n2 n1 n0 H0 H1 ∧ preb_288 n2 H0) ∧ some q0 = some (mub_288_2 n2 n1 n0 H0 H1)) (f5 : n3 ≤ 20) (f6 : 0 ≤ n3) (f7 : n3 = hV H1 (n1).toNat 64) (f8 : n0 < n3) (f9 : n4 = 354) (f10 : n4 = hV H1 (n1).toNat 96) (f11 : n5 = 0) (f12 : n6 = o32 (fun x _ => x &&& 1) n5 0) (f13 : hUpd H2 H1 n4 n0 n6) (f14 : n7 = 328) (f15 : n7 = hV H2 (n1).toNat 66) (f16 : n8 ≤ 6) (f17 : 0 ≤ n8) (f18 : n8 = hV H2 (n7).toNat (n0).toNat) (f19 : n9 = 6) (f20 : n8 = n9) (f21 : n10 = 335) (f22 : n10 = hV H2 (n1).toNat 73) (f23 : n11 ≤ 7) (f24 : (-1) ≤ n11) (f25 : n11 = hV H2 (n10).toNat (n0).toNat) (f26 : n12 = (-1)) (f27 : n11 ≠ n12) (f28 : n13 = 354) (f29 : n13 = hV H2 (n1).toNat 96) (f30 : n14 = 335) (f31 : n14 = hV H2 (n1).toNat 73) (f32 : n15 ≤ 7) (f33 : (-1) ≤ n15) (f34 : n15 = hV H2 (n14).toNat (n0).toNat) (f35 : n16 ≤ 2147483647) (f36 : (-2147483648) ≤ n16) (f37 : (hLe T0 H2 H3 ∧ hFr s_287.2.2.2.2 H2 H3 ∧ ((0 : Int) = 0 → H3.length = H2.length) ∧ hWt T0 H3) ∧ postb_287 n16 n1 n15 H2 H3) (f38 : n17 = 333) (f39 : n17 = hV H3 (n1).toNat 71) (f40 : n18 ≤ 2147483647) (f41 : 0 ≤ n18) (f42 : n18 = hV H3 (n17).toNat (n0).toNat) (f43 : n18 < n16) : n0 ≤ 19 := by
  have g4 := f4.2.1.1
  unfold Ab_288_2 at g4
  have g3 := f4.2.1.2
  unfold preb_288 at g3
  unfold postb_287 at f37
  have e1 : n3 = hV H0 285 64 := (by rw [f2] at f7; exact f7 : n3 = hV H1 285 64).trans ((f4.1.2.1.1 285 64 kF_288_285_64))
  have e3 : hV H1 328 = hV H0 328 := fRow f4.1.2.1 328 kR_288_328
  have e4 : n8 = hV H0 328 (n0).toNat := (by rw [f14] at f18; exact f18 : n8 = hV H2 328 (n0).toNat).trans (((congrFun (uRowNe f13 328 (iS (show n4 = ((354 : Nat) : Int) from f9) rfl)) _)).trans ((congrFun e3 _)))
  have e6 : hV H1 335 = hV H0 335 := fRow f4.1.2.1 335 kR_288_335
  have e7 : n11 = hV H0 335 (n0).toNat := (by rw [f21] at f25; exact f25 : n11 = hV H2 335 (n0).toNat).trans (((congrFun (uRowNe f13 335 (iS (show n4 = ((354 : Nat) : Int) from f9) rfl)) _)).trans ((congrFun e6 _)))
  have e8 : n15 = hV H0 335 (n0).toNat := (by rw [f30] at f34; exact f34 : n15 = hV H2 335 (n0).toNat).trans (((congrFun (uRowNe f13 335 (iS (show n4 = ((354 : Nat) : Int) from f9) rfl)) _)).trans ((congrFun e6 _)))
  have e11 : hV H1 333 = hV H0 333 := fRow f4.1.2.1 333 kR_288_333
  have e12 : n18 = hV H0 333 (n0).toNat := (by rw [f38] at f42; exact f42 : n18 = hV H3 333 (n0).toNat).trans (((congrFun (fRow f37.1.2.1 333 kR_287_333) _)).trans (((congrFun (uRowNe f13 333 (iS (show n4 = ((354 : Nat) : Int) from f9) rfl)) _)).trans ((congrFun e11 _))))
  have e13 : hV H1 285 64 = hV H0 285 64 := (f4.1.2.1.1 285 64 kF_288_285_64)
  have e16 : hV H1 296 = hV H0 296 := fRow f4.1.2.1 296 kR_288_296
  have e17 : hV H1 298 = hV H0 298 := fRow f4.1.2.1 298 kR_288_298
  have e18 : hV H1 300 = hV H0 300 := fRow f4.1.2.1 300 kR_288_300
  have e19 : hV H1 301 = hV H0 301 := fRow f4.1.2.1 301 kR_288_301
  have e20 : hV H1 303 = hV H0 303 := fRow f4.1.2.1 303 kR_288_303
  have e21 : hV H1 332 = hV H0 332 := fRow f4.1.2.1 332 kR_288_332
  have e22 : hV H1 341 = hV H0 341 := fRow f4.1.2.1 341 kR_288_341
  have e25 : hV H3 285 65 = hV H0 285 65 := ((f37.1.2.1.1 285 65 kF_287_285_65)).trans (((uPlace f13 285 65 (iS (show n4 = ((354 : Nat) : Int) from f9) rfl))).trans (f4.1.2.1.1 285 65 kF_288_285_65))
  have e29 : hV H3 296 = hV H0 296 := (fRow f37.1.2.1 296 kR_287_296).trans ((uRowNe f13 296 (iS (show n4 = ((354 : Nat) : Int) from f9) rfl)).trans e16)
  have e33 : hV H3 298 = hV H0 298 := (fRow f37.1.2.1 298 kR_287_298).trans ((uRowNe f13 298 (iS (show n4 = ((354 : Nat) : Int) from f9) rfl)).trans e17)
  have e37 : hV H3 300 = hV H0 300 := (fRow f37.1.2.1 300 kR_287_300).trans ((uRowNe f13 300 (iS (show n4 = ((354 : Nat) : Int) from f9) rfl)).trans e18)
  have e41 : hV H3 301 = hV H0 301 := (fRow f37.1.2.1 301 kR_287_301).trans ((uRowNe f13 301 (iS (show n4 = ((354 : Nat) : Int) from f9) rfl)).trans e19)
  have e45 : hV H3 303 = hV H0 303 := (fRow f37.1.2.1 303 kR_287_303).trans ((uRowNe f13 303 (iS (show n4 = ((354 : Nat) : Int) from f9) rfl)).trans e20)
  have e49 : hV H3 341 = hV H0 341 := (fRow f37.1.2.1 341 kR_287_341).trans ((uRowNe f13 341 (iS (show n4 = ((354 : Nat) : Int) from f9) rfl)).trans e22)
  have e50 : (0 : Int) ≤ hV H0 285 64 ∧ hV H0 285 64 ≤ 20 := bTo e13 (f4.1.2.2 285 64 _ _ kW_285_64)
  have e51 : (0 : Int) ≤ hV H0 285 65 ∧ hV H0 285 65 ≤ 2147483647 := bTo ((f4.1.2.1.1 285 65 kF_288_285_65)) (f4.1.2.2 285 65 _ _ kW_285_65)
  have y0 := g4
  have p0 := g3.1
  have p1 := g3.2.1
  have p2 := g3.2.2.1
  have p3 := g3.2.2.2
  have r0_0 := f37.2.1
  have r0_1 := f37.2.2
  try simp only [e13, e16, e17, e18, e19, e20, e3, e21, e11, e6, e22] at y0
  try simp only [e29, e33, e37, e41, e45, e49] at r0_0
  try simp only [e25] at r0_1
  clear g3
  clear g4
  clear f7 f10 f15 f18 f22 f25 f29 f31 f34 f39 f42 e3 e6 e11 e13 e16 e17 e18 e19 e20 e21 e22 e25 e29 e33 e37 e41 e45 e49
  clear f4 f37
  subst e1
  subst e4
  subst e7
  subst e8
  subst e12
  have b12 := b1_in f12 (by omega) (by omega)
  try have sm := SOm p0 (s := (n0).toNat) (by omega) (by omega)
  omega
def g_288_2_17 : vG := ([(44, [16, 18], [], 0), (22, [18, 17, 2], [3], 0), (90, [18], [], 0), (91, [18], [], 2147483647), (20, [17, 1], [3], 71), (0, [17], [], 333), (1287, [16, 1, 15], [2, 3], 0), (90, [16], [], -2147483648), (91, [16], [], 2147483647), (22, [15, 14, 2], [2], 0), (90, [15], [], -1), (91, [15], [], 7), (20, [14, 1], [2], 73), (0, [14], [], 335), (20, [13, 1], [2], 96), (0, [13], [], 354), (41, [11, 12], [], 0), (0, [12], [], -1), (22, [11, 10, 2], [2], 0), (90, [11], [], -1), (91, [11], [], 7), (20, [10, 1], [2], 73), (0, [10], [], 335), (40, [8, 9], [], 0), (0, [9], [], 6), (22, [8, 7, 2], [2], 0), (90, [8], [], 0), (91, [8], [], 6), (20, [7, 1], [2], 66), (0, [7], [], 328), (80, [4, 2, 6], [2, 1], 0), (16, [6, 5], [], 0), (0, [5], [], 0), (20, [4, 1], [1], 96), (0, [4], [], 354), (42, [2, 3], [], 0), (20, [3, 1], [1], 64), (90, [3], [], 0), (91, [3], [], 20), (5000, [0, 1, 2], [0, 1], 2), (0, [0], [], 285), (0, [1], [], 285), (90, [2], [], 0), (91, [2], [], 20)], (91, [2], [], 19))
theorem c_288_2_17 {q0 : Nat} : vOkm T0 (eP e_288 L_288 A_288 mu_288 (some q0)) 1 g_288_2_17 := vOk_inI fun ρ η f0 f1 f2 f3 f4 f5 f6 f7 f8 f9 f10 f11 f12 f13 f14 f15 f16 f17 f18 f19 f20 f21 f22 f23 f24 f25 f26 f27 f28 f29 f30 f31 f32 f33 f34 f35 f36 f37 f38 f39 f40 f41 f42 f43 => q_288_15 (q0 := q0) (n0 := ρ 2) (n1 := ρ 1) (n2 := ρ 0) (n3 := ρ 3) (n4 := ρ 4) (n5 := ρ 5) (n6 := ρ 6) (n7 := ρ 7) (n8 := ρ 8) (n9 := ρ 9) (n10 := ρ 10) (n11 := ρ 11) (n12 := ρ 12) (n13 := ρ 13) (n14 := ρ 14) (n15 := ρ 15) (n16 := ρ 16) (n17 := ρ 17) (n18 := ρ 18) (H0 := η 0) (H1 := η 1) (H2 := η 2) (H3 := η 3) f43 f42 f41 f40 f39 f38 f37 f36 f35 f34 f33 f32 f31 f30 f29 f28 f27 f26 f25 f24 f23 f22 f21 f20 f19 f18 f17 f16 f15 f14 f13 f12 f11 f10 f9 f8 f7 f6 f5 f4 f3 f2 f1 f0
theorem q_288_16 {q0 : Nat} {n0 n1 n2 n3 n4 n5 n6 n7 n8 n9 n10 n11 n12 n13 n14 n15 n16 n17 n18 n19 n20 : Int} {H0 H1 H2 H3 H4 : gH} (f0 : n0 ≤ 20) (f1 : 0 ≤ n0) (f2 : n1 = 285) (f3 : n2 = 285) (f4 : (hLe T0 H0 H1 ∧ hFr s_288.2.2.2.2 H0 H1 ∧ hWt T0 H1) ∧ (Ab_288_2 n2 n1 n0 H0 H1 ∧ preb_288 n2 H0) ∧ some q0 = some (mub_288_2 n2 n1 n0 H0 H1)) (f5 : n3 ≤ 20) (f6 : 0 ≤ n3) (f7 : n3 = hV H1 (n1).toNat 64) (f8 : n0 < n3) (f9 : n4 = 354) (f10 : n4 = hV H1 (n1).toNat 96) (f11 : n5 = 0) (f12 : n6 = o32 (fun x _ => x &&& 1) n5 0) (f13 : hUpd H2 H1 n4 n0 n6) (f14 : n7 = 328) (f15 : n7 = hV H2 (n1).toNat 66) (f16 : n8 ≤ 6) (f17 : 0 ≤ n8) (f18 : n8 = hV H2 (n7).toNat (n0).toNat) (f19 : n9 = 6) (f20 : n8 = n9) (f21 : n10 = 335) (f22 : n10 = hV H2 (n1).toNat 73) (f23 : n11 ≤ 7) (f24 : (-1) ≤ n11) (f25 : n11 = hV H2 (n10).toNat (n0).toNat) (f26 : n12 = (-1)) (f27 : n11 ≠ n12) (f28 : n13 = 354) (f29 : n13 = hV H2 (n1).toNat 96) (f30 : n14 = 335) (f31 : n14 = hV H2 (n1).toNat 73) (f32 : n15 ≤ 7) (f33 : (-1) ≤ n15) (f34 : n15 = hV H2 (n14).toNat (n0).toNat) (f35 : n16 ≤ 2147483647) (f36 : (-2147483648) ≤ n16) (f37 : (hLe T0 H2 H3 ∧ hFr s_287.2.2.2.2 H2 H3 ∧ ((0 : Int) = 0 → H3.length = H2.length) ∧ hWt T0 H3) ∧ postb_287 n16 n1 n15 H2 H3) (f38 : n17 = 333) (f39 : n17 = hV H3 (n1).toNat 71) (f40 : n18 ≤ 2147483647) (f41 : 0 ≤ n18) (f42 : n18 = hV H3 (n17).toNat (n0).toNat) (f43 : n18 < n16) (f44 : n19 = 1) (f45 : n20 = o32 (fun x _ => x &&& 1) n19 0) (f46 : hUpd H4 H3 n13 n0 n20) : preb_280 n1 n0 H4 := by
  have g4 := f4.2.1.1
  unfold Ab_288_2 at g4
  have g3 := f4.2.1.2
  unfold preb_288 at g3
  unfold postb_287 at f37
  unfold preb_280
  have e1 : n3 = hV H0 285 64 := (by rw [f2] at f7; exact f7 : n3 = hV H1 285 64).trans ((f4.1.2.1.1 285 64 kF_288_285_64))
  have e3 : hV H1 328 = hV H0 328 := fRow f4.1.2.1 328 kR_288_328
  have e4 : n8 = hV H0 328 (n0).toNat := (by rw [f14] at f18; exact f18 : n8 = hV H2 328 (n0).toNat).trans (((congrFun (uRowNe f13 328 (iS (show n4 = ((354 : Nat) : Int) from f9) rfl)) _)).trans ((congrFun e3 _)))
  have e6 : hV H1 335 = hV H0 335 := fRow f4.1.2.1 335 kR_288_335
  have e7 : n11 = hV H0 335 (n0).toNat := (by rw [f21] at f25; exact f25 : n11 = hV H2 335 (n0).toNat).trans (((congrFun (uRowNe f13 335 (iS (show n4 = ((354 : Nat) : Int) from f9) rfl)) _)).trans ((congrFun e6 _)))
  have e8 : n15 = hV H0 335 (n0).toNat := (by rw [f30] at f34; exact f34 : n15 = hV H2 335 (n0).toNat).trans (((congrFun (uRowNe f13 335 (iS (show n4 = ((354 : Nat) : Int) from f9) rfl)) _)).trans ((congrFun e6 _)))
  have e11 : hV H1 333 = hV H0 333 := fRow f4.1.2.1 333 kR_288_333
  have e12 : n18 = hV H0 333 (n0).toNat := (by rw [f38] at f42; exact f42 : n18 = hV H3 333 (n0).toNat).trans (((congrFun (fRow f37.1.2.1 333 kR_287_333) _)).trans (((congrFun (uRowNe f13 333 (iS (show n4 = ((354 : Nat) : Int) from f9) rfl)) _)).trans ((congrFun e11 _))))
  have e13 : hV H1 285 64 = hV H0 285 64 := (f4.1.2.1.1 285 64 kF_288_285_64)
  have e16 : hV H1 296 = hV H0 296 := fRow f4.1.2.1 296 kR_288_296
  have e17 : hV H1 298 = hV H0 298 := fRow f4.1.2.1 298 kR_288_298
  have e18 : hV H1 300 = hV H0 300 := fRow f4.1.2.1 300 kR_288_300
  have e19 : hV H1 301 = hV H0 301 := fRow f4.1.2.1 301 kR_288_301
  have e20 : hV H1 303 = hV H0 303 := fRow f4.1.2.1 303 kR_288_303
  have e21 : hV H1 332 = hV H0 332 := fRow f4.1.2.1 332 kR_288_332
  have e22 : hV H1 341 = hV H0 341 := fRow f4.1.2.1 341 kR_288_341
  have e25 : hV H3 285 65 = hV H0 285 65 := ((f37.1.2.1.1 285 65 kF_287_285_65)).trans (((uPlace f13 285 65 (iS (show n4 = ((354 : Nat) : Int) from f9) rfl))).trans (f4.1.2.1.1 285 65 kF_288_285_65))
  have e29 : hV H3 296 = hV H0 296 := (fRow f37.1.2.1 296 kR_287_296).trans ((uRowNe f13 296 (iS (show n4 = ((354 : Nat) : Int) from f9) rfl)).trans e16)
  have e33 : hV H3 298 = hV H0 298 := (fRow f37.1.2.1 298 kR_287_298).trans ((uRowNe f13 298 (iS (show n4 = ((354 : Nat) : Int) from f9) rfl)).trans e17)
  have e37 : hV H3 300 = hV H0 300 := (fRow f37.1.2.1 300 kR_287_300).trans ((uRowNe f13 300 (iS (show n4 = ((354 : Nat) : Int) from f9) rfl)).trans e18)
  have e41 : hV H3 301 = hV H0 301 := (fRow f37.1.2.1 301 kR_287_301).trans ((uRowNe f13 301 (iS (show n4 = ((354 : Nat) : Int) from f9) rfl)).trans e19)
  have e45 : hV H3 303 = hV H0 303 := (fRow f37.1.2.1 303 kR_287_303).trans ((uRowNe f13 303 (iS (show n4 = ((354 : Nat) : Int) from f9) rfl)).trans e20)
  have e49 : hV H3 341 = hV H0 341 := (fRow f37.1.2.1 341 kR_287_341).trans ((uRowNe f13 341 (iS (show n4 = ((354 : Nat) : Int) from f9) rfl)).trans e22)
  have e53 : hV H4 285 64 = hV H0 285 64 := ((uPlace f46 285 64 (iS (show n13 = ((354 : Nat) : Int) from f28) rfl))).trans (((f37.1.2.1.1 285 64 kF_287_285_64)).trans (((uPlace f13 285 64 (iS (show n4 = ((354 : Nat) : Int) from f9) rfl))).trans (f4.1.2.1.1 285 64 kF_288_285_64)))
  have e54 : PG H1 = PG H0 := PG_fr f4.1.2.1 (by decide +kernel)
  have e55 : PG H2 = PG H1 := PG_upR f13 (show n4 = ((354 : Nat) : Int) from f9) (by decide)
  have e56 : PG H2 = PG H0 := e55.trans e54
  have e57 : PG H3 = PG H2 := PG_fr f37.1.2.1 (by decide +kernel)
  have e58 : PG H3 = PG H0 := e57.trans e56
  have e59 : PG H4 = PG H3 := PG_upR f46 (show n13 = ((354 : Nat) : Int) from f28) (by decide)
  have e60 : PG H4 = PG H0 := e59.trans e58
  have e61 : SO H1 = SO H0 := SO_fr f4.1.2.1 (by decide +kernel)
  have e62 : SO H2 = SO H1 := SO_upR f13 (show n4 = ((354 : Nat) : Int) from f9) (by decide)
  have e63 : SO H2 = SO H0 := e62.trans e61
  have e64 : SO H3 = SO H2 := SO_fr f37.1.2.1 (by decide +kernel)
  have e65 : SO H3 = SO H0 := e64.trans e63
  have e66 : SO H4 = SO H3 := SO_upR f46 (show n13 = ((354 : Nat) : Int) from f28) (by decide)
  have e67 : SO H4 = SO H0 := e66.trans e65
  have e68 : (0 : Int) ≤ hV H0 285 64 ∧ hV H0 285 64 ≤ 20 := bTo e13 (f4.1.2.2 285 64 _ _ kW_285_64)
  have e69 : (0 : Int) ≤ hV H0 285 65 ∧ hV H0 285 65 ≤ 2147483647 := bTo ((f4.1.2.1.1 285 65 kF_288_285_65)) (f4.1.2.2 285 65 _ _ kW_285_65)
  try simp only [e53, e60, e67]
  have y0 := g4
  have p0 := g3.1
  have p1 := g3.2.1
  have p2 := g3.2.2.1
  have p3 := g3.2.2.2
  have r0_0 := f37.2.1
  have r0_1 := f37.2.2
  try simp only [e13, e16, e17, e18, e19, e20, e3, e21, e11, e6, e22] at y0
  try simp only [e29, e33, e37, e41, e45, e49] at r0_0
  try simp only [e25] at r0_1
  clear g3
  clear g4
  clear f7 f10 f15 f18 f22 f25 f29 f31 f34 f39 f42 e3 e6 e11 e13 e16 e17 e18 e19 e20 e21 e22 e25 e29 e33 e37 e41 e45 e49 e53 e54 e55 e56 e57 e58 e59 e60 e61 e62 e63 e64 e65 e66 e67
  clear f4 f37
  subst e1
  subst e4
  subst e7
  subst e8
  subst e12
  have b12 := b1_in f12 (by omega) (by omega)
  have b45 := b1_in f45 (by omega) (by omega)
  try have sm := SOm p0 (s := (n0).toNat) (by omega) (by omega)
  refine ⟨?_, ?_, ?_⟩ <;> first | assumption | omega | trivial
def g_288_2_18 : vG := ([(80, [13, 2, 20], [4, 3], 0), (16, [20, 19], [], 0), (0, [19], [], 1), (44, [16, 18], [], 0), (22, [18, 17, 2], [3], 0), (90, [18], [], 0), (91, [18], [], 2147483647), (20, [17, 1], [3], 71), (0, [17], [], 333), (1287, [16, 1, 15], [2, 3], 0), (90, [16], [], -2147483648), (91, [16], [], 2147483647), (22, [15, 14, 2], [2], 0), (90, [15], [], -1), (91, [15], [], 7), (20, [14, 1], [2], 73), (0, [14], [], 335), (20, [13, 1], [2], 96), (0, [13], [], 354), (41, [11, 12], [], 0), (0, [12], [], -1), (22, [11, 10, 2], [2], 0), (90, [11], [], -1), (91, [11], [], 7), (20, [10, 1], [2], 73), (0, [10], [], 335), (40, [8, 9], [], 0), (0, [9], [], 6), (22, [8, 7, 2], [2], 0), (90, [8], [], 0), (91, [8], [], 6), (20, [7, 1], [2], 66), (0, [7], [], 328), (80, [4, 2, 6], [2, 1], 0), (16, [6, 5], [], 0), (0, [5], [], 0), (20, [4, 1], [1], 96), (0, [4], [], 354), (42, [2, 3], [], 0), (20, [3, 1], [1], 64), (90, [3], [], 0), (91, [3], [], 20), (5000, [0, 1, 2], [0, 1], 2), (0, [0], [], 285), (0, [1], [], 285), (90, [2], [], 0), (91, [2], [], 20)], (2280, [1, 2], [4], 0))
theorem c_288_2_18 {q0 : Nat} : vOkm T0 (eP e_288 L_288 A_288 mu_288 (some q0)) 1 g_288_2_18 := vOk_inI fun ρ η f0 f1 f2 f3 f4 f5 f6 f7 f8 f9 f10 f11 f12 f13 f14 f15 f16 f17 f18 f19 f20 f21 f22 f23 f24 f25 f26 f27 f28 f29 f30 f31 f32 f33 f34 f35 f36 f37 f38 f39 f40 f41 f42 f43 f44 f45 f46 => q_288_16 (q0 := q0) (n0 := ρ 2) (n1 := ρ 1) (n2 := ρ 0) (n3 := ρ 3) (n4 := ρ 4) (n5 := ρ 5) (n6 := ρ 6) (n7 := ρ 7) (n8 := ρ 8) (n9 := ρ 9) (n10 := ρ 10) (n11 := ρ 11) (n12 := ρ 12) (n13 := ρ 13) (n14 := ρ 14) (n15 := ρ 15) (n16 := ρ 16) (n17 := ρ 17) (n18 := ρ 18) (n19 := ρ 19) (n20 := ρ 20) (H0 := η 0) (H1 := η 1) (H2 := η 2) (H3 := η 3) (H4 := η 4) f46 f45 f44 f43 f42 f41 f40 f39 f38 f37 f36 f35 f34 f33 f32 f31 f30 f29 f28 f27 f26 f25 f24 f23 f22 f21 f20 f19 f18 f17 f16 f15 f14 f13 f12 f11 f10 f9 f8 f7 f6 f5 f4 f3 f2 f1 f0
theorem q_288_17 {q0 : Nat} {n0 n1 n2 n3 n4 n5 n6 n7 n8 n9 n10 n11 n12 n13 n14 n15 n16 n17 n18 n19 n20 n21 : Int} {H0 H1 H2 H3 H4 H5 : gH} (f0 : n0 ≤ 20) (f1 : 0 ≤ n0) (f2 : n1 = 285) (f3 : n2 = 285) (f4 : (hLe T0 H0 H1 ∧ hFr s_288.2.2.2.2 H0 H1 ∧ hWt T0 H1) ∧ (Ab_288_2 n2 n1 n0 H0 H1 ∧ preb_288 n2 H0) ∧ some q0 = some (mub_288_2 n2 n1 n0 H0 H1)) (f5 : n3 ≤ 20) (f6 : 0 ≤ n3) (f7 : n3 = hV H1 (n1).toNat 64) (f8 : n0 < n3) (f9 : n4 = 354) (f10 : n4 = hV H1 (n1).toNat 96) (f11 : n5 = 0) (f12 : n6 = o32 (fun x _ => x &&& 1) n5 0) (f13 : hUpd H2 H1 n4 n0 n6) (f14 : n7 = 328) (f15 : n7 = hV H2 (n1).toNat 66) (f16 : n8 ≤ 6) (f17 : 0 ≤ n8) (f18 : n8 = hV H2 (n7).toNat (n0).toNat) (f19 : n9 = 6) (f20 : n8 = n9) (f21 : n10 = 335) (f22 : n10 = hV H2 (n1).toNat 73) (f23 : n11 ≤ 7) (f24 : (-1) ≤ n11) (f25 : n11 = hV H2 (n10).toNat (n0).toNat) (f26 : n12 = (-1)) (f27 : n11 ≠ n12) (f28 : n13 = 354) (f29 : n13 = hV H2 (n1).toNat 96) (f30 : n14 = 335) (f31 : n14 = hV H2 (n1).toNat 73) (f32 : n15 ≤ 7) (f33 : (-1) ≤ n15) (f34 : n15 = hV H2 (n14).toNat (n0).toNat) (f35 : n16 ≤ 2147483647) (f36 : (-2147483648) ≤ n16) (f37 : (hLe T0 H2 H3 ∧ hFr s_287.2.2.2.2 H2 H3 ∧ ((0 : Int) = 0 → H3.length = H2.length) ∧ hWt T0 H3) ∧ postb_287 n16 n1 n15 H2 H3) (f38 : n17 = 333) (f39 : n17 = hV H3 (n1).toNat 71) (f40 : n18 ≤ 2147483647) (f41 : 0 ≤ n18) (f42 : n18 = hV H3 (n17).toNat (n0).toNat) (f43 : n18 < n16) (f44 : n19 = 1) (f45 : n20 = o32 (fun x _ => x &&& 1) n19 0) (f46 : hUpd H4 H3 n13 n0 n20) (f47 : n21 ≤ 2147483647) (f48 : (-2147483648) ≤ n21) (f49 : (hLe T0 H4 H5 ∧ hFr s_280.2.2.2.2 H4 H5 ∧ ((0 : Int) = 0 → H5.length = H4.length) ∧ hWt T0 H5) ∧ postb_280 n21 n1 n0 H4 H5) : n0 ≤ 19 := by
  have g4 := f4.2.1.1
  unfold Ab_288_2 at g4
  have g3 := f4.2.1.2
  unfold preb_288 at g3
  unfold postb_287 at f37
  unfold postb_280 at f49
  have e1 : n3 = hV H0 285 64 := (by rw [f2] at f7; exact f7 : n3 = hV H1 285 64).trans ((f4.1.2.1.1 285 64 kF_288_285_64))
  have e3 : hV H1 328 = hV H0 328 := fRow f4.1.2.1 328 kR_288_328
  have e4 : n8 = hV H0 328 (n0).toNat := (by rw [f14] at f18; exact f18 : n8 = hV H2 328 (n0).toNat).trans (((congrFun (uRowNe f13 328 (iS (show n4 = ((354 : Nat) : Int) from f9) rfl)) _)).trans ((congrFun e3 _)))
  have e6 : hV H1 335 = hV H0 335 := fRow f4.1.2.1 335 kR_288_335
  have e7 : n11 = hV H0 335 (n0).toNat := (by rw [f21] at f25; exact f25 : n11 = hV H2 335 (n0).toNat).trans (((congrFun (uRowNe f13 335 (iS (show n4 = ((354 : Nat) : Int) from f9) rfl)) _)).trans ((congrFun e6 _)))
  have e8 : n15 = hV H0 335 (n0).toNat := (by rw [f30] at f34; exact f34 : n15 = hV H2 335 (n0).toNat).trans (((congrFun (uRowNe f13 335 (iS (show n4 = ((354 : Nat) : Int) from f9) rfl)) _)).trans ((congrFun e6 _)))
  have e11 : hV H1 333 = hV H0 333 := fRow f4.1.2.1 333 kR_288_333
  have e12 : n18 = hV H0 333 (n0).toNat := (by rw [f38] at f42; exact f42 : n18 = hV H3 333 (n0).toNat).trans (((congrFun (fRow f37.1.2.1 333 kR_287_333) _)).trans (((congrFun (uRowNe f13 333 (iS (show n4 = ((354 : Nat) : Int) from f9) rfl)) _)).trans ((congrFun e11 _))))
  have e13 : hV H1 285 64 = hV H0 285 64 := (f4.1.2.1.1 285 64 kF_288_285_64)
  have e16 : hV H1 296 = hV H0 296 := fRow f4.1.2.1 296 kR_288_296
  have e17 : hV H1 298 = hV H0 298 := fRow f4.1.2.1 298 kR_288_298
  have e18 : hV H1 300 = hV H0 300 := fRow f4.1.2.1 300 kR_288_300
  have e19 : hV H1 301 = hV H0 301 := fRow f4.1.2.1 301 kR_288_301
  have e20 : hV H1 303 = hV H0 303 := fRow f4.1.2.1 303 kR_288_303
  have e21 : hV H1 332 = hV H0 332 := fRow f4.1.2.1 332 kR_288_332
  have e22 : hV H1 341 = hV H0 341 := fRow f4.1.2.1 341 kR_288_341
  have e25 : hV H3 285 65 = hV H0 285 65 := ((f37.1.2.1.1 285 65 kF_287_285_65)).trans (((uPlace f13 285 65 (iS (show n4 = ((354 : Nat) : Int) from f9) rfl))).trans (f4.1.2.1.1 285 65 kF_288_285_65))
  have e29 : hV H3 296 = hV H0 296 := (fRow f37.1.2.1 296 kR_287_296).trans ((uRowNe f13 296 (iS (show n4 = ((354 : Nat) : Int) from f9) rfl)).trans e16)
  have e33 : hV H3 298 = hV H0 298 := (fRow f37.1.2.1 298 kR_287_298).trans ((uRowNe f13 298 (iS (show n4 = ((354 : Nat) : Int) from f9) rfl)).trans e17)
  have e37 : hV H3 300 = hV H0 300 := (fRow f37.1.2.1 300 kR_287_300).trans ((uRowNe f13 300 (iS (show n4 = ((354 : Nat) : Int) from f9) rfl)).trans e18)
  have e41 : hV H3 301 = hV H0 301 := (fRow f37.1.2.1 301 kR_287_301).trans ((uRowNe f13 301 (iS (show n4 = ((354 : Nat) : Int) from f9) rfl)).trans e19)
  have e45 : hV H3 303 = hV H0 303 := (fRow f37.1.2.1 303 kR_287_303).trans ((uRowNe f13 303 (iS (show n4 = ((354 : Nat) : Int) from f9) rfl)).trans e20)
  have e49 : hV H3 341 = hV H0 341 := (fRow f37.1.2.1 341 kR_287_341).trans ((uRowNe f13 341 (iS (show n4 = ((354 : Nat) : Int) from f9) rfl)).trans e22)
  have e54 : hV H5 285 64 = hV H0 285 64 := ((f49.1.2.1.1 285 64 kF_280_285_64)).trans (((uPlace f46 285 64 (iS (show n13 = ((354 : Nat) : Int) from f28) rfl))).trans (((f37.1.2.1.1 285 64 kF_287_285_64)).trans (((uPlace f13 285 64 (iS (show n4 = ((354 : Nat) : Int) from f9) rfl))).trans (f4.1.2.1.1 285 64 kF_288_285_64))))
  have e58 : hV H5 296 = hV H0 296 := (fRow f49.1.2.1 296 kR_280_296).trans ((uRowNe f46 296 (iS (show n13 = ((354 : Nat) : Int) from f28) rfl)).trans e29)
  have e62 : hV H5 298 = hV H0 298 := (fRow f49.1.2.1 298 kR_280_298).trans ((uRowNe f46 298 (iS (show n13 = ((354 : Nat) : Int) from f28) rfl)).trans e33)
  have e66 : hV H5 300 = hV H0 300 := (fRow f49.1.2.1 300 kR_280_300).trans ((uRowNe f46 300 (iS (show n13 = ((354 : Nat) : Int) from f28) rfl)).trans e37)
  have e73 : hV H5 328 = hV H0 328 := (fRow f49.1.2.1 328 kR_280_328).trans ((uRowNe f46 328 (iS (show n13 = ((354 : Nat) : Int) from f28) rfl)).trans ((fRow f37.1.2.1 328 kR_287_328).trans ((uRowNe f13 328 (iS (show n4 = ((354 : Nat) : Int) from f9) rfl)).trans e3)))
  have e81 : hV H5 332 = hV H0 332 := (fRow f49.1.2.1 332 kR_280_332).trans ((uRowNe f46 332 (iS (show n13 = ((354 : Nat) : Int) from f28) rfl)).trans ((fRow f37.1.2.1 332 kR_287_332).trans ((uRowNe f13 332 (iS (show n4 = ((354 : Nat) : Int) from f9) rfl)).trans e21)))
  have e88 : hV H5 335 = hV H0 335 := (fRow f49.1.2.1 335 kR_280_335).trans ((uRowNe f46 335 (iS (show n13 = ((354 : Nat) : Int) from f28) rfl)).trans ((fRow f37.1.2.1 335 kR_287_335).trans ((uRowNe f13 335 (iS (show n4 = ((354 : Nat) : Int) from f9) rfl)).trans e6)))
  have e89 : (0 : Int) ≤ hV H0 285 64 ∧ hV H0 285 64 ≤ 20 := bTo e13 (f4.1.2.2 285 64 _ _ kW_285_64)
  have e90 : (0 : Int) ≤ hV H0 285 65 ∧ hV H0 285 65 ≤ 2147483647 := bTo ((f4.1.2.1.1 285 65 kF_288_285_65)) (f4.1.2.2 285 65 _ _ kW_285_65)
  have y0 := g4
  have p0 := g3.1
  have p1 := g3.2.1
  have p2 := g3.2.2.1
  have p3 := g3.2.2.2
  have r0_0 := f37.2.1
  have r0_1 := f37.2.2
  have r1_0 := f49.2
  try simp only [e13, e16, e17, e18, e19, e20, e3, e21, e11, e6, e22] at y0
  try simp only [e29, e33, e37, e41, e45, e49] at r0_0
  try simp only [e25] at r0_1
  try simp only [e54, e58, e62, e66, e73, e81, e88] at r1_0
  clear g3
  clear g4
  clear f7 f10 f15 f18 f22 f25 f29 f31 f34 f39 f42 e3 e6 e11 e13 e16 e17 e18 e19 e20 e21 e22 e25 e29 e33 e37 e41 e45 e49 e54 e58 e62 e66 e73 e81 e88
  clear f4 f37 f49
  subst e1
  subst e4
  subst e7
  subst e8
  subst e12
  have b12 := b1_in f12 (by omega) (by omega)
  have b45 := b1_in f45 (by omega) (by omega)
  try have sm := SOm p0 (s := (n0).toNat) (by omega) (by omega)
  omega
def g_288_2_19 : vG := ([(1280, [21, 1, 2], [4, 5], 0), (90, [21], [], -2147483648), (91, [21], [], 2147483647), (80, [13, 2, 20], [4, 3], 0), (16, [20, 19], [], 0), (0, [19], [], 1), (44, [16, 18], [], 0), (22, [18, 17, 2], [3], 0), (90, [18], [], 0), (91, [18], [], 2147483647), (20, [17, 1], [3], 71), (0, [17], [], 333), (1287, [16, 1, 15], [2, 3], 0), (90, [16], [], -2147483648), (91, [16], [], 2147483647), (22, [15, 14, 2], [2], 0), (90, [15], [], -1), (91, [15], [], 7), (20, [14, 1], [2], 73), (0, [14], [], 335), (20, [13, 1], [2], 96), (0, [13], [], 354), (41, [11, 12], [], 0), (0, [12], [], -1), (22, [11, 10, 2], [2], 0), (90, [11], [], -1), (91, [11], [], 7), (20, [10, 1], [2], 73), (0, [10], [], 335), (40, [8, 9], [], 0), (0, [9], [], 6), (22, [8, 7, 2], [2], 0), (90, [8], [], 0), (91, [8], [], 6), (20, [7, 1], [2], 66), (0, [7], [], 328), (80, [4, 2, 6], [2, 1], 0), (16, [6, 5], [], 0), (0, [5], [], 0), (20, [4, 1], [1], 96), (0, [4], [], 354), (42, [2, 3], [], 0), (20, [3, 1], [1], 64), (90, [3], [], 0), (91, [3], [], 20), (5000, [0, 1, 2], [0, 1], 2), (0, [0], [], 285), (0, [1], [], 285), (90, [2], [], 0), (91, [2], [], 20)], (91, [2], [], 19))
theorem c_288_2_19 {q0 : Nat} : vOkm T0 (eP e_288 L_288 A_288 mu_288 (some q0)) 1 g_288_2_19 := vOk_inI fun ρ η f0 f1 f2 f3 f4 f5 f6 f7 f8 f9 f10 f11 f12 f13 f14 f15 f16 f17 f18 f19 f20 f21 f22 f23 f24 f25 f26 f27 f28 f29 f30 f31 f32 f33 f34 f35 f36 f37 f38 f39 f40 f41 f42 f43 f44 f45 f46 f47 f48 f49 => q_288_17 (q0 := q0) (n0 := ρ 2) (n1 := ρ 1) (n2 := ρ 0) (n3 := ρ 3) (n4 := ρ 4) (n5 := ρ 5) (n6 := ρ 6) (n7 := ρ 7) (n8 := ρ 8) (n9 := ρ 9) (n10 := ρ 10) (n11 := ρ 11) (n12 := ρ 12) (n13 := ρ 13) (n14 := ρ 14) (n15 := ρ 15) (n16 := ρ 16) (n17 := ρ 17) (n18 := ρ 18) (n19 := ρ 19) (n20 := ρ 20) (n21 := ρ 21) (H0 := η 0) (H1 := η 1) (H2 := η 2) (H3 := η 3) (H4 := η 4) (H5 := η 5) f49 f48 f47 f46 f45 f44 f43 f42 f41 f40 f39 f38 f37 f36 f35 f34 f33 f32 f31 f30 f29 f28 f27 f26 f25 f24 f23 f22 f21 f20 f19 f18 f17 f16 f15 f14 f13 f12 f11 f10 f9 f8 f7 f6 f5 f4 f3 f2 f1 f0
theorem q_288_18 {q0 : Nat} {n0 n1 n2 n3 n4 n5 n6 n7 n8 n9 n10 n11 n12 n13 n14 n15 n16 n17 n18 n19 n20 n21 n22 : Int} {H0 H1 H2 H3 H4 H5 : gH} (f0 : n0 ≤ 20) (f1 : 0 ≤ n0) (f2 : n1 = 285) (f3 : n2 = 285) (f4 : (hLe T0 H0 H1 ∧ hFr s_288.2.2.2.2 H0 H1 ∧ hWt T0 H1) ∧ (Ab_288_2 n2 n1 n0 H0 H1 ∧ preb_288 n2 H0) ∧ some q0 = some (mub_288_2 n2 n1 n0 H0 H1)) (f5 : n3 ≤ 20) (f6 : 0 ≤ n3) (f7 : n3 = hV H1 (n1).toNat 64) (f8 : n0 < n3) (f9 : n4 = 354) (f10 : n4 = hV H1 (n1).toNat 96) (f11 : n5 = 0) (f12 : n6 = o32 (fun x _ => x &&& 1) n5 0) (f13 : hUpd H2 H1 n4 n0 n6) (f14 : n7 = 328) (f15 : n7 = hV H2 (n1).toNat 66) (f16 : n8 ≤ 6) (f17 : 0 ≤ n8) (f18 : n8 = hV H2 (n7).toNat (n0).toNat) (f19 : n9 = 6) (f20 : n8 = n9) (f21 : n10 = 335) (f22 : n10 = hV H2 (n1).toNat 73) (f23 : n11 ≤ 7) (f24 : (-1) ≤ n11) (f25 : n11 = hV H2 (n10).toNat (n0).toNat) (f26 : n12 = (-1)) (f27 : n11 ≠ n12) (f28 : n13 = 354) (f29 : n13 = hV H2 (n1).toNat 96) (f30 : n14 = 335) (f31 : n14 = hV H2 (n1).toNat 73) (f32 : n15 ≤ 7) (f33 : (-1) ≤ n15) (f34 : n15 = hV H2 (n14).toNat (n0).toNat) (f35 : n16 ≤ 2147483647) (f36 : (-2147483648) ≤ n16) (f37 : (hLe T0 H2 H3 ∧ hFr s_287.2.2.2.2 H2 H3 ∧ ((0 : Int) = 0 → H3.length = H2.length) ∧ hWt T0 H3) ∧ postb_287 n16 n1 n15 H2 H3) (f38 : n17 = 333) (f39 : n17 = hV H3 (n1).toNat 71) (f40 : n18 ≤ 2147483647) (f41 : 0 ≤ n18) (f42 : n18 = hV H3 (n17).toNat (n0).toNat) (f43 : n18 < n16) (f44 : n19 = 1) (f45 : n20 = o32 (fun x _ => x &&& 1) n19 0) (f46 : hUpd H4 H3 n13 n0 n20) (f47 : n21 ≤ 2147483647) (f48 : (-2147483648) ≤ n21) (f49 : (hLe T0 H4 H5 ∧ hFr s_280.2.2.2.2 H4 H5 ∧ ((0 : Int) = 0 → H5.length = H4.length) ∧ hWt T0 H5) ∧ postb_280 n21 n1 n0 H4 H5) (f50 : n22 = 0) : Ab_288_79 n2 n1 n0 n21 n22 H0 H5 ∧ ∀ q, some q0 = some q → mub_288_79 n2 n1 n0 n21 n22 H0 H5 < q := by
  have g4 := f4.2.1.1
  unfold Ab_288_2 at g4
  have g3 := f4.2.1.2
  unfold preb_288 at g3
  have g5 := Option.some.inj f4.2.2
  unfold mub_288_2 at g5
  unfold postb_287 at f37
  unfold postb_280 at f49
  unfold Ab_288_79
  unfold mub_288_79
  have e1 : n3 = hV H0 285 64 := (by rw [f2] at f7; exact f7 : n3 = hV H1 285 64).trans ((f4.1.2.1.1 285 64 kF_288_285_64))
  have e3 : hV H1 328 = hV H0 328 := fRow f4.1.2.1 328 kR_288_328
  have e4 : n8 = hV H0 328 (n0).toNat := (by rw [f14] at f18; exact f18 : n8 = hV H2 328 (n0).toNat).trans (((congrFun (uRowNe f13 328 (iS (show n4 = ((354 : Nat) : Int) from f9) rfl)) _)).trans ((congrFun e3 _)))
  have e6 : hV H1 335 = hV H0 335 := fRow f4.1.2.1 335 kR_288_335
  have e7 : n11 = hV H0 335 (n0).toNat := (by rw [f21] at f25; exact f25 : n11 = hV H2 335 (n0).toNat).trans (((congrFun (uRowNe f13 335 (iS (show n4 = ((354 : Nat) : Int) from f9) rfl)) _)).trans ((congrFun e6 _)))
  have e8 : n15 = hV H0 335 (n0).toNat := (by rw [f30] at f34; exact f34 : n15 = hV H2 335 (n0).toNat).trans (((congrFun (uRowNe f13 335 (iS (show n4 = ((354 : Nat) : Int) from f9) rfl)) _)).trans ((congrFun e6 _)))
  have e11 : hV H1 333 = hV H0 333 := fRow f4.1.2.1 333 kR_288_333
  have e12 : n18 = hV H0 333 (n0).toNat := (by rw [f38] at f42; exact f42 : n18 = hV H3 333 (n0).toNat).trans (((congrFun (fRow f37.1.2.1 333 kR_287_333) _)).trans (((congrFun (uRowNe f13 333 (iS (show n4 = ((354 : Nat) : Int) from f9) rfl)) _)).trans ((congrFun e11 _))))
  have e13 : hV H1 285 64 = hV H0 285 64 := (f4.1.2.1.1 285 64 kF_288_285_64)
  have e16 : hV H1 296 = hV H0 296 := fRow f4.1.2.1 296 kR_288_296
  have e17 : hV H1 298 = hV H0 298 := fRow f4.1.2.1 298 kR_288_298
  have e18 : hV H1 300 = hV H0 300 := fRow f4.1.2.1 300 kR_288_300
  have e19 : hV H1 301 = hV H0 301 := fRow f4.1.2.1 301 kR_288_301
  have e20 : hV H1 303 = hV H0 303 := fRow f4.1.2.1 303 kR_288_303
  have e21 : hV H1 332 = hV H0 332 := fRow f4.1.2.1 332 kR_288_332
  have e22 : hV H1 341 = hV H0 341 := fRow f4.1.2.1 341 kR_288_341
  have e25 : hV H3 285 65 = hV H0 285 65 := ((f37.1.2.1.1 285 65 kF_287_285_65)).trans (((uPlace f13 285 65 (iS (show n4 = ((354 : Nat) : Int) from f9) rfl))).trans (f4.1.2.1.1 285 65 kF_288_285_65))
  have e29 : hV H3 296 = hV H0 296 := (fRow f37.1.2.1 296 kR_287_296).trans ((uRowNe f13 296 (iS (show n4 = ((354 : Nat) : Int) from f9) rfl)).trans e16)
  have e33 : hV H3 298 = hV H0 298 := (fRow f37.1.2.1 298 kR_287_298).trans ((uRowNe f13 298 (iS (show n4 = ((354 : Nat) : Int) from f9) rfl)).trans e17)
  have e37 : hV H3 300 = hV H0 300 := (fRow f37.1.2.1 300 kR_287_300).trans ((uRowNe f13 300 (iS (show n4 = ((354 : Nat) : Int) from f9) rfl)).trans e18)
  have e41 : hV H3 301 = hV H0 301 := (fRow f37.1.2.1 301 kR_287_301).trans ((uRowNe f13 301 (iS (show n4 = ((354 : Nat) : Int) from f9) rfl)).trans e19)
  have e45 : hV H3 303 = hV H0 303 := (fRow f37.1.2.1 303 kR_287_303).trans ((uRowNe f13 303 (iS (show n4 = ((354 : Nat) : Int) from f9) rfl)).trans e20)
  have e49 : hV H3 341 = hV H0 341 := (fRow f37.1.2.1 341 kR_287_341).trans ((uRowNe f13 341 (iS (show n4 = ((354 : Nat) : Int) from f9) rfl)).trans e22)
  have e54 : hV H5 285 64 = hV H0 285 64 := ((f49.1.2.1.1 285 64 kF_280_285_64)).trans (((uPlace f46 285 64 (iS (show n13 = ((354 : Nat) : Int) from f28) rfl))).trans (((f37.1.2.1.1 285 64 kF_287_285_64)).trans (((uPlace f13 285 64 (iS (show n4 = ((354 : Nat) : Int) from f9) rfl))).trans (f4.1.2.1.1 285 64 kF_288_285_64))))
  have e58 : hV H5 296 = hV H0 296 := (fRow f49.1.2.1 296 kR_280_296).trans ((uRowNe f46 296 (iS (show n13 = ((354 : Nat) : Int) from f28) rfl)).trans e29)
  have e62 : hV H5 298 = hV H0 298 := (fRow f49.1.2.1 298 kR_280_298).trans ((uRowNe f46 298 (iS (show n13 = ((354 : Nat) : Int) from f28) rfl)).trans e33)
  have e66 : hV H5 300 = hV H0 300 := (fRow f49.1.2.1 300 kR_280_300).trans ((uRowNe f46 300 (iS (show n13 = ((354 : Nat) : Int) from f28) rfl)).trans e37)
  have e70 : hV H5 301 = hV H0 301 := (fRow f49.1.2.1 301 kR_280_301).trans ((uRowNe f46 301 (iS (show n13 = ((354 : Nat) : Int) from f28) rfl)).trans e41)
  have e74 : hV H5 303 = hV H0 303 := (fRow f49.1.2.1 303 kR_280_303).trans ((uRowNe f46 303 (iS (show n13 = ((354 : Nat) : Int) from f28) rfl)).trans e45)
  have e81 : hV H5 328 = hV H0 328 := (fRow f49.1.2.1 328 kR_280_328).trans ((uRowNe f46 328 (iS (show n13 = ((354 : Nat) : Int) from f28) rfl)).trans ((fRow f37.1.2.1 328 kR_287_328).trans ((uRowNe f13 328 (iS (show n4 = ((354 : Nat) : Int) from f9) rfl)).trans e3)))
  have e89 : hV H5 332 = hV H0 332 := (fRow f49.1.2.1 332 kR_280_332).trans ((uRowNe f46 332 (iS (show n13 = ((354 : Nat) : Int) from f28) rfl)).trans ((fRow f37.1.2.1 332 kR_287_332).trans ((uRowNe f13 332 (iS (show n4 = ((354 : Nat) : Int) from f9) rfl)).trans e21)))
  have e95 : hV H5 333 = hV H0 333 := (fRow f49.1.2.1 333 kR_280_333).trans ((uRowNe f46 333 (iS (show n13 = ((354 : Nat) : Int) from f28) rfl)).trans ((fRow f37.1.2.1 333 kR_287_333).trans ((uRowNe f13 333 (iS (show n4 = ((354 : Nat) : Int) from f9) rfl)).trans e11)))
  have e102 : hV H5 335 = hV H0 335 := (fRow f49.1.2.1 335 kR_280_335).trans ((uRowNe f46 335 (iS (show n13 = ((354 : Nat) : Int) from f28) rfl)).trans ((fRow f37.1.2.1 335 kR_287_335).trans ((uRowNe f13 335 (iS (show n4 = ((354 : Nat) : Int) from f9) rfl)).trans e6)))
  have e106 : hV H5 341 = hV H0 341 := (fRow f49.1.2.1 341 kR_280_341).trans ((uRowNe f46 341 (iS (show n13 = ((354 : Nat) : Int) from f28) rfl)).trans e49)
  have e113 : hV H5 354 = (uF (uF (hV H1 354) n0 n6) n0 n20) := (fRow f49.1.2.1 354 kR_280_354).trans ((uRow f46 354 f28.symm).trans (congrArg (fun z => uF z n0 n20) ((fRow f37.1.2.1 354 kR_287_354).trans (uRow f13 354 f9.symm))))
  have e114 : (0 : Int) ≤ hV H0 285 64 ∧ hV H0 285 64 ≤ 20 := bTo e13 (f4.1.2.2 285 64 _ _ kW_285_64)
  have e115 : (0 : Int) ≤ hV H0 285 65 ∧ hV H0 285 65 ≤ 2147483647 := bTo ((f4.1.2.1.1 285 65 kF_288_285_65)) (f4.1.2.2 285 65 _ _ kW_285_65)
  try simp only [e54, e58, e62, e66, e70, e74, e81, e89, e95, e102, e106, e113]
  have y0 := g4
  have p0 := g3.1
  have p1 := g3.2.1
  have p2 := g3.2.2.1
  have p3 := g3.2.2.2
  have r0_0 := f37.2.1
  have r0_1 := f37.2.2
  have r1_0 := f49.2
  try simp only [e13, e16, e17, e18, e19, e20, e3, e21, e11, e6, e22] at y0
  try simp only [e29, e33, e37, e41, e45, e49] at r0_0
  try simp only [e25] at r0_1
  try simp only [e54, e58, e62, e66, e81, e89, e102] at r1_0
  clear g3
  clear g4
  clear f7 f10 f15 f18 f22 f25 f29 f31 f34 f39 f42 e3 e6 e11 e13 e16 e17 e18 e19 e20 e21 e22 e25 e29 e33 e37 e41 e45 e49 e54 e58 e62 e66 e70 e74 e81 e89 e95 e102 e106 e113
  clear f4 f37 f49
  subst e1
  subst e4
  subst e7
  subst e8
  subst e12
  have b12 := b1_in f12 (by omega) (by omega)
  have b45 := b1_in f45 (by omega) (by omega)
  try have sm := SOm p0 (s := (n0).toNat) (by omega) (by omega)

  refine ⟨?_, fun q hq => ?_⟩
  · exact ⟨by omega, by omega, by omega, FS_up (FS_up y0 (by omega)) (by omega), r1_0, IN_first (by omega) (by omega) (by omega) r0_0 (by omega)⟩
  · have g6 := Option.some.inj hq
    subst g6
    omega
def g_288_2_20 : vG := ([(0, [22], [], 0), (1280, [21, 1, 2], [4, 5], 0), (90, [21], [], -2147483648), (91, [21], [], 2147483647), (80, [13, 2, 20], [4, 3], 0), (16, [20, 19], [], 0), (0, [19], [], 1), (44, [16, 18], [], 0), (22, [18, 17, 2], [3], 0), (90, [18], [], 0), (91, [18], [], 2147483647), (20, [17, 1], [3], 71), (0, [17], [], 333), (1287, [16, 1, 15], [2, 3], 0), (90, [16], [], -2147483648), (91, [16], [], 2147483647), (22, [15, 14, 2], [2], 0), (90, [15], [], -1), (91, [15], [], 7), (20, [14, 1], [2], 73), (0, [14], [], 335), (20, [13, 1], [2], 96), (0, [13], [], 354), (41, [11, 12], [], 0), (0, [12], [], -1), (22, [11, 10, 2], [2], 0), (90, [11], [], -1), (91, [11], [], 7), (20, [10, 1], [2], 73), (0, [10], [], 335), (40, [8, 9], [], 0), (0, [9], [], 6), (22, [8, 7, 2], [2], 0), (90, [8], [], 0), (91, [8], [], 6), (20, [7, 1], [2], 66), (0, [7], [], 328), (80, [4, 2, 6], [2, 1], 0), (16, [6, 5], [], 0), (0, [5], [], 0), (20, [4, 1], [1], 96), (0, [4], [], 354), (42, [2, 3], [], 0), (20, [3, 1], [1], 64), (90, [3], [], 0), (91, [3], [], 20), (5000, [0, 1, 2], [0, 1], 2), (0, [0], [], 285), (0, [1], [], 285), (90, [2], [], 0), (91, [2], [], 20)], (4000, [1, 2, 21, 22], [5], 79))
theorem c_288_2_20 {q0 : Nat} : vOkm T0 (eP e_288 L_288 A_288 mu_288 (some q0)) 1 g_288_2_20 := vOk_inI fun ρ η f0 f1 f2 f3 f4 f5 f6 f7 f8 f9 f10 f11 f12 f13 f14 f15 f16 f17 f18 f19 f20 f21 f22 f23 f24 f25 f26 f27 f28 f29 f30 f31 f32 f33 f34 f35 f36 f37 f38 f39 f40 f41 f42 f43 f44 f45 f46 f47 f48 f49 f50 => q_288_18 (q0 := q0) (n0 := ρ 2) (n1 := ρ 1) (n2 := ρ 0) (n3 := ρ 3) (n4 := ρ 4) (n5 := ρ 5) (n6 := ρ 6) (n7 := ρ 7) (n8 := ρ 8) (n9 := ρ 9) (n10 := ρ 10) (n11 := ρ 11) (n12 := ρ 12) (n13 := ρ 13) (n14 := ρ 14) (n15 := ρ 15) (n16 := ρ 16) (n17 := ρ 17) (n18 := ρ 18) (n19 := ρ 19) (n20 := ρ 20) (n21 := ρ 21) (n22 := ρ 22) (H0 := η 0) (H1 := η 1) (H2 := η 2) (H3 := η 3) (H4 := η 4) (H5 := η 5) f50 f49 f48 f47 f46 f45 f44 f43 f42 f41 f40 f39 f38 f37 f36 f35 f34 f33 f32 f31 f30 f29 f28 f27 f26 f25 f24 f23 f22 f21 f20 f19 f18 f17 f16 f15 f14 f13 f12 f11 f10 f9 f8 f7 f6 f5 f4 f3 f2 f1 f0
def g_288_2_21 : vG := ([(10, [13, 2], [], 1), (42, [2, 3], [], 0), (91, [3], [], 20), (90, [2], [], 0)], (90, [13], [], 0))
theorem c_288_2_21 {q0 : Nat} : vOkm T0 (eP e_288 L_288 A_288 mu_288 (some q0)) 1 g_288_2_21 := vOk_inI fun ρ η f0 f1 f2 f3 => q_288_3 (q0 := q0) (n0 := ρ 2) (n1 := ρ 3) (n2 := ρ 13) (H0 := η 0) f3 f2 f1 f0
def g_288_2_22 : vG := ([(10, [13, 2], [], 1), (42, [2, 3], [], 0), (91, [3], [], 20), (90, [2], [], 0)], (91, [13], [], 20))
theorem c_288_2_22 {q0 : Nat} : vOkm T0 (eP e_288 L_288 A_288 mu_288 (some q0)) 1 g_288_2_22 := vOk_inI fun ρ η f0 f1 f2 f3 => q_288_4 (q0 := q0) (n0 := ρ 2) (n1 := ρ 3) (n2 := ρ 13) (H0 := η 0) f3 f2 f1 f0
theorem q_288_19 {q0 : Nat} {n0 n1 n2 n3 n4 n5 n6 n7 n8 n9 n10 n11 n12 n13 : Int} {H0 H1 H2 : gH} (f0 : n0 ≤ 20) (f1 : 0 ≤ n0) (f2 : n1 = 285) (f3 : n2 = 285) (f4 : (hLe T0 H0 H1 ∧ hFr s_288.2.2.2.2 H0 H1 ∧ hWt T0 H1) ∧ (Ab_288_2 n2 n1 n0 H0 H1 ∧ preb_288 n2 H0) ∧ some q0 = some (mub_288_2 n2 n1 n0 H0 H1)) (f5 : n3 ≤ 20) (f6 : 0 ≤ n3) (f7 : n3 = hV H1 (n1).toNat 64) (f8 : n0 < n3) (f9 : n4 = 354) (f10 : n4 = hV H1 (n1).toNat 96) (f11 : n5 = 0) (f12 : n6 = o32 (fun x _ => x &&& 1) n5 0) (f13 : hUpd H2 H1 n4 n0 n6) (f14 : n7 = 328) (f15 : n7 = hV H2 (n1).toNat 66) (f16 : n8 ≤ 6) (f17 : 0 ≤ n8) (f18 : n8 = hV H2 (n7).toNat (n0).toNat) (f19 : n9 = 6) (f20 : n8 = n9) (f21 : n10 = 335) (f22 : n10 = hV H2 (n1).toNat 73) (f23 : n11 ≤ 7) (f24 : (-1) ≤ n11) (f25 : n11 = hV H2 (n10).toNat (n0).toNat) (f26 : n12 = (-1)) (f27 : n11 = n12) (f28 : n13 = w32 (n0 + 1)) : Ab_288_2 n2 n1 n13 H0 H2 ∧ ∀ q, some q0 = some q → mub_288_2 n2 n1 n13 H0 H2 < q := by
  have g4 := f4.2.1.1
  unfold Ab_288_2 at g4
  have g3 := f4.2.1.2
  unfold preb_288 at g3
  have g5 := Option.some.inj f4.2.2
  unfold mub_288_2 at g5
  unfold Ab_288_2
  unfold mub_288_2
  have e1 : n3 = hV H0 285 64 := (by rw [f2] at f7; exact f7 : n3 = hV H1 285 64).trans ((f4.1.2.1.1 285 64 kF_288_285_64))
  have e3 : hV H1 328 = hV H0 328 := fRow f4.1.2.1 328 kR_288_328
  have e4 : n8 = hV H0 328 (n0).toNat := (by rw [f14] at f18; exact f18 : n8 = hV H2 328 (n0).toNat).trans (((congrFun (uRowNe f13 328 (iS (show n4 = ((354 : Nat) : Int) from f9) rfl)) _)).trans ((congrFun e3 _)))
  have e6 : hV H1 335 = hV H0 335 := fRow f4.1.2.1 335 kR_288_335
  have e7 : n11 = hV H0 335 (n0).toNat := (by rw [f21] at f25; exact f25 : n11 = hV H2 335 (n0).toNat).trans (((congrFun (uRowNe f13 335 (iS (show n4 = ((354 : Nat) : Int) from f9) rfl)) _)).trans ((congrFun e6 _)))
  have e8 : hV H1 285 64 = hV H0 285 64 := (f4.1.2.1.1 285 64 kF_288_285_64)
  have e9 : hV H1 296 = hV H0 296 := fRow f4.1.2.1 296 kR_288_296
  have e10 : hV H1 298 = hV H0 298 := fRow f4.1.2.1 298 kR_288_298
  have e11 : hV H1 300 = hV H0 300 := fRow f4.1.2.1 300 kR_288_300
  have e12 : hV H1 301 = hV H0 301 := fRow f4.1.2.1 301 kR_288_301
  have e13 : hV H1 303 = hV H0 303 := fRow f4.1.2.1 303 kR_288_303
  have e14 : hV H1 332 = hV H0 332 := fRow f4.1.2.1 332 kR_288_332
  have e15 : hV H1 333 = hV H0 333 := fRow f4.1.2.1 333 kR_288_333
  have e16 : hV H1 341 = hV H0 341 := fRow f4.1.2.1 341 kR_288_341
  have e18 : hV H2 285 64 = hV H0 285 64 := ((uPlace f13 285 64 (iS (show n4 = ((354 : Nat) : Int) from f9) rfl))).trans (f4.1.2.1.1 285 64 kF_288_285_64)
  have e20 : hV H2 296 = hV H0 296 := (uRowNe f13 296 (iS (show n4 = ((354 : Nat) : Int) from f9) rfl)).trans e9
  have e22 : hV H2 298 = hV H0 298 := (uRowNe f13 298 (iS (show n4 = ((354 : Nat) : Int) from f9) rfl)).trans e10
  have e24 : hV H2 300 = hV H0 300 := (uRowNe f13 300 (iS (show n4 = ((354 : Nat) : Int) from f9) rfl)).trans e11
  have e26 : hV H2 301 = hV H0 301 := (uRowNe f13 301 (iS (show n4 = ((354 : Nat) : Int) from f9) rfl)).trans e12
  have e28 : hV H2 303 = hV H0 303 := (uRowNe f13 303 (iS (show n4 = ((354 : Nat) : Int) from f9) rfl)).trans e13
  have e29 : hV H2 328 = hV H0 328 := (uRowNe f13 328 (iS (show n4 = ((354 : Nat) : Int) from f9) rfl)).trans e3
  have e31 : hV H2 332 = hV H0 332 := (uRowNe f13 332 (iS (show n4 = ((354 : Nat) : Int) from f9) rfl)).trans e14
  have e33 : hV H2 333 = hV H0 333 := (uRowNe f13 333 (iS (show n4 = ((354 : Nat) : Int) from f9) rfl)).trans e15
  have e34 : hV H2 335 = hV H0 335 := (uRowNe f13 335 (iS (show n4 = ((354 : Nat) : Int) from f9) rfl)).trans e6
  have e36 : hV H2 341 = hV H0 341 := (uRowNe f13 341 (iS (show n4 = ((354 : Nat) : Int) from f9) rfl)).trans e16
  have e37 : hV H2 354 = uF (hV H1 354) n0 n6 := uRow f13 354 f9.symm
  have e38 : (0 : Int) ≤ hV H0 285 64 ∧ hV H0 285 64 ≤ 20 := bTo e8 (f4.1.2.2 285 64 _ _ kW_285_64)
  try simp only [e18, e20, e22, e24, e26, e28, e29, e31, e33, e34, e36, e37]
  have y0 := g4
  have p0 := g3.1
  have p1 := g3.2.1
  have p2 := g3.2.2.1
  have p3 := g3.2.2.2
  try simp only [e8, e9, e10, e11, e12, e13, e3, e14, e15, e6, e16] at y0
  clear g3
  clear g4
  clear f7 f10 f15 f18 f22 f25 e3 e6 e8 e9 e10 e11 e12 e13 e14 e15 e16 e18 e20 e22 e24 e26 e28 e29 e31 e33 e34 e36
  clear f4
  subst e1
  subst e4
  subst e7
  have b12 := b1_in f12 (by omega) (by omega)
  try have sm := SOm p0 (s := (n0).toNat) (by omega) (by omega)
  first
  | (have ix0 : n13 = n0 + 1 := Eq.trans f28 (w32_iv (Iad (Iat f1 f0) (IC 1)) (by decide)); subst ix0; clear f28)
  | (have ix0 : n13 = n0 + 1 := Eq.trans f28 (w32_id (by omega) (by omega)); subst ix0; clear f28)
  | (unfold w32 at f28; have ix0 : n13 = n0 + 1 := (by omega); subst ix0)
  | skip
  try unfold w32 at f28

  refine ⟨?_, fun q hq => ?_⟩
  · exact FS_no y0 (by omega) (by omega) (by omega) (by omega) (by omega)
  · have g6 := Option.some.inj hq
    subst g6
    omega
def g_288_2_23 : vG := ([(10, [13, 2], [], 1), (40, [11, 12], [], 0), (0, [12], [], -1), (22, [11, 10, 2], [2], 0), (90, [11], [], -1), (91, [11], [], 7), (20, [10, 1], [2], 73), (0, [10], [], 335), (40, [8, 9], [], 0), (0, [9], [], 6), (22, [8, 7, 2], [2], 0), (90, [8], [], 0), (91, [8], [], 6), (20, [7, 1], [2], 66), (0, [7], [], 328), (80, [4, 2, 6], [2, 1], 0), (16, [6, 5], [], 0), (0, [5], [], 0), (20, [4, 1], [1], 96), (0, [4], [], 354), (42, [2, 3], [], 0), (20, [3, 1], [1], 64), (90, [3], [], 0), (91, [3], [], 20), (5000, [0, 1, 2], [0, 1], 2), (0, [0], [], 285), (0, [1], [], 285), (90, [2], [], 0), (91, [2], [], 20)], (4000, [1, 13], [2], 2))
theorem c_288_2_23 {q0 : Nat} : vOkm T0 (eP e_288 L_288 A_288 mu_288 (some q0)) 1 g_288_2_23 := vOk_inI fun ρ η f0 f1 f2 f3 f4 f5 f6 f7 f8 f9 f10 f11 f12 f13 f14 f15 f16 f17 f18 f19 f20 f21 f22 f23 f24 f25 f26 f27 f28 => q_288_19 (q0 := q0) (n0 := ρ 2) (n1 := ρ 1) (n2 := ρ 0) (n3 := ρ 3) (n4 := ρ 4) (n5 := ρ 5) (n6 := ρ 6) (n7 := ρ 7) (n8 := ρ 8) (n9 := ρ 9) (n10 := ρ 10) (n11 := ρ 11) (n12 := ρ 12) (n13 := ρ 13) (H0 := η 0) (H1 := η 1) (H2 := η 2) f28 f27 f26 f25 f24 f23 f22 f21 f20 f19 f18 f17 f16 f15 f14 f13 f12 f11 f10 f9 f8 f7 f6 f5 f4 f3 f2 f1 f0
def p_288_2 : List vG := [g_288_2_0,
  g_288_2_1,
  g_288_2_2,
  g_288_2_3,
  g_288_2_4,
  g_288_2_5,
  g_288_2_6,
  g_288_2_7,
  g_288_2_8,
  g_288_2_9,
  g_288_2_10,
  g_288_2_11,
  g_288_2_12,
  g_288_2_13,
  g_288_2_14,
  g_288_2_15,
  g_288_2_16,
  g_288_2_17,
  g_288_2_18,
  g_288_2_19,
  g_288_2_20,
  g_288_2_21,
  g_288_2_22,
  g_288_2_23]
theorem r_288_2 : vCovO false (eRc e_288 L_288 cs_288 2000 (2, [(0, (3, 12, 285, 0)), (1, (0, 0, 20, 0))])) p_288_2 = true := by decide +kernel
theorem q_288_20 {q0 : Nat} {n0 n1 : Int} {H0 : gH} (f0 : n0 ≤ 19) (f1 : 0 ≤ n0) (f2 : n1 = w32 (n0 + 1)) : 0 ≤ n1 := by
  first
  | (have ix0 : n1 = n0 + 1 := Eq.trans f2 (w32_iv (Iad (Iat f1 f0) (IC 1)) (by decide)); subst ix0; clear f2)
  | (have ix0 : n1 = n0 + 1 := Eq.trans f2 (w32_id (by omega) (by omega)); subst ix0; clear f2)
  | (unfold w32 at f2; have ix0 : n1 = n0 + 1 := (by omega); subst ix0)
  | skip
  try unfold w32 at f2
  omega
def g_288_79_0 : vG := ([(10, [6, 2], [], 1), (90, [2], [], 0), (91, [2], [], 19)], (90, [6], [], 0))
theorem c_288_79_0 {q0 : Nat} : vOkm T0 (eP e_288 L_288 A_288 mu_288 (some q0)) 1 g_288_79_0 := vOk_inI fun ρ η f0 f1 f2 => q_288_20 (q0 := q0) (n0 := ρ 2) (n1 := ρ 6) (H0 := η 0) f2 f1 f0
theorem q_288_21 {q0 : Nat} {n0 n1 : Int} {H0 : gH} (f0 : n0 ≤ 19) (f1 : 0 ≤ n0) (f2 : n1 = w32 (n0 + 1)) : n1 ≤ 20 := by
  first
  | (have ix0 : n1 = n0 + 1 := Eq.trans f2 (w32_iv (Iad (Iat f1 f0) (IC 1)) (by decide)); subst ix0; clear f2)
  | (have ix0 : n1 = n0 + 1 := Eq.trans f2 (w32_id (by omega) (by omega)); subst ix0; clear f2)
  | (unfold w32 at f2; have ix0 : n1 = n0 + 1 := (by omega); subst ix0)
  | skip
  try unfold w32 at f2
  omega
def g_288_79_1 : vG := ([(10, [6, 2], [], 1), (90, [2], [], 0), (91, [2], [], 19)], (91, [6], [], 20))
theorem c_288_79_1 {q0 : Nat} : vOkm T0 (eP e_288 L_288 A_288 mu_288 (some q0)) 1 g_288_79_1 := vOk_inI fun ρ η f0 f1 f2 => q_288_21 (q0 := q0) (n0 := ρ 2) (n1 := ρ 6) (H0 := η 0) f2 f1 f0
theorem q_288_22 {q0 : Nat} {n0 n1 n2 n3 n4 n5 n6 : Int} {H0 H1 : gH} (f0 : n0 ≤ 20) (f1 : 0 ≤ n0) (f2 : n1 ≤ 2147483647) (f3 : (-2147483648) ≤ n1) (f4 : n2 ≤ 19) (f5 : 0 ≤ n2) (f6 : n3 = 285) (f7 : n4 = 285) (f8 : (hLe T0 H0 H1 ∧ hFr s_288.2.2.2.2 H0 H1 ∧ hWt T0 H1) ∧ (Ab_288_79 n4 n3 n2 n1 n0 H0 H1 ∧ preb_288 n4 H0) ∧ some q0 = some (mub_288_79 n4 n3 n2 n1 n0 H0 H1)) (f9 : n5 ≤ 20) (f10 : 0 ≤ n5) (f11 : n5 = hV H1 (n3).toNat 64) (f12 : n5 ≤ n0) (f13 : n6 = w32 (n2 + 1)) : Ab_288_2 n4 n3 n6 H0 H1 ∧ ∀ q, some q0 = some q → mub_288_2 n4 n3 n6 H0 H1 < q := by
  have g4 := f8.2.1.1
  unfold Ab_288_79 at g4
  have g3 := f8.2.1.2
  unfold preb_288 at g3
  have g5 := Option.some.inj f8.2.2
  unfold mub_288_79 at g5
  unfold Ab_288_2
  unfold mub_288_2
  have e1 : n5 = hV H0 285 64 := (by rw [f6] at f11; exact f11 : n5 = hV H1 285 64).trans ((f8.1.2.1.1 285 64 kF_288_285_64))
  have e2 : hV H1 285 64 = hV H0 285 64 := (f8.1.2.1.1 285 64 kF_288_285_64)
  have e3 : hV H1 296 = hV H0 296 := fRow f8.1.2.1 296 kR_288_296
  have e4 : hV H1 298 = hV H0 298 := fRow f8.1.2.1 298 kR_288_298
  have e5 : hV H1 300 = hV H0 300 := fRow f8.1.2.1 300 kR_288_300
  have e6 : hV H1 301 = hV H0 301 := fRow f8.1.2.1 301 kR_288_301
  have e7 : hV H1 303 = hV H0 303 := fRow f8.1.2.1 303 kR_288_303
  have e8 : hV H1 328 = hV H0 328 := fRow f8.1.2.1 328 kR_288_328
  have e9 : hV H1 332 = hV H0 332 := fRow f8.1.2.1 332 kR_288_332
  have e10 : hV H1 333 = hV H0 333 := fRow f8.1.2.1 333 kR_288_333
  have e11 : hV H1 335 = hV H0 335 := fRow f8.1.2.1 335 kR_288_335
  have e12 : hV H1 341 = hV H0 341 := fRow f8.1.2.1 341 kR_288_341
  have e13 : (0 : Int) ≤ hV H0 285 64 ∧ hV H0 285 64 ≤ 20 := bTo e2 (f8.1.2.2 285 64 _ _ kW_285_64)
  try simp only [e2, e3, e4, e5, e6, e7, e8, e9, e10, e11, e12]
  have y0 := g4.1
  have y1 := g4.2.1
  have y2 := g4.2.2.1
  have y3 := g4.2.2.2.1
  have y4 := g4.2.2.2.2.1
  have y5 := g4.2.2.2.2.2
  have p0 := g3.1
  have p1 := g3.2.1
  have p2 := g3.2.2.1
  have p3 := g3.2.2.2
  try simp only [e2] at y0
  try simp only [e8] at y1
  try simp only [e11] at y2
  try simp only [e2, e3, e4, e5, e6, e7, e8, e9, e10, e11, e12] at y3
  try simp only [e2, e3, e4, e5, e8, e9, e11] at y4
  try simp only [e2, e3, e4, e5, e6, e7, e8, e9, e10, e11, e12] at y5
  clear g3
  clear g4
  clear f11 e2 e3 e4 e5 e6 e7 e8 e9 e10 e11 e12
  clear f8
  subst e1
  first
  | (have ix0 : n6 = n2 + 1 := Eq.trans f13 (w32_iv (Iad (Iat f5 f4) (IC 1)) (by decide)); subst ix0; clear f13)
  | (have ix0 : n6 = n2 + 1 := Eq.trans f13 (w32_id (by omega) (by omega)); subst ix0; clear f13)
  | (unfold w32 at f13; have ix0 : n6 = n2 + 1 := (by omega); subst ix0)
  | skip
  try unfold w32 at f13

  refine ⟨?_, fun q hq => ?_⟩
  · exact FS_end y3 (by omega) (by omega) y1 y2 (IN_le y5 (by omega)) (AC_in p3 (by omega))
  · have g6 := Option.some.inj hq
    subst g6
    omega
def g_288_79_2 : vG := ([(10, [6, 2], [], 1), (43, [4, 5], [], 0), (20, [5, 1], [1], 64), (90, [5], [], 0), (91, [5], [], 20), (5000, [0, 1, 2, 3, 4], [0, 1], 79), (0, [0], [], 285), (0, [1], [], 285), (90, [2], [], 0), (91, [2], [], 19), (90, [3], [], -2147483648), (91, [3], [], 2147483647), (90, [4], [], 0), (91, [4], [], 20)], (4000, [1, 6], [1], 2))
theorem c_288_79_2 {q0 : Nat} : vOkm T0 (eP e_288 L_288 A_288 mu_288 (some q0)) 1 g_288_79_2 := vOk_inI fun ρ η f0 f1 f2 f3 f4 f5 f6 f7 f8 f9 f10 f11 f12 f13 => q_288_22 (q0 := q0) (n0 := ρ 4) (n1 := ρ 3) (n2 := ρ 2) (n3 := ρ 1) (n4 := ρ 0) (n5 := ρ 5) (n6 := ρ 6) (H0 := η 0) (H1 := η 1) f13 f12 f11 f10 f9 f8 f7 f6 f5 f4 f3 f2 f1 f0
def g_288_79_3 : vG := ([(10, [10, 4], [], 1), (42, [4, 5], [], 0), (91, [5], [], 20), (90, [4], [], 0)], (90, [10], [], 0))
theorem c_288_79_3 {q0 : Nat} : vOkm T0 (eP e_288 L_288 A_288 mu_288 (some q0)) 1 g_288_79_3 := vOk_inI fun ρ η f0 f1 f2 f3 => q_288_3 (q0 := q0) (n0 := ρ 4) (n1 := ρ 5) (n2 := ρ 10) (H0 := η 0) f3 f2 f1 f0
def g_288_79_4 : vG := ([(10, [10, 4], [], 1), (42, [4, 5], [], 0), (91, [5], [], 20), (90, [4], [], 0)], (91, [10], [], 20))
theorem c_288_79_4 {q0 : Nat} : vOkm T0 (eP e_288 L_288 A_288 mu_288 (some q0)) 1 g_288_79_4 := vOk_inI fun ρ η f0 f1 f2 f3 => q_288_4 (q0 := q0) (n0 := ρ 4) (n1 := ρ 5) (n2 := ρ 10) (H0 := η 0) f3 f2 f1 f0
theorem q_288_23 {q0 : Nat} {n0 n1 n2 n3 n4 n5 n6 n7 n8 n9 n10 : Int} {H0 H1 : gH} (f0 : n0 ≤ 20) (f1 : 0 ≤ n0) (f2 : n1 ≤ 2147483647) (f3 : (-2147483648) ≤ n1) (f4 : n2 ≤ 19) (f5 : 0 ≤ n2) (f6 : n3 = 285) (f7 : n4 = 285) (f8 : (hLe T0 H0 H1 ∧ hFr s_288.2.2.2.2 H0 H1 ∧ hWt T0 H1) ∧ (Ab_288_79 n4 n3 n2 n1 n0 H0 H1 ∧ preb_288 n4 H0) ∧ some q0 = some (mub_288_79 n4 n3 n2 n1 n0 H0 H1)) (f9 : n5 ≤ 20) (f10 : 0 ≤ n5) (f11 : n5 = hV H1 (n3).toNat 64) (f12 : n0 < n5) (f13 : n6 = o32 (fun x y => x >>> (y &&& 31)) n1 n0) (f14 : n7 = 1) (f15 : n8 = o32 (fun x y => x &&& y) n6 n7) (f16 : n9 = 1) (f17 : n8 ≠ n9) (f18 : n10 = w32 (n0 + 1)) : Ab_288_79 n4 n3 n2 n1 n10 H0 H1 ∧ ∀ q, some q0 = some q → mub_288_79 n4 n3 n2 n1 n10 H0 H1 < q := by
  have g4 := f8.2.1.1
  unfold Ab_288_79 at g4
  have g3 := f8.2.1.2
  unfold preb_288 at g3
  have g5 := Option.some.inj f8.2.2
  unfold mub_288_79 at g5
  unfold Ab_288_79
  unfold mub_288_79
  have e1 : n5 = hV H0 285 64 := (by rw [f6] at f11; exact f11 : n5 = hV H1 285 64).trans ((f8.1.2.1.1 285 64 kF_288_285_64))
  have e2 : hV H1 285 64 = hV H0 285 64 := (f8.1.2.1.1 285 64 kF_288_285_64)
  have e3 : hV H1 296 = hV H0 296 := fRow f8.1.2.1 296 kR_288_296
  have e4 : hV H1 298 = hV H0 298 := fRow f8.1.2.1 298 kR_288_298
  have e5 : hV H1 300 = hV H0 300 := fRow f8.1.2.1 300 kR_288_300
  have e6 : hV H1 301 = hV H0 301 := fRow f8.1.2.1 301 kR_288_301
  have e7 : hV H1 303 = hV H0 303 := fRow f8.1.2.1 303 kR_288_303
  have e8 : hV H1 328 = hV H0 328 := fRow f8.1.2.1 328 kR_288_328
  have e9 : hV H1 332 = hV H0 332 := fRow f8.1.2.1 332 kR_288_332
  have e10 : hV H1 333 = hV H0 333 := fRow f8.1.2.1 333 kR_288_333
  have e11 : hV H1 335 = hV H0 335 := fRow f8.1.2.1 335 kR_288_335
  have e12 : hV H1 341 = hV H0 341 := fRow f8.1.2.1 341 kR_288_341
  have e13 : (0 : Int) ≤ hV H0 285 64 ∧ hV H0 285 64 ≤ 20 := bTo e2 (f8.1.2.2 285 64 _ _ kW_285_64)
  try simp only [e2, e3, e4, e5, e6, e7, e8, e9, e10, e11, e12]
  have y0 := g4.1
  have y1 := g4.2.1
  have y2 := g4.2.2.1
  have y3 := g4.2.2.2.1
  have y4 := g4.2.2.2.2.1
  have y5 := g4.2.2.2.2.2
  have p0 := g3.1
  have p1 := g3.2.1
  have p2 := g3.2.2.1
  have p3 := g3.2.2.2
  try simp only [e2] at y0
  try simp only [e8] at y1
  try simp only [e11] at y2
  try simp only [e2, e3, e4, e5, e6, e7, e8, e9, e10, e11, e12] at y3
  try simp only [e2, e3, e4, e5, e8, e9, e11] at y4
  try simp only [e2, e3, e4, e5, e6, e7, e8, e9, e10, e11, e12] at y5
  clear g3
  clear g4
  clear f11 e2 e3 e4 e5 e6 e7 e8 e9 e10 e11 e12
  clear f8
  subst e1
  have b15 := o32_and_r f15 (by omega) (by omega)
  first
  | (have ix0 : n10 = n0 + 1 := Eq.trans f18 (w32_iv (Iad (Iat f1 f0) (IC 1)) (by decide)); subst ix0; clear f18)
  | (have ix0 : n10 = n0 + 1 := Eq.trans f18 (w32_id (by omega) (by omega)); subst ix0; clear f18)
  | (unfold w32 at f18; have ix0 : n10 = n0 + 1 := (by omega); subst ix0)
  | skip
  try unfold w32 at f18

  have tb := bt_test f13 f15 (by omega) (by omega) (by omega)
  refine ⟨?_, fun q hq => ?_⟩
  · exact ⟨by omega, by omega, by omega, y3, y4, IN_skip y5 (by omega) (by omega) (fun z => by have := tb.1.mpr ((y4 _ (by omega)).mpr z); omega)⟩
  · have g6 := Option.some.inj hq
    subst g6
    omega
def g_288_79_5 : vG := ([(10, [10, 4], [], 1), (41, [8, 9], [], 0), (0, [9], [], 1), (4, [8, 6, 7], [], 0), (0, [7], [], 1), (8, [6, 3, 4], [], 0), (42, [4, 5], [], 0), (20, [5, 1], [1], 64), (90, [5], [], 0), (91, [5], [], 20), (5000, [0, 1, 2, 3, 4], [0, 1], 79), (0, [0], [], 285), (0, [1], [], 285), (90, [2], [], 0), (91, [2], [], 19), (90, [3], [], -2147483648), (91, [3], [], 2147483647), (90, [4], [], 0), (91, [4], [], 20)], (4000, [1, 2, 3, 10], [1], 79))
theorem c_288_79_5 {q0 : Nat} : vOkm T0 (eP e_288 L_288 A_288 mu_288 (some q0)) 1 g_288_79_5 := vOk_inI fun ρ η f0 f1 f2 f3 f4 f5 f6 f7 f8 f9 f10 f11 f12 f13 f14 f15 f16 f17 f18 => q_288_23 (q0 := q0) (n0 := ρ 4) (n1 := ρ 3) (n2 := ρ 2) (n3 := ρ 1) (n4 := ρ 0) (n5 := ρ 5) (n6 := ρ 6) (n7 := ρ 7) (n8 := ρ 8) (n9 := ρ 9) (n10 := ρ 10) (H0 := η 0) (H1 := η 1) f18 f17 f16 f15 f14 f13 f12 f11 f10 f9 f8 f7 f6 f5 f4 f3 f2 f1 f0
theorem q_288_24 {q0 : Nat} {n0 n1 : Int} {H0 : gH} (f0 : n0 ≤ 20) (f1 : n1 < n0) : n1 ≤ 19 := by
  omega
def g_288_79_6 : vG := ([(42, [4, 5], [], 0), (91, [5], [], 20)], (91, [4], [], 19))
theorem c_288_79_6 {q0 : Nat} : vOkm T0 (eP e_288 L_288 A_288 mu_288 (some q0)) 1 g_288_79_6 := vOk_inI fun ρ η f0 f1 => q_288_24 (q0 := q0) (n0 := ρ 5) (n1 := ρ 4) (H0 := η 0) f1 f0
theorem q_288_25 {q0 : Nat} {n0 n1 n2 n3 n4 n5 n6 n7 n8 n9 : Int} {H0 H1 : gH} (f0 : n0 ≤ 20) (f1 : 0 ≤ n0) (f2 : n1 ≤ 2147483647) (f3 : (-2147483648) ≤ n1) (f4 : n2 ≤ 19) (f5 : 0 ≤ n2) (f6 : n3 = 285) (f7 : n4 = 285) (f8 : (hLe T0 H0 H1 ∧ hFr s_288.2.2.2.2 H0 H1 ∧ hWt T0 H1) ∧ (Ab_288_79 n4 n3 n2 n1 n0 H0 H1 ∧ preb_288 n4 H0) ∧ some q0 = some (mub_288_79 n4 n3 n2 n1 n0 H0 H1)) (f9 : n5 ≤ 20) (f10 : 0 ≤ n5) (f11 : n5 = hV H1 (n3).toNat 64) (f12 : n0 < n5) (f13 : n6 = o32 (fun x y => x >>> (y &&& 31)) n1 n0) (f14 : n7 = 1) (f15 : n8 = o32 (fun x y => x &&& y) n6 n7) (f16 : n9 = 1) (f17 : n8 = n9) : preb_286 n3 n0 H1 := by
  have g4 := f8.2.1.1
  unfold Ab_288_79 at g4
  have g3 := f8.2.1.2
  unfold preb_288 at g3
  unfold preb_286
  have e1 : n5 = hV H0 285 64 := (by rw [f6] at f11; exact f11 : n5 = hV H1 285 64).trans ((f8.1.2.1.1 285 64 kF_288_285_64))
  have e2 : hV H1 285 64 = hV H0 285 64 := (f8.1.2.1.1 285 64 kF_288_285_64)
  have e3 : hV H1 296 = hV H0 296 := fRow f8.1.2.1 296 kR_288_296
  have e4 : hV H1 298 = hV H0 298 := fRow f8.1.2.1 298 kR_288_298
  have e5 : hV H1 300 = hV H0 300 := fRow f8.1.2.1 300 kR_288_300
  have e6 : hV H1 301 = hV H0 301 := fRow f8.1.2.1 301 kR_288_301
  have e7 : hV H1 303 = hV H0 303 := fRow f8.1.2.1 303 kR_288_303
  have e8 : hV H1 328 = hV H0 328 := fRow f8.1.2.1 328 kR_288_328
  have e9 : hV H1 332 = hV H0 332 := fRow f8.1.2.1 332 kR_288_332
  have e10 : hV H1 333 = hV H0 333 := fRow f8.1.2.1 333 kR_288_333
  have e11 : hV H1 335 = hV H0 335 := fRow f8.1.2.1 335 kR_288_335
  have e12 : hV H1 341 = hV H0 341 := fRow f8.1.2.1 341 kR_288_341
  have e13 : SO H1 = SO H0 := SO_fr f8.1.2.1 (by decide +kernel)
  have e14 : (0 : Int) ≤ hV H0 285 64 ∧ hV H0 285 64 ≤ 20 := bTo e2 (f8.1.2.2 285 64 _ _ kW_285_64)
  try simp only [e2, e13]
  have y0 := g4.1
  have y1 := g4.2.1
  have y2 := g4.2.2.1
  have y3 := g4.2.2.2.1
  have y4 := g4.2.2.2.2.1
  have y5 := g4.2.2.2.2.2
  have p0 := g3.1
  have p1 := g3.2.1
  have p2 := g3.2.2.1
  have p3 := g3.2.2.2
  try simp only [e2] at y0
  try simp only [e8] at y1
  try simp only [e11] at y2
  try simp only [e2, e3, e4, e5, e6, e7, e8, e9, e10, e11, e12] at y3
  try simp only [e2, e3, e4, e5, e8, e9, e11] at y4
  try simp only [e2, e3, e4, e5, e6, e7, e8, e9, e10, e11, e12] at y5
  clear g3
  clear g4
  clear f11 e2 e3 e4 e5 e6 e7 e8 e9 e10 e11 e12 e13
  clear f8
  subst e1
  have b15 := o32_and_r f15 (by omega) (by omega)
  refine ⟨?_, ?_⟩ <;> first | assumption | omega | trivial
def g_288_79_7 : vG := ([(40, [8, 9], [], 0), (0, [9], [], 1), (4, [8, 6, 7], [], 0), (0, [7], [], 1), (8, [6, 3, 4], [], 0), (42, [4, 5], [], 0), (20, [5, 1], [1], 64), (90, [5], [], 0), (91, [5], [], 20), (5000, [0, 1, 2, 3, 4], [0, 1], 79), (0, [0], [], 285), (0, [1], [], 285), (90, [2], [], 0), (91, [2], [], 19), (90, [3], [], -2147483648), (91, [3], [], 2147483647), (90, [4], [], 0), (91, [4], [], 20)], (2286, [1, 4], [1], 0))
theorem c_288_79_7 {q0 : Nat} : vOkm T0 (eP e_288 L_288 A_288 mu_288 (some q0)) 1 g_288_79_7 := vOk_inI fun ρ η f0 f1 f2 f3 f4 f5 f6 f7 f8 f9 f10 f11 f12 f13 f14 f15 f16 f17 => q_288_25 (q0 := q0) (n0 := ρ 4) (n1 := ρ 3) (n2 := ρ 2) (n3 := ρ 1) (n4 := ρ 0) (n5 := ρ 5) (n6 := ρ 6) (n7 := ρ 7) (n8 := ρ 8) (n9 := ρ 9) (H0 := η 0) (H1 := η 1) f17 f16 f15 f14 f13 f12 f11 f10 f9 f8 f7 f6 f5 f4 f3 f2 f1 f0
def g_288_79_8 : vG := ([(10, [13, 4], [], 1), (42, [4, 5], [], 0), (91, [5], [], 20), (90, [4], [], 0)], (90, [13], [], 0))
theorem c_288_79_8 {q0 : Nat} : vOkm T0 (eP e_288 L_288 A_288 mu_288 (some q0)) 1 g_288_79_8 := vOk_inI fun ρ η f0 f1 f2 f3 => q_288_3 (q0 := q0) (n0 := ρ 4) (n1 := ρ 5) (n2 := ρ 13) (H0 := η 0) f3 f2 f1 f0
def g_288_79_9 : vG := ([(10, [13, 4], [], 1), (42, [4, 5], [], 0), (91, [5], [], 20), (90, [4], [], 0)], (91, [13], [], 20))
theorem c_288_79_9 {q0 : Nat} : vOkm T0 (eP e_288 L_288 A_288 mu_288 (some q0)) 1 g_288_79_9 := vOk_inI fun ρ η f0 f1 f2 f3 => q_288_4 (q0 := q0) (n0 := ρ 4) (n1 := ρ 5) (n2 := ρ 13) (H0 := η 0) f3 f2 f1 f0
theorem kR_286_301 : vFreeR s_286.2.2.2.2 301 = true := by decide +kernel
theorem kR_286_303 : vFreeR s_286.2.2.2.2 303 = true := by decide +kernel
theorem kR_286_341 : vFreeR s_286.2.2.2.2 341 = true := by decide +kernel
theorem kR_286_354 : vFreeR s_286.2.2.2.2 354 = true := by decide +kernel
theorem q_288_26 {q0 : Nat} {n0 n1 n2 n3 n4 n5 n6 n7 n8 n9 n10 n11 n12 n13 : Int} {H0 H1 H2 : gH} (f0 : n0 ≤ 20) (f1 : 0 ≤ n0) (f2 : n1 ≤ 2147483647) (f3 : (-2147483648) ≤ n1) (f4 : n2 ≤ 19) (f5 : 0 ≤ n2) (f6 : n3 = 285) (f7 : n4 = 285) (f8 : (hLe T0 H0 H1 ∧ hFr s_288.2.2.2.2 H0 H1 ∧ hWt T0 H1) ∧ (Ab_288_79 n4 n3 n2 n1 n0 H0 H1 ∧ preb_288 n4 H0) ∧ some q0 = some (mub_288_79 n4 n3 n2 n1 n0 H0 H1)) (f9 : n5 ≤ 20) (f10 : 0 ≤ n5) (f11 : n5 = hV H1 (n3).toNat 64) (f12 : n0 < n5) (f13 : n6 = o32 (fun x y => x >>> (y &&& 31)) n1 n0) (f14 : n7 = 1) (f15 : n8 = o32 (fun x y => x &&& y) n6 n7) (f16 : n9 = 1) (f17 : n8 = n9) (f18 : n10 ≤ 2147483647) (f19 : (-2147483648) ≤ n10) (f20 : (hLe T0 H1 H2 ∧ hFr s_286.2.2.2.2 H1 H2 ∧ ((0 : Int) = 0 → H2.length = H1.length) ∧ hWt T0 H2) ∧ postb_286 n10 n3 n0 H1 H2) (f21 : n11 = 333) (f22 : n11 = hV H2 (n3).toNat 71) (f23 : n12 ≤ 2147483647) (f24 : 0 ≤ n12) (f25 : n12 = hV H2 (n11).toNat (n2).toNat) (f26 : n10 ≤ n12) (f27 : n13 = w32 (n0 + 1)) : Ab_288_79 n4 n3 n2 n1 n13 H0 H2 ∧ ∀ q, some q0 = some q → mub_288_79 n4 n3 n2 n1 n13 H0 H2 < q := by
  have g4 := f8.2.1.1
  unfold Ab_288_79 at g4
  have g3 := f8.2.1.2
  unfold preb_288 at g3
  have g5 := Option.some.inj f8.2.2
  unfold mub_288_79 at g5
  unfold postb_286 at f20
  unfold Ab_288_79
  unfold mub_288_79
  have e1 : n5 = hV H0 285 64 := (by rw [f6] at f11; exact f11 : n5 = hV H1 285 64).trans ((f8.1.2.1.1 285 64 kF_288_285_64))
  have e3 : hV H1 333 = hV H0 333 := fRow f8.1.2.1 333 kR_288_333
  have e4 : n12 = hV H0 333 (n2).toNat := (by rw [f21] at f25; exact f25 : n12 = hV H2 333 (n2).toNat).trans (((congrFun (fRow f20.1.2.1 333 kR_286_333) _)).trans ((congrFun e3 _)))
  have e5 : hV H1 285 64 = hV H0 285 64 := (f8.1.2.1.1 285 64 kF_288_285_64)
  have e6 : hV H1 296 = hV H0 296 := fRow f8.1.2.1 296 kR_288_296
  have e7 : hV H1 298 = hV H0 298 := fRow f8.1.2.1 298 kR_288_298
  have e8 : hV H1 300 = hV H0 300 := fRow f8.1.2.1 300 kR_288_300
  have e9 : hV H1 301 = hV H0 301 := fRow f8.1.2.1 301 kR_288_301
  have e10 : hV H1 303 = hV H0 303 := fRow f8.1.2.1 303 kR_288_303
  have e11 : hV H1 328 = hV H0 328 := fRow f8.1.2.1 328 kR_288_328
  have e12 : hV H1 332 = hV H0 332 := fRow f8.1.2.1 332 kR_288_332
  have e13 : hV H1 335 = hV H0 335 := fRow f8.1.2.1 335 kR_288_335
  have e14 : hV H1 341 = hV H0 341 := fRow f8.1.2.1 341 kR_288_341
  have e16 : hV H2 285 64 = hV H0 285 64 := ((f20.1.2.1.1 285 64 kF_286_285_64)).trans (f8.1.2.1.1 285 64 kF_288_285_64)
  have e18 : hV H2 296 = hV H0 296 := (fRow f20.1.2.1 296 kR_286_296).trans e6
  have e20 : hV H2 298 = hV H0 298 := (fRow f20.1.2.1 298 kR_286_298).trans e7
  have e22 : hV H2 300 = hV H0 300 := (fRow f20.1.2.1 300 kR_286_300).trans e8
  have e24 : hV H2 301 = hV H0 301 := (fRow f20.1.2.1 301 kR_286_301).trans e9
  have e26 : hV H2 303 = hV H0 303 := (fRow f20.1.2.1 303 kR_286_303).trans e10
  have e28 : hV H2 328 = hV H0 328 := (fRow f20.1.2.1 328 kR_286_328).trans e11
  have e30 : hV H2 332 = hV H0 332 := (fRow f20.1.2.1 332 kR_286_332).trans e12
  have e31 : hV H2 333 = hV H0 333 := (fRow f20.1.2.1 333 kR_286_333).trans e3
  have e33 : hV H2 335 = hV H0 335 := (fRow f20.1.2.1 335 kR_286_335).trans e13
  have e35 : hV H2 341 = hV H0 341 := (fRow f20.1.2.1 341 kR_286_341).trans e14
  have e36 : hV H2 354 = hV H1 354 := fRow f20.1.2.1 354 kR_286_354
  have e37 : (0 : Int) ≤ hV H0 285 64 ∧ hV H0 285 64 ≤ 20 := bTo e5 (f8.1.2.2 285 64 _ _ kW_285_64)
  try simp only [e16, e18, e20, e22, e24, e26, e28, e30, e31, e33, e35, e36]
  have y0 := g4.1
  have y1 := g4.2.1
  have y2 := g4.2.2.1
  have y3 := g4.2.2.2.1
  have y4 := g4.2.2.2.2.1
  have y5 := g4.2.2.2.2.2
  have p0 := g3.1
  have p1 := g3.2.1
  have p2 := g3.2.2.1
  have p3 := g3.2.2.2
  have r0_0 := f20.2
  try simp only [e5] at y0
  try simp only [e11] at y1
  try simp only [e13] at y2
  try simp only [e5, e6, e7, e8, e9, e10, e11, e12, e3, e13, e14] at y3
  try simp only [e5, e6, e7, e8, e11, e12, e13] at y4
  try simp only [e5, e6, e7, e8, e9, e10, e11, e12, e3, e13, e14] at y5
  try simp only [e16, e18, e20, e22, e28, e30, e31, e33] at r0_0
  clear g3
  clear g4
  clear f11 f22 f25 e3 e5 e6 e7 e8 e9 e10 e11 e12 e13 e14 e16 e18 e20 e22 e24 e26 e28 e30 e31 e33 e35 e36
  clear f8 f20
  subst e1
  subst e4
  have b15 := o32_and_r f15 (by omega) (by omega)
  first
  | (have ix0 : n13 = n0 + 1 := Eq.trans f27 (w32_iv (Iad (Iat f1 f0) (IC 1)) (by decide)); subst ix0; clear f27)
  | (have ix0 : n13 = n0 + 1 := Eq.trans f27 (w32_id (by omega) (by omega)); subst ix0; clear f27)
  | (unfold w32 at f27; have ix0 : n13 = n0 + 1 := (by omega); subst ix0)
  | skip
  try unfold w32 at f27

  have tb := bt_test f13 f15 (by omega) (by omega) (by omega)
  refine ⟨?_, fun q hq => ?_⟩
  · exact ⟨by omega, by omega, by omega, y3, y4, IN_skip y5 (by omega) (by omega) (fun _ => by obtain ⟨_, q⟩ := r0_0; have := q.2.1; omega)⟩
  · have g6 := Option.some.inj hq
    subst g6
    omega
def g_288_79_10 : vG := ([(10, [13, 4], [], 1), (45, [10, 12], [], 0), (22, [12, 11, 2], [2], 0), (90, [12], [], 0), (91, [12], [], 2147483647), (20, [11, 1], [2], 71), (0, [11], [], 333), (1286, [10, 1, 4], [1, 2], 0), (90, [10], [], -2147483648), (91, [10], [], 2147483647), (40, [8, 9], [], 0), (0, [9], [], 1), (4, [8, 6, 7], [], 0), (0, [7], [], 1), (8, [6, 3, 4], [], 0), (42, [4, 5], [], 0), (20, [5, 1], [1], 64), (90, [5], [], 0), (91, [5], [], 20), (5000, [0, 1, 2, 3, 4], [0, 1], 79), (0, [0], [], 285), (0, [1], [], 285), (90, [2], [], 0), (91, [2], [], 19), (90, [3], [], -2147483648), (91, [3], [], 2147483647), (90, [4], [], 0), (91, [4], [], 20)], (4000, [1, 2, 3, 13], [2], 79))
theorem c_288_79_10 {q0 : Nat} : vOkm T0 (eP e_288 L_288 A_288 mu_288 (some q0)) 1 g_288_79_10 := vOk_inI fun ρ η f0 f1 f2 f3 f4 f5 f6 f7 f8 f9 f10 f11 f12 f13 f14 f15 f16 f17 f18 f19 f20 f21 f22 f23 f24 f25 f26 f27 => q_288_26 (q0 := q0) (n0 := ρ 4) (n1 := ρ 3) (n2 := ρ 2) (n3 := ρ 1) (n4 := ρ 0) (n5 := ρ 5) (n6 := ρ 6) (n7 := ρ 7) (n8 := ρ 8) (n9 := ρ 9) (n10 := ρ 10) (n11 := ρ 11) (n12 := ρ 12) (n13 := ρ 13) (H0 := η 0) (H1 := η 1) (H2 := η 2) f27 f26 f25 f24 f23 f22 f21 f20 f19 f18 f17 f16 f15 f14 f13 f12 f11 f10 f9 f8 f7 f6 f5 f4 f3 f2 f1 f0
def g_288_79_11 : vG := ([(10, [16, 4], [], 1), (42, [4, 5], [], 0), (91, [5], [], 20), (90, [4], [], 0)], (90, [16], [], 0))
theorem c_288_79_11 {q0 : Nat} : vOkm T0 (eP e_288 L_288 A_288 mu_288 (some q0)) 1 g_288_79_11 := vOk_inI fun ρ η f0 f1 f2 f3 => q_288_3 (q0 := q0) (n0 := ρ 4) (n1 := ρ 5) (n2 := ρ 16) (H0 := η 0) f3 f2 f1 f0
def g_288_79_12 : vG := ([(10, [16, 4], [], 1), (42, [4, 5], [], 0), (91, [5], [], 20), (90, [4], [], 0)], (91, [16], [], 20))
theorem c_288_79_12 {q0 : Nat} : vOkm T0 (eP e_288 L_288 A_288 mu_288 (some q0)) 1 g_288_79_12 := vOk_inI fun ρ η f0 f1 f2 f3 => q_288_4 (q0 := q0) (n0 := ρ 4) (n1 := ρ 5) (n2 := ρ 16) (H0 := η 0) f3 f2 f1 f0
theorem q_288_27 {q0 : Nat} {n0 n1 n2 n3 n4 n5 n6 n7 n8 n9 n10 n11 n12 n13 n14 n15 n16 : Int} {H0 H1 H2 H3 : gH} (f0 : n0 ≤ 20) (f1 : 0 ≤ n0) (f2 : n1 ≤ 2147483647) (f3 : (-2147483648) ≤ n1) (f4 : n2 ≤ 19) (f5 : 0 ≤ n2) (f6 : n3 = 285) (f7 : n4 = 285) (f8 : (hLe T0 H0 H1 ∧ hFr s_288.2.2.2.2 H0 H1 ∧ hWt T0 H1) ∧ (Ab_288_79 n4 n3 n2 n1 n0 H0 H1 ∧ preb_288 n4 H0) ∧ some q0 = some (mub_288_79 n4 n3 n2 n1 n0 H0 H1)) (f9 : n5 ≤ 20) (f10 : 0 ≤ n5) (f11 : n5 = hV H1 (n3).toNat 64) (f12 : n0 < n5) (f13 : n6 = o32 (fun x y => x >>> (y &&& 31)) n1 n0) (f14 : n7 = 1) (f15 : n8 = o32 (fun x y => x &&& y) n6 n7) (f16 : n9 = 1) (f17 : n8 = n9) (f18 : n10 ≤ 2147483647) (f19 : (-2147483648) ≤ n10) (f20 : (hLe T0 H1 H2 ∧ hFr s_286.2.2.2.2 H1 H2 ∧ ((0 : Int) = 0 → H2.length = H1.length) ∧ hWt T0 H2) ∧ postb_286 n10 n3 n0 H1 H2) (f21 : n11 = 333) (f22 : n11 = hV H2 (n3).toNat 71) (f23 : n12 ≤ 2147483647) (f24 : 0 ≤ n12) (f25 : n12 = hV H2 (n11).toNat (n2).toNat) (f26 : n12 < n10) (f27 : n13 = 354) (f28 : n13 = hV H2 (n3).toNat 96) (f29 : n14 = 1) (f30 : n15 = o32 (fun x _ => x &&& 1) n14 0) (f31 : hUpd H3 H2 n13 n2 n15) (f32 : n16 = w32 (n0 + 1)) : Ab_288_79 n4 n3 n2 n1 n16 H0 H3 ∧ ∀ q, some q0 = some q → mub_288_79 n4 n3 n2 n1 n16 H0 H3 < q := by
  have g4 := f8.2.1.1
  unfold Ab_288_79 at g4
  have g3 := f8.2.1.2
  unfold preb_288 at g3
  have g5 := Option.some.inj f8.2.2
  unfold mub_288_79 at g5
  unfold postb_286 at f20
  unfold Ab_288_79
  unfold mub_288_79
  have e1 : n5 = hV H0 285 64 := (by rw [f6] at f11; exact f11 : n5 = hV H1 285 64).trans ((f8.1.2.1.1 285 64 kF_288_285_64))
  have e3 : hV H1 333 = hV H0 333 := fRow f8.1.2.1 333 kR_288_333
  have e4 : n12 = hV H0 333 (n2).toNat := (by rw [f21] at f25; exact f25 : n12 = hV H2 333 (n2).toNat).trans (((congrFun (fRow f20.1.2.1 333 kR_286_333) _)).trans ((congrFun e3 _)))
  have e5 : hV H1 285 64 = hV H0 285 64 := (f8.1.2.1.1 285 64 kF_288_285_64)
  have e6 : hV H1 296 = hV H0 296 := fRow f8.1.2.1 296 kR_288_296
  have e7 : hV H1 298 = hV H0 298 := fRow f8.1.2.1 298 kR_288_298
  have e8 : hV H1 300 = hV H0 300 := fRow f8.1.2.1 300 kR_288_300
  have e9 : hV H1 301 = hV H0 301 := fRow f8.1.2.1 301 kR_288_301
  have e10 : hV H1 303 = hV H0 303 := fRow f8.1.2.1 303 kR_288_303
  have e11 : hV H1 328 = hV H0 328 := fRow f8.1.2.1 328 kR_288_328
  have e12 : hV H1 332 = hV H0 332 := fRow f8.1.2.1 332 kR_288_332
  have e13 : hV H1 335 = hV H0 335 := fRow f8.1.2.1 335 kR_288_335
  have e14 : hV H1 341 = hV H0 341 := fRow f8.1.2.1 341 kR_288_341
  have e16 : hV H2 285 64 = hV H0 285 64 := ((f20.1.2.1.1 285 64 kF_286_285_64)).trans (f8.1.2.1.1 285 64 kF_288_285_64)
  have e18 : hV H2 296 = hV H0 296 := (fRow f20.1.2.1 296 kR_286_296).trans e6
  have e20 : hV H2 298 = hV H0 298 := (fRow f20.1.2.1 298 kR_286_298).trans e7
  have e22 : hV H2 300 = hV H0 300 := (fRow f20.1.2.1 300 kR_286_300).trans e8
  have e24 : hV H2 328 = hV H0 328 := (fRow f20.1.2.1 328 kR_286_328).trans e11
  have e26 : hV H2 332 = hV H0 332 := (fRow f20.1.2.1 332 kR_286_332).trans e12
  have e27 : hV H2 333 = hV H0 333 := (fRow f20.1.2.1 333 kR_286_333).trans e3
  have e29 : hV H2 335 = hV H0 335 := (fRow f20.1.2.1 335 kR_286_335).trans e13
  have e31 : hV H3 285 64 = hV H0 285 64 := ((uPlace f31 285 64 (iS (show n13 = ((354 : Nat) : Int) from f27) rfl))).trans (((f20.1.2.1.1 285 64 kF_286_285_64)).trans (f8.1.2.1.1 285 64 kF_288_285_64))
  have e33 : hV H3 296 = hV H0 296 := (uRowNe f31 296 (iS (show n13 = ((354 : Nat) : Int) from f27) rfl)).trans e18
  have e35 : hV H3 298 = hV H0 298 := (uRowNe f31 298 (iS (show n13 = ((354 : Nat) : Int) from f27) rfl)).trans e20
  have e37 : hV H3 300 = hV H0 300 := (uRowNe f31 300 (iS (show n13 = ((354 : Nat) : Int) from f27) rfl)).trans e22
  have e41 : hV H3 301 = hV H0 301 := (uRowNe f31 301 (iS (show n13 = ((354 : Nat) : Int) from f27) rfl)).trans ((fRow f20.1.2.1 301 kR_286_301).trans e9)
  have e45 : hV H3 303 = hV H0 303 := (uRowNe f31 303 (iS (show n13 = ((354 : Nat) : Int) from f27) rfl)).trans ((fRow f20.1.2.1 303 kR_286_303).trans e10)
  have e47 : hV H3 328 = hV H0 328 := (uRowNe f31 328 (iS (show n13 = ((354 : Nat) : Int) from f27) rfl)).trans e24
  have e49 : hV H3 332 = hV H0 332 := (uRowNe f31 332 (iS (show n13 = ((354 : Nat) : Int) from f27) rfl)).trans e26
  have e51 : hV H3 333 = hV H0 333 := (uRowNe f31 333 (iS (show n13 = ((354 : Nat) : Int) from f27) rfl)).trans e27
  have e53 : hV H3 335 = hV H0 335 := (uRowNe f31 335 (iS (show n13 = ((354 : Nat) : Int) from f27) rfl)).trans e29
  have e57 : hV H3 341 = hV H0 341 := (uRowNe f31 341 (iS (show n13 = ((354 : Nat) : Int) from f27) rfl)).trans ((fRow f20.1.2.1 341 kR_286_341).trans e14)
  have e60 : hV H3 354 = (uF (hV H1 354) n2 n15) := (uRow f31 354 f27.symm).trans (congrArg (fun z => uF z n2 n15) (fRow f20.1.2.1 354 kR_286_354))
  have e61 : (0 : Int) ≤ hV H0 285 64 ∧ hV H0 285 64 ≤ 20 := bTo e5 (f8.1.2.2 285 64 _ _ kW_285_64)
  try simp only [e31, e33, e35, e37, e41, e45, e47, e49, e51, e53, e57, e60]
  have y0 := g4.1
  have y1 := g4.2.1
  have y2 := g4.2.2.1
  have y3 := g4.2.2.2.1
  have y4 := g4.2.2.2.2.1
  have y5 := g4.2.2.2.2.2
  have p0 := g3.1
  have p1 := g3.2.1
  have p2 := g3.2.2.1
  have p3 := g3.2.2.2
  have r0_0 := f20.2
  try simp only [e5] at y0
  try simp only [e11] at y1
  try simp only [e13] at y2
  try simp only [e5, e6, e7, e8, e9, e10, e11, e12, e3, e13, e14] at y3
  try simp only [e5, e6, e7, e8, e11, e12, e13] at y4
  try simp only [e5, e6, e7, e8, e9, e10, e11, e12, e3, e13, e14] at y5
  try simp only [e16, e18, e20, e22, e24, e26, e27, e29] at r0_0
  clear g3
  clear g4
  clear f11 f22 f25 f28 e3 e5 e6 e7 e8 e9 e10 e11 e12 e13 e14 e16 e18 e20 e22 e24 e26 e27 e29 e31 e33 e35 e37 e41 e45 e47 e49 e51 e53 e57 e60
  clear f8 f20
  subst e1
  subst e4
  have b15 := o32_and_r f15 (by omega) (by omega)
  have b30 := b1_in f30 (by omega) (by omega)
  first
  | (have ix0 : n16 = n0 + 1 := Eq.trans f32 (w32_iv (Iad (Iat f1 f0) (IC 1)) (by decide)); subst ix0; clear f32)
  | (have ix0 : n16 = n0 + 1 := Eq.trans f32 (w32_id (by omega) (by omega)); subst ix0; clear f32)
  | (unfold w32 at f32; have ix0 : n16 = n0 + 1 := (by omega); subst ix0)
  | skip
  try unfold w32 at f32

  have tb := bt_test f13 f15 (by omega) (by omega) (by omega)
  refine ⟨?_, fun q hq => ?_⟩
  · exact ⟨by omega, by omega, by omega, FS_up y3 (by omega), y4, IN_hit (by omega) (by omega) (by omega) (by omega) ((y4 _ (by omega)).mp (tb.1.mp (by omega))) (.inr r0_0) (by omega)⟩
  · have g6 := Option.some.inj hq
    subst g6
    omega
def g_288_79_13 : vG := ([(10, [16, 4], [], 1), (80, [13, 2, 15], [3, 2], 0), (16, [15, 14], [], 0), (0, [14], [], 1), (20, [13, 1], [2], 96), (0, [13], [], 354), (44, [10, 12], [], 0), (22, [12, 11, 2], [2], 0), (90, [12], [], 0), (91, [12], [], 2147483647), (20, [11, 1], [2], 71), (0, [11], [], 333), (1286, [10, 1, 4], [1, 2], 0), (90, [10], [], -2147483648), (91, [10], [], 2147483647), (40, [8, 9], [], 0), (0, [9], [], 1), (4, [8, 6, 7], [], 0), (0, [7], [], 1), (8, [6, 3, 4], [], 0), (42, [4, 5], [], 0), (20, [5, 1], [1], 64), (90, [5], [], 0), (91, [5], [], 20), (5000, [0, 1, 2, 3, 4], [0, 1], 79), (0, [0], [], 285), (0, [1], [], 285), (90, [2], [], 0), (91, [2], [], 19), (90, [3], [], -2147483648), (91, [3], [], 2147483647), (90, [4], [], 0), (91, [4], [], 20)], (4000, [1, 2, 3, 16], [3], 79))
theorem c_288_79_13 {q0 : Nat} : vOkm T0 (eP e_288 L_288 A_288 mu_288 (some q0)) 1 g_288_79_13 := vOk_inI fun ρ η f0 f1 f2 f3 f4 f5 f6 f7 f8 f9 f10 f11 f12 f13 f14 f15 f16 f17 f18 f19 f20 f21 f22 f23 f24 f25 f26 f27 f28 f29 f30 f31 f32 => q_288_27 (q0 := q0) (n0 := ρ 4) (n1 := ρ 3) (n2 := ρ 2) (n3 := ρ 1) (n4 := ρ 0) (n5 := ρ 5) (n6 := ρ 6) (n7 := ρ 7) (n8 := ρ 8) (n9 := ρ 9) (n10 := ρ 10) (n11 := ρ 11) (n12 := ρ 12) (n13 := ρ 13) (n14 := ρ 14) (n15 := ρ 15) (n16 := ρ 16) (H0 := η 0) (H1 := η 1) (H2 := η 2) (H3 := η 3) f32 f31 f30 f29 f28 f27 f26 f25 f24 f23 f22 f21 f20 f19 f18 f17 f16 f15 f14 f13 f12 f11 f10 f9 f8 f7 f6 f5 f4 f3 f2 f1 f0
def p_288_79 : List vG := [g_288_79_0,
  g_288_79_1,
  g_288_79_2,
  g_288_79_3,
  g_288_79_4,
  g_288_79_5,
  g_288_79_6,
  g_288_79_7,
  g_288_79_8,
  g_288_79_9,
  g_288_79_10,
  g_288_79_11,
  g_288_79_12,
  g_288_79_13]
theorem r_288_79 : vCovO false (eRc e_288 L_288 cs_288 2000 (79, [(0, (3, 12, 285, 0)), (1, (0, 0, 19, 0)), (2, (0, -2147483648, 2147483647, 0)), (3, (0, 0, 20, 0))])) p_288_79 = true := by decide +kernel
theorem q_288_28 {q0 : Nat} {n0 n1 n2 : Int} {H0 H1 : gH} (f0 : n0 ≤ 1) (f1 : 0 ≤ n0) (f2 : n1 = 285) (f3 : n2 = 285) (f4 : (hLe T0 H0 H1 ∧ hFr s_288.2.2.2.2 H0 H1 ∧ hWt T0 H1) ∧ (Ab_288_131 n2 n1 n0 H0 H1 ∧ preb_288 n2 H0) ∧ some q0 = some (mub_288_131 n2 n1 n0 H0 H1)) (f5 : n0 = 0) : postb_288 n2 H0 H1 := by
  have g4 := f4.2.1.1
  unfold Ab_288_131 at g4
  have g3 := f4.2.1.2
  unfold preb_288 at g3
  unfold postb_288
  have e1 : hV H1 285 64 = hV H0 285 64 := (f4.1.2.1.1 285 64 kF_288_285_64)
  have e2 : hV H1 296 = hV H0 296 := fRow f4.1.2.1 296 kR_288_296
  have e3 : hV H1 298 = hV H0 298 := fRow f4.1.2.1 298 kR_288_298
  have e4 : hV H1 300 = hV H0 300 := fRow f4.1.2.1 300 kR_288_300
  have e5 : hV H1 301 = hV H0 301 := fRow f4.1.2.1 301 kR_288_301
  have e6 : hV H1 303 = hV H0 303 := fRow f4.1.2.1 303 kR_288_303
  have e7 : hV H1 328 = hV H0 328 := fRow f4.1.2.1 328 kR_288_328
  have e8 : hV H1 332 = hV H0 332 := fRow f4.1.2.1 332 kR_288_332
  have e9 : hV H1 333 = hV H0 333 := fRow f4.1.2.1 333 kR_288_333
  have e10 : hV H1 335 = hV H0 335 := fRow f4.1.2.1 335 kR_288_335
  have e11 : hV H1 341 = hV H0 341 := fRow f4.1.2.1 341 kR_288_341
  have e12 : (0 : Int) ≤ hV H0 285 64 ∧ hV H0 285 64 ≤ 20 := bTo e1 (f4.1.2.2 285 64 _ _ kW_285_64)
  try simp only [e1, e2, e3, e4, e5, e6, e7, e8, e9, e10, e11]
  have y0 := g4.1
  have y1 := g4.2
  have p0 := g3.1
  have p1 := g3.2.1
  have p2 := g3.2.2.1
  have p3 := g3.2.2.2
  try simp only [e1, e2, e3, e4, e5, e6, e7, e8, e9, e10, e11] at y0
  try simp only [e1, e2, e3, e4, e7, e8, e10] at y1
  clear g3
  clear g4
  clear e1 e2 e3 e4 e5 e6 e7 e8 e9 e10 e11
  clear f4

  exact NW_end y0 (y1 (by omega))
def g_288_131_0 : vG := ([(30, [2], [], 0), (5000, [0, 1, 2], [0, 1], 131), (0, [0], [], 285), (0, [1], [], 285), (90, [2], [], 0), (91, [2], [], 1)], (3000, [], [1], 196))
theorem c_288_131_0 {q0 : Nat} : vOkm T0 (eP e_288 L_288 A_288 mu_288 (some q0)) 1 g_288_131_0 := vOk_inI fun ρ η f0 f1 f2 f3 f4 f5 => q_288_28 (q0 := q0) (n0 := ρ 2) (n1 := ρ 1) (n2 := ρ 0) (H0 := η 0) (H1 := η 1) f5 f4 f3 f2 f1 f0
theorem q_288_29 {q0 : Nat} {n0 n1 n2 n3 n4 : Int} {H0 H1 : gH} (f0 : n0 ≤ 1) (f1 : 0 ≤ n0) (f2 : n1 = 285) (f3 : n2 = 285) (f4 : (hLe T0 H0 H1 ∧ hFr s_288.2.2.2.2 H0 H1 ∧ hWt T0 H1) ∧ (Ab_288_131 n2 n1 n0 H0 H1 ∧ preb_288 n2 H0) ∧ some q0 = some (mub_288_131 n2 n1 n0 H0 H1)) (f5 : n0 ≠ 0) (f6 : n3 = 0) (f7 : n4 = 0) : Ab_288_139 n2 n1 n3 n4 H0 H1 ∧ ∀ q, some q0 = some q → mub_288_139 n2 n1 n3 n4 H0 H1 < q := by
  have g4 := f4.2.1.1
  unfold Ab_288_131 at g4
  have g3 := f4.2.1.2
  unfold preb_288 at g3
  have g5 := Option.some.inj f4.2.2
  unfold mub_288_131 at g5
  unfold Ab_288_139
  unfold mub_288_139
  have e1 : hV H1 285 64 = hV H0 285 64 := (f4.1.2.1.1 285 64 kF_288_285_64)
  have e2 : hV H1 296 = hV H0 296 := fRow f4.1.2.1 296 kR_288_296
  have e3 : hV H1 298 = hV H0 298 := fRow f4.1.2.1 298 kR_288_298
  have e4 : hV H1 300 = hV H0 300 := fRow f4.1.2.1 300 kR_288_300
  have e5 : hV H1 301 = hV H0 301 := fRow f4.1.2.1 301 kR_288_301
  have e6 : hV H1 303 = hV H0 303 := fRow f4.1.2.1 303 kR_288_303
  have e7 : hV H1 328 = hV H0 328 := fRow f4.1.2.1 328 kR_288_328
  have e8 : hV H1 332 = hV H0 332 := fRow f4.1.2.1 332 kR_288_332
  have e9 : hV H1 333 = hV H0 333 := fRow f4.1.2.1 333 kR_288_333
  have e10 : hV H1 335 = hV H0 335 := fRow f4.1.2.1 335 kR_288_335
  have e11 : hV H1 341 = hV H0 341 := fRow f4.1.2.1 341 kR_288_341
  have e12 : (0 : Int) ≤ hV H0 285 64 ∧ hV H0 285 64 ≤ 20 := bTo e1 (f4.1.2.2 285 64 _ _ kW_285_64)
  try simp only [e1, e2, e3, e4, e5, e6, e7, e8, e9, e10, e11]
  have y0 := g4.1
  have y1 := g4.2
  have p0 := g3.1
  have p1 := g3.2.1
  have p2 := g3.2.2.1
  have p3 := g3.2.2.2
  try simp only [e1, e2, e3, e4, e5, e6, e7, e8, e9, e10, e11] at y0
  try simp only [e1, e2, e3, e4, e7, e8, e10] at y1
  clear g3
  clear g4
  clear e1 e2 e3 e4 e5 e6 e7 e8 e9 e10 e11
  clear f4

  refine ⟨?_, fun q hq => ?_⟩
  · exact ⟨y0, fun _ => CL_nil (by omega)⟩
  · have g6 := Option.some.inj hq
    subst g6
    omega
def g_288_131_1 : vG := ([(0, [4], [], 0), (0, [3], [], 0), (31, [2], [], 0), (5000, [0, 1, 2], [0, 1], 131), (0, [0], [], 285), (0, [1], [], 285), (90, [2], [], 0), (91, [2], [], 1)], (4000, [1, 3, 4], [1], 139))
theorem c_288_131_1 {q0 : Nat} : vOkm T0 (eP e_288 L_288 A_288 mu_288 (some q0)) 1 g_288_131_1 := vOk_inI fun ρ η f0 f1 f2 f3 f4 f5 f6 f7 => q_288_29 (q0 := q0) (n0 := ρ 2) (n1 := ρ 1) (n2 := ρ 0) (n3 := ρ 3) (n4 := ρ 4) (H0 := η 0) (H1 := η 1) f7 f6 f5 f4 f3 f2 f1 f0
def p_288_131 : List vG := [g_288_131_0,
  g_288_131_1]
theorem r_288_131 : vCovO false (eRc e_288 L_288 cs_288 2000 (131, [(0, (3, 12, 285, 0)), (1, (0, 0, 1, 0))])) p_288_131 = true := by decide +kernel
theorem q_288_30 {q0 : Nat} {n0 n1 n2 n3 n4 : Int} {H0 H1 : gH} (f0 : n0 ≤ 20) (f1 : 0 ≤ n0) (f2 : n1 ≤ 1) (f3 : 0 ≤ n1) (f4 : n2 = 285) (f5 : n3 = 285) (f6 : (hLe T0 H0 H1 ∧ hFr s_288.2.2.2.2 H0 H1 ∧ hWt T0 H1) ∧ (Ab_288_139 n3 n2 n1 n0 H0 H1 ∧ preb_288 n3 H0) ∧ some q0 = some (mub_288_139 n3 n2 n1 n0 H0 H1)) (f7 : n4 ≤ 20) (f8 : 0 ≤ n4) (f9 : n4 = hV H1 (n2).toNat 64) (f10 : n4 ≤ n0) : Ab_288_131 n3 n2 n1 H0 H1 ∧ ∀ q, some q0 = some q → mub_288_131 n3 n2 n1 H0 H1 < q := by
  have g4 := f6.2.1.1
  unfold Ab_288_139 at g4
  have g3 := f6.2.1.2
  unfold preb_288 at g3
  have g5 := Option.some.inj f6.2.2
  unfold mub_288_139 at g5
  unfold Ab_288_131
  unfold mub_288_131
  have e1 : n4 = hV H0 285 64 := (by rw [f4] at f9; exact f9 : n4 = hV H1 285 64).trans ((f6.1.2.1.1 285 64 kF_288_285_64))
  have e2 : hV H1 285 64 = hV H0 285 64 := (f6.1.2.1.1 285 64 kF_288_285_64)
  have e3 : hV H1 296 = hV H0 296 := fRow f6.1.2.1 296 kR_288_296
  have e4 : hV H1 298 = hV H0 298 := fRow f6.1.2.1 298 kR_288_298
  have e5 : hV H1 300 = hV H0 300 := fRow f6.1.2.1 300 kR_288_300
  have e6 : hV H1 301 = hV H0 301 := fRow f6.1.2.1 301 kR_288_301
  have e7 : hV H1 303 = hV H0 303 := fRow f6.1.2.1 303 kR_288_303
  have e8 : hV H1 328 = hV H0 328 := fRow f6.1.2.1 328 kR_288_328
  have e9 : hV H1 332 = hV H0 332 := fRow f6.1.2.1 332 kR_288_332
  have e10 : hV H1 333 = hV H0 333 := fRow f6.1.2.1 333 kR_288_333
  have e11 : hV H1 335 = hV H0 335 := fRow f6.1.2.1 335 kR_288_335
  have e12 : hV H1 341 = hV H0 341 := fRow f6.1.2.1 341 kR_288_341
  have e13 : (0 : Int) ≤ hV H0 285 64 ∧ hV H0 285 64 ≤ 20 := bTo e2 (f6.1.2.2 285 64 _ _ kW_285_64)
  try simp only [e2, e3, e4, e5, e6, e7, e8, e9, e10, e11, e12]
  have y0 := g4.1
  have y1 := g4.2
  have p0 := g3.1
  have p1 := g3.2.1
  have p2 := g3.2.2.1
  have p3 := g3.2.2.2
  try simp only [e2, e3, e4, e5, e6, e7, e8, e9, e10, e11, e12] at y0
  try simp only [e2, e3, e4, e5, e8, e9, e11] at y1
  clear g3
  clear g4
  clear f9 e2 e3 e4 e5 e6 e7 e8 e9 e10 e11 e12
  clear f6
  subst e1
  try have nl := nzc_le (f := hV H1 354) 20

  refine ⟨?_, fun q hq => ?_⟩
  · exact ⟨y0, fun z => CL_le (y1 (by omega)) (by omega)⟩
  · have g6 := Option.some.inj hq
    subst g6
    omega
def g_288_139_0 : vG := ([(43, [3, 4], [], 0), (20, [4, 1], [1], 64), (90, [4], [], 0), (91, [4], [], 20), (5000, [0, 1, 2, 3], [0, 1], 139), (0, [0], [], 285), (0, [1], [], 285), (90, [2], [], 0), (91, [2], [], 1), (90, [3], [], 0), (91, [3], [], 20)], (4000, [1, 2], [1], 131))
theorem c_288_139_0 {q0 : Nat} : vOkm T0 (eP e_288 L_288 A_288 mu_288 (some q0)) 1 g_288_139_0 := vOk_inI fun ρ η f0 f1 f2 f3 f4 f5 f6 f7 f8 f9 f10 => q_288_30 (q0 := q0) (n0 := ρ 3) (n1 := ρ 2) (n2 := ρ 1) (n3 := ρ 0) (n4 := ρ 4) (H0 := η 0) (H1 := η 1) f10 f9 f8 f7 f6 f5 f4 f3 f2 f1 f0
def g_288_139_1 : vG := ([(42, [3, 4], [], 0), (91, [4], [], 20), (90, [3], [], 0)], (70, [3], [], 20))
theorem c_288_139_1 {q0 : Nat} : vOkm T0 (eP e_288 L_288 A_288 mu_288 (some q0)) 1 g_288_139_1 := vOk_inI fun ρ η f0 f1 f2 => q_288_2 (q0 := q0) (n0 := ρ 3) (n1 := ρ 4) (H0 := η 0) f2 f1 f0
def g_288_139_2 : vG := ([(10, [8, 3], [], 1), (42, [3, 4], [], 0), (91, [4], [], 20), (90, [3], [], 0)], (90, [8], [], 0))
theorem c_288_139_2 {q0 : Nat} : vOkm T0 (eP e_288 L_288 A_288 mu_288 (some q0)) 1 g_288_139_2 := vOk_inI fun ρ η f0 f1 f2 f3 => q_288_3 (q0 := q0) (n0 := ρ 3) (n1 := ρ 4) (n2 := ρ 8) (H0 := η 0) f3 f2 f1 f0
def g_288_139_3 : vG := ([(10, [8, 3], [], 1), (42, [3, 4], [], 0), (91, [4], [], 20), (90, [3], [], 0)], (91, [8], [], 20))
theorem c_288_139_3 {q0 : Nat} : vOkm T0 (eP e_288 L_288 A_288 mu_288 (some q0)) 1 g_288_139_3 := vOk_inI fun ρ η f0 f1 f2 f3 => q_288_4 (q0 := q0) (n0 := ρ 3) (n1 := ρ 4) (n2 := ρ 8) (H0 := η 0) f3 f2 f1 f0
theorem q_288_31 {q0 : Nat} {n0 n1 n2 n3 n4 n5 n6 n7 n8 : Int} {H0 H1 : gH} (f0 : n0 ≤ 20) (f1 : 0 ≤ n0) (f2 : n1 ≤ 1) (f3 : 0 ≤ n1) (f4 : n2 = 285) (f5 : n3 = 285) (f6 : (hLe T0 H0 H1 ∧ hFr s_288.2.2.2.2 H0 H1 ∧ hWt T0 H1) ∧ (Ab_288_139 n3 n2 n1 n0 H0 H1 ∧ preb_288 n3 H0) ∧ some q0 = some (mub_288_139 n3 n2 n1 n0 H0 H1)) (f7 : n4 ≤ 20) (f8 : 0 ≤ n4) (f9 : n4 = hV H1 (n2).toNat 64) (f10 : n0 < n4) (f11 : n5 = 328) (f12 : n5 = hV H1 (n2).toNat 66) (f13 : n6 ≤ 6) (f14 : 0 ≤ n6) (f15 : n6 = hV H1 (n5).toNat (n0).toNat) (f16 : n7 = 6) (f17 : n6 ≠ n7) (f18 : n8 = w32 (n0 + 1)) : Ab_288_139 n3 n2 n1 n8 H0 H1 ∧ ∀ q, some q0 = some q → mub_288_139 n3 n2 n1 n8 H0 H1 < q := by
  have g4 := f6.2.1.1
  unfold Ab_288_139 at g4
  have g3 := f6.2.1.2
  unfold preb_288 at g3
  have g5 := Option.some.inj f6.2.2
  unfold mub_288_139 at g5
  unfold Ab_288_139
  unfold mub_288_139
  have e1 : n4 = hV H0 285 64 := (by rw [f4] at f9; exact f9 : n4 = hV H1 285 64).trans ((f6.1.2.1.1 285 64 kF_288_285_64))
  have e2 : hV H1 328 = hV H0 328 := fRow f6.1.2.1 328 kR_288_328
  have e3 : n6 = hV H0 328 (n0).toNat := (by rw [f11] at f15; exact f15 : n6 = hV H1 328 (n0).toNat).trans ((congrFun e2 _))
  have e4 : hV H1 285 64 = hV H0 285 64 := (f6.1.2.1.1 285 64 kF_288_285_64)
  have e5 : hV H1 296 = hV H0 296 := fRow f6.1.2.1 296 kR_288_296
  have e6 : hV H1 298 = hV H0 298 := fRow f6.1.2.1 298 kR_288_298
  have e7 : hV H1 300 = hV H0 300 := fRow f6.1.2.1 300 kR_288_300
  have e8 : hV H1 301 = hV H0 301 := fRow f6.1.2.1 301 kR_288_301
  have e9 : hV H1 303 = hV H0 303 := fRow f6.1.2.1 303 kR_288_303
  have e10 : hV H1 332 = hV H0 332 := fRow f6.1.2.1 332 kR_288_332
  have e11 : hV H1 333 = hV H0 333 := fRow f6.1.2.1 333 kR_288_333
  have e12 : hV H1 335 = hV H0 335 := fRow f6.1.2.1 335 kR_288_335
  have e13 : hV H1 341 = hV H0 341 := fRow f6.1.2.1 341 kR_288_341
  have e14 : (0 : Int) ≤ hV H0 285 64 ∧ hV H0 285 64 ≤ 20 := bTo e4 (f6.1.2.2 285 64 _ _ kW_285_64)
  try simp only [e4, e5, e6, e7, e8, e9, e2, e10, e11, e12, e13]
  have y0 := g4.1
  have y1 := g4.2
  have p0 := g3.1
  have p1 := g3.2.1
  have p2 := g3.2.2.1
  have p3 := g3.2.2.2
  try simp only [e4, e5, e6, e7, e8, e9, e2, e10, e11, e12, e13] at y0
  try simp only [e4, e5, e6, e7, e2, e10, e12] at y1
  clear g3
  clear g4
  clear f9 f12 f15 e2 e4 e5 e6 e7 e8 e9 e10 e11 e12 e13
  clear f6
  subst e1
  subst e3
  try have nl := nzc_le (f := hV H1 354) 20
  first
  | (have ix0 : n8 = n0 + 1 := Eq.trans f18 (w32_iv (Iad (Iat f1 f0) (IC 1)) (by decide)); subst ix0; clear f18)
  | (have ix0 : n8 = n0 + 1 := Eq.trans f18 (w32_id (by omega) (by omega)); subst ix0; clear f18)
  | (unfold w32 at f18; have ix0 : n8 = n0 + 1 := (by omega); subst ix0)
  | skip
  try unfold w32 at f18

  refine ⟨?_, fun q hq => ?_⟩
  · exact ⟨y0, fun z => CL_step (y1 (by omega)) (by omega) (by omega) ((by omega))⟩
  · have g6 := Option.some.inj hq
    subst g6
    try clear r0_0
    try clear r0_1
    omega
def g_288_139_4 : vG := ([(10, [8, 3], [], 1), (41, [6, 7], [], 0), (0, [7], [], 6), (22, [6, 5, 3], [1], 0), (90, [6], [], 0), (91, [6], [], 6), (20, [5, 1], [1], 66), (0, [5], [], 328), (42, [3, 4], [], 0), (20, [4, 1], [1], 64), (90, [4], [], 0), (91, [4], [], 20), (5000, [0, 1, 2, 3], [0, 1], 139), (0, [0], [], 285), (0, [1], [], 285), (90, [2], [], 0), (91, [2], [], 1), (90, [3], [], 0), (91, [3], [], 20)], (4000, [1, 2, 8], [1], 139))
theorem c_288_139_4 {q0 : Nat} : vOkm T0 (eP e_288 L_288 A_288 mu_288 (some q0)) 1 g_288_139_4 := vOk_inI fun ρ η f0 f1 f2 f3 f4 f5 f6 f7 f8 f9 f10 f11 f12 f13 f14 f15 f16 f17 f18 => q_288_31 (q0 := q0) (n0 := ρ 3) (n1 := ρ 2) (n2 := ρ 1) (n3 := ρ 0) (n4 := ρ 4) (n5 := ρ 5) (n6 := ρ 6) (n7 := ρ 7) (n8 := ρ 8) (H0 := η 0) (H1 := η 1) f18 f17 f16 f15 f14 f13 f12 f11 f10 f9 f8 f7 f6 f5 f4 f3 f2 f1 f0
def g_288_139_5 : vG := ([(42, [3, 4], [], 0), (91, [4], [], 20), (90, [3], [], 0)], (70, [3], [], 20))
theorem c_288_139_5 {q0 : Nat} : vOkm T0 (eP e_288 L_288 A_288 mu_288 (some q0)) 1 g_288_139_5 := vOk_inI fun ρ η f0 f1 f2 => q_288_2 (q0 := q0) (n0 := ρ 3) (n1 := ρ 4) (H0 := η 0) f2 f1 f0
def g_288_139_6 : vG := ([(10, [10, 3], [], 1), (42, [3, 4], [], 0), (91, [4], [], 20), (90, [3], [], 0)], (90, [10], [], 0))
theorem c_288_139_6 {q0 : Nat} : vOkm T0 (eP e_288 L_288 A_288 mu_288 (some q0)) 1 g_288_139_6 := vOk_inI fun ρ η f0 f1 f2 f3 => q_288_3 (q0 := q0) (n0 := ρ 3) (n1 := ρ 4) (n2 := ρ 10) (H0 := η 0) f3 f2 f1 f0
def g_288_139_7 : vG := ([(10, [10, 3], [], 1), (42, [3, 4], [], 0), (91, [4], [], 20), (90, [3], [], 0)], (91, [10], [], 20))
theorem c_288_139_7 {q0 : Nat} : vOkm T0 (eP e_288 L_288 A_288 mu_288 (some q0)) 1 g_288_139_7 := vOk_inI fun ρ η f0 f1 f2 f3 => q_288_4 (q0 := q0) (n0 := ρ 3) (n1 := ρ 4) (n2 := ρ 10) (H0 := η 0) f3 f2 f1 f0
theorem q_288_32 {q0 : Nat} {n0 n1 n2 n3 n4 n5 n6 n7 n8 n9 n10 : Int} {H0 H1 : gH} (f0 : n0 ≤ 20) (f1 : 0 ≤ n0) (f2 : n1 ≤ 1) (f3 : 0 ≤ n1) (f4 : n2 = 285) (f5 : n3 = 285) (f6 : (hLe T0 H0 H1 ∧ hFr s_288.2.2.2.2 H0 H1 ∧ hWt T0 H1) ∧ (Ab_288_139 n3 n2 n1 n0 H0 H1 ∧ preb_288 n3 H0) ∧ some q0 = some (mub_288_139 n3 n2 n1 n0 H0 H1)) (f7 : n4 ≤ 20) (f8 : 0 ≤ n4) (f9 : n4 = hV H1 (n2).toNat 64) (f10 : n0 < n4) (f11 : n5 = 328) (f12 : n5 = hV H1 (n2).toNat 66) (f13 : n6 ≤ 6) (f14 : 0 ≤ n6) (f15 : n6 = hV H1 (n5).toNat (n0).toNat) (f16 : n7 = 6) (f17 : n6 = n7) (f18 : n8 = 354) (f19 : n8 = hV H1 (n2).toNat 96) (f20 : n9 ≤ 1) (f21 : 0 ≤ n9) (f22 : n9 = hV H1 (n8).toNat (n0).toNat) (f23 : n9 ≠ 0) (f24 : n10 = w32 (n0 + 1)) : Ab_288_139 n3 n2 n1 n10 H0 H1 ∧ ∀ q, some q0 = some q → mub_288_139 n3 n2 n1 n10 H0 H1 < q := by
  have g4 := f6.2.1.1
  unfold Ab_288_139 at g4
  have g3 := f6.2.1.2
  unfold preb_288 at g3
  have g5 := Option.some.inj f6.2.2
  unfold mub_288_139 at g5
  unfold Ab_288_139
  unfold mub_288_139
  have e1 : n4 = hV H0 285 64 := (by rw [f4] at f9; exact f9 : n4 = hV H1 285 64).trans ((f6.1.2.1.1 285 64 kF_288_285_64))
  have e2 : hV H1 328 = hV H0 328 := fRow f6.1.2.1 328 kR_288_328
  have e3 : n6 = hV H0 328 (n0).toNat := (by rw [f11] at f15; exact f15 : n6 = hV H1 328 (n0).toNat).trans ((congrFun e2 _))
  have e4 : n9 = hV H1 354 (n0).toNat := (by rw [f18] at f22; exact f22 : n9 = hV H1 354 (n0).toNat)
  have e5 : hV H1 285 64 = hV H0 285 64 := (f6.1.2.1.1 285 64 kF_288_285_64)
  have e6 : hV H1 296 = hV H0 296 := fRow f6.1.2.1 296 kR_288_296
  have e7 : hV H1 298 = hV H0 298 := fRow f6.1.2.1 298 kR_288_298
  have e8 : hV H1 300 = hV H0 300 := fRow f6.1.2.1 300 kR_288_300
  have e9 : hV H1 301 = hV H0 301 := fRow f6.1.2.1 301 kR_288_301
  have e10 : hV H1 303 = hV H0 303 := fRow f6.1.2.1 303 kR_288_303
  have e11 : hV H1 332 = hV H0 332 := fRow f6.1.2.1 332 kR_288_332
  have e12 : hV H1 333 = hV H0 333 := fRow f6.1.2.1 333 kR_288_333
  have e13 : hV H1 335 = hV H0 335 := fRow f6.1.2.1 335 kR_288_335
  have e14 : hV H1 341 = hV H0 341 := fRow f6.1.2.1 341 kR_288_341
  have e15 : (0 : Int) ≤ hV H0 285 64 ∧ hV H0 285 64 ≤ 20 := bTo e5 (f6.1.2.2 285 64 _ _ kW_285_64)
  try simp only [e5, e6, e7, e8, e9, e10, e2, e11, e12, e13, e14]
  have y0 := g4.1
  have y1 := g4.2
  have p0 := g3.1
  have p1 := g3.2.1
  have p2 := g3.2.2.1
  have p3 := g3.2.2.2
  try simp only [e5, e6, e7, e8, e9, e10, e2, e11, e12, e13, e14] at y0
  try simp only [e5, e6, e7, e8, e2, e11, e13] at y1
  clear g3
  clear g4
  clear f9 f12 f15 f19 f22 e2 e5 e6 e7 e8 e9 e10 e11 e12 e13 e14
  clear f6
  subst e1
  subst e3
  subst e4
  try have nl := nzc_le (f := hV H1 354) 20
  first
  | (have ix0 : n10 = n0 + 1 := Eq.trans f24 (w32_iv (Iad (Iat f1 f0) (IC 1)) (by decide)); subst ix0; clear f24)
  | (have ix0 : n10 = n0 + 1 := Eq.trans f24 (w32_id (by omega) (by omega)); subst ix0; clear f24)
  | (unfold w32 at f24; have ix0 : n10 = n0 + 1 := (by omega); subst ix0)
  | skip
  try unfold w32 at f24

  refine ⟨?_, fun q hq => ?_⟩
  · exact ⟨y0, fun z => CL_step (y1 (by omega)) (by omega) (by omega) ((by omega))⟩
  · have g6 := Option.some.inj hq
    subst g6
    try clear r0_0
    try clear r0_1
    omega
def g_288_139_8 : vG := ([(10, [10, 3], [], 1), (31, [9], [], 0), (22, [9, 8, 3], [1], 0), (90, [9], [], 0), (91, [9], [], 1), (20, [8, 1], [1], 96), (0, [8], [], 354), (40, [6, 7], [], 0), (0, [7], [], 6), (22, [6, 5, 3], [1], 0), (90, [6], [], 0), (91, [6], [], 6), (20, [5, 1], [1], 66), (0, [5], [], 328), (42, [3, 4], [], 0), (20, [4, 1], [1], 64), (90, [4], [], 0), (91, [4], [], 20), (5000, [0, 1, 2, 3], [0, 1], 139), (0, [0], [], 285), (0, [1], [], 285), (90, [2], [], 0), (91, [2], [], 1), (90, [3], [], 0), (91, [3], [], 20)], (4000, [1, 2, 10], [1], 139))
theorem c_288_139_8 {q0 : Nat} : vOkm T0 (eP e_288 L_288 A_288 mu_288 (some q0)) 1 g_288_139_8 := vOk_inI fun ρ η f0 f1 f2 f3 f4 f5 f6 f7 f8 f9 f10 f11 f12 f13 f14 f15 f16 f17 f18 f19 f20 f21 f22 f23 f24 => q_288_32 (q0 := q0) (n0 := ρ 3) (n1 := ρ 2) (n2 := ρ 1) (n3 := ρ 0) (n4 := ρ 4) (n5 := ρ 5) (n6 := ρ 6) (n7 := ρ 7) (n8 := ρ 8) (n9 := ρ 9) (n10 := ρ 10) (H0 := η 0) (H1 := η 1) f24 f23 f22 f21 f20 f19 f18 f17 f16 f15 f14 f13 f12 f11 f10 f9 f8 f7 f6 f5 f4 f3 f2 f1 f0
def g_288_139_9 : vG := ([(42, [3, 4], [], 0), (91, [4], [], 20)], (91, [3], [], 19))
theorem c_288_139_9 {q0 : Nat} : vOkm T0 (eP e_288 L_288 A_288 mu_288 (some q0)) 1 g_288_139_9 := vOk_inI fun ρ η f0 f1 => q_288_24 (q0 := q0) (n0 := ρ 4) (n1 := ρ 3) (H0 := η 0) f1 f0
theorem q_288_33 {q0 : Nat} {n0 n1 n2 n3 n4 n5 n6 n7 n8 n9 : Int} {H0 H1 : gH} (f0 : n0 ≤ 20) (f1 : 0 ≤ n0) (f2 : n1 ≤ 1) (f3 : 0 ≤ n1) (f4 : n2 = 285) (f5 : n3 = 285) (f6 : (hLe T0 H0 H1 ∧ hFr s_288.2.2.2.2 H0 H1 ∧ hWt T0 H1) ∧ (Ab_288_139 n3 n2 n1 n0 H0 H1 ∧ preb_288 n3 H0) ∧ some q0 = some (mub_288_139 n3 n2 n1 n0 H0 H1)) (f7 : n4 ≤ 20) (f8 : 0 ≤ n4) (f9 : n4 = hV H1 (n2).toNat 64) (f10 : n0 < n4) (f11 : n5 = 328) (f12 : n5 = hV H1 (n2).toNat 66) (f13 : n6 ≤ 6) (f14 : 0 ≤ n6) (f15 : n6 = hV H1 (n5).toNat (n0).toNat) (f16 : n7 = 6) (f17 : n6 = n7) (f18 : n8 = 354) (f19 : n8 = hV H1 (n2).toNat 96) (f20 : n9 ≤ 1) (f21 : 0 ≤ n9) (f22 : n9 = hV H1 (n8).toNat (n0).toNat) (f23 : n9 = 0) : preb_289 n2 n0 H1 := by
  have g4 := f6.2.1.1
  unfold Ab_288_139 at g4
  have g3 := f6.2.1.2
  unfold preb_288 at g3
  unfold preb_289
  have e1 : n4 = hV H0 285 64 := (by rw [f4] at f9; exact f9 : n4 = hV H1 285 64).trans ((f6.1.2.1.1 285 64 kF_288_285_64))
  have e2 : hV H1 328 = hV H0 328 := fRow f6.1.2.1 328 kR_288_328
  have e3 : n6 = hV H0 328 (n0).toNat := (by rw [f11] at f15; exact f15 : n6 = hV H1 328 (n0).toNat).trans ((congrFun e2 _))
  have e4 : n9 = hV H1 354 (n0).toNat := (by rw [f18] at f22; exact f22 : n9 = hV H1 354 (n0).toNat)
  have e5 : hV H1 285 64 = hV H0 285 64 := (f6.1.2.1.1 285 64 kF_288_285_64)
  have e6 : hV H1 296 = hV H0 296 := fRow f6.1.2.1 296 kR_288_296
  have e7 : hV H1 298 = hV H0 298 := fRow f6.1.2.1 298 kR_288_298
  have e8 : hV H1 300 = hV H0 300 := fRow f6.1.2.1 300 kR_288_300
  have e9 : hV H1 301 = hV H0 301 := fRow f6.1.2.1 301 kR_288_301
  have e10 : hV H1 303 = hV H0 303 := fRow f6.1.2.1 303 kR_288_303
  have e11 : hV H1 332 = hV H0 332 := fRow f6.1.2.1 332 kR_288_332
  have e12 : hV H1 333 = hV H0 333 := fRow f6.1.2.1 333 kR_288_333
  have e13 : hV H1 335 = hV H0 335 := fRow f6.1.2.1 335 kR_288_335
  have e14 : hV H1 341 = hV H0 341 := fRow f6.1.2.1 341 kR_288_341
  have e15 : PG H1 = PG H0 := PG_fr f6.1.2.1 (by decide +kernel)
  have e16 : SO H1 = SO H0 := SO_fr f6.1.2.1 (by decide +kernel)
  have e17 : (0 : Int) ≤ hV H0 285 64 ∧ hV H0 285 64 ≤ 20 := bTo e5 (f6.1.2.2 285 64 _ _ kW_285_64)
  try simp only [e5, e15, e16]
  have y0 := g4.1
  have y1 := g4.2
  have p0 := g3.1
  have p1 := g3.2.1
  have p2 := g3.2.2.1
  have p3 := g3.2.2.2
  try simp only [e5, e6, e7, e8, e9, e10, e2, e11, e12, e13, e14] at y0
  try simp only [e5, e6, e7, e8, e2, e11, e13] at y1
  clear g3
  clear g4
  clear f9 f12 f15 f19 f22 e2 e5 e6 e7 e8 e9 e10 e11 e12 e13 e14 e15 e16
  clear f6
  subst e1
  subst e3
  subst e4
  try have nl := nzc_le (f := hV H1 354) 20
  refine ⟨?_, ?_, ?_⟩ <;> first | assumption | omega | trivial
def g_288_139_10 : vG := ([(30, [9], [], 0), (22, [9, 8, 3], [1], 0), (90, [9], [], 0), (91, [9], [], 1), (20, [8, 1], [1], 96), (0, [8], [], 354), (40, [6, 7], [], 0), (0, [7], [], 6), (22, [6, 5, 3], [1], 0), (90, [6], [], 0), (91, [6], [], 6), (20, [5, 1], [1], 66), (0, [5], [], 328), (42, [3, 4], [], 0), (20, [4, 1], [1], 64), (90, [4], [], 0), (91, [4], [], 20), (5000, [0, 1, 2, 3], [0, 1], 139), (0, [0], [], 285), (0, [1], [], 285), (90, [2], [], 0), (91, [2], [], 1), (90, [3], [], 0), (91, [3], [], 20)], (2289, [1, 3], [1], 0))
theorem c_288_139_10 {q0 : Nat} : vOkm T0 (eP e_288 L_288 A_288 mu_288 (some q0)) 1 g_288_139_10 := vOk_inI fun ρ η f0 f1 f2 f3 f4 f5 f6 f7 f8 f9 f10 f11 f12 f13 f14 f15 f16 f17 f18 f19 f20 f21 f22 f23 => q_288_33 (q0 := q0) (n0 := ρ 3) (n1 := ρ 2) (n2 := ρ 1) (n3 := ρ 0) (n4 := ρ 4) (n5 := ρ 5) (n6 := ρ 6) (n7 := ρ 7) (n8 := ρ 8) (n9 := ρ 9) (H0 := η 0) (H1 := η 1) f23 f22 f21 f20 f19 f18 f17 f16 f15 f14 f13 f12 f11 f10 f9 f8 f7 f6 f5 f4 f3 f2 f1 f0
def g_288_139_11 : vG := ([(42, [3, 4], [], 0), (91, [4], [], 20), (90, [3], [], 0)], (70, [3], [], 20))
theorem c_288_139_11 {q0 : Nat} : vOkm T0 (eP e_288 L_288 A_288 mu_288 (some q0)) 1 g_288_139_11 := vOk_inI fun ρ η f0 f1 f2 => q_288_2 (q0 := q0) (n0 := ρ 3) (n1 := ρ 4) (H0 := η 0) f2 f1 f0
def g_288_139_12 : vG := ([(10, [15, 3], [], 1), (42, [3, 4], [], 0), (91, [4], [], 20), (90, [3], [], 0)], (90, [15], [], 0))
theorem c_288_139_12 {q0 : Nat} : vOkm T0 (eP e_288 L_288 A_288 mu_288 (some q0)) 1 g_288_139_12 := vOk_inI fun ρ η f0 f1 f2 f3 => q_288_3 (q0 := q0) (n0 := ρ 3) (n1 := ρ 4) (n2 := ρ 15) (H0 := η 0) f3 f2 f1 f0
def g_288_139_13 : vG := ([(10, [15, 3], [], 1), (42, [3, 4], [], 0), (91, [4], [], 20), (90, [3], [], 0)], (91, [15], [], 20))
theorem c_288_139_13 {q0 : Nat} : vOkm T0 (eP e_288 L_288 A_288 mu_288 (some q0)) 1 g_288_139_13 := vOk_inI fun ρ η f0 f1 f2 f3 => q_288_4 (q0 := q0) (n0 := ρ 3) (n1 := ρ 4) (n2 := ρ 15) (H0 := η 0) f3 f2 f1 f0
theorem kR_289_301 : vFreeR s_289.2.2.2.2 301 = true := by decide +kernel
theorem kR_289_303 : vFreeR s_289.2.2.2.2 303 = true := by decide +kernel
theorem kR_289_333 : vFreeR s_289.2.2.2.2 333 = true := by decide +kernel
theorem kR_289_341 : vFreeR s_289.2.2.2.2 341 = true := by decide +kernel
theorem q_288_34 {q0 : Nat} {n0 n1 n2 n3 n4 n5 n6 n7 n8 n9 n10 n11 n12 n13 n14 n15 : Int} {H0 H1 H2 H3 : gH} (f0 : n0 ≤ 20) (f1 : 0 ≤ n0) (f2 : n1 ≤ 1) (f3 : 0 ≤ n1) (f4 : n2 = 285) (f5 : n3 = 285) (f6 : (hLe T0 H0 H1 ∧ hFr s_288.2.2.2.2 H0 H1 ∧ hWt T0 H1) ∧ (Ab_288_139 n3 n2 n1 n0 H0 H1 ∧ preb_288 n3 H0) ∧ some q0 = some (mub_288_139 n3 n2 n1 n0 H0 H1)) (f7 : n4 ≤ 20) (f8 : 0 ≤ n4) (f9 : n4 = hV H1 (n2).toNat 64) (f10 : n0 < n4) (f11 : n5 = 328) (f12 : n5 = hV H1 (n2).toNat 66) (f13 : n6 ≤ 6) (f14 : 0 ≤ n6) (f15 : n6 = hV H1 (n5).toNat (n0).toNat) (f16 : n7 = 6) (f17 : n6 = n7) (f18 : n8 = 354) (f19 : n8 = hV H1 (n2).toNat 96) (f20 : n9 ≤ 1) (f21 : 0 ≤ n9) (f22 : n9 = hV H1 (n8).toNat (n0).toNat) (f23 : n9 = 0) (f24 : n10 ≤ 1) (f25 : 0 ≤ n10) (f26 : (hLe T0 H1 H2 ∧ hFr s_289.2.2.2.2 H1 H2 ∧ ((0 : Int) = 0 → H2.length = H1.length) ∧ hWt T0 H2) ∧ postb_289 n10 n2 n0 H1 H2) (f27 : n10 ≠ 0) (f28 : n11 = 354) (f29 : n11 = hV H2 (n2).toNat 96) (f30 : n12 = 1) (f31 : n13 = o32 (fun x _ => x &&& 1) n12 0) (f32 : hUpd H3 H2 n11 n0 n13) (f33 : n14 = 1) (f34 : n15 = w32 (n0 + 1)) : Ab_288_139 n3 n2 n14 n15 H0 H3 ∧ ∀ q, some q0 = some q → mub_288_139 n3 n2 n14 n15 H0 H3 < q := by
  have g4 := f6.2.1.1
  unfold Ab_288_139 at g4
  have g3 := f6.2.1.2
  unfold preb_288 at g3
  have g5 := Option.some.inj f6.2.2
  unfold mub_288_139 at g5
  unfold postb_289 at f26
  unfold Ab_288_139
  unfold mub_288_139
  have e1 : n4 = hV H0 285 64 := (by rw [f4] at f9; exact f9 : n4 = hV H1 285 64).trans ((f6.1.2.1.1 285 64 kF_288_285_64))
  have e2 : hV H1 328 = hV H0 328 := fRow f6.1.2.1 328 kR_288_328
  have e3 : n6 = hV H0 328 (n0).toNat := (by rw [f11] at f15; exact f15 : n6 = hV H1 328 (n0).toNat).trans ((congrFun e2 _))
  have e4 : n9 = hV H1 354 (n0).toNat := (by rw [f18] at f22; exact f22 : n9 = hV H1 354 (n0).toNat)
  have e5 : hV H1 285 64 = hV H0 285 64 := (f6.1.2.1.1 285 64 kF_288_285_64)
  have e6 : hV H1 296 = hV H0 296 := fRow f6.1.2.1 296 kR_288_296
  have e7 : hV H1 298 = hV H0 298 := fRow f6.1.2.1 298 kR_288_298
  have e8 : hV H1 300 = hV H0 300 := fRow f6.1.2.1 300 kR_288_300
  have e9 : hV H1 301 = hV H0 301 := fRow f6.1.2.1 301 kR_288_301
  have e10 : hV H1 303 = hV H0 303 := fRow f6.1.2.1 303 kR_288_303
  have e11 : hV H1 332 = hV H0 332 := fRow f6.1.2.1 332 kR_288_332
  have e12 : hV H1 333 = hV H0 333 := fRow f6.1.2.1 333 kR_288_333
  have e13 : hV H1 335 = hV H0 335 := fRow f6.1.2.1 335 kR_288_335
  have e14 : hV H1 341 = hV H0 341 := fRow f6.1.2.1 341 kR_288_341
  have e16 : hV H2 285 64 = hV H0 285 64 := ((f26.1.2.1.1 285 64 kF_289_285_64)).trans (f6.1.2.1.1 285 64 kF_288_285_64)
  have e18 : hV H2 296 = hV H0 296 := (fRow f26.1.2.1 296 kR_289_296).trans e6
  have e20 : hV H2 298 = hV H0 298 := (fRow f26.1.2.1 298 kR_289_298).trans e7
  have e22 : hV H2 300 = hV H0 300 := (fRow f26.1.2.1 300 kR_289_300).trans e8
  have e24 : hV H2 328 = hV H0 328 := (fRow f26.1.2.1 328 kR_289_328).trans e2
  have e26 : hV H2 332 = hV H0 332 := (fRow f26.1.2.1 332 kR_289_332).trans e11
  have e28 : hV H2 335 = hV H0 335 := (fRow f26.1.2.1 335 kR_289_335).trans e13
  have e29 : hV H2 354 = hV H1 354 := fRow f26.1.2.1 354 kR_289_354
  have e31 : hV H3 285 64 = hV H0 285 64 := ((uPlace f32 285 64 (iS (show n11 = ((354 : Nat) : Int) from f28) rfl))).trans (((f26.1.2.1.1 285 64 kF_289_285_64)).trans (f6.1.2.1.1 285 64 kF_288_285_64))
  have e33 : hV H3 296 = hV H0 296 := (uRowNe f32 296 (iS (show n11 = ((354 : Nat) : Int) from f28) rfl)).trans e18
  have e35 : hV H3 298 = hV H0 298 := (uRowNe f32 298 (iS (show n11 = ((354 : Nat) : Int) from f28) rfl)).trans e20
  have e37 : hV H3 300 = hV H0 300 := (uRowNe f32 300 (iS (show n11 = ((354 : Nat) : Int) from f28) rfl)).trans e22
  have e41 : hV H3 301 = hV H0 301 := (uRowNe f32 301 (iS (show n11 = ((354 : Nat) : Int) from f28) rfl)).trans ((fRow f26.1.2.1 301 kR_289_301).trans e9)
  have e45 : hV H3 303 = hV H0 303 := (uRowNe f32 303 (iS (show n11 = ((354 : Nat) : Int) from f28) rfl)).trans ((fRow f26.1.2.1 303 kR_289_303).trans e10)
  have e47 : hV H3 328 = hV H0 328 := (uRowNe f32 328 (iS (show n11 = ((354 : Nat) : Int) from f28) rfl)).trans e24
  have e49 : hV H3 332 = hV H0 332 := (uRowNe f32 332 (iS (show n11 = ((354 : Nat) : Int) from f28) rfl)).trans e26
  have e53 : hV H3 333 = hV H0 333 := (uRowNe f32 333 (iS (show n11 = ((354 : Nat) : Int) from f28) rfl)).trans ((fRow f26.1.2.1 333 kR_289_333).trans e12)
  have e55 : hV H3 335 = hV H0 335 := (uRowNe f32 335 (iS (show n11 = ((354 : Nat) : Int) from f28) rfl)).trans e28
  have e59 : hV H3 341 = hV H0 341 := (uRowNe f32 341 (iS (show n11 = ((354 : Nat) : Int) from f28) rfl)).trans ((fRow f26.1.2.1 341 kR_289_341).trans e14)
  have e61 : hV H3 354 = (uF (hV H1 354) n0 n13) := (uRow f32 354 f28.symm).trans (congrArg (fun z => uF z n0 n13) e29)
  have e62 : (0 : Int) ≤ hV H0 285 64 ∧ hV H0 285 64 ≤ 20 := bTo e5 (f6.1.2.2 285 64 _ _ kW_285_64)
  try simp only [e31, e33, e35, e37, e41, e45, e47, e49, e53, e55, e59, e61]
  have y0 := g4.1
  have y1 := g4.2
  have p0 := g3.1
  have p1 := g3.2.1
  have p2 := g3.2.2.1
  have p3 := g3.2.2.2
  have r0_0 := f26.2.1
  have r0_1 := f26.2.2
  try simp only [e5, e6, e7, e8, e9, e10, e2, e11, e12, e13, e14] at y0
  try simp only [e5, e6, e7, e8, e2, e11, e13] at y1
  try simp only [e16, e18, e20, e22, e24, e26, e28, e29] at r0_0
  try simp only [e16, e18, e20, e22, e24, e26, e28, e29] at r0_1
  clear g3
  clear g4
  clear f9 f12 f15 f19 f22 f29 e2 e5 e6 e7 e8 e9 e10 e11 e12 e13 e14 e16 e18 e20 e22 e24 e26 e28 e29 e31 e33 e35 e37 e41 e45 e47 e49 e53 e55 e59 e61
  clear f6 f26
  subst e1
  subst e3
  subst e4
  have b31 := b1_in f31 (by omega) (by omega)
  try have nl := nzc_le (f := hV H1 354) 20
  first
  | (have ix0 : n15 = n0 + 1 := Eq.trans f34 (w32_iv (Iad (Iat f1 f0) (IC 1)) (by decide)); subst ix0; clear f34)
  | (have ix0 : n15 = n0 + 1 := Eq.trans f34 (w32_id (by omega) (by omega)); subst ix0; clear f34)
  | (unfold w32 at f34; have ix0 : n15 = n0 + 1 := (by omega); subst ix0)
  | skip
  try unfold w32 at f34

  have nu := nzc_up (f := hV H1 354) (i := n0) (w := n13) (n := 20) (by omega) (by omega) (by omega) (by omega)
  refine ⟨?_, fun q hq => ?_⟩
  · exact ⟨NW_add y0 (by omega) (by omega) (by omega) (by omega) (by omega) (r0_0 (by omega)), fun z => by omega⟩
  · have g6 := Option.some.inj hq
    subst g6
    try clear r0_0
    try clear r0_1
    omega
def g_288_139_14 : vG := ([(10, [15, 3], [], 1), (0, [14], [], 1), (80, [11, 3, 13], [3, 2], 0), (16, [13, 12], [], 0), (0, [12], [], 1), (20, [11, 1], [2], 96), (0, [11], [], 354), (31, [10], [], 0), (1289, [10, 1, 3], [1, 2], 0), (90, [10], [], 0), (91, [10], [], 1), (30, [9], [], 0), (22, [9, 8, 3], [1], 0), (90, [9], [], 0), (91, [9], [], 1), (20, [8, 1], [1], 96), (0, [8], [], 354), (40, [6, 7], [], 0), (0, [7], [], 6), (22, [6, 5, 3], [1], 0), (90, [6], [], 0), (91, [6], [], 6), (20, [5, 1], [1], 66), (0, [5], [], 328), (42, [3, 4], [], 0), (20, [4, 1], [1], 64), (90, [4], [], 0), (91, [4], [], 20), (5000, [0, 1, 2, 3], [0, 1], 139), (0, [0], [], 285), (0, [1], [], 285), (90, [2], [], 0), (91, [2], [], 1), (90, [3], [], 0), (91, [3], [], 20)], (4000, [1, 14, 15], [3], 139))
theorem c_288_139_14 {q0 : Nat} : vOkm T0 (eP e_288 L_288 A_288 mu_288 (some q0)) 1 g_288_139_14 := vOk_inI fun ρ η f0 f1 f2 f3 f4 f5 f6 f7 f8 f9 f10 f11 f12 f13 f14 f15 f16 f17 f18 f19 f20 f21 f22 f23 f24 f25 f26 f27 f28 f29 f30 f31 f32 f33 f34 => q_288_34 (q0 := q0) (n0 := ρ 3) (n1 := ρ 2) (n2 := ρ 1) (n3 := ρ 0) (n4 := ρ 4) (n5 := ρ 5) (n6 := ρ 6) (n7 := ρ 7) (n8 := ρ 8) (n9 := ρ 9) (n10 := ρ 10) (n11 := ρ 11) (n12 := ρ 12) (n13 := ρ 13) (n14 := ρ 14) (n15 := ρ 15) (H0 := η 0) (H1 := η 1) (H2 := η 2) (H3 := η 3) f34 f33 f32 f31 f30 f29 f28 f27 f26 f25 f24 f23 f22 f21 f20 f19 f18 f17 f16 f15 f14 f13 f12 f11 f10 f9 f8 f7 f6 f5 f4 f3 f2 f1 f0
def g_288_139_15 : vG := ([(10, [11, 3], [], 1), (42, [3, 4], [], 0), (91, [4], [], 20), (90, [3], [], 0)], (90, [11], [], 0))
theorem c_288_139_15 {q0 : Nat} : vOkm T0 (eP e_288 L_288 A_288 mu_288 (some q0)) 1 g_288_139_15 := vOk_inI fun ρ η f0 f1 f2 f3 => q_288_3 (q0 := q0) (n0 := ρ 3) (n1 := ρ 4) (n2 := ρ 11) (H0 := η 0) f3 f2 f1 f0
def g_288_139_16 : vG := ([(10, [11, 3], [], 1), (42, [3, 4], [], 0), (91, [4], [], 20), (90, [3], [], 0)], (91, [11], [], 20))
theorem c_288_139_16 {q0 : Nat} : vOkm T0 (eP e_288 L_288 A_288 mu_288 (some q0)) 1 g_288_139_16 := vOk_inI fun ρ η f0 f1 f2 f3 => q_288_4 (q0 := q0) (n0 := ρ 3) (n1 := ρ 4) (n2 := ρ 11) (H0 := η 0) f3 f2 f1 f0
theorem q_288_35 {q0 : Nat} {n0 n1 n2 n3 n4 n5 n6 n7 n8 n9 n10 n11 : Int} {H0 H1 H2 : gH} (f0 : n0 ≤ 20) (f1 : 0 ≤ n0) (f2 : n1 ≤ 1) (f3 : 0 ≤ n1) (f4 : n2 = 285) (f5 : n3 = 285) (f6 : (hLe T0 H0 H1 ∧ hFr s_288.2.2.2.2 H0 H1 ∧ hWt T0 H1) ∧ (Ab_288_139 n3 n2 n1 n0 H0 H1 ∧ preb_288 n3 H0) ∧ some q0 = some (mub_288_139 n3 n2 n1 n0 H0 H1)) (f7 : n4 ≤ 20) (f8 : 0 ≤ n4) (f9 : n4 = hV H1 (n2).toNat 64) (f10 : n0 < n4) (f11 : n5 = 328) (f12 : n5 = hV H1 (n2).toNat 66) (f13 : n6 ≤ 6) (f14 : 0 ≤ n6) (f15 : n6 = hV H1 (n5).toNat (n0).toNat) (f16 : n7 = 6) (f17 : n6 = n7) (f18 : n8 = 354) (f19 : n8 = hV H1 (n2).toNat 96) (f20 : n9 ≤ 1) (f21 : 0 ≤ n9) (f22 : n9 = hV H1 (n8).toNat (n0).toNat) (f23 : n9 = 0) (f24 : n10 ≤ 1) (f25 : 0 ≤ n10) (f26 : (hLe T0 H1 H2 ∧ hFr s_289.2.2.2.2 H1 H2 ∧ ((0 : Int) = 0 → H2.length = H1.length) ∧ hWt T0 H2) ∧ postb_289 n10 n2 n0 H1 H2) (f27 : n10 = 0) (f28 : n11 = w32 (n0 + 1)) : Ab_288_139 n3 n2 n1 n11 H0 H2 ∧ ∀ q, some q0 = some q → mub_288_139 n3 n2 n1 n11 H0 H2 < q := by
  have g4 := f6.2.1.1
  unfold Ab_288_139 at g4
  have g3 := f6.2.1.2
  unfold preb_288 at g3
  have g5 := Option.some.inj f6.2.2
  unfold mub_288_139 at g5
  unfold postb_289 at f26
  unfold Ab_288_139
  unfold mub_288_139
  have e1 : n4 = hV H0 285 64 := (by rw [f4] at f9; exact f9 : n4 = hV H1 285 64).trans ((f6.1.2.1.1 285 64 kF_288_285_64))
  have e2 : hV H1 328 = hV H0 328 := fRow f6.1.2.1 328 kR_288_328
  have e3 : n6 = hV H0 328 (n0).toNat := (by rw [f11] at f15; exact f15 : n6 = hV H1 328 (n0).toNat).trans ((congrFun e2 _))
  have e4 : n9 = hV H1 354 (n0).toNat := (by rw [f18] at f22; exact f22 : n9 = hV H1 354 (n0).toNat)
  have e5 : hV H1 285 64 = hV H0 285 64 := (f6.1.2.1.1 285 64 kF_288_285_64)
  have e6 : hV H1 296 = hV H0 296 := fRow f6.1.2.1 296 kR_288_296
  have e7 : hV H1 298 = hV H0 298 := fRow f6.1.2.1 298 kR_288_298
  have e8 : hV H1 300 = hV H0 300 := fRow f6.1.2.1 300 kR_288_300
  have e9 : hV H1 301 = hV H0 301 := fRow f6.1.2.1 301 kR_288_301
  have e10 : hV H1 303 = hV H0 303 := fRow f6.1.2.1 303 kR_288_303
  have e11 : hV H1 332 = hV H0 332 := fRow f6.1.2.1 332 kR_288_332
  have e12 : hV H1 333 = hV H0 333 := fRow f6.1.2.1 333 kR_288_333
  have e13 : hV H1 335 = hV H0 335 := fRow f6.1.2.1 335 kR_288_335
  have e14 : hV H1 341 = hV H0 341 := fRow f6.1.2.1 341 kR_288_341
  have e16 : hV H2 285 64 = hV H0 285 64 := ((f26.1.2.1.1 285 64 kF_289_285_64)).trans (f6.1.2.1.1 285 64 kF_288_285_64)
  have e18 : hV H2 296 = hV H0 296 := (fRow f26.1.2.1 296 kR_289_296).trans e6
  have e20 : hV H2 298 = hV H0 298 := (fRow f26.1.2.1 298 kR_289_298).trans e7
  have e22 : hV H2 300 = hV H0 300 := (fRow f26.1.2.1 300 kR_289_300).trans e8
  have e24 : hV H2 301 = hV H0 301 := (fRow f26.1.2.1 301 kR_289_301).trans e9
  have e26 : hV H2 303 = hV H0 303 := (fRow f26.1.2.1 303 kR_289_303).trans e10
  have e28 : hV H2 328 = hV H0 328 := (fRow f26.1.2.1 328 kR_289_328).trans e2
  have e30 : hV H2 332 = hV H0 332 := (fRow f26.1.2.1 332 kR_289_332).trans e11
  have e32 : hV H2 333 = hV H0 333 := (fRow f26.1.2.1 333 kR_289_333).trans e12
  have e34 : hV H2 335 = hV H0 335 := (fRow f26.1.2.1 335 kR_289_335).trans e13
  have e36 : hV H2 341 = hV H0 341 := (fRow f26.1.2.1 341 kR_289_341).trans e14
  have e37 : hV H2 354 = hV H1 354 := fRow f26.1.2.1 354 kR_289_354
  have e38 : (0 : Int) ≤ hV H0 285 64 ∧ hV H0 285 64 ≤ 20 := bTo e5 (f6.1.2.2 285 64 _ _ kW_285_64)
  try simp only [e16, e18, e20, e22, e24, e26, e28, e30, e32, e34, e36, e37]
  have y0 := g4.1
  have y1 := g4.2
  have p0 := g3.1
  have p1 := g3.2.1
  have p2 := g3.2.2.1
  have p3 := g3.2.2.2
  have r0_0 := f26.2.1
  have r0_1 := f26.2.2
  try simp only [e5, e6, e7, e8, e9, e10, e2, e11, e12, e13, e14] at y0
  try simp only [e5, e6, e7, e8, e2, e11, e13] at y1
  try simp only [e16, e18, e20, e22, e28, e30, e34, e37] at r0_0
  try simp only [e16, e18, e20, e22, e28, e30, e34, e37] at r0_1
  clear g3
  clear g4
  clear f9 f12 f15 f19 f22 e2 e5 e6 e7 e8 e9 e10 e11 e12 e13 e14 e16 e18 e20 e22 e24 e26 e28 e30 e32 e34 e36 e37
  clear f6 f26
  subst e1
  subst e3
  subst e4
  try have nl := nzc_le (f := hV H1 354) 20
  first
  | (have ix0 : n11 = n0 + 1 := Eq.trans f28 (w32_iv (Iad (Iat f1 f0) (IC 1)) (by decide)); subst ix0; clear f28)
  | (have ix0 : n11 = n0 + 1 := Eq.trans f28 (w32_id (by omega) (by omega)); subst ix0; clear f28)
  | (unfold w32 at f28; have ix0 : n11 = n0 + 1 := (by omega); subst ix0)
  | skip
  try unfold w32 at f28

  refine ⟨?_, fun q hq => ?_⟩
  · exact ⟨y0, fun z => CL_step (y1 (by omega)) (by omega) (by omega) (.inr (.inr (fun ⟨k, a, b, c⟩ => absurd (r0_1 (by omega) k a b) c)))⟩
  · have g6 := Option.some.inj hq
    subst g6
    try clear r0_0
    try clear r0_1
    omega
def g_288_139_17 : vG := ([(10, [11, 3], [], 1), (30, [10], [], 0), (1289, [10, 1, 3], [1, 2], 0), (90, [10], [], 0), (91, [10], [], 1), (30, [9], [], 0), (22, [9, 8, 3], [1], 0), (90, [9], [], 0), (91, [9], [], 1), (20, [8, 1], [1], 96), (0, [8], [], 354), (40, [6, 7], [], 0), (0, [7], [], 6), (22, [6, 5, 3], [1], 0), (90, [6], [], 0), (91, [6], [], 6), (20, [5, 1], [1], 66), (0, [5], [], 328), (42, [3, 4], [], 0), (20, [4, 1], [1], 64), (90, [4], [], 0), (91, [4], [], 20), (5000, [0, 1, 2, 3], [0, 1], 139), (0, [0], [], 285), (0, [1], [], 285), (90, [2], [], 0), (91, [2], [], 1), (90, [3], [], 0), (91, [3], [], 20)], (4000, [1, 2, 11], [2], 139))
theorem c_288_139_17 {q0 : Nat} : vOkm T0 (eP e_288 L_288 A_288 mu_288 (some q0)) 1 g_288_139_17 := vOk_inI fun ρ η f0 f1 f2 f3 f4 f5 f6 f7 f8 f9 f10 f11 f12 f13 f14 f15 f16 f17 f18 f19 f20 f21 f22 f23 f24 f25 f26 f27 f28 => q_288_35 (q0 := q0) (n0 := ρ 3) (n1 := ρ 2) (n2 := ρ 1) (n3 := ρ 0) (n4 := ρ 4) (n5 := ρ 5) (n6 := ρ 6) (n7 := ρ 7) (n8 := ρ 8) (n9 := ρ 9) (n10 := ρ 10) (n11 := ρ 11) (H0 := η 0) (H1 := η 1) (H2 := η 2) f28 f27 f26 f25 f24 f23 f22 f21 f20 f19 f18 f17 f16 f15 f14 f13 f12 f11 f10 f9 f8 f7 f6 f5 f4 f3 f2 f1 f0
def p_288_139 : List vG := [g_288_139_0,
  g_288_139_1,
  g_288_139_2,
  g_288_139_3,
  g_288_139_4,
  g_288_139_5,
  g_288_139_6,
  g_288_139_7,
  g_288_139_8,
  g_288_139_9,
  g_288_139_10,
  g_288_139_11,
  g_288_139_12,
  g_288_139_13,
  g_288_139_14,
  g_288_139_15,
  g_288_139_16,
  g_288_139_17]
theorem r_288_139 : vCovO false (eRc e_288 L_288 cs_288 2000 (139, [(0, (3, 12, 285, 0)), (1, (0, 0, 1, 0)), (2, (0, 0, 20, 0))])) p_288_139 = true := by decide +kernel
theorem m_288 (d : Nat) : eC e_288 (d + 7) := eC_ok (e := e_288) (L := L_288) (cs := cs_288) (n := 2000) (d := d + 6) (A := A_288) (μ := mu_288) (tp := false) (p0 := p_288_s) rfl ⟨m_280 (d + 1), ⟨m_286 (d + 5), ⟨m_287 (d + 5), ⟨m_289 d, trivial⟩⟩⟩⟩ rfl (.inl rfl) (by decide +kernel) (fun z => nomatch z) r_288_s (allC c_288_s_0 allN) (allC (.inl ⟨p_288_2, r_288_2, fun q0 => (allC c_288_2_0 (allC c_288_2_1 (allC c_288_2_2 (allC c_288_2_3 (allC c_288_2_4 (allC c_288_2_5 (allC c_288_2_6 (allC c_288_2_7 (allC c_288_2_8 (allC c_288_2_9 (allC c_288_2_10 (allC c_288_2_11 (allC c_288_2_12 (allC c_288_2_13 (allC c_288_2_14 (allC c_288_2_15 (allC c_288_2_16 (allC c_288_2_17 (allC c_288_2_18 (allC c_288_2_19 (allC c_288_2_20 (allC c_288_2_21 (allC c_288_2_22 (allC c_288_2_23 allN))))))))))))))))))))))))⟩) (allC (.inl ⟨p_288_79, r_288_79, fun q0 => (allC c_288_79_0 (allC c_288_79_1 (allC c_288_79_2 (allC c_288_79_3 (allC c_288_79_4 (allC c_288_79_5 (allC c_288_79_6 (allC c_288_79_7 (allC c_288_79_8 (allC c_288_79_9 (allC c_288_79_10 (allC c_288_79_11 (allC c_288_79_12 (allC c_288_79_13 allN))))))))))))))⟩) (allC (.inl ⟨p_288_131, r_288_131, fun q0 => (allC c_288_131_0 (allC c_288_131_1 allN))⟩) (allC (.inl ⟨p_288_139, r_288_139, fun q0 => (allC c_288_139_0 (allC c_288_139_1 (allC c_288_139_2 (allC c_288_139_3 (allC c_288_139_4 (allC c_288_139_5 (allC c_288_139_6 (allC c_288_139_7 (allC c_288_139_8 (allC c_288_139_9 (allC c_288_139_10 (allC c_288_139_11 (allC c_288_139_12 (allC c_288_139_13 (allC c_288_139_14 (allC c_288_139_15 (allC c_288_139_16 (allC c_288_139_17 allN))))))))))))))))))⟩) allN))))
