/-! CONTRACTS of methods (printed by wip/gen/emit.py). -/
/- MixStageModel.lays (I)I -/
noncomputable def s_278 : vM := ([(3, 12, 285, 0), (0, 0, 7, 0)], (0, -2147483648, 2147483647, 0), 1, 0, [(12, 82), (580, 0), (588, 0), (596, 0), (604, 0), (612, 0)])
def preb_278 (a0 a1 : Int) (h : gH) : Prop := a1 < hV h 285 18 ∧ PG h
def pre_278 : List Int → gH → Prop := fun xs h => match xs with
  | [a0, a1] => preb_278 a0 a1 h
  | _ => False
def postb_278 (r a0 a1 : Int) (h0 h : gH) : Prop := BTS r (LYp (hV h 296) (hV h 298) (hV h 300) (a1).toNat)
def post_278 : List Int → gH → gH → Prop := fun xs h0 h => match xs with
  | [r, a0, a1] => postb_278 r a0 a1 h0 h
  | _ => True
noncomputable def e_278 : vE := (278, s_278, pre_278, post_278)
noncomputable def L_278 : List vE := [e_270]
def cs_278 : List vC := [(9, [(0, (3, 12, 285, 0)), (1, (0, 0, 7, 0)), (2, (0, -2147483648, 2147483647, 0)), (3, (0, 0, 40, 0))])]
def Ab_278_9 (a0 a1 x0 x1 x2 x3 : Int) (h0 h : gH) : Prop := x1 = a1 ∧ XLp (hV h 296) (hV h 298) (hV h 300) (hV h 344) (a1).toNat (hV h 285 82) ∧ XQ h ∧ BTS x2 (LBp (hV h 298) (hV h 300) (hV h 344) x3) ∧ x3 ≤ hV h 285 82
def mub_278_9 (a0 a1 x0 x1 x2 x3 : Int) (h0 h : gH) : Nat := (2147483648 - x3).toNat
def A_278 : Int → List Int → gH → gH → Prop := fun c xs h0 h => match c.toNat with
  | 9 => (match xs with
    | [a0, a1, x0, x1, x2, x3] => Ab_278_9 a0 a1 x0 x1 x2 x3 h0 h
    | _ => False)
  | _ => True
def mu_278 : Int → List Int → gH → gH → Nat := fun c xs h0 h => match c.toNat with
  | 9 => (match xs with
    | [a0, a1, x0, x1, x2, x3] => mub_278_9 a0 a1 x0 x1 x2 x3 h0 h
    | _ => 0)
  | _ => 0
theorem q_278_0 {n0 n1 : Int} {H0 : gH} (f0 : n0 ≤ 7) (f1 : 0 ≤ n0) (f2 : n1 = 285) (f3 : hWt T0 H0 ∧ preb_278 n1 n0 H0) : preb_270 n1 n0 H0 := by
  unfold preb_278 at f3
  unfold preb_270
  have e0 : (0 : Int) ≤ hV H0 285 18 ∧ hV H0 285 18 ≤ 8 := f3.1 285 18 _ _ kW_285_18
  try simp only [XQ]
  have p0 := f3.2.1
  have p1 := f3.2.2
  clear f3
  refine ⟨?_, ?_⟩ <;> first | assumption | omega | trivial
def g_278_s_0 : vG := ([(6000, [0, 1], [0], 0), (0, [0], [], 285), (90, [1], [], 0), (91, [1], [], 7)], (2270, [0, 1], [0], 0))
theorem c_278_s_0 : vOkm T0 (eP e_278 L_278 A_278 mu_278 none) 2 g_278_s_0 := vOk_inI fun ρ η f0 f1 f2 f3 => q_278_0 (n0 := ρ 1) (n1 := ρ 0) (H0 := η 0) f3 f2 f1 f0
theorem q_278_1 {n0 n1 n2 n3 : Int} {H0 H1 : gH} (f0 : n0 ≤ 7) (f1 : 0 ≤ n0) (f2 : n1 = 285) (f3 : hWt T0 H0 ∧ preb_278 n1 n0 H0) (f4 : (hLe T0 H0 H1 ∧ hFr s_270.2.2.2.2 H0 H1 ∧ ((0 : Int) = 0 → H1.length = H0.length) ∧ hWt T0 H1) ∧ postb_270 n1 n0 H0 H1) (f5 : n2 = 0) (f6 : n3 = 0) : Ab_278_9 n1 n0 n1 n0 n2 n3 H0 H1 ∧ ∀ q, none = some q → mub_278_9 n1 n0 n1 n0 n2 n3 H0 H1 < q := by
  unfold preb_278 at f3
  unfold postb_270 at f4
  unfold Ab_278_9
  have e0 : hV H1 296 = hV H0 296 := fRow f4.1.2.1 296 kR_270_296
  have e1 : hV H1 298 = hV H0 298 := fRow f4.1.2.1 298 kR_270_298
  have e2 : hV H1 300 = hV H0 300 := fRow f4.1.2.1 300 kR_270_300
  have e3 : hV H1 301 = hV H0 301 := fRow f4.1.2.1 301 kR_270_301
  have e4 : hV H1 302 = hV H0 302 := fRow f4.1.2.1 302 kR_270_302
  have e5 : hV H1 303 = hV H0 303 := fRow f4.1.2.1 303 kR_270_303
  have e6 : hV H1 305 = hV H0 305 := fRow f4.1.2.1 305 kR_270_305
  have e7 : (0 : Int) ≤ hV H0 285 18 ∧ hV H0 285 18 ≤ 8 := f3.1 285 18 _ _ kW_285_18
  have e8 : (0 : Int) ≤ hV H1 285 82 ∧ hV H1 285 82 ≤ 40 := f4.1.2.2.2 285 82 _ _ kW_285_82
  try simp only [XQ]
  try simp only [e0, e1, e2, e3, e4, e5, e6]
  have p0 := f3.2.1
  have p1 := f3.2.2
  have r0_0 := f4.2.1
  have r0_1 := f4.2.2
  try simp only [XQ] at r0_1
  try simp only [e0, e1, e2] at r0_0
  try simp only [e1, e2, e3, e4, e5, e6] at r0_1
  clear e0 e1 e2 e3 e4 e5 e6
  clear f3 f4

  refine ⟨?_, fun q hq => ?_⟩
  · exact ⟨by first | omega | trivial, r0_0, r0_1, LB_nil (by omega) (by omega), by omega⟩
  · exact nomatch hq
def g_278_s_1 : vG := ([(0, [3], [], 0), (0, [2], [], 0), (1270, [0, 1], [0, 1], 0), (6000, [0, 1], [0], 0), (0, [0], [], 285), (90, [1], [], 0), (91, [1], [], 7)], (4000, [0, 1, 2, 3], [1], 9))
theorem c_278_s_1 : vOkm T0 (eP e_278 L_278 A_278 mu_278 none) 2 g_278_s_1 := vOk_inI fun ρ η f0 f1 f2 f3 f4 f5 f6 => q_278_1 (n0 := ρ 1) (n1 := ρ 0) (n2 := ρ 2) (n3 := ρ 3) (H0 := η 0) (H1 := η 1) f6 f5 f4 f3 f2 f1 f0
def p_278_s : List vG := [g_278_s_0,
  g_278_s_1]
theorem r_278_s : vCovO false (eR0 e_278 L_278 cs_278 2000) p_278_s = true := by decide +kernel
theorem kR_278_296 : vFreeR s_278.2.2.2.2 296 = true := by decide +kernel
theorem kR_278_298 : vFreeR s_278.2.2.2.2 298 = true := by decide +kernel
theorem kR_278_300 : vFreeR s_278.2.2.2.2 300 = true := by decide +kernel
theorem kR_278_301 : vFreeR s_278.2.2.2.2 301 = true := by decide +kernel
theorem kR_278_302 : vFreeR s_278.2.2.2.2 302 = true := by decide +kernel
theorem kR_278_303 : vFreeR s_278.2.2.2.2 303 = true := by decide +kernel
theorem kR_278_305 : vFreeR s_278.2.2.2.2 305 = true := by decide +kernel
theorem kF_278_285_18 : vFree s_278.2.2.2.2 285 18 = true := by decide +kernel
theorem q_278_2 {q0 : Nat} {n0 n1 n2 n3 n4 n5 n6 : Int} {H0 H1 : gH} (f0 : n0 ≤ 40) (f1 : 0 ≤ n0) (f2 : n1 ≤ 2147483647) (f3 : (-2147483648) ≤ n1) (f4 : n2 ≤ 7) (f5 : 0 ≤ n2) (f6 : n3 = 285) (f7 : n4 ≤ 7) (f8 : 0 ≤ n4) (f9 : n5 = 285) (f10 : (hLe T0 H0 H1 ∧ hFr s_278.2.2.2.2 H0 H1 ∧ hWt T0 H1) ∧ (Ab_278_9 n5 n4 n3 n2 n1 n0 H0 H1 ∧ preb_278 n5 n4 H0) ∧ some q0 = some (mub_278_9 n5 n4 n3 n2 n1 n0 H0 H1)) (f11 : n6 ≤ 40) (f12 : 0 ≤ n6) (f13 : n6 = hV H1 (n3).toNat 82) (f14 : n6 ≤ n0) : postb_278 n1 n5 n4 H0 H1 := by
  have g4 := f10.2.1.1
  unfold Ab_278_9 at g4
  have g3 := f10.2.1.2
  unfold preb_278 at g3
  unfold postb_278
  have e0 : n6 = hV H1 285 82 := (by rw [f6] at f13; exact f13 : n6 = hV H1 285 82)
  have e3 : hV H1 296 = hV H0 296 := fRow f10.1.2.1 296 kR_278_296
  have e4 : hV H1 298 = hV H0 298 := fRow f10.1.2.1 298 kR_278_298
  have e5 : hV H1 300 = hV H0 300 := fRow f10.1.2.1 300 kR_278_300
  have e6 : hV H1 301 = hV H0 301 := fRow f10.1.2.1 301 kR_278_301
  have e7 : hV H1 302 = hV H0 302 := fRow f10.1.2.1 302 kR_278_302
  have e8 : hV H1 303 = hV H0 303 := fRow f10.1.2.1 303 kR_278_303
  have e9 : hV H1 305 = hV H0 305 := fRow f10.1.2.1 305 kR_278_305
  have e10 : (0 : Int) ≤ hV H0 285 18 ∧ hV H0 285 18 ≤ 8 := bTo ((f10.1.2.1.1 285 18 kF_278_285_18)) (f10.1.2.2 285 18 _ _ kW_285_18)
  have e11 : (0 : Int) ≤ hV H1 285 82 ∧ hV H1 285 82 ≤ 40 := f10.1.2.2 285 82 _ _ kW_285_82
  try simp only [XQ]
  try simp only [e3, e4, e5]
  have k0 := g4.1
  have y0 := g4.2.1
  have y1 := g4.2.2.1
  have y2 := g4.2.2.2.1
  have y3 := g4.2.2.2.2
  have p0 := g3.1
  have p1 := g3.2
  try simp only [XQ] at y1
  try simp only [e3, e4, e5] at y0
  try simp only [e4, e5, e6, e7, e8, e9] at y1
  try simp only [e4, e5] at y2
  clear g3
  clear g4
  clear f13 e3 e4 e5 e6 e7 e8 e9
  clear f10
  subst e0
  try have xw := XQp_0 y1 (s := (n0).toNat) (by omega) (by omega)

  exact LB_end y2 y0 (by omega)
def g_278_9_0 : vG := ([(43, [5, 6], [], 0), (20, [6, 2], [1], 82), (90, [6], [], 0), (91, [6], [], 40), (5000, [0, 1, 2, 3, 4, 5], [0, 1], 9), (0, [0], [], 285), (90, [1], [], 0), (91, [1], [], 7), (0, [2], [], 285), (90, [3], [], 0), (91, [3], [], 7), (90, [4], [], -2147483648), (91, [4], [], 2147483647), (90, [5], [], 0), (91, [5], [], 40)], (3000, [4], [1], 54))
theorem c_278_9_0 {q0 : Nat} : vOkm T0 (eP e_278 L_278 A_278 mu_278 (some q0)) 2 g_278_9_0 := vOk_inI fun ρ η f0 f1 f2 f3 f4 f5 f6 f7 f8 f9 f10 f11 f12 f13 f14 => q_278_2 (q0 := q0) (n0 := ρ 5) (n1 := ρ 4) (n2 := ρ 3) (n3 := ρ 2) (n4 := ρ 1) (n5 := ρ 0) (n6 := ρ 6) (H0 := η 0) (H1 := η 1) f14 f13 f12 f11 f10 f9 f8 f7 f6 f5 f4 f3 f2 f1 f0
theorem q_278_3 {q0 : Nat} {n0 n1 : Int} {H0 : gH} (f0 : 0 ≤ n0) (f1 : n1 ≤ 40) (f2 : n0 < n1) : 0 ≤ n0 ∧ n0 < 40 := by
  try simp only [XQ]
  omega
def g_278_9_1 : vG := ([(42, [5, 6], [], 0), (91, [6], [], 40), (90, [5], [], 0)], (70, [5], [], 40))
theorem c_278_9_1 {q0 : Nat} : vOkm T0 (eP e_278 L_278 A_278 mu_278 (some q0)) 2 g_278_9_1 := vOk_inI fun ρ η f0 f1 f2 => q_278_3 (q0 := q0) (n0 := ρ 5) (n1 := ρ 6) (H0 := η 0) f2 f1 f0
theorem q_278_4 {q0 : Nat} {n0 n1 n2 : Int} {H0 : gH} (f0 : 0 ≤ n0) (f1 : n1 ≤ 40) (f2 : n0 < n1) (f3 : n2 = w32 (n0 + 1)) : 0 ≤ n2 := by
  try simp only [XQ]
  first
  | (have ix0 : n2 = n0 + 1 := Eq.trans f3 (w32_id (by omega) (by omega)); subst ix0; clear f3)
  | (unfold w32 at f3; have ix0 : n2 = n0 + 1 := (by omega); subst ix0)
  | skip
  try unfold w32 at f3
  omega
def g_278_9_2 : vG := ([(10, [11, 5], [], 1), (42, [5, 6], [], 0), (91, [6], [], 40), (90, [5], [], 0)], (90, [11], [], 0))
theorem c_278_9_2 {q0 : Nat} : vOkm T0 (eP e_278 L_278 A_278 mu_278 (some q0)) 2 g_278_9_2 := vOk_inI fun ρ η f0 f1 f2 f3 => q_278_4 (q0 := q0) (n0 := ρ 5) (n1 := ρ 6) (n2 := ρ 11) (H0 := η 0) f3 f2 f1 f0
theorem q_278_5 {q0 : Nat} {n0 n1 n2 : Int} {H0 : gH} (f0 : 0 ≤ n0) (f1 : n1 ≤ 40) (f2 : n0 < n1) (f3 : n2 = w32 (n0 + 1)) : n2 ≤ 40 := by
  try simp only [XQ]
  first
  | (have ix0 : n2 = n0 + 1 := Eq.trans f3 (w32_id (by omega) (by omega)); subst ix0; clear f3)
  | (unfold w32 at f3; have ix0 : n2 = n0 + 1 := (by omega); subst ix0)
  | skip
  try unfold w32 at f3
  omega
def g_278_9_3 : vG := ([(10, [11, 5], [], 1), (42, [5, 6], [], 0), (91, [6], [], 40), (90, [5], [], 0)], (91, [11], [], 40))
theorem c_278_9_3 {q0 : Nat} : vOkm T0 (eP e_278 L_278 A_278 mu_278 (some q0)) 2 g_278_9_3 := vOk_inI fun ρ η f0 f1 f2 f3 => q_278_5 (q0 := q0) (n0 := ρ 5) (n1 := ρ 6) (n2 := ρ 11) (H0 := η 0) f3 f2 f1 f0
theorem q_278_6 {q0 : Nat} {n0 n1 n2 n3 n4 n5 n6 n7 n8 n9 n10 n11 : Int} {H0 H1 : gH} (f0 : n0 ≤ 40) (f1 : 0 ≤ n0) (f2 : n1 ≤ 2147483647) (f3 : (-2147483648) ≤ n1) (f4 : n2 ≤ 7) (f5 : 0 ≤ n2) (f6 : n3 = 285) (f7 : n4 ≤ 7) (f8 : 0 ≤ n4) (f9 : n5 = 285) (f10 : (hLe T0 H0 H1 ∧ hFr s_278.2.2.2.2 H0 H1 ∧ hWt T0 H1) ∧ (Ab_278_9 n5 n4 n3 n2 n1 n0 H0 H1 ∧ preb_278 n5 n4 H0) ∧ some q0 = some (mub_278_9 n5 n4 n3 n2 n1 n0 H0 H1)) (f11 : n6 ≤ 40) (f12 : 0 ≤ n6) (f13 : n6 = hV H1 (n3).toNat 82) (f14 : n0 < n6) (f15 : n7 = 298) (f16 : n7 = hV H1 (n3).toNat 24) (f17 : n8 = 344) (f18 : n8 = hV H1 (n3).toNat 83) (f19 : n9 ≤ 1007) (f20 : 0 ≤ n9) (f21 : n9 = hV H1 (n8).toNat (n0).toNat) (f22 : n10 ≤ 5) (f23 : 0 ≤ n10) (f24 : n10 = hV H1 (n7).toNat (n9).toNat) (f25 : n10 ≠ 0) (f26 : n11 = w32 (n0 + 1)) : Ab_278_9 n5 n4 n3 n2 n1 n11 H0 H1 ∧ ∀ q, some q0 = some q → mub_278_9 n5 n4 n3 n2 n1 n11 H0 H1 < q := by
  have g4 := f10.2.1.1
  unfold Ab_278_9 at g4
  have g3 := f10.2.1.2
  unfold preb_278 at g3
  have g5 := Option.some.inj f10.2.2
  unfold mub_278_9 at g5
  unfold Ab_278_9
  unfold mub_278_9
  have e0 : n6 = hV H1 285 82 := (by rw [f6] at f13; exact f13 : n6 = hV H1 285 82)
  have e1 : n9 = hV H1 344 (n0).toNat := (by rw [f17] at f21; exact f21 : n9 = hV H1 344 (n0).toNat)
  have e2 : hV H1 298 = hV H0 298 := fRow f10.1.2.1 298 kR_278_298
  have e3 : n10 = hV H0 298 (n9).toNat := (by rw [f15] at f24; exact f24 : n10 = hV H1 298 (n9).toNat).trans ((congrFun e2 _))
  have e6 : hV H1 296 = hV H0 296 := fRow f10.1.2.1 296 kR_278_296
  have e7 : hV H1 300 = hV H0 300 := fRow f10.1.2.1 300 kR_278_300
  have e8 : hV H1 301 = hV H0 301 := fRow f10.1.2.1 301 kR_278_301
  have e9 : hV H1 302 = hV H0 302 := fRow f10.1.2.1 302 kR_278_302
  have e10 : hV H1 303 = hV H0 303 := fRow f10.1.2.1 303 kR_278_303
  have e11 : hV H1 305 = hV H0 305 := fRow f10.1.2.1 305 kR_278_305
  have e12 : (0 : Int) ≤ hV H0 285 18 ∧ hV H0 285 18 ≤ 8 := bTo ((f10.1.2.1.1 285 18 kF_278_285_18)) (f10.1.2.2 285 18 _ _ kW_285_18)
  have e13 : (0 : Int) ≤ hV H1 285 82 ∧ hV H1 285 82 ≤ 40 := f10.1.2.2 285 82 _ _ kW_285_82
  try simp only [XQ]
  try simp only [e6, e2, e7, e8, e9, e10, e11]
  have k0 := g4.1
  have y0 := g4.2.1
  have y1 := g4.2.2.1
  have y2 := g4.2.2.2.1
  have y3 := g4.2.2.2.2
  have p0 := g3.1
  have p1 := g3.2
  try simp only [XQ] at y1
  try simp only [e6, e2, e7] at y0
  try simp only [e2, e7, e8, e9, e10, e11] at y1
  try simp only [e2, e7] at y2
  clear g3
  clear g4
  clear f13 f16 f18 f21 f24 e2 e6 e7 e8 e9 e10 e11
  clear f10
  subst e0
  subst e1
  subst e3
  try have xw := XQp_0 y1 (s := (n0).toNat) (by omega) (by omega)
  first
  | (have ix0 : n11 = n0 + 1 := Eq.trans f26 (w32_iv (Iad (Iat f1 f0) (IC 1)) (by decide)); subst ix0; clear f26)
  | (have ix0 : n11 = n0 + 1 := Eq.trans f26 (w32_id (by omega) (by omega)); subst ix0; clear f26)
  | (unfold w32 at f26; have ix0 : n11 = n0 + 1 := (by omega); subst ix0)
  | skip
  try unfold w32 at f26

  refine ⟨?_, fun q hq => ?_⟩
  · exact ⟨by first | omega | trivial, y0, y1, LB_skip y2 (by omega) (by omega) (by omega), by omega⟩
  · have g6 := Option.some.inj hq
    subst g6
    omega
def g_278_9_4 : vG := ([(10, [11, 5], [], 1), (31, [10], [], 0), (22, [10, 7, 9], [1], 0), (90, [10], [], 0), (91, [10], [], 5), (22, [9, 8, 5], [1], 0), (90, [9], [], 0), (91, [9], [], 1007), (20, [8, 2], [1], 83), (0, [8], [], 344), (20, [7, 2], [1], 24), (0, [7], [], 298), (42, [5, 6], [], 0), (20, [6, 2], [1], 82), (90, [6], [], 0), (91, [6], [], 40), (5000, [0, 1, 2, 3, 4, 5], [0, 1], 9), (0, [0], [], 285), (90, [1], [], 0), (91, [1], [], 7), (0, [2], [], 285), (90, [3], [], 0), (91, [3], [], 7), (90, [4], [], -2147483648), (91, [4], [], 2147483647), (90, [5], [], 0), (91, [5], [], 40)], (4000, [2, 3, 4, 11], [1], 9))
theorem c_278_9_4 {q0 : Nat} : vOkm T0 (eP e_278 L_278 A_278 mu_278 (some q0)) 2 g_278_9_4 := vOk_inI fun ρ η f0 f1 f2 f3 f4 f5 f6 f7 f8 f9 f10 f11 f12 f13 f14 f15 f16 f17 f18 f19 f20 f21 f22 f23 f24 f25 f26 => q_278_6 (q0 := q0) (n0 := ρ 5) (n1 := ρ 4) (n2 := ρ 3) (n3 := ρ 2) (n4 := ρ 1) (n5 := ρ 0) (n6 := ρ 6) (n7 := ρ 7) (n8 := ρ 8) (n9 := ρ 9) (n10 := ρ 10) (n11 := ρ 11) (H0 := η 0) (H1 := η 1) f26 f25 f24 f23 f22 f21 f20 f19 f18 f17 f16 f15 f14 f13 f12 f11 f10 f9 f8 f7 f6 f5 f4 f3 f2 f1 f0
def g_278_9_5 : vG := ([(42, [5, 6], [], 0), (91, [6], [], 40), (90, [5], [], 0)], (70, [5], [], 40))
theorem c_278_9_5 {q0 : Nat} : vOkm T0 (eP e_278 L_278 A_278 mu_278 (some q0)) 2 g_278_9_5 := vOk_inI fun ρ η f0 f1 f2 => q_278_3 (q0 := q0) (n0 := ρ 5) (n1 := ρ 6) (H0 := η 0) f2 f1 f0
def g_278_9_6 : vG := ([(10, [18, 5], [], 1), (42, [5, 6], [], 0), (91, [6], [], 40), (90, [5], [], 0)], (90, [18], [], 0))
theorem c_278_9_6 {q0 : Nat} : vOkm T0 (eP e_278 L_278 A_278 mu_278 (some q0)) 2 g_278_9_6 := vOk_inI fun ρ η f0 f1 f2 f3 => q_278_4 (q0 := q0) (n0 := ρ 5) (n1 := ρ 6) (n2 := ρ 18) (H0 := η 0) f3 f2 f1 f0
def g_278_9_7 : vG := ([(10, [18, 5], [], 1), (42, [5, 6], [], 0), (91, [6], [], 40), (90, [5], [], 0)], (91, [18], [], 40))
theorem c_278_9_7 {q0 : Nat} : vOkm T0 (eP e_278 L_278 A_278 mu_278 (some q0)) 2 g_278_9_7 := vOk_inI fun ρ η f0 f1 f2 f3 => q_278_5 (q0 := q0) (n0 := ρ 5) (n1 := ρ 6) (n2 := ρ 18) (H0 := η 0) f3 f2 f1 f0
theorem q_278_7 {q0 : Nat} {n0 n1 n2 n3 n4 n5 n6 n7 n8 n9 n10 n11 n12 n13 n14 n15 n16 n17 n18 : Int} {H0 H1 : gH} (f0 : n0 ≤ 40) (f1 : 0 ≤ n0) (f2 : n1 ≤ 2147483647) (f3 : (-2147483648) ≤ n1) (f4 : n2 ≤ 7) (f5 : 0 ≤ n2) (f6 : n3 = 285) (f7 : n4 ≤ 7) (f8 : 0 ≤ n4) (f9 : n5 = 285) (f10 : (hLe T0 H0 H1 ∧ hFr s_278.2.2.2.2 H0 H1 ∧ hWt T0 H1) ∧ (Ab_278_9 n5 n4 n3 n2 n1 n0 H0 H1 ∧ preb_278 n5 n4 H0) ∧ some q0 = some (mub_278_9 n5 n4 n3 n2 n1 n0 H0 H1)) (f11 : n6 ≤ 40) (f12 : 0 ≤ n6) (f13 : n6 = hV H1 (n3).toNat 82) (f14 : n0 < n6) (f15 : n7 = 298) (f16 : n7 = hV H1 (n3).toNat 24) (f17 : n8 = 344) (f18 : n8 = hV H1 (n3).toNat 83) (f19 : n9 ≤ 1007) (f20 : 0 ≤ n9) (f21 : n9 = hV H1 (n8).toNat (n0).toNat) (f22 : n10 ≤ 5) (f23 : 0 ≤ n10) (f24 : n10 = hV H1 (n7).toNat (n9).toNat) (f25 : n10 = 0) (f26 : n11 = 1) (f27 : n12 = 300) (f28 : n12 = hV H1 (n3).toNat 26) (f29 : n13 = 344) (f30 : n13 = hV H1 (n3).toNat 83) (f31 : n14 ≤ 1007) (f32 : 0 ≤ n14) (f33 : n14 = hV H1 (n13).toNat (n0).toNat) (f34 : n15 ≤ 9999) (f35 : (-1) ≤ n15) (f36 : n15 = hV H1 (n12).toNat (n14).toNat) (f37 : n16 = o32 (fun x y => x <<< (y &&& 31)) n11 n15) (f38 : n17 = o32 (fun x y => x ||| y) n1 n16) (f39 : n18 = w32 (n0 + 1)) : Ab_278_9 n5 n4 n3 n2 n17 n18 H0 H1 ∧ ∀ q, some q0 = some q → mub_278_9 n5 n4 n3 n2 n17 n18 H0 H1 < q := by
  have g4 := f10.2.1.1
  unfold Ab_278_9 at g4
  have g3 := f10.2.1.2
  unfold preb_278 at g3
  have g5 := Option.some.inj f10.2.2
  unfold mub_278_9 at g5
  unfold Ab_278_9
  unfold mub_278_9
  have e0 : n6 = hV H1 285 82 := (by rw [f6] at f13; exact f13 : n6 = hV H1 285 82)
  have e1 : n9 = hV H1 344 (n0).toNat := (by rw [f17] at f21; exact f21 : n9 = hV H1 344 (n0).toNat)
  have e2 : hV H1 298 = hV H0 298 := fRow f10.1.2.1 298 kR_278_298
  have e3 : n10 = hV H0 298 (n9).toNat := (by rw [f15] at f24; exact f24 : n10 = hV H1 298 (n9).toNat).trans ((congrFun e2 _))
  have e4 : n14 = hV H1 344 (n0).toNat := (by rw [f29] at f33; exact f33 : n14 = hV H1 344 (n0).toNat)
  have e5 : hV H1 300 = hV H0 300 := fRow f10.1.2.1 300 kR_278_300
  have e6 : n15 = hV H0 300 (n14).toNat := (by rw [f27] at f36; exact f36 : n15 = hV H1 300 (n14).toNat).trans ((congrFun e5 _))
  have e9 : hV H1 296 = hV H0 296 := fRow f10.1.2.1 296 kR_278_296
  have e10 : hV H1 301 = hV H0 301 := fRow f10.1.2.1 301 kR_278_301
  have e11 : hV H1 302 = hV H0 302 := fRow f10.1.2.1 302 kR_278_302
  have e12 : hV H1 303 = hV H0 303 := fRow f10.1.2.1 303 kR_278_303
  have e13 : hV H1 305 = hV H0 305 := fRow f10.1.2.1 305 kR_278_305
  have e14 : (0 : Int) ≤ hV H0 285 18 ∧ hV H0 285 18 ≤ 8 := bTo ((f10.1.2.1.1 285 18 kF_278_285_18)) (f10.1.2.2 285 18 _ _ kW_285_18)
  have e15 : (0 : Int) ≤ hV H1 285 82 ∧ hV H1 285 82 ≤ 40 := f10.1.2.2 285 82 _ _ kW_285_82
  try simp only [XQ]
  try simp only [e9, e2, e5, e10, e11, e12, e13]
  have k0 := g4.1
  have y0 := g4.2.1
  have y1 := g4.2.2.1
  have y2 := g4.2.2.2.1
  have y3 := g4.2.2.2.2
  have p0 := g3.1
  have p1 := g3.2
  try simp only [XQ] at y1
  try simp only [e9, e2, e5] at y0
  try simp only [e2, e5, e10, e11, e12, e13] at y1
  try simp only [e2, e5] at y2
  clear g3
  clear g4
  clear f13 f16 f18 f21 f24 f28 f30 f33 f36 e2 e5 e9 e10 e11 e12 e13
  clear f10
  subst e0
  subst e1
  subst e3
  subst e4
  subst e6
  try have xw := XQp_0 y1 (s := (n0).toNat) (by omega) (by omega)
  first
  | (have ix0 : n18 = n0 + 1 := Eq.trans f39 (w32_iv (Iad (Iat f1 f0) (IC 1)) (by decide)); subst ix0; clear f39)
  | (have ix0 : n18 = n0 + 1 := Eq.trans f39 (w32_id (by omega) (by omega)); subst ix0; clear f39)
  | (unfold w32 at f39; have ix0 : n18 = n0 + 1 := (by omega); subst ix0)
  | skip
  try unfold w32 at f39

  refine ⟨?_, fun q hq => ?_⟩
  · exact ⟨by first | omega | trivial, y0, y1, LB_add y2 (by omega) (by omega) (by omega) (by omega) f38 f37 (by omega) (by omega) (by omega), by omega⟩
  · have g6 := Option.some.inj hq
    subst g6
    omega
def g_278_9_8 : vG := ([(10, [18, 5], [], 1), (5, [17, 4, 16], [], 0), (7, [16, 11, 15], [], 0), (22, [15, 12, 14], [1], 0), (90, [15], [], -1), (91, [15], [], 9999), (22, [14, 13, 5], [1], 0), (90, [14], [], 0), (91, [14], [], 1007), (20, [13, 2], [1], 83), (0, [13], [], 344), (20, [12, 2], [1], 26), (0, [12], [], 300), (0, [11], [], 1), (30, [10], [], 0), (22, [10, 7, 9], [1], 0), (90, [10], [], 0), (91, [10], [], 5), (22, [9, 8, 5], [1], 0), (90, [9], [], 0), (91, [9], [], 1007), (20, [8, 2], [1], 83), (0, [8], [], 344), (20, [7, 2], [1], 24), (0, [7], [], 298), (42, [5, 6], [], 0), (20, [6, 2], [1], 82), (90, [6], [], 0), (91, [6], [], 40), (5000, [0, 1, 2, 3, 4, 5], [0, 1], 9), (0, [0], [], 285), (90, [1], [], 0), (91, [1], [], 7), (0, [2], [], 285), (90, [3], [], 0), (91, [3], [], 7), (90, [4], [], -2147483648), (91, [4], [], 2147483647), (90, [5], [], 0), (91, [5], [], 40)], (4000, [2, 3, 17, 18], [1], 9))
theorem c_278_9_8 {q0 : Nat} : vOkm T0 (eP e_278 L_278 A_278 mu_278 (some q0)) 2 g_278_9_8 := vOk_inI fun ρ η f0 f1 f2 f3 f4 f5 f6 f7 f8 f9 f10 f11 f12 f13 f14 f15 f16 f17 f18 f19 f20 f21 f22 f23 f24 f25 f26 f27 f28 f29 f30 f31 f32 f33 f34 f35 f36 f37 f38 f39 => q_278_7 (q0 := q0) (n0 := ρ 5) (n1 := ρ 4) (n2 := ρ 3) (n3 := ρ 2) (n4 := ρ 1) (n5 := ρ 0) (n6 := ρ 6) (n7 := ρ 7) (n8 := ρ 8) (n9 := ρ 9) (n10 := ρ 10) (n11 := ρ 11) (n12 := ρ 12) (n13 := ρ 13) (n14 := ρ 14) (n15 := ρ 15) (n16 := ρ 16) (n17 := ρ 17) (n18 := ρ 18) (H0 := η 0) (H1 := η 1) f39 f38 f37 f36 f35 f34 f33 f32 f31 f30 f29 f28 f27 f26 f25 f24 f23 f22 f21 f20 f19 f18 f17 f16 f15 f14 f13 f12 f11 f10 f9 f8 f7 f6 f5 f4 f3 f2 f1 f0
def p_278_9 : List vG := [g_278_9_0,
  g_278_9_1,
  g_278_9_2,
  g_278_9_3,
  g_278_9_4,
  g_278_9_5,
  g_278_9_6,
  g_278_9_7,
  g_278_9_8]
theorem r_278_9 : vCovO false (eRc e_278 L_278 cs_278 2000 (9, [(0, (3, 12, 285, 0)), (1, (0, 0, 7, 0)), (2, (0, -2147483648, 2147483647, 0)), (3, (0, 0, 40, 0))])) p_278_9 = true := by decide +kernel
theorem m_278 (d : Nat) : eC e_278 (d + 3) := eC_ok (e := e_278) (L := L_278) (cs := cs_278) (n := 2000) (d := d + 2) (A := A_278) (μ := mu_278) (tp := false) (p0 := p_278_s) rfl ⟨m_270 d, trivial⟩ rfl (.inl rfl) (by decide +kernel) (fun z => nomatch z) r_278_s (allC c_278_s_0 (allC c_278_s_1 allN)) (allC (.inl ⟨p_278_9, r_278_9, fun q0 => (allC c_278_9_0 (allC c_278_9_1 (allC c_278_9_2 (allC c_278_9_3 (allC c_278_9_4 (allC c_278_9_5 (allC c_278_9_6 (allC c_278_9_7 (allC c_278_9_8 allN)))))))))⟩) allN)
/- MixStageModel.nextOf (I)I -/
noncomputable def s_279 : vM := ([(3, 12, 285, 0), (0, 0, 19, 0)], (0, -2147483648, 2147483647, 0), 1, 0, [(12, 82), (580, 0), (588, 0), (596, 0), (604, 0), (612, 0)])
def preb_279 (a0 a1 : Int) (h : gH) : Prop := a1 < hV h 285 64 ∧ SO h ∧ PG h
def pre_279 : List Int → gH → Prop := fun xs h => match xs with
  | [a0, a1] => preb_279 a0 a1 h
  | _ => False
def postb_279 (r a0 a1 : Int) (h0 h : gH) : Prop := BTS r (NXp (hV h 328) (hV h 332) (hV h 335) (hV h 296) (hV h 298) (hV h 300) (a1).toNat)
def post_279 : List Int → gH → gH → Prop := fun xs h0 h => match xs with
  | [r, a0, a1] => postb_279 r a0 a1 h0 h
  | _ => True
noncomputable def e_279 : vE := (279, s_279, pre_279, post_279)
noncomputable def L_279 : List vE := [e_278]
def cs_279 : List vC := []
def A_279 : Int → List Int → gH → gH → Prop := fun c xs h0 h => True
def mu_279 : Int → List Int → gH → gH → Nat := fun c xs h0 h => 0
theorem q_279_0 {n0 n1 n2 n3 n4 n5 n6 n7 n8 : Int} {H0 : gH} (f0 : n0 ≤ 19) (f1 : 0 ≤ n0) (f2 : n1 = 285) (f3 : hWt T0 H0 ∧ preb_279 n1 n0 H0) (f4 : n2 = 328) (f5 : n2 = hV H0 (n1).toNat 66) (f6 : n3 ≤ 6) (f7 : 0 ≤ n3) (f8 : n3 = hV H0 (n2).toNat (n0).toNat) (f9 : n4 = 4) (f10 : n3 = n4) (f11 : n5 = 1) (f12 : n6 = 332) (f13 : n6 = hV H0 (n1).toNat 70) (f14 : n7 ≤ 19) (f15 : (-1) ≤ n7) (f16 : n7 = hV H0 (n6).toNat (n0).toNat) (f17 : n8 = o32 (fun x y => x <<< (y &&& 31)) n5 n7) : postb_279 n8 n1 n0 H0 H0 := by
  unfold preb_279 at f3
  unfold postb_279
  have e0 : n3 = hV H0 328 (n0).toNat := (by rw [f4] at f8; exact f8 : n3 = hV H0 328 (n0).toNat)
  have e1 : n7 = hV H0 332 (n0).toNat := (by rw [f12] at f16; exact f16 : n7 = hV H0 332 (n0).toNat)
  have e2 : (0 : Int) ≤ hV H0 285 64 ∧ hV H0 285 64 ≤ 20 := f3.1 285 64 _ _ kW_285_64
  have p0 := f3.2.1
  have p1 := f3.2.2.1
  have p2 := f3.2.2.2
  clear f5 f8 f13 f16
  clear f3
  subst e0
  subst e1
  try have t4 := SO4 p1 (s := (n0).toNat) (by omega) (by omega)
  try have t5 := SO5 p1 (s := (n0).toNat) (by omega) (by omega)
  try have sm := SOm p1 (s := (n0).toNat) (by omega) (by omega)

  first
  | exact NX_off (by omega) f17 (by omega) (by omega) (by omega) (by omega)
  | exact NX_lays r0_0 (by omega) (by omega) rfl
  | exact NX_none (by omega) (by omega) (by omega) (by omega)
def g_279_s_0 : vG := ([(7, [8, 5, 7], [], 0), (22, [7, 6, 1], [0], 0), (90, [7], [], -1), (91, [7], [], 19), (20, [6, 0], [0], 70), (0, [6], [], 332), (0, [5], [], 1), (40, [3, 4], [], 0), (0, [4], [], 4), (22, [3, 2, 1], [0], 0), (90, [3], [], 0), (91, [3], [], 6), (20, [2, 0], [0], 66), (0, [2], [], 328), (6000, [0, 1], [0], 0), (0, [0], [], 285), (90, [1], [], 0), (91, [1], [], 19)], (3000, [8], [0], 28))
theorem c_279_s_0 : vOkm T0 (eP e_279 L_279 A_279 mu_279 none) 2 g_279_s_0 := vOk_inI fun ρ η f0 f1 f2 f3 f4 f5 f6 f7 f8 f9 f10 f11 f12 f13 f14 f15 f16 f17 => q_279_0 (n0 := ρ 1) (n1 := ρ 0) (n2 := ρ 2) (n3 := ρ 3) (n4 := ρ 4) (n5 := ρ 5) (n6 := ρ 6) (n7 := ρ 7) (n8 := ρ 8) (H0 := η 0) f17 f16 f15 f14 f13 f12 f11 f10 f9 f8 f7 f6 f5 f4 f3 f2 f1 f0
theorem q_279_1 {n0 n1 n2 n3 n4 n5 n6 n7 n8 n9 n10 n11 : Int} {H0 : gH} (f0 : n0 ≤ 19) (f1 : 0 ≤ n0) (f2 : n1 = 285) (f3 : hWt T0 H0 ∧ preb_279 n1 n0 H0) (f4 : n2 = 328) (f5 : n2 = hV H0 (n1).toNat 66) (f6 : n3 ≤ 6) (f7 : 0 ≤ n3) (f8 : n3 = hV H0 (n2).toNat (n0).toNat) (f9 : n4 = 4) (f10 : n3 ≠ n4) (f11 : n5 = 328) (f12 : n5 = hV H0 (n1).toNat 66) (f13 : n6 ≤ 6) (f14 : 0 ≤ n6) (f15 : n6 = hV H0 (n5).toNat (n0).toNat) (f16 : n7 = 5) (f17 : n6 ≠ n7) (f18 : n8 = 328) (f19 : n8 = hV H0 (n1).toNat 66) (f20 : n9 ≤ 6) (f21 : 0 ≤ n9) (f22 : n9 = hV H0 (n8).toNat (n0).toNat) (f23 : n10 = 6) (f24 : n9 ≠ n10) (f25 : n11 = 0) : postb_279 n11 n1 n0 H0 H0 := by
  unfold preb_279 at f3
  unfold postb_279
  have e0 : n3 = hV H0 328 (n0).toNat := (by rw [f4] at f8; exact f8 : n3 = hV H0 328 (n0).toNat)
  have e1 : n6 = hV H0 328 (n0).toNat := (by rw [f11] at f15; exact f15 : n6 = hV H0 328 (n0).toNat)
  have e2 : n9 = hV H0 328 (n0).toNat := (by rw [f18] at f22; exact f22 : n9 = hV H0 328 (n0).toNat)
  have e3 : (0 : Int) ≤ hV H0 285 64 ∧ hV H0 285 64 ≤ 20 := f3.1 285 64 _ _ kW_285_64
  have p0 := f3.2.1
  have p1 := f3.2.2.1
  have p2 := f3.2.2.2
  clear f5 f8 f12 f15 f19 f22
  clear f3
  subst e0
  subst e1
  subst e2
  try have t4 := SO4 p1 (s := (n0).toNat) (by omega) (by omega)
  try have t5 := SO5 p1 (s := (n0).toNat) (by omega) (by omega)
  try have sm := SOm p1 (s := (n0).toNat) (by omega) (by omega)

  first
  | exact NX_lays r0_0 (by omega) (by omega) rfl
  | exact NX_none (by omega) (by omega) (by omega) (by omega)
def g_279_s_1 : vG := ([(0, [11], [], 0), (41, [9, 10], [], 0), (0, [10], [], 6), (22, [9, 8, 1], [0], 0), (90, [9], [], 0), (91, [9], [], 6), (20, [8, 0], [0], 66), (0, [8], [], 328), (41, [6, 7], [], 0), (0, [7], [], 5), (22, [6, 5, 1], [0], 0), (90, [6], [], 0), (91, [6], [], 6), (20, [5, 0], [0], 66), (0, [5], [], 328), (41, [3, 4], [], 0), (0, [4], [], 4), (22, [3, 2, 1], [0], 0), (90, [3], [], 0), (91, [3], [], 6), (20, [2, 0], [0], 66), (0, [2], [], 328), (6000, [0, 1], [0], 0), (0, [0], [], 285), (90, [1], [], 0), (91, [1], [], 19)], (3000, [11], [0], 64))
theorem c_279_s_1 : vOkm T0 (eP e_279 L_279 A_279 mu_279 none) 2 g_279_s_1 := vOk_inI fun ρ η f0 f1 f2 f3 f4 f5 f6 f7 f8 f9 f10 f11 f12 f13 f14 f15 f16 f17 f18 f19 f20 f21 f22 f23 f24 f25 => q_279_1 (n0 := ρ 1) (n1 := ρ 0) (n2 := ρ 2) (n3 := ρ 3) (n4 := ρ 4) (n5 := ρ 5) (n6 := ρ 6) (n7 := ρ 7) (n8 := ρ 8) (n9 := ρ 9) (n10 := ρ 10) (n11 := ρ 11) (H0 := η 0) f25 f24 f23 f22 f21 f20 f19 f18 f17 f16 f15 f14 f13 f12 f11 f10 f9 f8 f7 f6 f5 f4 f3 f2 f1 f0
theorem q_279_2 {n0 n1 n2 n3 n4 n5 n6 n7 n8 n9 n10 n11 n12 n13 n14 : Int} {H0 : gH} (f0 : n0 ≤ 19) (f1 : 0 ≤ n0) (f2 : n1 = 285) (f3 : hWt T0 H0 ∧ preb_279 n1 n0 H0) (f4 : n2 = 328) (f5 : n2 = hV H0 (n1).toNat 66) (f6 : n3 ≤ 6) (f7 : 0 ≤ n3) (f8 : n3 = hV H0 (n2).toNat (n0).toNat) (f9 : n4 = 4) (f10 : n3 ≠ n4) (f11 : n5 = 328) (f12 : n5 = hV H0 (n1).toNat 66) (f13 : n6 ≤ 6) (f14 : 0 ≤ n6) (f15 : n6 = hV H0 (n5).toNat (n0).toNat) (f16 : n7 = 5) (f17 : n6 ≠ n7) (f18 : n8 = 328) (f19 : n8 = hV H0 (n1).toNat 66) (f20 : n9 ≤ 6) (f21 : 0 ≤ n9) (f22 : n9 = hV H0 (n8).toNat (n0).toNat) (f23 : n10 = 6) (f24 : n9 = n10) (f25 : n11 = 335) (f26 : n11 = hV H0 (n1).toNat 73) (f27 : n12 ≤ 7) (f28 : (-1) ≤ n12) (f29 : n12 = hV H0 (n11).toNat (n0).toNat) (f30 : n13 = (-1)) (f31 : n12 = n13) (f32 : n14 = 0) : postb_279 n14 n1 n0 H0 H0 := by
  unfold preb_279 at f3
  unfold postb_279
  have e0 : n3 = hV H0 328 (n0).toNat := (by rw [f4] at f8; exact f8 : n3 = hV H0 328 (n0).toNat)
  have e1 : n6 = hV H0 328 (n0).toNat := (by rw [f11] at f15; exact f15 : n6 = hV H0 328 (n0).toNat)
  have e2 : n9 = hV H0 328 (n0).toNat := (by rw [f18] at f22; exact f22 : n9 = hV H0 328 (n0).toNat)
  have e3 : n12 = hV H0 335 (n0).toNat := (by rw [f25] at f29; exact f29 : n12 = hV H0 335 (n0).toNat)
  have e4 : (0 : Int) ≤ hV H0 285 64 ∧ hV H0 285 64 ≤ 20 := f3.1 285 64 _ _ kW_285_64
  have p0 := f3.2.1
  have p1 := f3.2.2.1
  have p2 := f3.2.2.2
  clear f5 f8 f12 f15 f19 f22 f26 f29
  clear f3
  subst e0
  subst e1
  subst e2
  subst e3
  try have t4 := SO4 p1 (s := (n0).toNat) (by omega) (by omega)
  try have t5 := SO5 p1 (s := (n0).toNat) (by omega) (by omega)
  try have sm := SOm p1 (s := (n0).toNat) (by omega) (by omega)

  first
  | exact NX_lays r0_0 (by omega) (by omega) rfl
  | exact NX_none (by omega) (by omega) (by omega) (by omega)
def g_279_s_2 : vG := ([(0, [14], [], 0), (40, [12, 13], [], 0), (0, [13], [], -1), (22, [12, 11, 1], [0], 0), (90, [12], [], -1), (91, [12], [], 7), (20, [11, 0], [0], 73), (0, [11], [], 335), (40, [9, 10], [], 0), (0, [10], [], 6), (22, [9, 8, 1], [0], 0), (90, [9], [], 0), (91, [9], [], 6), (20, [8, 0], [0], 66), (0, [8], [], 328), (41, [6, 7], [], 0), (0, [7], [], 5), (22, [6, 5, 1], [0], 0), (90, [6], [], 0), (91, [6], [], 6), (20, [5, 0], [0], 66), (0, [5], [], 328), (41, [3, 4], [], 0), (0, [4], [], 4), (22, [3, 2, 1], [0], 0), (90, [3], [], 0), (91, [3], [], 6), (20, [2, 0], [0], 66), (0, [2], [], 328), (6000, [0, 1], [0], 0), (0, [0], [], 285), (90, [1], [], 0), (91, [1], [], 19)], (3000, [14], [0], 64))
theorem c_279_s_2 : vOkm T0 (eP e_279 L_279 A_279 mu_279 none) 2 g_279_s_2 := vOk_inI fun ρ η f0 f1 f2 f3 f4 f5 f6 f7 f8 f9 f10 f11 f12 f13 f14 f15 f16 f17 f18 f19 f20 f21 f22 f23 f24 f25 f26 f27 f28 f29 f30 f31 f32 => q_279_2 (n0 := ρ 1) (n1 := ρ 0) (n2 := ρ 2) (n3 := ρ 3) (n4 := ρ 4) (n5 := ρ 5) (n6 := ρ 6) (n7 := ρ 7) (n8 := ρ 8) (n9 := ρ 9) (n10 := ρ 10) (n11 := ρ 11) (n12 := ρ 12) (n13 := ρ 13) (n14 := ρ 14) (H0 := η 0) f32 f31 f30 f29 f28 f27 f26 f25 f24 f23 f22 f21 f20 f19 f18 f17 f16 f15 f14 f13 f12 f11 f10 f9 f8 f7 f6 f5 f4 f3 f2 f1 f0
theorem q_279_3 {n0 n1 n2 n3 n4 n5 : Int} {H0 : gH} (f0 : n0 = 335) (f1 : n1 = hV H0 (n0).toNat (n2).toNat) (f2 : n3 = (-1)) (f3 : n1 ≠ n3) (f4 : n4 = 335) (f5 : (-1) ≤ n5) (f6 : n5 = hV H0 (n4).toNat (n2).toNat) : 0 ≤ n5 := by
  have e0 : n1 = hV H0 335 (n2).toNat := (by rw [f0] at f1; exact f1 : n1 = hV H0 335 (n2).toNat)
  have e1 : n5 = hV H0 335 (n2).toNat := (by rw [f4] at f6; exact f6 : n5 = hV H0 335 (n2).toNat)
  clear f1 f6
  subst e0
  subst e1
  omega
def g_279_s_3 : vG := ([(22, [15, 14, 1], [0], 0), (90, [15], [], -1), (0, [14], [], 335), (41, [12, 13], [], 0), (0, [13], [], -1), (22, [12, 11, 1], [0], 0), (0, [11], [], 335)], (90, [15], [], 0))
theorem c_279_s_3 : vOkm T0 (eP e_279 L_279 A_279 mu_279 none) 2 g_279_s_3 := vOk_inI fun ρ η f0 f1 f2 f3 f4 f5 f6 => q_279_3 (n0 := ρ 11) (n1 := ρ 12) (n2 := ρ 1) (n3 := ρ 13) (n4 := ρ 14) (n5 := ρ 15) (H0 := η 0) f6 f5 f4 f3 f2 f1 f0
theorem q_279_4 {n0 n1 n2 n3 n4 n5 n6 n7 n8 n9 n10 n11 n12 n13 n14 n15 : Int} {H0 : gH} (f0 : n0 ≤ 19) (f1 : 0 ≤ n0) (f2 : n1 = 285) (f3 : hWt T0 H0 ∧ preb_279 n1 n0 H0) (f4 : n2 = 328) (f5 : n2 = hV H0 (n1).toNat 66) (f6 : n3 ≤ 6) (f7 : 0 ≤ n3) (f8 : n3 = hV H0 (n2).toNat (n0).toNat) (f9 : n4 = 4) (f10 : n3 ≠ n4) (f11 : n5 = 328) (f12 : n5 = hV H0 (n1).toNat 66) (f13 : n6 ≤ 6) (f14 : 0 ≤ n6) (f15 : n6 = hV H0 (n5).toNat (n0).toNat) (f16 : n7 = 5) (f17 : n6 ≠ n7) (f18 : n8 = 328) (f19 : n8 = hV H0 (n1).toNat 66) (f20 : n9 ≤ 6) (f21 : 0 ≤ n9) (f22 : n9 = hV H0 (n8).toNat (n0).toNat) (f23 : n10 = 6) (f24 : n9 = n10) (f25 : n11 = 335) (f26 : n11 = hV H0 (n1).toNat 73) (f27 : n12 ≤ 7) (f28 : (-1) ≤ n12) (f29 : n12 = hV H0 (n11).toNat (n0).toNat) (f30 : n13 = (-1)) (f31 : n12 ≠ n13) (f32 : n14 = 335) (f33 : n14 = hV H0 (n1).toNat 73) (f34 : n15 ≤ 7) (f35 : (-1) ≤ n15) (f36 : n15 = hV H0 (n14).toNat (n0).toNat) : preb_278 n1 n15 H0 := by
  unfold preb_279 at f3
  unfold preb_278
  have e0 : n3 = hV H0 328 (n0).toNat := (by rw [f4] at f8; exact f8 : n3 = hV H0 328 (n0).toNat)
  have e1 : n6 = hV H0 328 (n0).toNat := (by rw [f11] at f15; exact f15 : n6 = hV H0 328 (n0).toNat)
  have e2 : n9 = hV H0 328 (n0).toNat := (by rw [f18] at f22; exact f22 : n9 = hV H0 328 (n0).toNat)
  have e3 : n12 = hV H0 335 (n0).toNat := (by rw [f25] at f29; exact f29 : n12 = hV H0 335 (n0).toNat)
  have e4 : n15 = hV H0 335 (n0).toNat := (by rw [f32] at f36; exact f36 : n15 = hV H0 335 (n0).toNat)
  have e5 : (0 : Int) ≤ hV H0 285 18 ∧ hV H0 285 18 ≤ 8 := f3.1 285 18 _ _ kW_285_18
  have e6 : (0 : Int) ≤ hV H0 285 64 ∧ hV H0 285 64 ≤ 20 := f3.1 285 64 _ _ kW_285_64
  have p0 := f3.2.1
  have p1 := f3.2.2.1
  have p2 := f3.2.2.2
  clear f5 f8 f12 f15 f19 f22 f26 f29 f33 f36
  clear f3
  subst e0
  subst e1
  subst e2
  subst e3
  subst e4
  try have t4 := SO4 p1 (s := (n0).toNat) (by omega) (by omega)
  try have t5 := SO5 p1 (s := (n0).toNat) (by omega) (by omega)
  try have sm := SOm p1 (s := (n0).toNat) (by omega) (by omega)
  refine ⟨?_, ?_⟩ <;> first | assumption | omega | trivial
def g_279_s_4 : vG := ([(22, [15, 14, 1], [0], 0), (90, [15], [], -1), (91, [15], [], 7), (20, [14, 0], [0], 73), (0, [14], [], 335), (41, [12, 13], [], 0), (0, [13], [], -1), (22, [12, 11, 1], [0], 0), (90, [12], [], -1), (91, [12], [], 7), (20, [11, 0], [0], 73), (0, [11], [], 335), (40, [9, 10], [], 0), (0, [10], [], 6), (22, [9, 8, 1], [0], 0), (90, [9], [], 0), (91, [9], [], 6), (20, [8, 0], [0], 66), (0, [8], [], 328), (41, [6, 7], [], 0), (0, [7], [], 5), (22, [6, 5, 1], [0], 0), (90, [6], [], 0), (91, [6], [], 6), (20, [5, 0], [0], 66), (0, [5], [], 328), (41, [3, 4], [], 0), (0, [4], [], 4), (22, [3, 2, 1], [0], 0), (90, [3], [], 0), (91, [3], [], 6), (20, [2, 0], [0], 66), (0, [2], [], 328), (6000, [0, 1], [0], 0), (0, [0], [], 285), (90, [1], [], 0), (91, [1], [], 19)], (2278, [0, 15], [0], 0))
theorem c_279_s_4 : vOkm T0 (eP e_279 L_279 A_279 mu_279 none) 2 g_279_s_4 := vOk_inI fun ρ η f0 f1 f2 f3 f4 f5 f6 f7 f8 f9 f10 f11 f12 f13 f14 f15 f16 f17 f18 f19 f20 f21 f22 f23 f24 f25 f26 f27 f28 f29 f30 f31 f32 f33 f34 f35 f36 => q_279_4 (n0 := ρ 1) (n1 := ρ 0) (n2 := ρ 2) (n3 := ρ 3) (n4 := ρ 4) (n5 := ρ 5) (n6 := ρ 6) (n7 := ρ 7) (n8 := ρ 8) (n9 := ρ 9) (n10 := ρ 10) (n11 := ρ 11) (n12 := ρ 12) (n13 := ρ 13) (n14 := ρ 14) (n15 := ρ 15) (H0 := η 0) f36 f35 f34 f33 f32 f31 f30 f29 f28 f27 f26 f25 f24 f23 f22 f21 f20 f19 f18 f17 f16 f15 f14 f13 f12 f11 f10 f9 f8 f7 f6 f5 f4 f3 f2 f1 f0
theorem kR_278_328 : vFreeR s_278.2.2.2.2 328 = true := by decide +kernel
theorem kR_278_332 : vFreeR s_278.2.2.2.2 332 = true := by decide +kernel
theorem kR_278_335 : vFreeR s_278.2.2.2.2 335 = true := by decide +kernel
theorem q_279_5 {n0 n1 n2 n3 n4 n5 n6 n7 n8 n9 n10 n11 n12 n13 n14 n15 n16 : Int} {H0 H1 : gH} (f0 : n0 ≤ 19) (f1 : 0 ≤ n0) (f2 : n1 = 285) (f3 : hWt T0 H0 ∧ preb_279 n1 n0 H0) (f4 : n2 = 328) (f5 : n2 = hV H0 (n1).toNat 66) (f6 : n3 ≤ 6) (f7 : 0 ≤ n3) (f8 : n3 = hV H0 (n2).toNat (n0).toNat) (f9 : n4 = 4) (f10 : n3 ≠ n4) (f11 : n5 = 328) (f12 : n5 = hV H0 (n1).toNat 66) (f13 : n6 ≤ 6) (f14 : 0 ≤ n6) (f15 : n6 = hV H0 (n5).toNat (n0).toNat) (f16 : n7 = 5) (f17 : n6 ≠ n7) (f18 : n8 = 328) (f19 : n8 = hV H0 (n1).toNat 66) (f20 : n9 ≤ 6) (f21 : 0 ≤ n9) (f22 : n9 = hV H0 (n8).toNat (n0).toNat) (f23 : n10 = 6) (f24 : n9 = n10) (f25 : n11 = 335) (f26 : n11 = hV H0 (n1).toNat 73) (f27 : n12 ≤ 7) (f28 : (-1) ≤ n12) (f29 : n12 = hV H0 (n11).toNat (n0).toNat) (f30 : n13 = (-1)) (f31 : n12 ≠ n13) (f32 : n14 = 335) (f33 : n14 = hV H0 (n1).toNat 73) (f34 : n15 ≤ 7) (f35 : (-1) ≤ n15) (f36 : n15 = hV H0 (n14).toNat (n0).toNat) (f37 : n16 ≤ 2147483647) (f38 : (-2147483648) ≤ n16) (f39 : (hLe T0 H0 H1 ∧ hFr s_278.2.2.2.2 H0 H1 ∧ ((0 : Int) = 0 → H1.length = H0.length) ∧ hWt T0 H1) ∧ postb_278 n16 n1 n15 H0 H1) : postb_279 n16 n1 n0 H0 H1 := by
  unfold preb_279 at f3
  unfold postb_278 at f39
  unfold postb_279
  have e0 : n3 = hV H0 328 (n0).toNat := (by rw [f4] at f8; exact f8 : n3 = hV H0 328 (n0).toNat)
  have e1 : n6 = hV H0 328 (n0).toNat := (by rw [f11] at f15; exact f15 : n6 = hV H0 328 (n0).toNat)
  have e2 : n9 = hV H0 328 (n0).toNat := (by rw [f18] at f22; exact f22 : n9 = hV H0 328 (n0).toNat)
  have e3 : n12 = hV H0 335 (n0).toNat := (by rw [f25] at f29; exact f29 : n12 = hV H0 335 (n0).toNat)
  have e4 : n15 = hV H0 335 (n0).toNat := (by rw [f32] at f36; exact f36 : n15 = hV H0 335 (n0).toNat)
  have e5 : hV H1 296 = hV H0 296 := fRow f39.1.2.1 296 kR_278_296
  have e6 : hV H1 298 = hV H0 298 := fRow f39.1.2.1 298 kR_278_298
  have e7 : hV H1 300 = hV H0 300 := fRow f39.1.2.1 300 kR_278_300
  have e8 : hV H1 328 = hV H0 328 := fRow f39.1.2.1 328 kR_278_328
  have e9 : hV H1 332 = hV H0 332 := fRow f39.1.2.1 332 kR_278_332
  have e10 : hV H1 335 = hV H0 335 := fRow f39.1.2.1 335 kR_278_335
  have e11 : (0 : Int) ≤ hV H0 285 64 ∧ hV H0 285 64 ≤ 20 := f3.1 285 64 _ _ kW_285_64
  try simp only [e5, e6, e7, e8, e9, e10]
  have p0 := f3.2.1
  have p1 := f3.2.2.1
  have p2 := f3.2.2.2
  have r0_0 := f39.2
  try simp only [e5, e6, e7] at r0_0
  clear f5 f8 f12 f15 f19 f22 f26 f29 f33 f36 e5 e6 e7 e8 e9 e10
  clear f3 f39
  subst e0
  subst e1
  subst e2
  subst e3
  subst e4
  try have t4 := SO4 p1 (s := (n0).toNat) (by omega) (by omega)
  try have t5 := SO5 p1 (s := (n0).toNat) (by omega) (by omega)
  try have sm := SOm p1 (s := (n0).toNat) (by omega) (by omega)

  first
  | exact NX_lays r0_0 (by omega) (by omega) rfl
  | exact NX_none (by omega) (by omega) (by omega) (by omega)
def g_279_s_5 : vG := ([(1278, [16, 0, 15], [0, 1], 0), (90, [16], [], -2147483648), (91, [16], [], 2147483647), (22, [15, 14, 1], [0], 0), (90, [15], [], -1), (91, [15], [], 7), (20, [14, 0], [0], 73), (0, [14], [], 335), (41, [12, 13], [], 0), (0, [13], [], -1), (22, [12, 11, 1], [0], 0), (90, [12], [], -1), (91, [12], [], 7), (20, [11, 0], [0], 73), (0, [11], [], 335), (40, [9, 10], [], 0), (0, [10], [], 6), (22, [9, 8, 1], [0], 0), (90, [9], [], 0), (91, [9], [], 6), (20, [8, 0], [0], 66), (0, [8], [], 328), (41, [6, 7], [], 0), (0, [7], [], 5), (22, [6, 5, 1], [0], 0), (90, [6], [], 0), (91, [6], [], 6), (20, [5, 0], [0], 66), (0, [5], [], 328), (41, [3, 4], [], 0), (0, [4], [], 4), (22, [3, 2, 1], [0], 0), (90, [3], [], 0), (91, [3], [], 6), (20, [2, 0], [0], 66), (0, [2], [], 328), (6000, [0, 1], [0], 0), (0, [0], [], 285), (90, [1], [], 0), (91, [1], [], 19)], (3000, [16], [1], 64))
theorem c_279_s_5 : vOkm T0 (eP e_279 L_279 A_279 mu_279 none) 2 g_279_s_5 := vOk_inI fun ρ η f0 f1 f2 f3 f4 f5 f6 f7 f8 f9 f10 f11 f12 f13 f14 f15 f16 f17 f18 f19 f20 f21 f22 f23 f24 f25 f26 f27 f28 f29 f30 f31 f32 f33 f34 f35 f36 f37 f38 f39 => q_279_5 (n0 := ρ 1) (n1 := ρ 0) (n2 := ρ 2) (n3 := ρ 3) (n4 := ρ 4) (n5 := ρ 5) (n6 := ρ 6) (n7 := ρ 7) (n8 := ρ 8) (n9 := ρ 9) (n10 := ρ 10) (n11 := ρ 11) (n12 := ρ 12) (n13 := ρ 13) (n14 := ρ 14) (n15 := ρ 15) (n16 := ρ 16) (H0 := η 0) (H1 := η 1) f39 f38 f37 f36 f35 f34 f33 f32 f31 f30 f29 f28 f27 f26 f25 f24 f23 f22 f21 f20 f19 f18 f17 f16 f15 f14 f13 f12 f11 f10 f9 f8 f7 f6 f5 f4 f3 f2 f1 f0
theorem q_279_6 {n0 n1 n2 n3 n4 n5 n6 n7 n8 n9 n10 n11 : Int} {H0 : gH} (f0 : n0 ≤ 19) (f1 : 0 ≤ n0) (f2 : n1 = 285) (f3 : hWt T0 H0 ∧ preb_279 n1 n0 H0) (f4 : n2 = 328) (f5 : n2 = hV H0 (n1).toNat 66) (f6 : n3 ≤ 6) (f7 : 0 ≤ n3) (f8 : n3 = hV H0 (n2).toNat (n0).toNat) (f9 : n4 = 4) (f10 : n3 ≠ n4) (f11 : n5 = 328) (f12 : n5 = hV H0 (n1).toNat 66) (f13 : n6 ≤ 6) (f14 : 0 ≤ n6) (f15 : n6 = hV H0 (n5).toNat (n0).toNat) (f16 : n7 = 5) (f17 : n6 = n7) (f18 : n8 = 1) (f19 : n9 = 332) (f20 : n9 = hV H0 (n1).toNat 70) (f21 : n10 ≤ 19) (f22 : (-1) ≤ n10) (f23 : n10 = hV H0 (n9).toNat (n0).toNat) (f24 : n11 = o32 (fun x y => x <<< (y &&& 31)) n8 n10) : postb_279 n11 n1 n0 H0 H0 := by
  unfold preb_279 at f3
  unfold postb_279
  have e0 : n3 = hV H0 328 (n0).toNat := (by rw [f4] at f8; exact f8 : n3 = hV H0 328 (n0).toNat)
  have e1 : n6 = hV H0 328 (n0).toNat := (by rw [f11] at f15; exact f15 : n6 = hV H0 328 (n0).toNat)
  have e2 : n10 = hV H0 332 (n0).toNat := (by rw [f19] at f23; exact f23 : n10 = hV H0 332 (n0).toNat)
  have e3 : (0 : Int) ≤ hV H0 285 64 ∧ hV H0 285 64 ≤ 20 := f3.1 285 64 _ _ kW_285_64
  have p0 := f3.2.1
  have p1 := f3.2.2.1
  have p2 := f3.2.2.2
  clear f5 f8 f12 f15 f20 f23
  clear f3
  subst e0
  subst e1
  subst e2
  try have t4 := SO4 p1 (s := (n0).toNat) (by omega) (by omega)
  try have t5 := SO5 p1 (s := (n0).toNat) (by omega) (by omega)
  try have sm := SOm p1 (s := (n0).toNat) (by omega) (by omega)

  first
  | exact NX_off (by omega) f24 (by omega) (by omega) (by omega) (by omega)
  | exact NX_lays r0_0 (by omega) (by omega) rfl
  | exact NX_none (by omega) (by omega) (by omega) (by omega)
def g_279_s_6 : vG := ([(7, [11, 8, 10], [], 0), (22, [10, 9, 1], [0], 0), (90, [10], [], -1), (91, [10], [], 19), (20, [9, 0], [0], 70), (0, [9], [], 332), (0, [8], [], 1), (40, [6, 7], [], 0), (0, [7], [], 5), (22, [6, 5, 1], [0], 0), (90, [6], [], 0), (91, [6], [], 6), (20, [5, 0], [0], 66), (0, [5], [], 328), (41, [3, 4], [], 0), (0, [4], [], 4), (22, [3, 2, 1], [0], 0), (90, [3], [], 0), (91, [3], [], 6), (20, [2, 0], [0], 66), (0, [2], [], 328), (6000, [0, 1], [0], 0), (0, [0], [], 285), (90, [1], [], 0), (91, [1], [], 19)], (3000, [11], [0], 28))
theorem c_279_s_6 : vOkm T0 (eP e_279 L_279 A_279 mu_279 none) 2 g_279_s_6 := vOk_inI fun ρ η f0 f1 f2 f3 f4 f5 f6 f7 f8 f9 f10 f11 f12 f13 f14 f15 f16 f17 f18 f19 f20 f21 f22 f23 f24 => q_279_6 (n0 := ρ 1) (n1 := ρ 0) (n2 := ρ 2) (n3 := ρ 3) (n4 := ρ 4) (n5 := ρ 5) (n6 := ρ 6) (n7 := ρ 7) (n8 := ρ 8) (n9 := ρ 9) (n10 := ρ 10) (n11 := ρ 11) (H0 := η 0) f24 f23 f22 f21 f20 f19 f18 f17 f16 f15 f14 f13 f12 f11 f10 f9 f8 f7 f6 f5 f4 f3 f2 f1 f0
def p_279_s : List vG := [g_279_s_0,
  g_279_s_1,
  g_279_s_2,
  g_279_s_3,
  g_279_s_4,
  g_279_s_5,
  g_279_s_6]
theorem r_279_s : vCovO false (eR0 e_279 L_279 cs_279 2000) p_279_s = true := by decide +kernel
theorem m_279 (d : Nat) : eC e_279 (d + 4) := eC_ok (e := e_279) (L := L_279) (cs := cs_279) (n := 2000) (d := d + 3) (A := A_279) (μ := mu_279) (tp := false) (p0 := p_279_s) rfl ⟨m_278 d, trivial⟩ rfl (.inl rfl) (by decide +kernel) (fun z => nomatch z) r_279_s (allC c_279_s_0 (allC c_279_s_1 (allC c_279_s_2 (allC c_279_s_3 (allC c_279_s_4 (allC c_279_s_5 (allC c_279_s_6 allN))))))) allN
/- MixStageModel.leansOf (I)I -/
noncomputable def s_280 : vM := ([(3, 12, 285, 0), (0, 0, 19, 0)], (0, -2147483648, 2147483647, 0), 1, 0, [(12, 82), (580, 0), (588, 0), (596, 0), (604, 0), (612, 0)])
def preb_280 (a0 a1 : Int) (h : gH) : Prop := a1 < hV h 285 64 ∧ SO h ∧ PG h
def pre_280 : List Int → gH → Prop := fun xs h => match xs with
  | [a0, a1] => preb_280 a0 a1 h
  | _ => False
def postb_280 (r a0 a1 : Int) (h0 h : gH) : Prop := BTS r (LSp (hV h 285 64) (NXp (hV h 328) (hV h 332) (hV h 335) (hV h 296) (hV h 298) (hV h 300)) (a1).toNat)
def post_280 : List Int → gH → gH → Prop := fun xs h0 h => match xs with
  | [r, a0, a1] => postb_280 r a0 a1 h0 h
  | _ => True
noncomputable def e_280 : vE := (280, s_280, pre_280, post_280)
noncomputable def L_280 : List vE := [e_279]
def cs_280 : List vC := [(8, [(0, (3, 12, 285, 0)), (1, (0, 0, 19, 0)), (2, (0, -2147483648, 2147483647, 0)), (3, (0, -2147483648, 2147483647, 0))]), (25, [(0, (3, 12, 285, 0)), (1, (0, 0, 19, 0)), (2, (0, -2147483648, 2147483647, 0)), (3, (0, -2147483648, 2147483647, 0)), (4, (0, 0, 20, 0))])]
def Ab_280_8 (a0 a1 x0 x1 x2 x3 : Int) (h0 h : gH) : Prop := x1 = a1 ∧ LMp (hV h 285 64) (NXp (hV h 328) (hV h 332) (hV h 335) (hV h 296) (hV h 298) (hV h 300)) (a1).toNat x2 x3 ∧ LCp (hV h 285 64) (NXp (hV h 328) (hV h 332) (hV h 335) (hV h 296) (hV h 298) (hV h 300)) (hV h 285 64) x2 x3
def mub_280_8 (a0 a1 x0 x1 x2 x3 : Int) (h0 h : gH) : Nat := nz (bt x2) 32 * 1000
def Ab_280_25 (a0 a1 x0 x1 x2 x3 x4 : Int) (h0 h : gH) : Prop := x1 = a1 ∧ LMp (hV h 285 64) (NXp (hV h 328) (hV h 332) (hV h 335) (hV h 296) (hV h 298) (hV h 300)) (a1).toNat x2 x3 ∧ LCp (hV h 285 64) (NXp (hV h 328) (hV h 332) (hV h 335) (hV h 296) (hV h 298) (hV h 300)) x4 x2 x3
def mub_280_25 (a0 a1 x0 x1 x2 x3 x4 : Int) (h0 h : gH) : Nat := nz (bt x2) 32 * 1000 + 1 + (20 - x4).toNat
def A_280 : Int → List Int → gH → gH → Prop := fun c xs h0 h => match c.toNat with
  | 8 => (match xs with
    | [a0, a1, x0, x1, x2, x3] => Ab_280_8 a0 a1 x0 x1 x2 x3 h0 h
    | _ => False)
  | 25 => (match xs with
    | [a0, a1, x0, x1, x2, x3, x4] => Ab_280_25 a0 a1 x0 x1 x2 x3 x4 h0 h
    | _ => False)
  | _ => True
def mu_280 : Int → List Int → gH → gH → Nat := fun c xs h0 h => match c.toNat with
  | 8 => (match xs with
    | [a0, a1, x0, x1, x2, x3] => mub_280_8 a0 a1 x0 x1 x2 x3 h0 h
    | _ => 0)
  | 25 => (match xs with
    | [a0, a1, x0, x1, x2, x3, x4] => mub_280_25 a0 a1 x0 x1 x2 x3 x4 h0 h
    | _ => 0)
  | _ => 0
theorem q_280_0 {n0 n1 : Int} {H0 : gH} (f0 : n0 ≤ 19) (f1 : 0 ≤ n0) (f2 : n1 = 285) (f3 : hWt T0 H0 ∧ preb_280 n1 n0 H0) : preb_279 n1 n0 H0 := by
  unfold preb_280 at f3
  unfold preb_279
  have e0 : (0 : Int) ≤ hV H0 285 64 ∧ hV H0 285 64 ≤ 20 := f3.1 285 64 _ _ kW_285_64
  have p0 := f3.2.1
  have p1 := f3.2.2.1
  have p2 := f3.2.2.2
  clear f3
  refine ⟨?_, ?_, ?_⟩ <;> first | assumption | omega | trivial
def g_280_s_0 : vG := ([(6000, [0, 1], [0], 0), (0, [0], [], 285), (90, [1], [], 0), (91, [1], [], 19)], (2279, [0, 1], [0], 0))
theorem c_280_s_0 : vOkm T0 (eP e_280 L_280 A_280 mu_280 none) 2 g_280_s_0 := vOk_inI fun ρ η f0 f1 f2 f3 => q_280_0 (n0 := ρ 1) (n1 := ρ 0) (H0 := η 0) f3 f2 f1 f0
theorem kR_279_296 : vFreeR s_279.2.2.2.2 296 = true := by decide +kernel
theorem kR_279_298 : vFreeR s_279.2.2.2.2 298 = true := by decide +kernel
theorem kR_279_300 : vFreeR s_279.2.2.2.2 300 = true := by decide +kernel
theorem kR_279_328 : vFreeR s_279.2.2.2.2 328 = true := by decide +kernel
theorem kR_279_332 : vFreeR s_279.2.2.2.2 332 = true := by decide +kernel
theorem kR_279_335 : vFreeR s_279.2.2.2.2 335 = true := by decide +kernel
theorem kF_279_285_64 : vFree s_279.2.2.2.2 285 64 = true := by decide +kernel
theorem q_280_1 {n0 n1 n2 n3 : Int} {H0 H1 : gH} (f0 : n0 ≤ 19) (f1 : 0 ≤ n0) (f2 : n1 = 285) (f3 : hWt T0 H0 ∧ preb_280 n1 n0 H0) (f4 : n2 = 0) (f5 : n3 ≤ 2147483647) (f6 : (-2147483648) ≤ n3) (f7 : (hLe T0 H0 H1 ∧ hFr s_279.2.2.2.2 H0 H1 ∧ ((0 : Int) = 0 → H1.length = H0.length) ∧ hWt T0 H1) ∧ postb_279 n3 n1 n0 H0 H1) : Ab_280_8 n1 n0 n1 n0 n2 n3 H0 H1 ∧ ∀ q, none = some q → mub_280_8 n1 n0 n1 n0 n2 n3 H0 H1 < q := by
  unfold preb_280 at f3
  unfold postb_279 at f7
  unfold Ab_280_8
  have e1 : hV H1 285 64 = hV H0 285 64 := (f7.1.2.1.1 285 64 kF_279_285_64)
  have e2 : hV H1 296 = hV H0 296 := fRow f7.1.2.1 296 kR_279_296
  have e3 : hV H1 298 = hV H0 298 := fRow f7.1.2.1 298 kR_279_298
  have e4 : hV H1 300 = hV H0 300 := fRow f7.1.2.1 300 kR_279_300
  have e5 : hV H1 328 = hV H0 328 := fRow f7.1.2.1 328 kR_279_328
  have e6 : hV H1 332 = hV H0 332 := fRow f7.1.2.1 332 kR_279_332
  have e7 : hV H1 335 = hV H0 335 := fRow f7.1.2.1 335 kR_279_335
  have e8 : (0 : Int) ≤ hV H0 285 64 ∧ hV H0 285 64 ≤ 20 := f3.1 285 64 _ _ kW_285_64
  try simp only [e1, e2, e3, e4, e5, e6, e7]
  have p0 := f3.2.1
  have p1 := f3.2.2.1
  have p2 := f3.2.2.2
  have r0_0 := f7.2
  try simp only [e2, e3, e4, e5, e6, e7] at r0_0
  clear e1 e2 e3 e4 e5 e6 e7
  clear f3 f7

  refine ⟨?_, fun q hq => ?_⟩
  · exact ⟨by first | omega | trivial, LM_first (by omega) r0_0, LC_first (by omega)⟩
  · exact nomatch hq
def g_280_s_1 : vG := ([(1279, [3, 0, 1], [0, 1], 0), (90, [3], [], -2147483648), (91, [3], [], 2147483647), (0, [2], [], 0), (6000, [0, 1], [0], 0), (0, [0], [], 285), (90, [1], [], 0), (91, [1], [], 19)], (4000, [0, 1, 2, 3], [1], 8))
theorem c_280_s_1 : vOkm T0 (eP e_280 L_280 A_280 mu_280 none) 2 g_280_s_1 := vOk_inI fun ρ η f0 f1 f2 f3 f4 f5 f6 f7 => q_280_1 (n0 := ρ 1) (n1 := ρ 0) (n2 := ρ 2) (n3 := ρ 3) (H0 := η 0) (H1 := η 1) f7 f6 f5 f4 f3 f2 f1 f0
def p_280_s : List vG := [g_280_s_0,
  g_280_s_1]
theorem r_280_s : vCovO false (eR0 e_280 L_280 cs_280 2000) p_280_s = true := by decide +kernel
theorem kR_280_296 : vFreeR s_280.2.2.2.2 296 = true := by decide +kernel
theorem kR_280_298 : vFreeR s_280.2.2.2.2 298 = true := by decide +kernel
theorem kR_280_300 : vFreeR s_280.2.2.2.2 300 = true := by decide +kernel
theorem kR_280_328 : vFreeR s_280.2.2.2.2 328 = true := by decide +kernel
theorem kR_280_332 : vFreeR s_280.2.2.2.2 332 = true := by decide +kernel
theorem kR_280_335 : vFreeR s_280.2.2.2.2 335 = true := by decide +kernel
theorem kF_280_285_64 : vFree s_280.2.2.2.2 285 64 = true := by decide +kernel
theorem q_280_2 {q0 : Nat} {n0 n1 n2 n3 n4 n5 n6 n7 n8 : Int} {H0 H1 : gH} (f0 : n0 ≤ 2147483647) (f1 : (-2147483648) ≤ n0) (f2 : n1 ≤ 2147483647) (f3 : (-2147483648) ≤ n1) (f4 : n2 ≤ 19) (f5 : 0 ≤ n2) (f6 : n3 = 285) (f7 : n4 ≤ 19) (f8 : 0 ≤ n4) (f9 : n5 = 285) (f10 : (hLe T0 H0 H1 ∧ hFr s_280.2.2.2.2 H0 H1 ∧ hWt T0 H1) ∧ (Ab_280_8 n5 n4 n3 n2 n1 n0 H0 H1 ∧ preb_280 n5 n4 H0) ∧ some q0 = some (mub_280_8 n5 n4 n3 n2 n1 n0 H0 H1)) (f11 : n6 = (-1)) (f12 : n7 = o32 (fun x y => x ^^^ y) n1 n6) (f13 : n8 = o32 (fun x y => x &&& y) n0 n7) (f14 : n8 = 0) : postb_280 n1 n5 n4 H0 H1 := by
  have g4 := f10.2.1.1
  unfold Ab_280_8 at g4
  have g3 := f10.2.1.2
  unfold preb_280 at g3
  unfold postb_280
  have e1 : hV H1 285 64 = hV H0 285 64 := (f10.1.2.1.1 285 64 kF_280_285_64)
  have e2 : hV H1 296 = hV H0 296 := fRow f10.1.2.1 296 kR_280_296
  have e3 : hV H1 298 = hV H0 298 := fRow f10.1.2.1 298 kR_280_298
  have e4 : hV H1 300 = hV H0 300 := fRow f10.1.2.1 300 kR_280_300
  have e5 : hV H1 328 = hV H0 328 := fRow f10.1.2.1 328 kR_280_328
  have e6 : hV H1 332 = hV H0 332 := fRow f10.1.2.1 332 kR_280_332
  have e7 : hV H1 335 = hV H0 335 := fRow f10.1.2.1 335 kR_280_335
  have e8 : (0 : Int) ≤ hV H0 285 64 ∧ hV H0 285 64 ≤ 20 := bTo e1 (f10.1.2.2 285 64 _ _ kW_285_64)
  try simp only [e1, e2, e3, e4, e5, e6, e7]
  have k0 := g4.1
  have y0 := g4.2.1
  have y1 := g4.2.2
  have p0 := g3.1
  have p1 := g3.2.1
  have p2 := g3.2.2
  try simp only [e1, e2, e3, e4, e5, e6, e7] at y0
  try simp only [e1, e2, e3, e4, e5, e6, e7] at y1
  clear g3
  clear g4
  clear e1 e2 e3 e4 e5 e6 e7
  clear f10

  exact LS_end y0 y1 f12 (by omega) f13 (by omega) (by omega) (NX_lt p1 p2 (by omega))
def g_280_8_0 : vG := ([(30, [8], [], 0), (4, [8, 5, 7], [], 0), (6, [7, 4, 6], [], 0), (0, [6], [], -1), (5000, [0, 1, 2, 3, 4, 5], [0, 1], 8), (0, [0], [], 285), (90, [1], [], 0), (91, [1], [], 19), (0, [2], [], 285), (90, [3], [], 0), (91, [3], [], 19), (90, [4], [], -2147483648), (91, [4], [], 2147483647), (90, [5], [], -2147483648), (91, [5], [], 2147483647)], (3000, [4], [1], 63))
theorem c_280_8_0 {q0 : Nat} : vOkm T0 (eP e_280 L_280 A_280 mu_280 (some q0)) 2 g_280_8_0 := vOk_inI fun ρ η f0 f1 f2 f3 f4 f5 f6 f7 f8 f9 f10 f11 f12 f13 f14 => q_280_2 (q0 := q0) (n0 := ρ 5) (n1 := ρ 4) (n2 := ρ 3) (n3 := ρ 2) (n4 := ρ 1) (n5 := ρ 0) (n6 := ρ 6) (n7 := ρ 7) (n8 := ρ 8) (H0 := η 0) (H1 := η 1) f14 f13 f12 f11 f10 f9 f8 f7 f6 f5 f4 f3 f2 f1 f0
theorem q_280_3 {q0 : Nat} {n0 n1 n2 n3 n4 n5 n6 n7 n8 n9 n10 : Int} {H0 H1 : gH} (f0 : n0 ≤ 2147483647) (f1 : (-2147483648) ≤ n0) (f2 : n1 ≤ 2147483647) (f3 : (-2147483648) ≤ n1) (f4 : n2 ≤ 19) (f5 : 0 ≤ n2) (f6 : n3 = 285) (f7 : n4 ≤ 19) (f8 : 0 ≤ n4) (f9 : n5 = 285) (f10 : (hLe T0 H0 H1 ∧ hFr s_280.2.2.2.2 H0 H1 ∧ hWt T0 H1) ∧ (Ab_280_8 n5 n4 n3 n2 n1 n0 H0 H1 ∧ preb_280 n5 n4 H0) ∧ some q0 = some (mub_280_8 n5 n4 n3 n2 n1 n0 H0 H1)) (f11 : n6 = (-1)) (f12 : n7 = o32 (fun x y => x ^^^ y) n1 n6) (f13 : n8 = o32 (fun x y => x &&& y) n0 n7) (f14 : n8 ≠ 0) (f15 : n9 = o32 (fun x y => x ||| y) n1 n0) (f16 : n10 = 0) : Ab_280_25 n5 n4 n3 n2 n9 n9 n10 H0 H1 ∧ ∀ q, some q0 = some q → mub_280_25 n5 n4 n3 n2 n9 n9 n10 H0 H1 < q := by
  have g4 := f10.2.1.1
  unfold Ab_280_8 at g4
  have g3 := f10.2.1.2
  unfold preb_280 at g3
  have g5 := Option.some.inj f10.2.2
  unfold mub_280_8 at g5
  unfold Ab_280_25
  unfold mub_280_25
  have e1 : hV H1 285 64 = hV H0 285 64 := (f10.1.2.1.1 285 64 kF_280_285_64)
  have e2 : hV H1 296 = hV H0 296 := fRow f10.1.2.1 296 kR_280_296
  have e3 : hV H1 298 = hV H0 298 := fRow f10.1.2.1 298 kR_280_298
  have e4 : hV H1 300 = hV H0 300 := fRow f10.1.2.1 300 kR_280_300
  have e5 : hV H1 328 = hV H0 328 := fRow f10.1.2.1 328 kR_280_328
  have e6 : hV H1 332 = hV H0 332 := fRow f10.1.2.1 332 kR_280_332
  have e7 : hV H1 335 = hV H0 335 := fRow f10.1.2.1 335 kR_280_335
  have e8 : (0 : Int) ≤ hV H0 285 64 ∧ hV H0 285 64 ≤ 20 := bTo e1 (f10.1.2.2 285 64 _ _ kW_285_64)
  try simp only [e1, e2, e3, e4, e5, e6, e7]
  have k0 := g4.1
  have y0 := g4.2.1
  have y1 := g4.2.2
  have p0 := g3.1
  have p1 := g3.2.1
  have p2 := g3.2.2
  try simp only [e1, e2, e3, e4, e5, e6, e7] at y0
  try simp only [e1, e2, e3, e4, e5, e6, e7] at y1
  clear g3
  clear g4
  clear e1 e2 e3 e4 e5 e6 e7
  clear f10

  have nl := nz_all f15 f12 (by omega) f13 (o32_lo f13) (o32_hi f13) (by omega)
  refine ⟨?_, fun q hq => ?_⟩
  · exact ⟨by first | omega | trivial, LM_all y0 f15 rfl, LC_zero (by omega)⟩
  · have g6 := Option.some.inj hq
    subst g6
    omega
def g_280_8_1 : vG := ([(0, [10], [], 0), (5, [9, 4, 5], [], 0), (31, [8], [], 0), (4, [8, 5, 7], [], 0), (6, [7, 4, 6], [], 0), (0, [6], [], -1), (5000, [0, 1, 2, 3, 4, 5], [0, 1], 8), (0, [0], [], 285), (90, [1], [], 0), (91, [1], [], 19), (0, [2], [], 285), (90, [3], [], 0), (91, [3], [], 19), (90, [4], [], -2147483648), (91, [4], [], 2147483647), (90, [5], [], -2147483648), (91, [5], [], 2147483647)], (4000, [2, 3, 9, 9, 10], [1], 25))
theorem c_280_8_1 {q0 : Nat} : vOkm T0 (eP e_280 L_280 A_280 mu_280 (some q0)) 2 g_280_8_1 := vOk_inI fun ρ η f0 f1 f2 f3 f4 f5 f6 f7 f8 f9 f10 f11 f12 f13 f14 f15 f16 => q_280_3 (q0 := q0) (n0 := ρ 5) (n1 := ρ 4) (n2 := ρ 3) (n3 := ρ 2) (n4 := ρ 1) (n5 := ρ 0) (n6 := ρ 6) (n7 := ρ 7) (n8 := ρ 8) (n9 := ρ 9) (n10 := ρ 10) (H0 := η 0) (H1 := η 1) f16 f15 f14 f13 f12 f11 f10 f9 f8 f7 f6 f5 f4 f3 f2 f1 f0
def p_280_8 : List vG := [g_280_8_0,
  g_280_8_1]
theorem r_280_8 : vCovO false (eRc e_280 L_280 cs_280 2000 (8, [(0, (3, 12, 285, 0)), (1, (0, 0, 19, 0)), (2, (0, -2147483648, 2147483647, 0)), (3, (0, -2147483648, 2147483647, 0))])) p_280_8 = true := by decide +kernel
theorem q_280_4 {q0 : Nat} {n0 n1 n2 n3 n4 n5 n6 n7 : Int} {H0 H1 : gH} (f0 : n0 ≤ 20) (f1 : 0 ≤ n0) (f2 : n1 ≤ 2147483647) (f3 : (-2147483648) ≤ n1) (f4 : n2 ≤ 2147483647) (f5 : (-2147483648) ≤ n2) (f6 : n3 ≤ 19) (f7 : 0 ≤ n3) (f8 : n4 = 285) (f9 : n5 ≤ 19) (f10 : 0 ≤ n5) (f11 : n6 = 285) (f12 : (hLe T0 H0 H1 ∧ hFr s_280.2.2.2.2 H0 H1 ∧ hWt T0 H1) ∧ (Ab_280_25 n6 n5 n4 n3 n2 n1 n0 H0 H1 ∧ preb_280 n6 n5 H0) ∧ some q0 = some (mub_280_25 n6 n5 n4 n3 n2 n1 n0 H0 H1)) (f13 : n7 ≤ 20) (f14 : 0 ≤ n7) (f15 : n7 = hV H1 (n4).toNat 64) (f16 : n7 ≤ n0) : Ab_280_8 n6 n5 n4 n3 n2 n1 H0 H1 ∧ ∀ q, some q0 = some q → mub_280_8 n6 n5 n4 n3 n2 n1 H0 H1 < q := by
  have g4 := f12.2.1.1
  unfold Ab_280_25 at g4
  have g3 := f12.2.1.2
  unfold preb_280 at g3
  have g5 := Option.some.inj f12.2.2
  unfold mub_280_25 at g5
  unfold Ab_280_8
  unfold mub_280_8
  have e1 : n7 = hV H0 285 64 := (by rw [f8] at f15; exact f15 : n7 = hV H1 285 64).trans ((f12.1.2.1.1 285 64 kF_280_285_64))
  have e2 : hV H1 285 64 = hV H0 285 64 := (f12.1.2.1.1 285 64 kF_280_285_64)
  have e3 : hV H1 296 = hV H0 296 := fRow f12.1.2.1 296 kR_280_296
  have e4 : hV H1 298 = hV H0 298 := fRow f12.1.2.1 298 kR_280_298
  have e5 : hV H1 300 = hV H0 300 := fRow f12.1.2.1 300 kR_280_300
  have e6 : hV H1 328 = hV H0 328 := fRow f12.1.2.1 328 kR_280_328
  have e7 : hV H1 332 = hV H0 332 := fRow f12.1.2.1 332 kR_280_332
  have e8 : hV H1 335 = hV H0 335 := fRow f12.1.2.1 335 kR_280_335
  have e9 : (0 : Int) ≤ hV H0 285 64 ∧ hV H0 285 64 ≤ 20 := bTo e2 (f12.1.2.2 285 64 _ _ kW_285_64)
  try simp only [e2, e3, e4, e5, e6, e7, e8]
  have k0 := g4.1
  have y0 := g4.2.1
  have y1 := g4.2.2
  have p0 := g3.1
  have p1 := g3.2.1
  have p2 := g3.2.2
  try simp only [e2, e3, e4, e5, e6, e7, e8] at y0
  try simp only [e2, e3, e4, e5, e6, e7, e8] at y1
  clear g3
  clear g4
  clear f15 e2 e3 e4 e5 e6 e7 e8
  clear f12
  subst e1

  refine ⟨?_, fun q hq => ?_⟩
  · exact ⟨by first | omega | trivial, y0, LC_full y1 (by omega)⟩
  · have g6 := Option.some.inj hq
    subst g6
    omega
def g_280_25_0 : vG := ([(43, [6, 7], [], 0), (20, [7, 2], [1], 64), (90, [7], [], 0), (91, [7], [], 20), (5000, [0, 1, 2, 3, 4, 5, 6], [0, 1], 25), (0, [0], [], 285), (90, [1], [], 0), (91, [1], [], 19), (0, [2], [], 285), (90, [3], [], 0), (91, [3], [], 19), (90, [4], [], -2147483648), (91, [4], [], 2147483647), (90, [5], [], -2147483648), (91, [5], [], 2147483647), (90, [6], [], 0), (91, [6], [], 20)], (4000, [2, 3, 4, 5], [1], 8))
theorem c_280_25_0 {q0 : Nat} : vOkm T0 (eP e_280 L_280 A_280 mu_280 (some q0)) 2 g_280_25_0 := vOk_inI fun ρ η f0 f1 f2 f3 f4 f5 f6 f7 f8 f9 f10 f11 f12 f13 f14 f15 f16 => q_280_4 (q0 := q0) (n0 := ρ 6) (n1 := ρ 5) (n2 := ρ 4) (n3 := ρ 3) (n4 := ρ 2) (n5 := ρ 1) (n6 := ρ 0) (n7 := ρ 7) (H0 := η 0) (H1 := η 1) f16 f15 f14 f13 f12 f11 f10 f9 f8 f7 f6 f5 f4 f3 f2 f1 f0
theorem q_280_5 {q0 : Nat} {n0 n1 n2 : Int} {H0 : gH} (f0 : 0 ≤ n0) (f1 : n1 ≤ 20) (f2 : n0 < n1) (f3 : n2 = w32 (n0 + 1)) : 0 ≤ n2 := by
  first
  | (have ix0 : n2 = n0 + 1 := Eq.trans f3 (w32_id (by omega) (by omega)); subst ix0; clear f3)
  | (unfold w32 at f3; have ix0 : n2 = n0 + 1 := (by omega); subst ix0)
  | skip
  try unfold w32 at f3
  omega
def g_280_25_1 : vG := ([(10, [12, 6], [], 1), (42, [6, 7], [], 0), (91, [7], [], 20), (90, [6], [], 0)], (90, [12], [], 0))
theorem c_280_25_1 {q0 : Nat} : vOkm T0 (eP e_280 L_280 A_280 mu_280 (some q0)) 2 g_280_25_1 := vOk_inI fun ρ η f0 f1 f2 f3 => q_280_5 (q0 := q0) (n0 := ρ 6) (n1 := ρ 7) (n2 := ρ 12) (H0 := η 0) f3 f2 f1 f0
theorem q_280_6 {q0 : Nat} {n0 n1 n2 : Int} {H0 : gH} (f0 : 0 ≤ n0) (f1 : n1 ≤ 20) (f2 : n0 < n1) (f3 : n2 = w32 (n0 + 1)) : n2 ≤ 20 := by
  first
  | (have ix0 : n2 = n0 + 1 := Eq.trans f3 (w32_id (by omega) (by omega)); subst ix0; clear f3)
  | (unfold w32 at f3; have ix0 : n2 = n0 + 1 := (by omega); subst ix0)
  | skip
  try unfold w32 at f3
  omega
def g_280_25_2 : vG := ([(10, [12, 6], [], 1), (42, [6, 7], [], 0), (91, [7], [], 20), (90, [6], [], 0)], (91, [12], [], 20))
theorem c_280_25_2 {q0 : Nat} : vOkm T0 (eP e_280 L_280 A_280 mu_280 (some q0)) 2 g_280_25_2 := vOk_inI fun ρ η f0 f1 f2 f3 => q_280_6 (q0 := q0) (n0 := ρ 6) (n1 := ρ 7) (n2 := ρ 12) (H0 := η 0) f3 f2 f1 f0
theorem q_280_7 {q0 : Nat} {n0 n1 n2 n3 n4 n5 n6 n7 n8 n9 n10 n11 n12 : Int} {H0 H1 : gH} (f0 : n0 ≤ 20) (f1 : 0 ≤ n0) (f2 : n1 ≤ 2147483647) (f3 : (-2147483648) ≤ n1) (f4 : n2 ≤ 2147483647) (f5 : (-2147483648) ≤ n2) (f6 : n3 ≤ 19) (f7 : 0 ≤ n3) (f8 : n4 = 285) (f9 : n5 ≤ 19) (f10 : 0 ≤ n5) (f11 : n6 = 285) (f12 : (hLe T0 H0 H1 ∧ hFr s_280.2.2.2.2 H0 H1 ∧ hWt T0 H1) ∧ (Ab_280_25 n6 n5 n4 n3 n2 n1 n0 H0 H1 ∧ preb_280 n6 n5 H0) ∧ some q0 = some (mub_280_25 n6 n5 n4 n3 n2 n1 n0 H0 H1)) (f13 : n7 ≤ 20) (f14 : 0 ≤ n7) (f15 : n7 = hV H1 (n4).toNat 64) (f16 : n0 < n7) (f17 : n8 = o32 (fun x y => x >>> (y &&& 31)) n2 n0) (f18 : n9 = 1) (f19 : n10 = o32 (fun x y => x &&& y) n8 n9) (f20 : n11 = 1) (f21 : n10 ≠ n11) (f22 : n12 = w32 (n0 + 1)) : Ab_280_25 n6 n5 n4 n3 n2 n1 n12 H0 H1 ∧ ∀ q, some q0 = some q → mub_280_25 n6 n5 n4 n3 n2 n1 n12 H0 H1 < q := by
  have g4 := f12.2.1.1
  unfold Ab_280_25 at g4
  have g3 := f12.2.1.2
  unfold preb_280 at g3
  have g5 := Option.some.inj f12.2.2
  unfold mub_280_25 at g5
  unfold Ab_280_25
  unfold mub_280_25
  have e1 : n7 = hV H0 285 64 := (by rw [f8] at f15; exact f15 : n7 = hV H1 285 64).trans ((f12.1.2.1.1 285 64 kF_280_285_64))
  have e2 : hV H1 285 64 = hV H0 285 64 := (f12.1.2.1.1 285 64 kF_280_285_64)
  have e3 : hV H1 296 = hV H0 296 := fRow f12.1.2.1 296 kR_280_296
  have e4 : hV H1 298 = hV H0 298 := fRow f12.1.2.1 298 kR_280_298
  have e5 : hV H1 300 = hV H0 300 := fRow f12.1.2.1 300 kR_280_300
  have e6 : hV H1 328 = hV H0 328 := fRow f12.1.2.1 328 kR_280_328
  have e7 : hV H1 332 = hV H0 332 := fRow f12.1.2.1 332 kR_280_332
  have e8 : hV H1 335 = hV H0 335 := fRow f12.1.2.1 335 kR_280_335
  have e9 : (0 : Int) ≤ hV H0 285 64 ∧ hV H0 285 64 ≤ 20 := bTo e2 (f12.1.2.2 285 64 _ _ kW_285_64)
  try simp only [e2, e3, e4, e5, e6, e7, e8]
  have k0 := g4.1
  have y0 := g4.2.1
  have y1 := g4.2.2
  have p0 := g3.1
  have p1 := g3.2.1
  have p2 := g3.2.2
  try simp only [e2, e3, e4, e5, e6, e7, e8] at y0
  try simp only [e2, e3, e4, e5, e6, e7, e8] at y1
  clear g3
  clear g4
  clear f15 e2 e3 e4 e5 e6 e7 e8
  clear f12
  subst e1
  have b19 := o32_and_r f19 (by omega) (by omega)
  first
  | (have ix0 : n12 = n0 + 1 := Eq.trans f22 (w32_iv (Iad (Iat f1 f0) (IC 1)) (by decide)); subst ix0; clear f22)
  | (have ix0 : n12 = n0 + 1 := Eq.trans f22 (w32_id (by omega) (by omega)); subst ix0; clear f22)
  | (unfold w32 at f22; have ix0 : n12 = n0 + 1 := (by omega); subst ix0)
  | skip
  try unfold w32 at f22

  have tb := bt_test f17 f19 (by omega) (by omega) (by omega)
  refine ⟨?_, fun q hq => ?_⟩
  · exact ⟨by first | omega | trivial, y0, LC_skip y1 (by omega) (fun z => by have := tb.1.mpr z; omega) (by omega)⟩
  · have g6 := Option.some.inj hq
    subst g6
    omega
def g_280_25_3 : vG := ([(10, [12, 6], [], 1), (41, [10, 11], [], 0), (0, [11], [], 1), (4, [10, 8, 9], [], 0), (0, [9], [], 1), (8, [8, 4, 6], [], 0), (42, [6, 7], [], 0), (20, [7, 2], [1], 64), (90, [7], [], 0), (91, [7], [], 20), (5000, [0, 1, 2, 3, 4, 5, 6], [0, 1], 25), (0, [0], [], 285), (90, [1], [], 0), (91, [1], [], 19), (0, [2], [], 285), (90, [3], [], 0), (91, [3], [], 19), (90, [4], [], -2147483648), (91, [4], [], 2147483647), (90, [5], [], -2147483648), (91, [5], [], 2147483647), (90, [6], [], 0), (91, [6], [], 20)], (4000, [2, 3, 4, 5, 12], [1], 25))
theorem c_280_25_3 {q0 : Nat} : vOkm T0 (eP e_280 L_280 A_280 mu_280 (some q0)) 2 g_280_25_3 := vOk_inI fun ρ η f0 f1 f2 f3 f4 f5 f6 f7 f8 f9 f10 f11 f12 f13 f14 f15 f16 f17 f18 f19 f20 f21 f22 => q_280_7 (q0 := q0) (n0 := ρ 6) (n1 := ρ 5) (n2 := ρ 4) (n3 := ρ 3) (n4 := ρ 2) (n5 := ρ 1) (n6 := ρ 0) (n7 := ρ 7) (n8 := ρ 8) (n9 := ρ 9) (n10 := ρ 10) (n11 := ρ 11) (n12 := ρ 12) (H0 := η 0) (H1 := η 1) f22 f21 f20 f19 f18 f17 f16 f15 f14 f13 f12 f11 f10 f9 f8 f7 f6 f5 f4 f3 f2 f1 f0
theorem q_280_8 {q0 : Nat} {n0 n1 : Int} {H0 : gH} (f0 : n0 ≤ 20) (f1 : n1 < n0) : n1 ≤ 19 := by
  omega
def g_280_25_4 : vG := ([(42, [6, 7], [], 0), (91, [7], [], 20)], (91, [6], [], 19))
theorem c_280_25_4 {q0 : Nat} : vOkm T0 (eP e_280 L_280 A_280 mu_280 (some q0)) 2 g_280_25_4 := vOk_inI fun ρ η f0 f1 => q_280_8 (q0 := q0) (n0 := ρ 7) (n1 := ρ 6) (H0 := η 0) f1 f0
theorem q_280_9 {q0 : Nat} {n0 n1 n2 n3 n4 n5 n6 n7 n8 n9 n10 n11 : Int} {H0 H1 : gH} (f0 : n0 ≤ 20) (f1 : 0 ≤ n0) (f2 : n1 ≤ 2147483647) (f3 : (-2147483648) ≤ n1) (f4 : n2 ≤ 2147483647) (f5 : (-2147483648) ≤ n2) (f6 : n3 ≤ 19) (f7 : 0 ≤ n3) (f8 : n4 = 285) (f9 : n5 ≤ 19) (f10 : 0 ≤ n5) (f11 : n6 = 285) (f12 : (hLe T0 H0 H1 ∧ hFr s_280.2.2.2.2 H0 H1 ∧ hWt T0 H1) ∧ (Ab_280_25 n6 n5 n4 n3 n2 n1 n0 H0 H1 ∧ preb_280 n6 n5 H0) ∧ some q0 = some (mub_280_25 n6 n5 n4 n3 n2 n1 n0 H0 H1)) (f13 : n7 ≤ 20) (f14 : 0 ≤ n7) (f15 : n7 = hV H1 (n4).toNat 64) (f16 : n0 < n7) (f17 : n8 = o32 (fun x y => x >>> (y &&& 31)) n2 n0) (f18 : n9 = 1) (f19 : n10 = o32 (fun x y => x &&& y) n8 n9) (f20 : n11 = 1) (f21 : n10 = n11) : preb_279 n4 n0 H1 := by
  have g4 := f12.2.1.1
  unfold Ab_280_25 at g4
  have g3 := f12.2.1.2
  unfold preb_280 at g3
  unfold preb_279
  have e1 : n7 = hV H0 285 64 := (by rw [f8] at f15; exact f15 : n7 = hV H1 285 64).trans ((f12.1.2.1.1 285 64 kF_280_285_64))
  have e2 : hV H1 285 64 = hV H0 285 64 := (f12.1.2.1.1 285 64 kF_280_285_64)
  have e3 : hV H1 296 = hV H0 296 := fRow f12.1.2.1 296 kR_280_296
  have e4 : hV H1 298 = hV H0 298 := fRow f12.1.2.1 298 kR_280_298
  have e5 : hV H1 300 = hV H0 300 := fRow f12.1.2.1 300 kR_280_300
  have e6 : hV H1 328 = hV H0 328 := fRow f12.1.2.1 328 kR_280_328
  have e7 : hV H1 332 = hV H0 332 := fRow f12.1.2.1 332 kR_280_332
  have e8 : hV H1 335 = hV H0 335 := fRow f12.1.2.1 335 kR_280_335
  have e9 : PG H1 = PG H0 := PG_fr f12.1.2.1 (by decide +kernel)
  have e10 : SO H1 = SO H0 := SO_fr f12.1.2.1 (by decide +kernel)
  have e11 : (0 : Int) ≤ hV H0 285 64 ∧ hV H0 285 64 ≤ 20 := bTo e2 (f12.1.2.2 285 64 _ _ kW_285_64)
  try simp only [e2, e9, e10]
  have k0 := g4.1
  have y0 := g4.2.1
  have y1 := g4.2.2
  have p0 := g3.1
  have p1 := g3.2.1
  have p2 := g3.2.2
  try simp only [e2, e3, e4, e5, e6, e7, e8] at y0
  try simp only [e2, e3, e4, e5, e6, e7, e8] at y1
  clear g3
  clear g4
  clear f15 e2 e3 e4 e5 e6 e7 e8 e9 e10
  clear f12
  subst e1
  have b19 := o32_and_r f19 (by omega) (by omega)
  try subst k0
  refine ⟨?_, ?_, ?_⟩ <;> first | assumption | omega | trivial
def g_280_25_5 : vG := ([(40, [10, 11], [], 0), (0, [11], [], 1), (4, [10, 8, 9], [], 0), (0, [9], [], 1), (8, [8, 4, 6], [], 0), (42, [6, 7], [], 0), (20, [7, 2], [1], 64), (90, [7], [], 0), (91, [7], [], 20), (5000, [0, 1, 2, 3, 4, 5, 6], [0, 1], 25), (0, [0], [], 285), (90, [1], [], 0), (91, [1], [], 19), (0, [2], [], 285), (90, [3], [], 0), (91, [3], [], 19), (90, [4], [], -2147483648), (91, [4], [], 2147483647), (90, [5], [], -2147483648), (91, [5], [], 2147483647), (90, [6], [], 0), (91, [6], [], 20)], (2279, [2, 6], [1], 0))
theorem c_280_25_5 {q0 : Nat} : vOkm T0 (eP e_280 L_280 A_280 mu_280 (some q0)) 2 g_280_25_5 := vOk_inI fun ρ η f0 f1 f2 f3 f4 f5 f6 f7 f8 f9 f10 f11 f12 f13 f14 f15 f16 f17 f18 f19 f20 f21 => q_280_9 (q0 := q0) (n0 := ρ 6) (n1 := ρ 5) (n2 := ρ 4) (n3 := ρ 3) (n4 := ρ 2) (n5 := ρ 1) (n6 := ρ 0) (n7 := ρ 7) (n8 := ρ 8) (n9 := ρ 9) (n10 := ρ 10) (n11 := ρ 11) (H0 := η 0) (H1 := η 1) f21 f20 f19 f18 f17 f16 f15 f14 f13 f12 f11 f10 f9 f8 f7 f6 f5 f4 f3 f2 f1 f0
def g_280_25_6 : vG := ([(10, [14, 6], [], 1), (42, [6, 7], [], 0), (91, [7], [], 20), (90, [6], [], 0)], (90, [14], [], 0))
theorem c_280_25_6 {q0 : Nat} : vOkm T0 (eP e_280 L_280 A_280 mu_280 (some q0)) 2 g_280_25_6 := vOk_inI fun ρ η f0 f1 f2 f3 => q_280_5 (q0 := q0) (n0 := ρ 6) (n1 := ρ 7) (n2 := ρ 14) (H0 := η 0) f3 f2 f1 f0
def g_280_25_7 : vG := ([(10, [14, 6], [], 1), (42, [6, 7], [], 0), (91, [7], [], 20), (90, [6], [], 0)], (91, [14], [], 20))
theorem c_280_25_7 {q0 : Nat} : vOkm T0 (eP e_280 L_280 A_280 mu_280 (some q0)) 2 g_280_25_7 := vOk_inI fun ρ η f0 f1 f2 f3 => q_280_6 (q0 := q0) (n0 := ρ 6) (n1 := ρ 7) (n2 := ρ 14) (H0 := η 0) f3 f2 f1 f0
theorem q_280_10 {q0 : Nat} {n0 n1 n2 n3 n4 n5 n6 n7 n8 n9 n10 n11 n12 n13 n14 : Int} {H0 H1 H2 : gH} (f0 : n0 ≤ 20) (f1 : 0 ≤ n0) (f2 : n1 ≤ 2147483647) (f3 : (-2147483648) ≤ n1) (f4 : n2 ≤ 2147483647) (f5 : (-2147483648) ≤ n2) (f6 : n3 ≤ 19) (f7 : 0 ≤ n3) (f8 : n4 = 285) (f9 : n5 ≤ 19) (f10 : 0 ≤ n5) (f11 : n6 = 285) (f12 : (hLe T0 H0 H1 ∧ hFr s_280.2.2.2.2 H0 H1 ∧ hWt T0 H1) ∧ (Ab_280_25 n6 n5 n4 n3 n2 n1 n0 H0 H1 ∧ preb_280 n6 n5 H0) ∧ some q0 = some (mub_280_25 n6 n5 n4 n3 n2 n1 n0 H0 H1)) (f13 : n7 ≤ 20) (f14 : 0 ≤ n7) (f15 : n7 = hV H1 (n4).toNat 64) (f16 : n0 < n7) (f17 : n8 = o32 (fun x y => x >>> (y &&& 31)) n2 n0) (f18 : n9 = 1) (f19 : n10 = o32 (fun x y => x &&& y) n8 n9) (f20 : n11 = 1) (f21 : n10 = n11) (f22 : n12 ≤ 2147483647) (f23 : (-2147483648) ≤ n12) (f24 : (hLe T0 H1 H2 ∧ hFr s_279.2.2.2.2 H1 H2 ∧ ((0 : Int) = 0 → H2.length = H1.length) ∧ hWt T0 H2) ∧ postb_279 n12 n4 n0 H1 H2) (f25 : n13 = o32 (fun x y => x ||| y) n1 n12) (f26 : n14 = w32 (n0 + 1)) : Ab_280_25 n6 n5 n4 n3 n2 n13 n14 H0 H2 ∧ ∀ q, some q0 = some q → mub_280_25 n6 n5 n4 n3 n2 n13 n14 H0 H2 < q := by
  have g4 := f12.2.1.1
  unfold Ab_280_25 at g4
  have g3 := f12.2.1.2
  unfold preb_280 at g3
  have g5 := Option.some.inj f12.2.2
  unfold mub_280_25 at g5
  unfold postb_279 at f24
  unfold Ab_280_25
  unfold mub_280_25
  have e1 : n7 = hV H0 285 64 := (by rw [f8] at f15; exact f15 : n7 = hV H1 285 64).trans ((f12.1.2.1.1 285 64 kF_280_285_64))
  have e2 : hV H1 285 64 = hV H0 285 64 := (f12.1.2.1.1 285 64 kF_280_285_64)
  have e3 : hV H1 296 = hV H0 296 := fRow f12.1.2.1 296 kR_280_296
  have e4 : hV H1 298 = hV H0 298 := fRow f12.1.2.1 298 kR_280_298
  have e5 : hV H1 300 = hV H0 300 := fRow f12.1.2.1 300 kR_280_300
  have e6 : hV H1 328 = hV H0 328 := fRow f12.1.2.1 328 kR_280_328
  have e7 : hV H1 332 = hV H0 332 := fRow f12.1.2.1 332 kR_280_332
  have e8 : hV H1 335 = hV H0 335 := fRow f12.1.2.1 335 kR_280_335
  have e10 : hV H2 285 64 = hV H0 285 64 := ((f24.1.2.1.1 285 64 kF_279_285_64)).trans (f12.1.2.1.1 285 64 kF_280_285_64)
  have e12 : hV H2 296 = hV H0 296 := (fRow f24.1.2.1 296 kR_279_296).trans e3
  have e14 : hV H2 298 = hV H0 298 := (fRow f24.1.2.1 298 kR_279_298).trans e4
  have e16 : hV H2 300 = hV H0 300 := (fRow f24.1.2.1 300 kR_279_300).trans e5
  have e18 : hV H2 328 = hV H0 328 := (fRow f24.1.2.1 328 kR_279_328).trans e6
  have e20 : hV H2 332 = hV H0 332 := (fRow f24.1.2.1 332 kR_279_332).trans e7
  have e22 : hV H2 335 = hV H0 335 := (fRow f24.1.2.1 335 kR_279_335).trans e8
  have e23 : (0 : Int) ≤ hV H0 285 64 ∧ hV H0 285 64 ≤ 20 := bTo e2 (f12.1.2.2 285 64 _ _ kW_285_64)
  try simp only [e10, e12, e14, e16, e18, e20, e22]
  have k0 := g4.1
  have y0 := g4.2.1
  have y1 := g4.2.2
  have p0 := g3.1
  have p1 := g3.2.1
  have p2 := g3.2.2
  have r0_0 := f24.2
  try simp only [e2, e3, e4, e5, e6, e7, e8] at y0
  try simp only [e2, e3, e4, e5, e6, e7, e8] at y1
  try simp only [e12, e14, e16, e18, e20, e22] at r0_0
  clear g3
  clear g4
  clear f15 e2 e3 e4 e5 e6 e7 e8 e10 e12 e14 e16 e18 e20 e22
  clear f12 f24
  subst e1
  have b19 := o32_and_r f19 (by omega) (by omega)
  first
  | (have ix0 : n14 = n0 + 1 := Eq.trans f26 (w32_iv (Iad (Iat f1 f0) (IC 1)) (by decide)); subst ix0; clear f26)
  | (have ix0 : n14 = n0 + 1 := Eq.trans f26 (w32_id (by omega) (by omega)); subst ix0; clear f26)
  | (unfold w32 at f26; have ix0 : n14 = n0 + 1 := (by omega); subst ix0)
  | skip
  try unfold w32 at f26

  have tb := bt_test f17 f19 (by omega) (by omega) (by omega)
  have hb := tb.1.mp (by omega)
  refine ⟨?_, fun q hq => ?_⟩
  · exact ⟨by first | omega | trivial, LM_add y0 hb (by omega) (by omega) r0_0 f25, LC_add y1 (by omega) r0_0 f25 (by omega)⟩
  · have g6 := Option.some.inj hq
    subst g6
    omega
def g_280_25_8 : vG := ([(10, [14, 6], [], 1), (5, [13, 5, 12], [], 0), (1279, [12, 2, 6], [1, 2], 0), (90, [12], [], -2147483648), (91, [12], [], 2147483647), (40, [10, 11], [], 0), (0, [11], [], 1), (4, [10, 8, 9], [], 0), (0, [9], [], 1), (8, [8, 4, 6], [], 0), (42, [6, 7], [], 0), (20, [7, 2], [1], 64), (90, [7], [], 0), (91, [7], [], 20), (5000, [0, 1, 2, 3, 4, 5, 6], [0, 1], 25), (0, [0], [], 285), (90, [1], [], 0), (91, [1], [], 19), (0, [2], [], 285), (90, [3], [], 0), (91, [3], [], 19), (90, [4], [], -2147483648), (91, [4], [], 2147483647), (90, [5], [], -2147483648), (91, [5], [], 2147483647), (90, [6], [], 0), (91, [6], [], 20)], (4000, [2, 3, 4, 13, 14], [2], 25))
theorem c_280_25_8 {q0 : Nat} : vOkm T0 (eP e_280 L_280 A_280 mu_280 (some q0)) 2 g_280_25_8 := vOk_inI fun ρ η f0 f1 f2 f3 f4 f5 f6 f7 f8 f9 f10 f11 f12 f13 f14 f15 f16 f17 f18 f19 f20 f21 f22 f23 f24 f25 f26 => q_280_10 (q0 := q0) (n0 := ρ 6) (n1 := ρ 5) (n2 := ρ 4) (n3 := ρ 3) (n4 := ρ 2) (n5 := ρ 1) (n6 := ρ 0) (n7 := ρ 7) (n8 := ρ 8) (n9 := ρ 9) (n10 := ρ 10) (n11 := ρ 11) (n12 := ρ 12) (n13 := ρ 13) (n14 := ρ 14) (H0 := η 0) (H1 := η 1) (H2 := η 2) f26 f25 f24 f23 f22 f21 f20 f19 f18 f17 f16 f15 f14 f13 f12 f11 f10 f9 f8 f7 f6 f5 f4 f3 f2 f1 f0
def p_280_25 : List vG := [g_280_25_0,
  g_280_25_1,
  g_280_25_2,
  g_280_25_3,
  g_280_25_4,
  g_280_25_5,
  g_280_25_6,
  g_280_25_7,
  g_280_25_8]
theorem r_280_25 : vCovO false (eRc e_280 L_280 cs_280 2000 (25, [(0, (3, 12, 285, 0)), (1, (0, 0, 19, 0)), (2, (0, -2147483648, 2147483647, 0)), (3, (0, -2147483648, 2147483647, 0)), (4, (0, 0, 20, 0))])) p_280_25 = true := by decide +kernel
theorem m_280 (d : Nat) : eC e_280 (d + 5) := eC_ok (e := e_280) (L := L_280) (cs := cs_280) (n := 2000) (d := d + 4) (A := A_280) (μ := mu_280) (tp := false) (p0 := p_280_s) rfl ⟨m_279 d, trivial⟩ rfl (.inl rfl) (by decide +kernel) (fun z => nomatch z) r_280_s (allC c_280_s_0 (allC c_280_s_1 allN)) (allC (.inl ⟨p_280_8, r_280_8, fun q0 => (allC c_280_8_0 (allC c_280_8_1 allN))⟩) (allC (.inl ⟨p_280_25, r_280_25, fun q0 => (allC c_280_25_0 (allC c_280_25_1 (allC c_280_25_2 (allC c_280_25_3 (allC c_280_25_4 (allC c_280_25_5 (allC c_280_25_6 (allC c_280_25_7 (allC c_280_25_8 allN)))))))))⟩) allN))
/- MixStageModel.leans (I)I -/
noncomputable def s_281 : vM := ([(3, 12, 285, 0), (0, -2147483648, 2147483647, 0)], (0, -2147483648, 2147483647, 0), 1, 0, [(12, 82), (580, 0), (588, 0), (596, 0), (604, 0), (612, 0)])
def preb_281 (a0 a1 : Int) (h : gH) : Prop := SO h ∧ PG h
def pre_281 : List Int → gH → Prop := fun xs h => match xs with
  | [a0, a1] => preb_281 a0 a1 h
  | _ => False
noncomputable def e_281 : vE := (281, s_281, pre_281, post0)
noncomputable def L_281 : List vE := [e_250, e_280]
def cs_281 : List vC := []
def A_281 : Int → List Int → gH → gH → Prop := fun c xs h0 h => True
def mu_281 : Int → List Int → gH → gH → Nat := fun c xs h0 h => 0
theorem q_281_0 {n0 n1 n2 : Int} {H0 H1 : gH} (f0 : n0 = 285) (f1 : (hLe T0 H0 H1 ∧ hFr s_250.2.2.2.2 H0 H1 ∧ ((0 : Int) = 0 → H1.length = H0.length) ∧ hWt T0 H1) ∧ postb_250 n1 n0 n2 H0 H1) (f2 : n1 ≠ 0) : 0 ≤ n2 := by
  unfold postb_250 at f1
  have e1 : hV H1 285 64 = hV H0 285 64 := (f1.1.2.1.1 285 64 kF_250_285_64)
  have e2 : (0 : Int) ≤ hV H0 285 64 ∧ hV H0 285 64 ≤ 20 := bTo e1 (f1.1.2.2.2 285 64 _ _ kW_285_64)
  have r0_0 := f1.2
  try simp only [e1] at r0_0
  clear e1
  clear f1
  omega
def g_281_s_0 : vG := ([(31, [2], [], 0), (1250, [2, 0, 1], [0, 1], 0), (0, [0], [], 285)], (90, [1], [], 0))
theorem c_281_s_0 : vOkm T0 (eP e_281 L_281 A_281 mu_281 none) 2 g_281_s_0 := vOk_inI fun ρ η f0 f1 f2 => q_281_0 (n0 := ρ 0) (n1 := ρ 2) (n2 := ρ 1) (H0 := η 0) (H1 := η 1) f2 f1 f0
theorem q_281_1 {n0 n1 n2 : Int} {H0 H1 : gH} (f0 : n0 = 285) (f1 : hWt T0 H0 ∧ preb_281 n0 n1 H0) (f2 : (hLe T0 H0 H1 ∧ hFr s_250.2.2.2.2 H0 H1 ∧ ((0 : Int) = 0 → H1.length = H0.length) ∧ hWt T0 H1) ∧ postb_250 n2 n0 n1 H0 H1) (f3 : n2 ≠ 0) : n1 ≤ 19 := by
  unfold preb_281 at f1
  unfold postb_250 at f2
  have e1 : hV H1 285 64 = hV H0 285 64 := (f2.1.2.1.1 285 64 kF_250_285_64)
  have e2 : (0 : Int) ≤ hV H0 285 64 ∧ hV H0 285 64 ≤ 20 := bTo e1 (f2.1.2.2.2 285 64 _ _ kW_285_64)
  have p0 := f1.2.1
  have p1 := f1.2.2
  have r0_0 := f2.2
  try simp only [e1] at r0_0
  clear e1
  clear f1 f2
  omega
def g_281_s_1 : vG := ([(31, [2], [], 0), (1250, [2, 0, 1], [0, 1], 0), (6000, [0, 1], [0], 0), (0, [0], [], 285)], (91, [1], [], 19))
theorem c_281_s_1 : vOkm T0 (eP e_281 L_281 A_281 mu_281 none) 2 g_281_s_1 := vOk_inI fun ρ η f0 f1 f2 f3 => q_281_1 (n0 := ρ 0) (n1 := ρ 1) (n2 := ρ 2) (H0 := η 0) (H1 := η 1) f3 f2 f1 f0
theorem q_281_2 {n0 n1 n2 : Int} {H0 H1 : gH} (f0 : n0 ≤ 2147483647) (f1 : (-2147483648) ≤ n0) (f2 : n1 = 285) (f3 : hWt T0 H0 ∧ preb_281 n1 n0 H0) (f4 : n2 ≤ 1) (f5 : 0 ≤ n2) (f6 : (hLe T0 H0 H1 ∧ hFr s_250.2.2.2.2 H0 H1 ∧ ((0 : Int) = 0 → H1.length = H0.length) ∧ hWt T0 H1) ∧ postb_250 n2 n1 n0 H0 H1) (f7 : n2 ≠ 0) : preb_280 n1 n0 H1 := by
  unfold preb_281 at f3
  unfold postb_250 at f6
  unfold preb_280
  have e1 : hV H1 285 64 = hV H0 285 64 := (f6.1.2.1.1 285 64 kF_250_285_64)
  have e2 : PG H1 = PG H0 := PG_fr f6.1.2.1 (by decide +kernel)
  have e3 : SO H1 = SO H0 := SO_fr f6.1.2.1 (by decide +kernel)
  have e4 : (0 : Int) ≤ hV H0 285 64 ∧ hV H0 285 64 ≤ 20 := bTo e1 (f6.1.2.2.2 285 64 _ _ kW_285_64)
  try simp only [e1, e2, e3]
  have p0 := f3.2.1
  have p1 := f3.2.2
  have r0_0 := f6.2
  try simp only [e1] at r0_0
  clear e1 e2 e3
  clear f3 f6
  refine ⟨?_, ?_, ?_⟩ <;> first | assumption | omega | trivial
def g_281_s_2 : vG := ([(31, [2], [], 0), (1250, [2, 0, 1], [0, 1], 0), (90, [2], [], 0), (91, [2], [], 1), (6000, [0, 1], [0], 0), (0, [0], [], 285), (90, [1], [], -2147483648), (91, [1], [], 2147483647)], (2280, [0, 1], [1], 0))
theorem c_281_s_2 : vOkm T0 (eP e_281 L_281 A_281 mu_281 none) 2 g_281_s_2 := vOk_inI fun ρ η f0 f1 f2 f3 f4 f5 f6 f7 => q_281_2 (n0 := ρ 1) (n1 := ρ 0) (n2 := ρ 2) (H0 := η 0) (H1 := η 1) f7 f6 f5 f4 f3 f2 f1 f0
def p_281_s : List vG := [g_281_s_0,
  g_281_s_1,
  g_281_s_2]
theorem r_281_s : vCovO true (eR0 e_281 L_281 cs_281 2000) p_281_s = true := by decide +kernel
theorem m_281 (d : Nat) : eC e_281 (d + 6) := eC_ok (e := e_281) (L := L_281) (cs := cs_281) (n := 2000) (d := d + 5) (A := A_281) (μ := mu_281) (tp := true) (p0 := p_281_s) rfl ⟨m_250 (d + 4), ⟨m_280 d, trivial⟩⟩ rfl (.inl rfl) (by decide +kernel) (fun _ => post0_ok) r_281_s (allC c_281_s_0 (allC c_281_s_1 (allC c_281_s_2 allN))) allN
