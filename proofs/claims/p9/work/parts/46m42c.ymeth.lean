/-! CONTRACTS of methods (printed by wip/gen/emit.py). -/
/- MixStageModel.isOwn (I)Z -/
noncomputable def s_257 : vM := ([(3, 12, 285, 0), (0, -2147483648, 2147483647, 0)], (0, 0, 1, 0), 0, 0, [])
def postb_257 (r a0 a1 : Int) (h0 h : gH) : Prop := r ≠ 0 → 0 ≤ a1 ∧ a1 < hV h 285 64 ∧ hV h 328 ((a1).toNat) < 4 ∧ 0 ≤ hV h 329 ((a1).toNat)
def post_257 : List Int → gH → gH → Prop := fun xs h0 h => match xs with
  | [r, a0, a1] => postb_257 r a0 a1 h0 h
  | _ => True
noncomputable def e_257 : vE := (257, s_257, pre0, post_257)
noncomputable def L_257 : List vE := [e_250]
def cs_257 : List vC := []
def A_257 : Int → List Int → gH → gH → Prop := fun c xs h0 h => True
def mu_257 : Int → List Int → gH → gH → Nat := fun c xs h0 h => 0
theorem q_257_0 {n0 n1 n2 : Int} {H0 H1 : gH} (f0 : n0 = 0) : postb_257 n0 n1 n2 H0 H1 := by
  unfold postb_257
  first | assumption | omega | trivial
def g_257_s_0 : vG := ([(0, [3], [], 0)], (3000, [3], [1], 33))
theorem c_257_s_0 : vOkm T0 (eP e_257 L_257 A_257 mu_257 none) 2 g_257_s_0 := vOk_inI fun ρ η f0 => q_257_0 (n0 := ρ 3) (n1 := ρ 0) (n2 := ρ 1) (H0 := η 0) (H1 := η 1) f0
theorem q_257_1 {n0 n1 n2 : Int} {H0 H1 : gH} (f0 : n0 = 285) (f1 : hWt T0 H0 ∧ True) (f2 : 0 ≤ n2) (f3 : (hLe T0 H0 H1 ∧ hFr s_250.2.2.2.2 H0 H1 ∧ ((0 : Int) = 0 → H1.length = H0.length) ∧ hWt T0 H1) ∧ postb_250 n2 n0 n1 H0 H1) (f4 : n2 ≠ 0) : 0 ≤ n1 ∧ n1 < 20 := by
  unfold postb_250 at f3
  have e1 : hV H1 285 64 = hV H0 285 64 := (f3.1.2.1.1 285 64 kF_250_285_64)
  have e2 : (0 : Int) ≤ hV H0 285 64 ∧ hV H0 285 64 ≤ 20 := bTo e1 (f3.1.2.2.2 285 64 _ _ kW_285_64)
  try simp only [e1] at f3
  have r0_0 := f3.2
  clear e1
  omega
def g_257_s_1 : vG := ([(31, [2], [], 0), (1250, [2, 0, 1], [0, 1], 0), (90, [2], [], 0), (6000, [0, 1], [0], 0), (0, [0], [], 285)], (70, [1], [], 20))
theorem c_257_s_1 : vOkm T0 (eP e_257 L_257 A_257 mu_257 none) 2 g_257_s_1 := vOk_inI fun ρ η f0 f1 f2 f3 f4 => q_257_1 (n0 := ρ 0) (n1 := ρ 1) (n2 := ρ 2) (H0 := η 0) (H1 := η 1) f4 f3 f2 f1 f0
def g_257_s_2 : vG := ([(0, [6], [], 0)], (3000, [6], [1], 33))
theorem c_257_s_2 : vOkm T0 (eP e_257 L_257 A_257 mu_257 none) 2 g_257_s_2 := vOk_inI fun ρ η f0 => q_257_0 (n0 := ρ 6) (n1 := ρ 0) (n2 := ρ 1) (H0 := η 0) (H1 := η 1) f0
def g_257_s_3 : vG := ([(31, [2], [], 0), (1250, [2, 0, 1], [0, 1], 0), (90, [2], [], 0), (6000, [0, 1], [0], 0), (0, [0], [], 285)], (70, [1], [], 20))
theorem c_257_s_3 : vOkm T0 (eP e_257 L_257 A_257 mu_257 none) 2 g_257_s_3 := vOk_inI fun ρ η f0 f1 f2 f3 f4 => q_257_1 (n0 := ρ 0) (n1 := ρ 1) (n2 := ρ 2) (H0 := η 0) (H1 := η 1) f4 f3 f2 f1 f0
def g_257_s_4 : vG := ([(0, [9], [], 0)], (3000, [9], [1], 33))
theorem c_257_s_4 : vOkm T0 (eP e_257 L_257 A_257 mu_257 none) 2 g_257_s_4 := vOk_inI fun ρ η f0 => q_257_0 (n0 := ρ 9) (n1 := ρ 0) (n2 := ρ 1) (H0 := η 0) (H1 := η 1) f0
theorem kR_250_329 : vFreeR s_250.2.2.2.2 329 = true := by decide +kernel
theorem q_257_2 {n0 n1 n2 n3 n4 n5 n6 n7 n8 n9 : Int} {H0 H1 : gH} (f0 : n0 = 285) (f1 : (hLe T0 H0 H1 ∧ hFr s_250.2.2.2.2 H0 H1 ∧ ((0 : Int) = 0 → H1.length = H0.length) ∧ hWt T0 H1) ∧ postb_250 n1 n0 n2 H0 H1) (f2 : n1 ≠ 0) (f3 : n3 = 328) (f4 : n4 = hV H1 (n3).toNat (n2).toNat) (f5 : n5 = 4) (f6 : n4 < n5) (f7 : n6 = 329) (f8 : (-1) ≤ n7) (f9 : n7 = hV H1 (n6).toNat (n2).toNat) (f10 : n8 = (-1)) (f11 : n7 ≠ n8) (f12 : n9 = 1) : postb_257 n9 n0 n2 H0 H1 := by
  unfold postb_250 at f1
  unfold postb_257
  have e0 : hV H1 328 = hV H0 328 := fRow f1.1.2.1 328 kR_250_328
  have e1 : n4 = hV H0 328 (n2).toNat := (by rw [f3] at f4; exact f4 : n4 = hV H1 328 (n2).toNat).trans ((congrFun e0 _))
  have e2 : hV H1 329 = hV H0 329 := fRow f1.1.2.1 329 kR_250_329
  have e3 : n7 = hV H0 329 (n2).toNat := (by rw [f7] at f9; exact f9 : n7 = hV H1 329 (n2).toNat).trans ((congrFun e2 _))
  have e5 : hV H1 285 64 = hV H0 285 64 := (f1.1.2.1.1 285 64 kF_250_285_64)
  have e6 : (0 : Int) ≤ hV H0 285 64 ∧ hV H0 285 64 ≤ 20 := bTo e5 (f1.1.2.2.2 285 64 _ _ kW_285_64)
  try simp only [e5] at f1
  try simp only [e5, e0, e2]
  have r0_0 := f1.2
  clear f4 f9 e0 e2 e5
  subst e1
  subst e3
  first | assumption | omega | trivial
def g_257_s_5 : vG := ([(0, [9], [], 1), (41, [7, 8], [], 0), (0, [8], [], -1), (22, [7, 6, 1], [1], 0), (90, [7], [], -1), (0, [6], [], 329), (42, [4, 5], [], 0), (0, [5], [], 4), (22, [4, 3, 1], [1], 0), (0, [3], [], 328), (31, [2], [], 0), (1250, [2, 0, 1], [0, 1], 0), (0, [0], [], 285)], (3000, [9], [1], 33))
theorem c_257_s_5 : vOkm T0 (eP e_257 L_257 A_257 mu_257 none) 2 g_257_s_5 := vOk_inI fun ρ η f0 f1 f2 f3 f4 f5 f6 f7 f8 f9 f10 f11 f12 => q_257_2 (n0 := ρ 0) (n1 := ρ 2) (n2 := ρ 1) (n3 := ρ 3) (n4 := ρ 4) (n5 := ρ 5) (n6 := ρ 6) (n7 := ρ 7) (n8 := ρ 8) (n9 := ρ 9) (H0 := η 0) (H1 := η 1) f12 f11 f10 f9 f8 f7 f6 f5 f4 f3 f2 f1 f0
def p_257_s : List vG := [g_257_s_0,
  g_257_s_1,
  g_257_s_2,
  g_257_s_3,
  g_257_s_4,
  g_257_s_5]
theorem r_257_s : vCovO false (eR0 e_257 L_257 cs_257 2000) p_257_s = true := by decide +kernel
theorem m_257 (d : Nat) : eC e_257 (d + 2) := eC_ok (e := e_257) (L := L_257) (cs := cs_257) (n := 2000) (d := d + 1) (A := A_257) (μ := mu_257) (tp := false) (p0 := p_257_s) rfl ⟨m_250 d, trivial⟩ rfl (.inr pre0_ok) (by decide +kernel) (fun z => nomatch z) r_257_s (allC c_257_s_0 (allC c_257_s_1 (allC c_257_s_2 (allC c_257_s_3 (allC c_257_s_4 (allC c_257_s_5 allN)))))) allN
/- MixStageModel.told (I)V -/
noncomputable def s_258 : vM := ([(3, 12, 285, 0), (0, 0, 19, 0)], (9, 0, 0, 0), 1, 0, [(12, 65), (492, 0)])
def preb_258 (a0 a1 : Int) (h : gH) : Prop := hV h 285 65 ≤ 20020 ∧ SSp (hV h 285 65 + 1) (hV h 333) (hV h 334) (hV h 341)
def pre_258 : List Int → gH → Prop := fun xs h => match xs with
  | [a0, a1] => preb_258 a0 a1 h
  | _ => False
def postb_258 (a0 a1 : Int) (h0 h : gH) : Prop := SS h ∧ hV h 285 65 = hV h0 285 65 + 1 ∧ (hV h 333) = uF (hV h0 333) a1 (hV h 285 65)
def post_258 : List Int → gH → gH → Prop := fun xs h0 h => match xs with
  | [a0, a1] => postb_258 a0 a1 h0 h
  | _ => True
noncomputable def e_258 : vE := (258, s_258, pre_258, post_258)
noncomputable def L_258 : List vE := []
def cs_258 : List vC := []
def A_258 : Int → List Int → gH → gH → Prop := fun c xs h0 h => True
def mu_258 : Int → List Int → gH → gH → Nat := fun c xs h0 h => 0
theorem q_258_0 {n0 n1 n2 n3 n4 : Int} {H0 : gH} (f0 : n0 = 285) (f1 : hWt T0 H0 ∧ preb_258 n0 n1 H0) (f2 : n2 = hV H0 (n0).toNat 65) (f3 : n3 = 1) (f4 : n4 = w32 (n2 + n3)) : 0 ≤ n4 := by
  unfold preb_258 at f1
  have e0 : n2 = hV H0 285 65 := (by rw [f0] at f2; exact f2 : n2 = hV H0 285 65)
  have e1 : (0 : Int) ≤ hV H0 285 65 ∧ hV H0 285 65 ≤ 2147483647 := f1.1 285 65 _ _ kW_285_65
  have p0 := f1.2.1
  have p1 := f1.2.2
  clear f2
  subst e0
  first
  | (have ix0 : n4 = hV H0 285 65 + 1 := Eq.trans f4 (w32_id (by omega) (by omega)); subst ix0; clear f4)
  | (unfold w32 at f4; have ix0 : n4 = hV H0 285 65 + 1 := (by omega); subst ix0)
  | skip
  try unfold w32 at f4
  omega
def g_258_s_0 : vG := ([(1, [4, 2, 3], [], 0), (0, [3], [], 1), (20, [2, 0], [0], 65), (6000, [0, 1], [0], 0), (0, [0], [], 285)], (90, [4], [], 0))
theorem c_258_s_0 : vOkm T0 (eP e_258 L_258 A_258 mu_258 none) 2 g_258_s_0 := vOk_inI fun ρ η f0 f1 f2 f3 f4 => q_258_0 (n0 := ρ 0) (n1 := ρ 1) (n2 := ρ 2) (n3 := ρ 3) (n4 := ρ 4) (H0 := η 0) f4 f3 f2 f1 f0
theorem q_258_1 {n0 n1 n2 n3 n4 : Int} {H0 : gH} (f0 : n0 = 285) (f1 : hWt T0 H0 ∧ preb_258 n0 n1 H0) (f2 : n2 = hV H0 (n0).toNat 65) (f3 : n3 = 1) (f4 : n4 = w32 (n2 + n3)) : n4 ≤ 2147483647 := by
  unfold preb_258 at f1
  have e0 : n2 = hV H0 285 65 := (by rw [f0] at f2; exact f2 : n2 = hV H0 285 65)
  have e1 : (0 : Int) ≤ hV H0 285 65 ∧ hV H0 285 65 ≤ 2147483647 := f1.1 285 65 _ _ kW_285_65
  have p0 := f1.2.1
  have p1 := f1.2.2
  clear f2
  subst e0
  first
  | (have ix0 : n4 = hV H0 285 65 + 1 := Eq.trans f4 (w32_id (by omega) (by omega)); subst ix0; clear f4)
  | (unfold w32 at f4; have ix0 : n4 = hV H0 285 65 + 1 := (by omega); subst ix0)
  | skip
  try unfold w32 at f4
  omega
def g_258_s_1 : vG := ([(1, [4, 2, 3], [], 0), (0, [3], [], 1), (20, [2, 0], [0], 65), (6000, [0, 1], [0], 0), (0, [0], [], 285)], (91, [4], [], 2147483647))
theorem c_258_s_1 : vOkm T0 (eP e_258 L_258 A_258 mu_258 none) 2 g_258_s_1 := vOk_inI fun ρ η f0 f1 f2 f3 f4 => q_258_1 (n0 := ρ 0) (n1 := ρ 1) (n2 := ρ 2) (n3 := ρ 3) (n4 := ρ 4) (H0 := η 0) f4 f3 f2 f1 f0
theorem q_258_2 {n0 n1 n2 n3 n4 n5 n6 n7 : Int} {H0 H1 H2 : gH} (f0 : n0 ≤ 19) (f1 : 0 ≤ n0) (f2 : n1 = 285) (f3 : hWt T0 H0 ∧ preb_258 n1 n0 H0) (f4 : n2 ≤ 2147483647) (f5 : 0 ≤ n2) (f6 : n2 = hV H0 (n1).toNat 65) (f7 : n3 = 1) (f8 : n4 = w32 (n2 + n3)) (f9 : n5 = 65) (f10 : hUpd H1 H0 n1 n5 n4) (f11 : n6 = 333) (f12 : n6 = hV H1 (n1).toNat 71) (f13 : n7 ≤ 2147483647) (f14 : 0 ≤ n7) (f15 : n7 = hV H1 (n1).toNat 65) (f16 : hUpd H2 H1 n6 n0 n7) : postb_258 n1 n0 H0 H2 := by
  unfold preb_258 at f3
  unfold postb_258
  have e0 : n2 = hV H0 285 65 := (by rw [f2] at f6; exact f6 : n2 = hV H0 285 65)
  have e2 : n7 = n4 := (by rw [f2] at f15; exact f15 : n7 = hV H1 285 65).trans ((uSame f10 285 65 f2.symm f9.symm))
  have e4 : hV H2 285 65 = n4 := ((uPlace f16 285 65 (iS (show n6 = ((333 : Nat) : Int) from f11) rfl))).trans (uSame f10 285 65 f2.symm f9.symm)
  have e7 : hV H2 333 = (uF (hV H0 333) n0 n7) := (uRow f16 333 f11.symm).trans (congrArg (fun z => uF z n0 n7) (uRowNe f10 333 (iS (show n1 = ((285 : Nat) : Int) from f2) rfl)))
  have e10 : hV H2 334 = hV H0 334 := (uRowNe f16 334 (iS (show n6 = ((333 : Nat) : Int) from f11) rfl)).trans (uRowNe f10 334 (iS (show n1 = ((285 : Nat) : Int) from f2) rfl))
  have e13 : hV H2 341 = hV H0 341 := (uRowNe f16 341 (iS (show n6 = ((333 : Nat) : Int) from f11) rfl)).trans (uRowNe f10 341 (iS (show n1 = ((285 : Nat) : Int) from f2) rfl))
  have e14 : (0 : Int) ≤ hV H0 285 65 ∧ hV H0 285 65 ≤ 2147483647 := f3.1 285 65 _ _ kW_285_65
  try simp only [SS] at *
  try simp only [e4, e7, e10, e13]
  have p0 := f3.2.1
  have p1 := f3.2.2
  clear f6 f12 f15 e7 e10 e13
  subst e0
  first
  | (have ix0 : n4 = hV H0 285 65 + 1 := Eq.trans f8 (w32_id (by omega) (by omega)); subst ix0; clear f8)
  | (unfold w32 at f8; have ix0 : n4 = hV H0 285 65 + 1 := (by omega); subst ix0)
  | skip
  try unfold w32 at f8

  exact ⟨SSp_told p1 (by omega) (by omega), by omega, by first | rfl | (congr 1; omega) | (congr 1 <;> omega)⟩
def g_258_s_2 : vG := ([(80, [6, 1, 7], [2, 1], 0), (20, [7, 0], [1], 65), (90, [7], [], 0), (91, [7], [], 2147483647), (20, [6, 0], [1], 71), (0, [6], [], 333), (80, [0, 5, 4], [1, 0], 0), (0, [5], [], 65), (1, [4, 2, 3], [], 0), (0, [3], [], 1), (20, [2, 0], [0], 65), (90, [2], [], 0), (91, [2], [], 2147483647), (6000, [0, 1], [0], 0), (0, [0], [], 285), (90, [1], [], 0), (91, [1], [], 19)], (3000, [], [2], 20))
theorem c_258_s_2 : vOkm T0 (eP e_258 L_258 A_258 mu_258 none) 2 g_258_s_2 := vOk_inI fun ρ η f0 f1 f2 f3 f4 f5 f6 f7 f8 f9 f10 f11 f12 f13 f14 f15 f16 => q_258_2 (n0 := ρ 1) (n1 := ρ 0) (n2 := ρ 2) (n3 := ρ 3) (n4 := ρ 4) (n5 := ρ 5) (n6 := ρ 6) (n7 := ρ 7) (H0 := η 0) (H1 := η 1) (H2 := η 2) f16 f15 f14 f13 f12 f11 f10 f9 f8 f7 f6 f5 f4 f3 f2 f1 f0
def p_258_s : List vG := [g_258_s_0,
  g_258_s_1,
  g_258_s_2]
theorem r_258_s : vCovO false (eR0 e_258 L_258 cs_258 2000) p_258_s = true := by decide +kernel
theorem m_258 (d : Nat) : eC e_258 (d + 1) := eC_ok (e := e_258) (L := L_258) (cs := cs_258) (n := 2000) (d := d + 0) (A := A_258) (μ := mu_258) (tp := false) (p0 := p_258_s) rfl trivial rfl (.inl rfl) (by decide +kernel) (fun z => nomatch z) r_258_s (allC c_258_s_0 (allC c_258_s_1 (allC c_258_s_2 allN))) allN
/- MixStageModel.wave (IIIII)Z -/
noncomputable def s_259 : vM := ([(3, 12, 285, 0), (0, -2147483648, 2147483647, 0), (0, -2147483648, 2147483647, 0), (0, -2147483648, 2147483647, 0), (0, -2147483648, 2147483647, 0), (0, -2147483648, 2147483647, 0)], (0, 0, 1, 0), 1, 0, [(12, 65), (492, 0), (524, 0)])
def preb_259 (a0 a1 a2 a3 a4 a5 : Int) (h : gH) : Prop := hV h 285 65 ≤ 20000 ∧ SO h ∧ SS h
def pre_259 : List Int → gH → Prop := fun xs h => match xs with
  | [a0, a1, a2, a3, a4, a5] => preb_259 a0 a1 a2 a3 a4 a5 h
  | _ => False
def postb_259 (r a0 a1 a2 a3 a4 a5 : Int) (h0 h : gH) : Prop := SO h ∧ SS h ∧ hV h 285 65 ≤ hV h0 285 65 + 1
def post_259 : List Int → gH → gH → Prop := fun xs h0 h => match xs with
  | [r, a0, a1, a2, a3, a4, a5] => postb_259 r a0 a1 a2 a3 a4 a5 h0 h
  | _ => True
noncomputable def e_259 : vE := (259, s_259, pre_259, post_259)
noncomputable def L_259 : List vE := [e_251, e_257, e_258]
def cs_259 : List vC := [(83, [(0, (3, 12, 285, 0)), (1, (0, -2147483648, 2147483647, 0)), (2, (0, -2147483648, 2147483647, 0)), (3, (0, -2147483648, 2147483647, 0)), (4, (0, -2147483648, 2147483647, 0)), (5, (0, -2147483648, 2147483647, 0)), (6, (1, 0, 0, 0)), (8, (0, -2147483648, 2147483647, 0))])]
def Ab_259_83 (a0 a1 a2 a3 a4 a5 x0 x1 x2 x3 x4 x5 x6 x8 : Int) (h0 h : gH) : Prop := x1 = a1 ∧ x2 = a2 ∧ x3 = a3 ∧ x4 = a4 ∧ x5 = a5 ∧ 0 ≤ a1 ∧ a1 ≤ 19 ∧ a3 ≤ 240 ∧ 0 ≤ x8 ∧ hV h 285 65 ≤ hV h0 285 65 ∧ SS h
def mub_259_83 (a0 a1 a2 a3 a4 a5 x0 x1 x2 x3 x4 x5 x6 x8 : Int) (h0 h : gH) : Nat := (2147483648 - x8).toNat
def A_259 : Int → List Int → gH → gH → Prop := fun c xs h0 h => match c.toNat with
  | 83 => (match xs with
    | [a0, a1, a2, a3, a4, a5, x0, x1, x2, x3, x4, x5, x6, x8] => Ab_259_83 a0 a1 a2 a3 a4 a5 x0 x1 x2 x3 x4 x5 x6 x8 h0 h
    | _ => False)
  | _ => True
def mu_259 : Int → List Int → gH → gH → Nat := fun c xs h0 h => match c.toNat with
  | 83 => (match xs with
    | [a0, a1, a2, a3, a4, a5, x0, x1, x2, x3, x4, x5, x6, x8] => mub_259_83 a0 a1 a2 a3 a4 a5 x0 x1 x2 x3 x4 x5 x6 x8 h0 h
    | _ => 0)
  | _ => 0
theorem kR_257_328 : vFreeR s_257.2.2.2.2 328 = true := by decide +kernel
theorem kR_257_329 : vFreeR s_257.2.2.2.2 329 = true := by decide +kernel
theorem kF_257_285_64 : vFree s_257.2.2.2.2 285 64 = true := by decide +kernel
theorem kF_257_285_65 : vFree s_257.2.2.2.2 285 65 = true := by decide +kernel
theorem q_259_0 {n0 n1 n2 n3 n4 n5 n6 n7 : Int} {H0 H1 : gH} (f0 : n0 ≤ 2147483647) (f1 : (-2147483648) ≤ n0) (f2 : n1 ≤ 2147483647) (f3 : (-2147483648) ≤ n1) (f4 : n2 ≤ 2147483647) (f5 : (-2147483648) ≤ n2) (f6 : n3 ≤ 2147483647) (f7 : (-2147483648) ≤ n3) (f8 : n4 ≤ 2147483647) (f9 : (-2147483648) ≤ n4) (f10 : n5 = 285) (f11 : hWt T0 H0 ∧ preb_259 n5 n4 n3 n2 n1 n0 H0) (f12 : n6 ≤ 1) (f13 : 0 ≤ n6) (f14 : (hLe T0 H0 H1 ∧ hFr s_257.2.2.2.2 H0 H1 ∧ ((0 : Int) = 0 → H1.length = H0.length) ∧ hWt T0 H1) ∧ postb_257 n6 n5 n4 H0 H1) (f15 : n6 = 0) (f16 : n7 = 0) : postb_259 n7 n5 n4 n3 n2 n1 n0 H0 H1 := by
  unfold preb_259 at f11
  unfold postb_257 at f14
  unfold postb_259
  have e1 : hV H1 285 64 = hV H0 285 64 := (f14.1.2.1.1 285 64 kF_257_285_64)
  have e3 : hV H1 285 65 = hV H0 285 65 := (f14.1.2.1.1 285 65 kF_257_285_65)
  have e4 : hV H1 328 = hV H0 328 := fRow f14.1.2.1 328 kR_257_328
  have e5 : hV H1 329 = hV H0 329 := fRow f14.1.2.1 329 kR_257_329
  have e6 : SO H1 = SO H0 := SO_fr f14.1.2.1 (by decide +kernel)
  have e7 : SS H1 = SS H0 := SS_fr f14.1.2.1 (by decide +kernel)
  have e8 : (0 : Int) ≤ hV H0 285 65 ∧ hV H0 285 65 ≤ 2147483647 := f11.1 285 65 _ _ kW_285_65
  have e9 : (0 : Int) ≤ hV H0 285 64 ∧ hV H0 285 64 ≤ 20 := bTo e1 (f14.1.2.2.2 285 64 _ _ kW_285_64)
  try simp only [e1, e4, e5] at f14
  try simp only [e3, e6, e7]
  have p0 := f11.2.1
  have p1 := f11.2.2.1
  have p2 := f11.2.2.2
  have r0_0 := f14.2
  clear e1 e3 e4 e5 e6 e7
  refine ⟨?_, ?_, ?_⟩ <;> first | assumption | omega | trivial
def g_259_s_0 : vG := ([(0, [7], [], 0), (30, [6], [], 0), (1257, [6, 0, 1], [0, 1], 0), (90, [6], [], 0), (91, [6], [], 1), (6000, [0, 1, 2, 3, 4, 5], [0], 0), (0, [0], [], 285), (90, [1], [], -2147483648), (91, [1], [], 2147483647), (90, [2], [], -2147483648), (91, [2], [], 2147483647), (90, [3], [], -2147483648), (91, [3], [], 2147483647), (90, [4], [], -2147483648), (91, [4], [], 2147483647), (90, [5], [], -2147483648), (91, [5], [], 2147483647)], (3000, [7], [1], 28))
theorem c_259_s_0 : vOkm T0 (eP e_259 L_259 A_259 mu_259 none) 6 g_259_s_0 := vOk_inI fun ρ η f0 f1 f2 f3 f4 f5 f6 f7 f8 f9 f10 f11 f12 f13 f14 f15 f16 => q_259_0 (n0 := ρ 5) (n1 := ρ 4) (n2 := ρ 3) (n3 := ρ 2) (n4 := ρ 1) (n5 := ρ 0) (n6 := ρ 6) (n7 := ρ 7) (H0 := η 0) (H1 := η 1) f16 f15 f14 f13 f12 f11 f10 f9 f8 f7 f6 f5 f4 f3 f2 f1 f0
theorem q_259_1 {n0 n1 n2 n3 n4 n5 n6 n7 : Int} {H0 H1 : gH} (f0 : n0 ≤ 2147483647) (f1 : (-2147483648) ≤ n0) (f2 : n1 ≤ 2147483647) (f3 : (-2147483648) ≤ n1) (f4 : n2 ≤ 2147483647) (f5 : (-2147483648) ≤ n2) (f6 : n3 ≤ 2147483647) (f7 : (-2147483648) ≤ n3) (f8 : n4 ≤ 2147483647) (f9 : (-2147483648) ≤ n4) (f10 : n5 = 285) (f11 : hWt T0 H0 ∧ preb_259 n5 n4 n3 n2 n1 n0 H0) (f12 : n6 ≤ 1) (f13 : 0 ≤ n6) (f14 : (hLe T0 H0 H1 ∧ hFr s_257.2.2.2.2 H0 H1 ∧ ((0 : Int) = 0 → H1.length = H0.length) ∧ hWt T0 H1) ∧ postb_257 n6 n5 n4 H0 H1) (f15 : n6 ≠ 0) (f16 : n3 < 0) (f17 : n7 = 0) : postb_259 n7 n5 n4 n3 n2 n1 n0 H0 H1 := by
  unfold preb_259 at f11
  unfold postb_257 at f14
  unfold postb_259
  have e1 : hV H1 285 64 = hV H0 285 64 := (f14.1.2.1.1 285 64 kF_257_285_64)
  have e3 : hV H1 285 65 = hV H0 285 65 := (f14.1.2.1.1 285 65 kF_257_285_65)
  have e4 : hV H1 328 = hV H0 328 := fRow f14.1.2.1 328 kR_257_328
  have e5 : hV H1 329 = hV H0 329 := fRow f14.1.2.1 329 kR_257_329
  have e6 : SO H1 = SO H0 := SO_fr f14.1.2.1 (by decide +kernel)
  have e7 : SS H1 = SS H0 := SS_fr f14.1.2.1 (by decide +kernel)
  have e8 : (0 : Int) ≤ hV H0 285 65 ∧ hV H0 285 65 ≤ 2147483647 := f11.1 285 65 _ _ kW_285_65
  have e9 : (0 : Int) ≤ hV H0 285 64 ∧ hV H0 285 64 ≤ 20 := bTo e1 (f14.1.2.2.2 285 64 _ _ kW_285_64)
  try simp only [e1, e4, e5] at f14
  try simp only [e3, e6, e7]
  have p0 := f11.2.1
  have p1 := f11.2.2.1
  have p2 := f11.2.2.2
  have r0_0 := f14.2
  clear e1 e3 e4 e5 e6 e7
  refine ⟨?_, ?_, ?_⟩ <;> first | assumption | omega | trivial
def g_259_s_1 : vG := ([(0, [7], [], 0), (32, [2], [], 0), (31, [6], [], 0), (1257, [6, 0, 1], [0, 1], 0), (90, [6], [], 0), (91, [6], [], 1), (6000, [0, 1, 2, 3, 4, 5], [0], 0), (0, [0], [], 285), (90, [1], [], -2147483648), (91, [1], [], 2147483647), (90, [2], [], -2147483648), (91, [2], [], 2147483647), (90, [3], [], -2147483648), (91, [3], [], 2147483647), (90, [4], [], -2147483648), (91, [4], [], 2147483647), (90, [5], [], -2147483648), (91, [5], [], 2147483647)], (3000, [7], [1], 28))
theorem c_259_s_1 : vOkm T0 (eP e_259 L_259 A_259 mu_259 none) 6 g_259_s_1 := vOk_inI fun ρ η f0 f1 f2 f3 f4 f5 f6 f7 f8 f9 f10 f11 f12 f13 f14 f15 f16 f17 => q_259_1 (n0 := ρ 5) (n1 := ρ 4) (n2 := ρ 3) (n3 := ρ 2) (n4 := ρ 1) (n5 := ρ 0) (n6 := ρ 6) (n7 := ρ 7) (H0 := η 0) (H1 := η 1) f17 f16 f15 f14 f13 f12 f11 f10 f9 f8 f7 f6 f5 f4 f3 f2 f1 f0
theorem q_259_2 {n0 n1 n2 n3 n4 n5 n6 n7 : Int} {H0 H1 : gH} (f0 : n0 ≤ 2147483647) (f1 : (-2147483648) ≤ n0) (f2 : n1 ≤ 2147483647) (f3 : (-2147483648) ≤ n1) (f4 : n2 ≤ 2147483647) (f5 : (-2147483648) ≤ n2) (f6 : n3 ≤ 2147483647) (f7 : (-2147483648) ≤ n3) (f8 : n4 ≤ 2147483647) (f9 : (-2147483648) ≤ n4) (f10 : n5 = 285) (f11 : hWt T0 H0 ∧ preb_259 n5 n4 n3 n2 n1 n0 H0) (f12 : n6 ≤ 1) (f13 : 0 ≤ n6) (f14 : (hLe T0 H0 H1 ∧ hFr s_257.2.2.2.2 H0 H1 ∧ ((0 : Int) = 0 → H1.length = H0.length) ∧ hWt T0 H1) ∧ postb_257 n6 n5 n4 H0 H1) (f15 : n6 ≠ 0) (f16 : 0 ≤ n3) (f17 : n2 ≤ n3) (f18 : n7 = 0) : postb_259 n7 n5 n4 n3 n2 n1 n0 H0 H1 := by
  unfold preb_259 at f11
  unfold postb_257 at f14
  unfold postb_259
  have e1 : hV H1 285 64 = hV H0 285 64 := (f14.1.2.1.1 285 64 kF_257_285_64)
  have e3 : hV H1 285 65 = hV H0 285 65 := (f14.1.2.1.1 285 65 kF_257_285_65)
  have e4 : hV H1 328 = hV H0 328 := fRow f14.1.2.1 328 kR_257_328
  have e5 : hV H1 329 = hV H0 329 := fRow f14.1.2.1 329 kR_257_329
  have e6 : SO H1 = SO H0 := SO_fr f14.1.2.1 (by decide +kernel)
  have e7 : SS H1 = SS H0 := SS_fr f14.1.2.1 (by decide +kernel)
  have e8 : (0 : Int) ≤ hV H0 285 65 ∧ hV H0 285 65 ≤ 2147483647 := f11.1 285 65 _ _ kW_285_65
  have e9 : (0 : Int) ≤ hV H0 285 64 ∧ hV H0 285 64 ≤ 20 := bTo e1 (f14.1.2.2.2 285 64 _ _ kW_285_64)
  try simp only [e1, e4, e5] at f14
  try simp only [e3, e6, e7]
  have p0 := f11.2.1
  have p1 := f11.2.2.1
  have p2 := f11.2.2.2
  have r0_0 := f14.2
  clear e1 e3 e4 e5 e6 e7
  refine ⟨?_, ?_, ?_⟩ <;> first | assumption | omega | trivial
def g_259_s_2 : vG := ([(0, [7], [], 0), (43, [2, 3], [], 0), (33, [2], [], 0), (31, [6], [], 0), (1257, [6, 0, 1], [0, 1], 0), (90, [6], [], 0), (91, [6], [], 1), (6000, [0, 1, 2, 3, 4, 5], [0], 0), (0, [0], [], 285), (90, [1], [], -2147483648), (91, [1], [], 2147483647), (90, [2], [], -2147483648), (91, [2], [], 2147483647), (90, [3], [], -2147483648), (91, [3], [], 2147483647), (90, [4], [], -2147483648), (91, [4], [], 2147483647), (90, [5], [], -2147483648), (91, [5], [], 2147483647)], (3000, [7], [1], 28))
theorem c_259_s_2 : vOkm T0 (eP e_259 L_259 A_259 mu_259 none) 6 g_259_s_2 := vOk_inI fun ρ η f0 f1 f2 f3 f4 f5 f6 f7 f8 f9 f10 f11 f12 f13 f14 f15 f16 f17 f18 => q_259_2 (n0 := ρ 5) (n1 := ρ 4) (n2 := ρ 3) (n3 := ρ 2) (n4 := ρ 1) (n5 := ρ 0) (n6 := ρ 6) (n7 := ρ 7) (H0 := η 0) (H1 := η 1) f18 f17 f16 f15 f14 f13 f12 f11 f10 f9 f8 f7 f6 f5 f4 f3 f2 f1 f0
theorem q_259_3 {n0 n1 n2 n3 n4 n5 n6 : Int} {H0 H1 : gH} (f0 : n0 = 285) (f1 : hWt T0 H0 ∧ preb_259 n0 n1 n2 n3 n4 n5 H0) (f2 : (hLe T0 H0 H1 ∧ hFr s_257.2.2.2.2 H0 H1 ∧ ((0 : Int) = 0 → H1.length = H0.length) ∧ hWt T0 H1) ∧ postb_257 n6 n0 n1 H0 H1) (f3 : n6 ≠ 0) : 0 ≤ n1 ∧ n1 < 20 := by
  unfold preb_259 at f1
  unfold postb_257 at f2
  have e1 : hV H1 285 64 = hV H0 285 64 := (f2.1.2.1.1 285 64 kF_257_285_64)
  have e2 : hV H1 328 = hV H0 328 := fRow f2.1.2.1 328 kR_257_328
  have e3 : hV H1 329 = hV H0 329 := fRow f2.1.2.1 329 kR_257_329
  have e4 : (0 : Int) ≤ hV H0 285 65 ∧ hV H0 285 65 ≤ 2147483647 := f1.1 285 65 _ _ kW_285_65
  have e5 : (0 : Int) ≤ hV H0 285 64 ∧ hV H0 285 64 ≤ 20 := bTo e1 (f2.1.2.2.2 285 64 _ _ kW_285_64)
  try simp only [e1, e2, e3] at f2
  have p0 := f1.2.1
  have p1 := f1.2.2.1
  have p2 := f1.2.2.2
  have r0_0 := f2.2
  clear e1 e2 e3
  omega
def g_259_s_3 : vG := ([(31, [6], [], 0), (1257, [6, 0, 1], [0, 1], 0), (6000, [0, 1, 2, 3, 4, 5], [0], 0), (0, [0], [], 285)], (70, [1], [], 20))
theorem c_259_s_3 : vOkm T0 (eP e_259 L_259 A_259 mu_259 none) 6 g_259_s_3 := vOk_inI fun ρ η f0 f1 f2 f3 => q_259_3 (n0 := ρ 0) (n1 := ρ 1) (n2 := ρ 2) (n3 := ρ 3) (n4 := ρ 4) (n5 := ρ 5) (n6 := ρ 6) (H0 := η 0) (H1 := η 1) f3 f2 f1 f0
theorem q_259_4 {n0 n1 n2 n3 n4 n5 n6 n7 n8 n9 n10 n11 n12 n13 n14 n15 n16 : Int} {H0 H1 H2 : gH} (f0 : n0 ≤ 2147483647) (f1 : (-2147483648) ≤ n0) (f2 : n1 ≤ 2147483647) (f3 : (-2147483648) ≤ n1) (f4 : n2 ≤ 2147483647) (f5 : (-2147483648) ≤ n2) (f6 : n3 ≤ 2147483647) (f7 : (-2147483648) ≤ n3) (f8 : n4 ≤ 2147483647) (f9 : (-2147483648) ≤ n4) (f10 : n5 = 285) (f11 : hWt T0 H0 ∧ preb_259 n5 n4 n3 n2 n1 n0 H0) (f12 : n6 ≤ 1) (f13 : 0 ≤ n6) (f14 : (hLe T0 H0 H1 ∧ hFr s_257.2.2.2.2 H0 H1 ∧ ((0 : Int) = 0 → H1.length = H0.length) ∧ hWt T0 H1) ∧ postb_257 n6 n5 n4 H0 H1) (f15 : n6 ≠ 0) (f16 : 0 ≤ n3) (f17 : n3 < n2) (f18 : n7 = 329) (f19 : n7 = hV H1 (n5).toNat 67) (f20 : n8 ≤ 240) (f21 : (-1) ≤ n8) (f22 : n8 = hV H1 (n7).toNat (n4).toNat) (f23 : n2 ≤ n8) (f24 : n9 = n1) (f25 : n10 = n2) (f26 : n11 = n3) (f27 : n12 = n0) (f28 : n13 = (-9999)) (f29 : n14 = 9999) (f30 : n15 ≤ 1) (f31 : 0 ≤ n15) (f32 : (hLe T0 H1 H2 ∧ hFr s_251.2.2.2.2 H1 H2 ∧ ((0 : Int) = 0 → H2.length = H1.length) ∧ hWt T0 H2) ∧ postb_251 n15 n1 n13 n14 H1 H2) (f33 : n15 = 0) (f34 : n16 = 0) : postb_259 n16 n5 n4 n3 n2 n1 n0 H0 H2 := by
  unfold preb_259 at f11
  unfold postb_257 at f14
  unfold postb_251 at f32
  unfold postb_259
  have e0 : hV H1 329 = hV H0 329 := fRow f14.1.2.1 329 kR_257_329
  have e1 : n8 = hV H0 329 (n4).toNat := (by rw [f18] at f22; exact f22 : n8 = hV H1 329 (n4).toNat).trans ((congrFun e0 _))
  have e3 : hV H1 285 64 = hV H0 285 64 := (f14.1.2.1.1 285 64 kF_257_285_64)
  have e4 : hV H1 328 = hV H0 328 := fRow f14.1.2.1 328 kR_257_328
  have e7 : hV H2 285 65 = hV H0 285 65 := ((f32.1.2.1.1 285 65 kF_251_285_65)).trans (f14.1.2.1.1 285 65 kF_257_285_65)
  have e8 : SO H1 = SO H0 := SO_fr f14.1.2.1 (by decide +kernel)
  have e9 : SO H2 = SO H1 := SO_fr f32.1.2.1 (by decide +kernel)
  have e10 : SO H2 = SO H0 := e9.trans e8
  have e11 : SS H1 = SS H0 := SS_fr f14.1.2.1 (by decide +kernel)
  have e12 : SS H2 = SS H1 := SS_fr f32.1.2.1 (by decide +kernel)
  have e13 : SS H2 = SS H0 := e12.trans e11
  have e14 : (0 : Int) ≤ hV H0 285 65 ∧ hV H0 285 65 ≤ 2147483647 := f11.1 285 65 _ _ kW_285_65
  have e15 : (0 : Int) ≤ hV H0 285 64 ∧ hV H0 285 64 ≤ 20 := bTo e3 (f14.1.2.2.2 285 64 _ _ kW_285_64)
  try simp only [e3, e4, e0] at f14
  try simp only [e7, e10, e13]
  have p0 := f11.2.1
  have p1 := f11.2.2.1
  have p2 := f11.2.2.2
  have r0_0 := f14.2
  have r1_0 := f32.2
  clear f19 f22 e0 e3 e4 e7 e8 e9 e10 e11 e12 e13
  subst e1
  refine ⟨?_, ?_, ?_⟩ <;> first | assumption | omega | trivial
def g_259_s_4 : vG := ([(0, [21], [], 0), (30, [20], [], 0), (1251, [20, 4, 18, 19], [1, 2], 0), (90, [20], [], 0), (91, [20], [], 1), (0, [19], [], 9999), (0, [18], [], -9999), (17, [15, 5], [], 0), (17, [13, 2], [], 0), (17, [10, 3], [], 0), (17, [9, 4], [], 0), (45, [3, 8], [], 0), (22, [8, 7, 1], [1], 0), (90, [8], [], -1), (91, [8], [], 240), (20, [7, 0], [1], 67), (0, [7], [], 329), (42, [2, 3], [], 0), (33, [2], [], 0), (31, [6], [], 0), (1257, [6, 0, 1], [0, 1], 0), (90, [6], [], 0), (91, [6], [], 1), (6000, [0, 1, 2, 3, 4, 5], [0], 0), (0, [0], [], 285), (90, [1], [], -2147483648), (91, [1], [], 2147483647), (90, [2], [], -2147483648), (91, [2], [], 2147483647), (90, [3], [], -2147483648), (91, [3], [], 2147483647), (90, [4], [], -2147483648), (91, [4], [], 2147483647), (90, [5], [], -2147483648), (91, [5], [], 2147483647)], (3000, [21], [2], 79))
theorem c_259_s_4 : vOkm T0 (eP e_259 L_259 A_259 mu_259 none) 6 g_259_s_4 := vOk_inI fun ρ η f0 f1 f2 f3 f4 f5 f6 f7 f8 f9 f10 f11 f12 f13 f14 f15 f16 f17 f18 f19 f20 f21 f22 f23 f24 f25 f26 f27 f28 f29 f30 f31 f32 f33 f34 => q_259_4 (n0 := ρ 5) (n1 := ρ 4) (n2 := ρ 3) (n3 := ρ 2) (n4 := ρ 1) (n5 := ρ 0) (n6 := ρ 6) (n7 := ρ 7) (n8 := ρ 8) (n9 := ρ 9) (n10 := ρ 10) (n11 := ρ 13) (n12 := ρ 15) (n13 := ρ 18) (n14 := ρ 19) (n15 := ρ 20) (n16 := ρ 21) (H0 := η 0) (H1 := η 1) (H2 := η 2) f34 f33 f32 f31 f30 f29 f28 f27 f26 f25 f24 f23 f22 f21 f20 f19 f18 f17 f16 f15 f14 f13 f12 f11 f10 f9 f8 f7 f6 f5 f4 f3 f2 f1 f0
theorem q_259_5 {n0 n1 n2 n3 n4 n5 n6 n7 n8 n9 n10 n11 n12 n13 n14 n15 n16 : Int} {H0 H1 H2 : gH} (f0 : n0 ≤ 2147483647) (f1 : (-2147483648) ≤ n0) (f2 : n1 ≤ 2147483647) (f3 : (-2147483648) ≤ n1) (f4 : n2 ≤ 2147483647) (f5 : (-2147483648) ≤ n2) (f6 : n3 ≤ 2147483647) (f7 : (-2147483648) ≤ n3) (f8 : n4 ≤ 2147483647) (f9 : (-2147483648) ≤ n4) (f10 : n5 = 285) (f11 : hWt T0 H0 ∧ preb_259 n5 n4 n3 n2 n1 n0 H0) (f12 : n6 ≤ 1) (f13 : 0 ≤ n6) (f14 : (hLe T0 H0 H1 ∧ hFr s_257.2.2.2.2 H0 H1 ∧ ((0 : Int) = 0 → H1.length = H0.length) ∧ hWt T0 H1) ∧ postb_257 n6 n5 n4 H0 H1) (f15 : n6 ≠ 0) (f16 : 0 ≤ n3) (f17 : n3 < n2) (f18 : n7 = 329) (f19 : n7 = hV H1 (n5).toNat 67) (f20 : n8 ≤ 240) (f21 : (-1) ≤ n8) (f22 : n8 = hV H1 (n7).toNat (n4).toNat) (f23 : n2 ≤ n8) (f24 : n9 = n1) (f25 : n10 = n2) (f26 : n11 = n3) (f27 : n12 = n0) (f28 : n13 = (-9999)) (f29 : n14 = 9999) (f30 : n15 ≤ 1) (f31 : 0 ≤ n15) (f32 : (hLe T0 H1 H2 ∧ hFr s_251.2.2.2.2 H1 H2 ∧ ((0 : Int) = 0 → H2.length = H1.length) ∧ hWt T0 H2) ∧ postb_251 n15 n1 n13 n14 H1 H2) (f33 : n15 ≠ 0) (f34 : n16 = 0) : postb_259 n16 n5 n4 n3 n2 n1 n0 H0 H2 := by
  unfold preb_259 at f11
  unfold postb_257 at f14
  unfold postb_251 at f32
  unfold postb_259
  have e0 : hV H1 329 = hV H0 329 := fRow f14.1.2.1 329 kR_257_329
  have e1 : n8 = hV H0 329 (n4).toNat := (by rw [f18] at f22; exact f22 : n8 = hV H1 329 (n4).toNat).trans ((congrFun e0 _))
  have e3 : hV H1 285 64 = hV H0 285 64 := (f14.1.2.1.1 285 64 kF_257_285_64)
  have e4 : hV H1 328 = hV H0 328 := fRow f14.1.2.1 328 kR_257_328
  have e7 : hV H2 285 65 = hV H0 285 65 := ((f32.1.2.1.1 285 65 kF_251_285_65)).trans (f14.1.2.1.1 285 65 kF_257_285_65)
  have e8 : SO H1 = SO H0 := SO_fr f14.1.2.1 (by decide +kernel)
  have e9 : SO H2 = SO H1 := SO_fr f32.1.2.1 (by decide +kernel)
  have e10 : SO H2 = SO H0 := e9.trans e8
  have e11 : SS H1 = SS H0 := SS_fr f14.1.2.1 (by decide +kernel)
  have e12 : SS H2 = SS H1 := SS_fr f32.1.2.1 (by decide +kernel)
  have e13 : SS H2 = SS H0 := e12.trans e11
  have e14 : (0 : Int) ≤ hV H0 285 65 ∧ hV H0 285 65 ≤ 2147483647 := f11.1 285 65 _ _ kW_285_65
  have e15 : (0 : Int) ≤ hV H0 285 64 ∧ hV H0 285 64 ≤ 20 := bTo e3 (f14.1.2.2.2 285 64 _ _ kW_285_64)
  try simp only [e3, e4, e0] at f14
  try simp only [e7, e10, e13]
  have p0 := f11.2.1
  have p1 := f11.2.2.1
  have p2 := f11.2.2.2
  have r0_0 := f14.2
  have r1_0 := f32.2
  clear f19 f22 e0 e3 e4 e7 e8 e9 e10 e11 e12 e13
  subst e1
  refine ⟨?_, ?_, ?_⟩ <;> first | assumption | omega | trivial
def g_259_s_5 : vG := ([(0, [23], [], 0), (31, [20], [], 0), (1251, [20, 4, 18, 19], [1, 2], 0), (90, [20], [], 0), (91, [20], [], 1), (0, [19], [], 9999), (0, [18], [], -9999), (17, [15, 5], [], 0), (17, [13, 2], [], 0), (17, [10, 3], [], 0), (17, [9, 4], [], 0), (45, [3, 8], [], 0), (22, [8, 7, 1], [1], 0), (90, [8], [], -1), (91, [8], [], 240), (20, [7, 0], [1], 67), (0, [7], [], 329), (42, [2, 3], [], 0), (33, [2], [], 0), (31, [6], [], 0), (1257, [6, 0, 1], [0, 1], 0), (90, [6], [], 0), (91, [6], [], 1), (6000, [0, 1, 2, 3, 4, 5], [0], 0), (0, [0], [], 285), (90, [1], [], -2147483648), (91, [1], [], 2147483647), (90, [2], [], -2147483648), (91, [2], [], 2147483647), (90, [3], [], -2147483648), (91, [3], [], 2147483647), (90, [4], [], -2147483648), (91, [4], [], 2147483647), (90, [5], [], -2147483648), (91, [5], [], 2147483647)], (3000, [23], [2], 79))
theorem c_259_s_5 : vOkm T0 (eP e_259 L_259 A_259 mu_259 none) 6 g_259_s_5 := vOk_inI fun ρ η f0 f1 f2 f3 f4 f5 f6 f7 f8 f9 f10 f11 f12 f13 f14 f15 f16 f17 f18 f19 f20 f21 f22 f23 f24 f25 f26 f27 f28 f29 f30 f31 f32 f33 f34 => q_259_5 (n0 := ρ 5) (n1 := ρ 4) (n2 := ρ 3) (n3 := ρ 2) (n4 := ρ 1) (n5 := ρ 0) (n6 := ρ 6) (n7 := ρ 7) (n8 := ρ 8) (n9 := ρ 9) (n10 := ρ 10) (n11 := ρ 13) (n12 := ρ 15) (n13 := ρ 18) (n14 := ρ 19) (n15 := ρ 20) (n16 := ρ 23) (H0 := η 0) (H1 := η 1) (H2 := η 2) f34 f33 f32 f31 f30 f29 f28 f27 f26 f25 f24 f23 f22 f21 f20 f19 f18 f17 f16 f15 f14 f13 f12 f11 f10 f9 f8 f7 f6 f5 f4 f3 f2 f1 f0
theorem q_259_6 {n0 n1 n2 n3 n4 n5 n6 n7 n8 n9 n10 n11 n12 n13 n14 n15 n16 n17 n18 n19 n20 : Int} {H0 H1 H2 : gH} (f0 : n0 ≤ 2147483647) (f1 : (-2147483648) ≤ n0) (f2 : n1 ≤ 2147483647) (f3 : (-2147483648) ≤ n1) (f4 : n2 ≤ 2147483647) (f5 : (-2147483648) ≤ n2) (f6 : n3 ≤ 2147483647) (f7 : (-2147483648) ≤ n3) (f8 : n4 ≤ 2147483647) (f9 : (-2147483648) ≤ n4) (f10 : n5 = 285) (f11 : hWt T0 H0 ∧ preb_259 n5 n4 n3 n2 n1 n0 H0) (f12 : n6 ≤ 1) (f13 : 0 ≤ n6) (f14 : (hLe T0 H0 H1 ∧ hFr s_257.2.2.2.2 H0 H1 ∧ ((0 : Int) = 0 → H1.length = H0.length) ∧ hWt T0 H1) ∧ postb_257 n6 n5 n4 H0 H1) (f15 : n6 ≠ 0) (f16 : 0 ≤ n3) (f17 : n3 < n2) (f18 : n7 = 329) (f19 : n7 = hV H1 (n5).toNat 67) (f20 : n8 ≤ 240) (f21 : (-1) ≤ n8) (f22 : n8 = hV H1 (n7).toNat (n4).toNat) (f23 : n2 ≤ n8) (f24 : n9 = n1) (f25 : n10 = n2) (f26 : n11 = 1) (f27 : n12 = o64 (fun x y => x - y) n10 n11) (f28 : n13 = n3) (f29 : n14 = o64 (fun x y => x - y) n12 n13) (f30 : n15 = n0) (f31 : n16 = o64 (fun x y => x * y) n14 n15) (f32 : n17 = o64 (fun x y => x + y) n9 n16) (f33 : n18 = (-9999)) (f34 : n19 = 9999) (f35 : n20 ≤ 1) (f36 : 0 ≤ n20) (f37 : (hLe T0 H1 H2 ∧ hFr s_251.2.2.2.2 H1 H2 ∧ ((0 : Int) = 0 → H2.length = H1.length) ∧ hWt T0 H2) ∧ postb_251 n20 n1 n18 n19 H1 H2) (f38 : n20 ≠ 0) : Ab_259_83 n5 n4 n3 n2 n1 n0 n5 n4 n3 n2 n1 n0 n17 n3 H0 H2 ∧ ∀ q, none = some q → mub_259_83 n5 n4 n3 n2 n1 n0 n5 n4 n3 n2 n1 n0 n17 n3 H0 H2 < q := by
  unfold preb_259 at f11
  unfold postb_257 at f14
  unfold postb_251 at f37
  unfold Ab_259_83
  have e0 : hV H1 329 = hV H0 329 := fRow f14.1.2.1 329 kR_257_329
  have e1 : n8 = hV H0 329 (n4).toNat := (by rw [f18] at f22; exact f22 : n8 = hV H1 329 (n4).toNat).trans ((congrFun e0 _))
  have e3 : hV H1 285 64 = hV H0 285 64 := (f14.1.2.1.1 285 64 kF_257_285_64)
  have e4 : hV H1 328 = hV H0 328 := fRow f14.1.2.1 328 kR_257_328
  have e7 : hV H2 285 65 = hV H0 285 65 := ((f37.1.2.1.1 285 65 kF_251_285_65)).trans (f14.1.2.1.1 285 65 kF_257_285_65)
  have e8 : SS H1 = SS H0 := SS_fr f14.1.2.1 (by decide +kernel)
  have e9 : SS H2 = SS H1 := SS_fr f37.1.2.1 (by decide +kernel)
  have e10 : SS H2 = SS H0 := e9.trans e8
  have e11 : (0 : Int) ≤ hV H0 285 65 ∧ hV H0 285 65 ≤ 2147483647 := f11.1 285 65 _ _ kW_285_65
  have e12 : (0 : Int) ≤ hV H0 285 64 ∧ hV H0 285 64 ≤ 20 := bTo e3 (f14.1.2.2.2 285 64 _ _ kW_285_64)
  try simp only [e3, e4, e0] at f14
  try simp only [e7, e10]
  have p0 := f11.2.1
  have p1 := f11.2.2.1
  have p2 := f11.2.2.2
  have r0_0 := f14.2
  have r1_0 := f37.2
  clear f19 f22 e0 e3 e4 e7 e8 e9 e10
  subst e1
  refine ⟨?_, fun q hq => ?_⟩
  · refine ⟨?_, ?_, ?_, ?_, ?_, ?_, ?_, ?_, ?_, ?_, ?_⟩ <;> first | assumption | omega | trivial
  · exact nomatch hq
def g_259_s_6 : vG := ([(31, [20], [], 0), (1251, [20, 4, 18, 19], [1, 2], 0), (90, [20], [], 0), (91, [20], [], 1), (0, [19], [], 9999), (0, [18], [], -9999), (61, [17, 9, 16], [], 0), (63, [16, 14, 15], [], 0), (17, [15, 5], [], 0), (62, [14, 12, 13], [], 0), (17, [13, 2], [], 0), (62, [12, 10, 11], [], 0), (0, [11], [], 1), (17, [10, 3], [], 0), (17, [9, 4], [], 0), (45, [3, 8], [], 0), (22, [8, 7, 1], [1], 0), (90, [8], [], -1), (91, [8], [], 240), (20, [7, 0], [1], 67), (0, [7], [], 329), (42, [2, 3], [], 0), (33, [2], [], 0), (31, [6], [], 0), (1257, [6, 0, 1], [0, 1], 0), (90, [6], [], 0), (91, [6], [], 1), (6000, [0, 1, 2, 3, 4, 5], [0], 0), (0, [0], [], 285), (90, [1], [], -2147483648), (91, [1], [], 2147483647), (90, [2], [], -2147483648), (91, [2], [], 2147483647), (90, [3], [], -2147483648), (91, [3], [], 2147483647), (90, [4], [], -2147483648), (91, [4], [], 2147483647), (90, [5], [], -2147483648), (91, [5], [], 2147483647)], (4000, [0, 1, 2, 3, 4, 5, 17, 2], [2], 83))
theorem c_259_s_6 : vOkm T0 (eP e_259 L_259 A_259 mu_259 none) 6 g_259_s_6 := vOk_inI fun ρ η f0 f1 f2 f3 f4 f5 f6 f7 f8 f9 f10 f11 f12 f13 f14 f15 f16 f17 f18 f19 f20 f21 f22 f23 f24 f25 f26 f27 f28 f29 f30 f31 f32 f33 f34 f35 f36 f37 f38 => q_259_6 (n0 := ρ 5) (n1 := ρ 4) (n2 := ρ 3) (n3 := ρ 2) (n4 := ρ 1) (n5 := ρ 0) (n6 := ρ 6) (n7 := ρ 7) (n8 := ρ 8) (n9 := ρ 9) (n10 := ρ 10) (n11 := ρ 11) (n12 := ρ 12) (n13 := ρ 13) (n14 := ρ 14) (n15 := ρ 15) (n16 := ρ 16) (n17 := ρ 17) (n18 := ρ 18) (n19 := ρ 19) (n20 := ρ 20) (H0 := η 0) (H1 := η 1) (H2 := η 2) f38 f37 f36 f35 f34 f33 f32 f31 f30 f29 f28 f27 f26 f25 f24 f23 f22 f21 f20 f19 f18 f17 f16 f15 f14 f13 f12 f11 f10 f9 f8 f7 f6 f5 f4 f3 f2 f1 f0
def g_259_s_7 : vG := ([(0, [25], [], 0), (31, [20], [], 0), (1251, [20, 4, 18, 19], [1, 2], 0), (90, [20], [], 0), (91, [20], [], 1), (0, [19], [], 9999), (0, [18], [], -9999), (17, [15, 5], [], 0), (17, [13, 2], [], 0), (17, [10, 3], [], 0), (17, [9, 4], [], 0), (45, [3, 8], [], 0), (22, [8, 7, 1], [1], 0), (90, [8], [], -1), (91, [8], [], 240), (20, [7, 0], [1], 67), (0, [7], [], 329), (42, [2, 3], [], 0), (33, [2], [], 0), (31, [6], [], 0), (1257, [6, 0, 1], [0, 1], 0), (90, [6], [], 0), (91, [6], [], 1), (6000, [0, 1, 2, 3, 4, 5], [0], 0), (0, [0], [], 285), (90, [1], [], -2147483648), (91, [1], [], 2147483647), (90, [2], [], -2147483648), (91, [2], [], 2147483647), (90, [3], [], -2147483648), (91, [3], [], 2147483647), (90, [4], [], -2147483648), (91, [4], [], 2147483647), (90, [5], [], -2147483648), (91, [5], [], 2147483647)], (3000, [25], [2], 79))
theorem c_259_s_7 : vOkm T0 (eP e_259 L_259 A_259 mu_259 none) 6 g_259_s_7 := vOk_inI fun ρ η f0 f1 f2 f3 f4 f5 f6 f7 f8 f9 f10 f11 f12 f13 f14 f15 f16 f17 f18 f19 f20 f21 f22 f23 f24 f25 f26 f27 f28 f29 f30 f31 f32 f33 f34 => q_259_5 (n0 := ρ 5) (n1 := ρ 4) (n2 := ρ 3) (n3 := ρ 2) (n4 := ρ 1) (n5 := ρ 0) (n6 := ρ 6) (n7 := ρ 7) (n8 := ρ 8) (n9 := ρ 9) (n10 := ρ 10) (n11 := ρ 13) (n12 := ρ 15) (n13 := ρ 18) (n14 := ρ 19) (n15 := ρ 20) (n16 := ρ 25) (H0 := η 0) (H1 := η 1) (H2 := η 2) f34 f33 f32 f31 f30 f29 f28 f27 f26 f25 f24 f23 f22 f21 f20 f19 f18 f17 f16 f15 f14 f13 f12 f11 f10 f9 f8 f7 f6 f5 f4 f3 f2 f1 f0
theorem q_259_7 {n0 n1 n2 n3 n4 n5 n6 n7 n8 n9 : Int} {H0 H1 : gH} (f0 : n0 ≤ 2147483647) (f1 : (-2147483648) ≤ n0) (f2 : n1 ≤ 2147483647) (f3 : (-2147483648) ≤ n1) (f4 : n2 ≤ 2147483647) (f5 : (-2147483648) ≤ n2) (f6 : n3 ≤ 2147483647) (f7 : (-2147483648) ≤ n3) (f8 : n4 ≤ 2147483647) (f9 : (-2147483648) ≤ n4) (f10 : n5 = 285) (f11 : hWt T0 H0 ∧ preb_259 n5 n4 n3 n2 n1 n0 H0) (f12 : n6 ≤ 1) (f13 : 0 ≤ n6) (f14 : (hLe T0 H0 H1 ∧ hFr s_257.2.2.2.2 H0 H1 ∧ ((0 : Int) = 0 → H1.length = H0.length) ∧ hWt T0 H1) ∧ postb_257 n6 n5 n4 H0 H1) (f15 : n6 ≠ 0) (f16 : 0 ≤ n3) (f17 : n3 < n2) (f18 : n7 = 329) (f19 : n7 = hV H1 (n5).toNat 67) (f20 : n8 ≤ 240) (f21 : (-1) ≤ n8) (f22 : n8 = hV H1 (n7).toNat (n4).toNat) (f23 : n8 < n2) (f24 : n9 = 0) : postb_259 n9 n5 n4 n3 n2 n1 n0 H0 H1 := by
  unfold preb_259 at f11
  unfold postb_257 at f14
  unfold postb_259
  have e0 : hV H1 329 = hV H0 329 := fRow f14.1.2.1 329 kR_257_329
  have e1 : n8 = hV H0 329 (n4).toNat := (by rw [f18] at f22; exact f22 : n8 = hV H1 329 (n4).toNat).trans ((congrFun e0 _))
  have e3 : hV H1 285 64 = hV H0 285 64 := (f14.1.2.1.1 285 64 kF_257_285_64)
  have e5 : hV H1 285 65 = hV H0 285 65 := (f14.1.2.1.1 285 65 kF_257_285_65)
  have e6 : hV H1 328 = hV H0 328 := fRow f14.1.2.1 328 kR_257_328
  have e7 : SO H1 = SO H0 := SO_fr f14.1.2.1 (by decide +kernel)
  have e8 : SS H1 = SS H0 := SS_fr f14.1.2.1 (by decide +kernel)
  have e9 : (0 : Int) ≤ hV H0 285 65 ∧ hV H0 285 65 ≤ 2147483647 := f11.1 285 65 _ _ kW_285_65
  have e10 : (0 : Int) ≤ hV H0 285 64 ∧ hV H0 285 64 ≤ 20 := bTo e3 (f14.1.2.2.2 285 64 _ _ kW_285_64)
  try simp only [e3, e6, e0] at f14
  try simp only [e5, e7, e8]
  have p0 := f11.2.1
  have p1 := f11.2.2.1
  have p2 := f11.2.2.2
  have r0_0 := f14.2
  clear f19 f22 e0 e3 e5 e6 e7 e8
  subst e1
  refine ⟨?_, ?_, ?_⟩ <;> first | assumption | omega | trivial
def g_259_s_8 : vG := ([(0, [9], [], 0), (44, [3, 8], [], 0), (22, [8, 7, 1], [1], 0), (90, [8], [], -1), (91, [8], [], 240), (20, [7, 0], [1], 67), (0, [7], [], 329), (42, [2, 3], [], 0), (33, [2], [], 0), (31, [6], [], 0), (1257, [6, 0, 1], [0, 1], 0), (90, [6], [], 0), (91, [6], [], 1), (6000, [0, 1, 2, 3, 4, 5], [0], 0), (0, [0], [], 285), (90, [1], [], -2147483648), (91, [1], [], 2147483647), (90, [2], [], -2147483648), (91, [2], [], 2147483647), (90, [3], [], -2147483648), (91, [3], [], 2147483647), (90, [4], [], -2147483648), (91, [4], [], 2147483647), (90, [5], [], -2147483648), (91, [5], [], 2147483647)], (3000, [9], [1], 28))
theorem c_259_s_8 : vOkm T0 (eP e_259 L_259 A_259 mu_259 none) 6 g_259_s_8 := vOk_inI fun ρ η f0 f1 f2 f3 f4 f5 f6 f7 f8 f9 f10 f11 f12 f13 f14 f15 f16 f17 f18 f19 f20 f21 f22 f23 f24 => q_259_7 (n0 := ρ 5) (n1 := ρ 4) (n2 := ρ 3) (n3 := ρ 2) (n4 := ρ 1) (n5 := ρ 0) (n6 := ρ 6) (n7 := ρ 7) (n8 := ρ 8) (n9 := ρ 9) (H0 := η 0) (H1 := η 1) f24 f23 f22 f21 f20 f19 f18 f17 f16 f15 f14 f13 f12 f11 f10 f9 f8 f7 f6 f5 f4 f3 f2 f1 f0
def p_259_s : List vG := [g_259_s_0,
  g_259_s_1,
  g_259_s_2,
  g_259_s_3,
  g_259_s_4,
  g_259_s_5,
  g_259_s_6,
  g_259_s_7,
  g_259_s_8]
theorem r_259_s : vCovO false (eR0 e_259 L_259 cs_259 2000) p_259_s = true := by decide +kernel
theorem q_259_8 {q0 : Nat} {n0 n1 n2 n3 n4 n5 n6 n7 n8 n9 n10 n11 n12 n13 : Int} {H0 H1 : gH} (f0 : n0 = 285) (f1 : n1 = 285) (f2 : (hLe T0 H0 H1 ∧ hFr s_259.2.2.2.2 H0 H1 ∧ hWt T0 H1) ∧ (Ab_259_83 n1 n2 n3 n4 n5 n6 n0 n7 n8 n9 n10 n11 n12 n13 H0 H1 ∧ preb_259 n1 n2 n3 n4 n5 n6 H0) ∧ some q0 = some (mub_259_83 n1 n2 n3 n4 n5 n6 n0 n7 n8 n9 n10 n11 n12 n13 H0 H1)) : 0 ≤ n7 := by
  have g4 := f2.2.1.1
  unfold Ab_259_83 at g4
  have g3 := f2.2.1.2
  unfold preb_259 at g3
  have e0 : (0 : Int) ≤ hV H1 285 65 ∧ hV H1 285 65 ≤ 2147483647 := f2.1.2.2 285 65 _ _ kW_285_65
  have k0 := g4.1
  have k1 := g4.2.1
  have k2 := g4.2.2.1
  have k3 := g4.2.2.2.1
  have k4 := g4.2.2.2.2.1
  have y0 := g4.2.2.2.2.2.1
  have y1 := g4.2.2.2.2.2.2.1
  have y2 := g4.2.2.2.2.2.2.2.1
  have y3 := g4.2.2.2.2.2.2.2.2.1
  have y4 := g4.2.2.2.2.2.2.2.2.2.1
  have y5 := g4.2.2.2.2.2.2.2.2.2.2
  have p0 := g3.1
  have p1 := g3.2.1
  have p2 := g3.2.2
  clear g3
  clear g4
  try subst k4
  try subst k3
  try subst k2
  try subst k1
  try subst k0
  omega
def g_259_83_0 : vG := ([(5000, [0, 1, 2, 3, 4, 5, 6, 7, 8, 9, 10, 11, 12, 13], [0, 1], 83), (0, [0], [], 285), (0, [6], [], 285)], (90, [7], [], 0))
theorem c_259_83_0 {q0 : Nat} : vOkm T0 (eP e_259 L_259 A_259 mu_259 (some q0)) 6 g_259_83_0 := vOk_inI fun ρ η f0 f1 f2 => q_259_8 (q0 := q0) (n0 := ρ 6) (n1 := ρ 0) (n2 := ρ 1) (n3 := ρ 2) (n4 := ρ 3) (n5 := ρ 4) (n6 := ρ 5) (n7 := ρ 7) (n8 := ρ 8) (n9 := ρ 9) (n10 := ρ 10) (n11 := ρ 11) (n12 := ρ 12) (n13 := ρ 13) (H0 := η 0) (H1 := η 1) f2 f1 f0
theorem q_259_9 {q0 : Nat} {n0 n1 n2 n3 n4 n5 n6 n7 n8 n9 n10 n11 n12 n13 : Int} {H0 H1 : gH} (f0 : n0 = 285) (f1 : n1 = 285) (f2 : (hLe T0 H0 H1 ∧ hFr s_259.2.2.2.2 H0 H1 ∧ hWt T0 H1) ∧ (Ab_259_83 n1 n2 n3 n4 n5 n6 n0 n7 n8 n9 n10 n11 n12 n13 H0 H1 ∧ preb_259 n1 n2 n3 n4 n5 n6 H0) ∧ some q0 = some (mub_259_83 n1 n2 n3 n4 n5 n6 n0 n7 n8 n9 n10 n11 n12 n13 H0 H1)) : n7 ≤ 19 := by
  have g4 := f2.2.1.1
  unfold Ab_259_83 at g4
  have g3 := f2.2.1.2
  unfold preb_259 at g3
  have e0 : (0 : Int) ≤ hV H1 285 65 ∧ hV H1 285 65 ≤ 2147483647 := f2.1.2.2 285 65 _ _ kW_285_65
  have k0 := g4.1
  have k1 := g4.2.1
  have k2 := g4.2.2.1
  have k3 := g4.2.2.2.1
  have k4 := g4.2.2.2.2.1
  have y0 := g4.2.2.2.2.2.1
  have y1 := g4.2.2.2.2.2.2.1
  have y2 := g4.2.2.2.2.2.2.2.1
  have y3 := g4.2.2.2.2.2.2.2.2.1
  have y4 := g4.2.2.2.2.2.2.2.2.2.1
  have y5 := g4.2.2.2.2.2.2.2.2.2.2
  have p0 := g3.1
  have p1 := g3.2.1
  have p2 := g3.2.2
  clear g3
  clear g4
  try subst k4
  try subst k3
  try subst k2
  try subst k1
  try subst k0
  omega
def g_259_83_1 : vG := ([(5000, [0, 1, 2, 3, 4, 5, 6, 7, 8, 9, 10, 11, 12, 13], [0, 1], 83), (0, [0], [], 285), (0, [6], [], 285)], (91, [7], [], 19))
theorem c_259_83_1 {q0 : Nat} : vOkm T0 (eP e_259 L_259 A_259 mu_259 (some q0)) 6 g_259_83_1 := vOk_inI fun ρ η f0 f1 f2 => q_259_9 (q0 := q0) (n0 := ρ 6) (n1 := ρ 0) (n2 := ρ 1) (n3 := ρ 2) (n4 := ρ 3) (n5 := ρ 4) (n6 := ρ 5) (n7 := ρ 7) (n8 := ρ 8) (n9 := ρ 9) (n10 := ρ 10) (n11 := ρ 11) (n12 := ρ 12) (n13 := ρ 13) (H0 := η 0) (H1 := η 1) f2 f1 f0
theorem kR_259_334 : vFreeR s_259.2.2.2.2 334 = true := by decide +kernel
theorem kR_259_341 : vFreeR s_259.2.2.2.2 341 = true := by decide +kernel
theorem q_259_10 {q0 : Nat} {n0 n1 n2 n3 n4 n5 n6 n7 n8 n9 n10 n11 n12 n13 : Int} {H0 H1 : gH} (f0 : n0 ≤ 2147483647) (f1 : (-2147483648) ≤ n0) (f2 : n1 ≤ 2147483647) (f3 : (-2147483648) ≤ n1) (f4 : n2 ≤ 2147483647) (f5 : (-2147483648) ≤ n2) (f6 : n3 ≤ 2147483647) (f7 : (-2147483648) ≤ n3) (f8 : n4 ≤ 2147483647) (f9 : (-2147483648) ≤ n4) (f10 : n5 ≤ 2147483647) (f11 : (-2147483648) ≤ n5) (f12 : n6 = 285) (f13 : n7 ≤ 2147483647) (f14 : (-2147483648) ≤ n7) (f15 : n8 ≤ 2147483647) (f16 : (-2147483648) ≤ n8) (f17 : n9 ≤ 2147483647) (f18 : (-2147483648) ≤ n9) (f19 : n10 ≤ 2147483647) (f20 : (-2147483648) ≤ n10) (f21 : n11 ≤ 2147483647) (f22 : (-2147483648) ≤ n11) (f23 : n12 = 285) (f24 : (hLe T0 H0 H1 ∧ hFr s_259.2.2.2.2 H0 H1 ∧ hWt T0 H1) ∧ (Ab_259_83 n12 n11 n10 n9 n8 n7 n6 n5 n4 n3 n2 n1 n13 n0 H0 H1 ∧ preb_259 n12 n11 n10 n9 n8 n7 H0) ∧ some q0 = some (mub_259_83 n12 n11 n10 n9 n8 n7 n6 n5 n4 n3 n2 n1 n13 n0 H0 H1)) (f25 : n3 ≤ n0) : preb_258 n6 n5 H1 := by
  have g4 := f24.2.1.1
  unfold Ab_259_83 at g4
  have g3 := f24.2.1.2
  unfold preb_259 at g3
  unfold preb_258
  have e0 : hV H1 334 = hV H0 334 := fRow f24.1.2.1 334 kR_259_334
  have e1 : hV H1 341 = hV H0 341 := fRow f24.1.2.1 341 kR_259_341
  have e2 : (0 : Int) ≤ hV H1 285 65 ∧ hV H1 285 65 ≤ 2147483647 := f24.1.2.2 285 65 _ _ kW_285_65
  try simp only [SS] at *
  try simp only [e0, e1] at g4
  try simp only [e0, e1]
  have k0 := g4.1
  have k1 := g4.2.1
  have k2 := g4.2.2.1
  have k3 := g4.2.2.2.1
  have k4 := g4.2.2.2.2.1
  have y0 := g4.2.2.2.2.2.1
  have y1 := g4.2.2.2.2.2.2.1
  have y2 := g4.2.2.2.2.2.2.2.1
  have y3 := g4.2.2.2.2.2.2.2.2.1
  have y4 := g4.2.2.2.2.2.2.2.2.2.1
  have y5 := g4.2.2.2.2.2.2.2.2.2.2
  have p0 := g3.1
  have p1 := g3.2.1
  have p2 := g3.2.2
  clear g3
  clear g4
  clear e0 e1

  first
  | exact ⟨by omega, SSp_le y0 (by omega)⟩
  | exact ⟨by omega, SSp_le y1 (by omega)⟩
  | exact ⟨by omega, SSp_le y2 (by omega)⟩
  | exact ⟨by omega, SSp_le y3 (by omega)⟩
  | exact ⟨by omega, SSp_le y4 (by omega)⟩
  | exact ⟨by omega, SSp_le y5 (by omega)⟩
  | exact ⟨by omega, SSp_le y6 (by omega)⟩
  | exact ⟨by omega, SSp_le y7 (by omega)⟩
  | exact ⟨by omega, SSp_le p0 (by omega)⟩
  | exact ⟨by omega, SSp_le p1 (by omega)⟩
  | exact ⟨by omega, SSp_le p2 (by omega)⟩
  | exact ⟨by omega, SSp_le p3 (by omega)⟩
  | omega
def g_259_83_2 : vG := ([(43, [13, 9], [], 0), (5000, [0, 1, 2, 3, 4, 5, 6, 7, 8, 9, 10, 11, 12, 13], [0, 1], 83), (0, [0], [], 285), (90, [1], [], -2147483648), (91, [1], [], 2147483647), (90, [2], [], -2147483648), (91, [2], [], 2147483647), (90, [3], [], -2147483648), (91, [3], [], 2147483647), (90, [4], [], -2147483648), (91, [4], [], 2147483647), (90, [5], [], -2147483648), (91, [5], [], 2147483647), (0, [6], [], 285), (90, [7], [], -2147483648), (91, [7], [], 2147483647), (90, [8], [], -2147483648), (91, [8], [], 2147483647), (90, [9], [], -2147483648), (91, [9], [], 2147483647), (90, [10], [], -2147483648), (91, [10], [], 2147483647), (90, [11], [], -2147483648), (91, [11], [], 2147483647), (90, [13], [], -2147483648), (91, [13], [], 2147483647)], (2258, [6, 7], [1], 0))
theorem c_259_83_2 {q0 : Nat} : vOkm T0 (eP e_259 L_259 A_259 mu_259 (some q0)) 6 g_259_83_2 := vOk_inI fun ρ η f0 f1 f2 f3 f4 f5 f6 f7 f8 f9 f10 f11 f12 f13 f14 f15 f16 f17 f18 f19 f20 f21 f22 f23 f24 f25 => q_259_10 (q0 := q0) (n0 := ρ 13) (n1 := ρ 11) (n2 := ρ 10) (n3 := ρ 9) (n4 := ρ 8) (n5 := ρ 7) (n6 := ρ 6) (n7 := ρ 5) (n8 := ρ 4) (n9 := ρ 3) (n10 := ρ 2) (n11 := ρ 1) (n12 := ρ 0) (n13 := ρ 12) (H0 := η 0) (H1 := η 1) f25 f24 f23 f22 f21 f20 f19 f18 f17 f16 f15 f14 f13 f12 f11 f10 f9 f8 f7 f6 f5 f4 f3 f2 f1 f0
theorem q_259_11 {q0 : Nat} {n0 n1 n2 n3 n4 n5 n6 n7 n8 n9 n10 n11 n12 n13 n14 : Int} {H0 H1 H2 : gH} (f0 : n0 ≤ 2147483647) (f1 : (-2147483648) ≤ n0) (f2 : n1 ≤ 2147483647) (f3 : (-2147483648) ≤ n1) (f4 : n2 ≤ 2147483647) (f5 : (-2147483648) ≤ n2) (f6 : n3 ≤ 2147483647) (f7 : (-2147483648) ≤ n3) (f8 : n4 ≤ 2147483647) (f9 : (-2147483648) ≤ n4) (f10 : n5 ≤ 2147483647) (f11 : (-2147483648) ≤ n5) (f12 : n6 = 285) (f13 : n7 ≤ 2147483647) (f14 : (-2147483648) ≤ n7) (f15 : n8 ≤ 2147483647) (f16 : (-2147483648) ≤ n8) (f17 : n9 ≤ 2147483647) (f18 : (-2147483648) ≤ n9) (f19 : n10 ≤ 2147483647) (f20 : (-2147483648) ≤ n10) (f21 : n11 ≤ 2147483647) (f22 : (-2147483648) ≤ n11) (f23 : n12 = 285) (f24 : (hLe T0 H0 H1 ∧ hFr s_259.2.2.2.2 H0 H1 ∧ hWt T0 H1) ∧ (Ab_259_83 n12 n11 n10 n9 n8 n7 n6 n5 n4 n3 n2 n1 n13 n0 H0 H1 ∧ preb_259 n12 n11 n10 n9 n8 n7 H0) ∧ some q0 = some (mub_259_83 n12 n11 n10 n9 n8 n7 n6 n5 n4 n3 n2 n1 n13 n0 H0 H1)) (f25 : n3 ≤ n0) (f26 : (hLe T0 H1 H2 ∧ hFr s_258.2.2.2.2 H1 H2 ∧ ((0 : Int) = 0 → H2.length = H1.length) ∧ hWt T0 H2) ∧ postb_258 n6 n5 H1 H2) (f27 : n14 = 1) : postb_259 n14 n12 n11 n10 n9 n8 n7 H0 H2 := by
  have g4 := f24.2.1.1
  unfold Ab_259_83 at g4
  have g3 := f24.2.1.2
  unfold preb_259 at g3
  unfold postb_258 at f26
  unfold postb_259
  have e0 : SO H1 = SO H0 := SO_fr f24.1.2.1 (by decide +kernel)
  have e1 : SO H2 = SO H1 := SO_fr f26.1.2.1 (by decide +kernel)
  have e2 : SO H2 = SO H0 := e1.trans e0
  have e3 : (0 : Int) ≤ hV H1 285 65 ∧ hV H1 285 65 ≤ 2147483647 := f24.1.2.2 285 65 _ _ kW_285_65
  have e4 : (0 : Int) ≤ hV H2 285 65 ∧ hV H2 285 65 ≤ 2147483647 := f26.1.2.2.2 285 65 _ _ kW_285_65
  try simp only [e2]
  have k0 := g4.1
  have k1 := g4.2.1
  have k2 := g4.2.2.1
  have k3 := g4.2.2.2.1
  have k4 := g4.2.2.2.2.1
  have y0 := g4.2.2.2.2.2.1
  have y1 := g4.2.2.2.2.2.2.1
  have y2 := g4.2.2.2.2.2.2.2.1
  have y3 := g4.2.2.2.2.2.2.2.2.1
  have y4 := g4.2.2.2.2.2.2.2.2.2.1
  have y5 := g4.2.2.2.2.2.2.2.2.2.2
  have p0 := g3.1
  have p1 := g3.2.1
  have p2 := g3.2.2
  have r0_0 := f26.2.1
  have r0_1 := f26.2.2.1
  have r0_2 := f26.2.2.2
  clear g3
  clear g4
  clear e0 e1 e2
  try subst k4
  try subst k3
  try subst k2
  try subst k1
  try subst k0
  refine ⟨?_, ?_, ?_⟩ <;> first | assumption | omega | trivial
def g_259_83_3 : vG := ([(0, [14], [], 1), (1258, [6, 7], [1, 2], 0), (43, [13, 9], [], 0), (5000, [0, 1, 2, 3, 4, 5, 6, 7, 8, 9, 10, 11, 12, 13], [0, 1], 83), (0, [0], [], 285), (90, [1], [], -2147483648), (91, [1], [], 2147483647), (90, [2], [], -2147483648), (91, [2], [], 2147483647), (90, [3], [], -2147483648), (91, [3], [], 2147483647), (90, [4], [], -2147483648), (91, [4], [], 2147483647), (90, [5], [], -2147483648), (91, [5], [], 2147483647), (0, [6], [], 285), (90, [7], [], -2147483648), (91, [7], [], 2147483647), (90, [8], [], -2147483648), (91, [8], [], 2147483647), (90, [9], [], -2147483648), (91, [9], [], 2147483647), (90, [10], [], -2147483648), (91, [10], [], 2147483647), (90, [11], [], -2147483648), (91, [11], [], 2147483647), (90, [13], [], -2147483648), (91, [13], [], 2147483647)], (3000, [14], [2], 124))
theorem c_259_83_3 {q0 : Nat} : vOkm T0 (eP e_259 L_259 A_259 mu_259 (some q0)) 6 g_259_83_3 := vOk_inI fun ρ η f0 f1 f2 f3 f4 f5 f6 f7 f8 f9 f10 f11 f12 f13 f14 f15 f16 f17 f18 f19 f20 f21 f22 f23 f24 f25 f26 f27 => q_259_11 (q0 := q0) (n0 := ρ 13) (n1 := ρ 11) (n2 := ρ 10) (n3 := ρ 9) (n4 := ρ 8) (n5 := ρ 7) (n6 := ρ 6) (n7 := ρ 5) (n8 := ρ 4) (n9 := ρ 3) (n10 := ρ 2) (n11 := ρ 1) (n12 := ρ 0) (n13 := ρ 12) (n14 := ρ 14) (H0 := η 0) (H1 := η 1) (H2 := η 2) f27 f26 f25 f24 f23 f22 f21 f20 f19 f18 f17 f16 f15 f14 f13 f12 f11 f10 f9 f8 f7 f6 f5 f4 f3 f2 f1 f0
theorem q_259_12 {q0 : Nat} {n0 n1 n2 n3 n4 n5 n6 n7 n8 n9 n10 n11 n12 n13 n14 n15 n16 : Int} {H0 H1 : gH} (f0 : n0 = 285) (f1 : n1 = 285) (f2 : (hLe T0 H0 H1 ∧ hFr s_259.2.2.2.2 H0 H1 ∧ hWt T0 H1) ∧ (Ab_259_83 n1 n2 n3 n4 n5 n6 n0 n7 n8 n9 n10 n11 n12 n13 H0 H1 ∧ preb_259 n1 n2 n3 n4 n5 n6 H0) ∧ some q0 = some (mub_259_83 n1 n2 n3 n4 n5 n6 n0 n7 n8 n9 n10 n11 n12 n13 H0 H1)) (f3 : n13 < n9) (f4 : n14 = 240) (f5 : n15 = w32 (n14 * n7)) (f6 : n16 = w32 (n15 + n13)) : 0 ≤ n16 ∧ n16 < 4800 := by
  have g4 := f2.2.1.1
  unfold Ab_259_83 at g4
  have g3 := f2.2.1.2
  unfold preb_259 at g3
  have e0 : (0 : Int) ≤ hV H1 285 65 ∧ hV H1 285 65 ≤ 2147483647 := f2.1.2.2 285 65 _ _ kW_285_65
  have k0 := g4.1
  have k1 := g4.2.1
  have k2 := g4.2.2.1
  have k3 := g4.2.2.2.1
  have k4 := g4.2.2.2.2.1
  have y0 := g4.2.2.2.2.2.1
  have y1 := g4.2.2.2.2.2.2.1
  have y2 := g4.2.2.2.2.2.2.2.1
  have y3 := g4.2.2.2.2.2.2.2.2.1
  have y4 := g4.2.2.2.2.2.2.2.2.2.1
  have y5 := g4.2.2.2.2.2.2.2.2.2.2
  have p0 := g3.1
  have p1 := g3.2.1
  have p2 := g3.2.2
  clear g3
  clear g4
  rw [f4] at f5
  first
  | (have ix0 : n15 = 240 * n7 := Eq.trans f5 (w32_id (by omega) (by omega)); subst ix0; clear f5)
  | (unfold w32 at f5; have ix0 : n15 = 240 * n7 := (by omega); subst ix0)
  | skip
  first
  | (have ix1 : n16 = (240 * n7) + n13 := Eq.trans f6 (w32_id (by omega) (by omega)); subst ix1; clear f6)
  | (unfold w32 at f6; have ix1 : n16 = (240 * n7) + n13 := (by omega); subst ix1)
  | skip
  try unfold w32 at f5
  try unfold w32 at f6
  try subst k4
  try subst k3
  try subst k2
  try subst k1
  try subst k0
  omega
def g_259_83_4 : vG := ([(1, [17, 16, 13], [], 0), (3, [16, 15, 7], [], 0), (0, [15], [], 240), (42, [13, 9], [], 0), (5000, [0, 1, 2, 3, 4, 5, 6, 7, 8, 9, 10, 11, 12, 13], [0, 1], 83), (0, [0], [], 285), (0, [6], [], 285)], (70, [17], [], 4800))
theorem c_259_83_4 {q0 : Nat} : vOkm T0 (eP e_259 L_259 A_259 mu_259 (some q0)) 6 g_259_83_4 := vOk_inI fun ρ η f0 f1 f2 f3 f4 f5 f6 => q_259_12 (q0 := q0) (n0 := ρ 6) (n1 := ρ 0) (n2 := ρ 1) (n3 := ρ 2) (n4 := ρ 3) (n5 := ρ 4) (n6 := ρ 5) (n7 := ρ 7) (n8 := ρ 8) (n9 := ρ 9) (n10 := ρ 10) (n11 := ρ 11) (n12 := ρ 12) (n13 := ρ 13) (n14 := ρ 15) (n15 := ρ 16) (n16 := ρ 17) (H0 := η 0) (H1 := η 1) f6 f5 f4 f3 f2 f1 f0
theorem q_259_13 {q0 : Nat} {n0 n1 n2 n3 n4 n5 n6 n7 n8 n9 n10 n11 n12 n13 n14 n15 n16 n17 n18 n19 n20 n21 : Int} {H0 H1 H2 : gH} (f0 : n0 ≤ 2147483647) (f1 : (-2147483648) ≤ n0) (f2 : n1 ≤ 2147483647) (f3 : (-2147483648) ≤ n1) (f4 : n2 ≤ 2147483647) (f5 : (-2147483648) ≤ n2) (f6 : n3 ≤ 2147483647) (f7 : (-2147483648) ≤ n3) (f8 : n4 ≤ 2147483647) (f9 : (-2147483648) ≤ n4) (f10 : n5 ≤ 2147483647) (f11 : (-2147483648) ≤ n5) (f12 : n6 = 285) (f13 : n7 ≤ 2147483647) (f14 : (-2147483648) ≤ n7) (f15 : n8 ≤ 2147483647) (f16 : (-2147483648) ≤ n8) (f17 : n9 ≤ 2147483647) (f18 : (-2147483648) ≤ n9) (f19 : n10 ≤ 2147483647) (f20 : (-2147483648) ≤ n10) (f21 : n11 ≤ 2147483647) (f22 : (-2147483648) ≤ n11) (f23 : n12 = 285) (f24 : (hLe T0 H0 H1 ∧ hFr s_259.2.2.2.2 H0 H1 ∧ hWt T0 H1) ∧ (Ab_259_83 n12 n11 n10 n9 n8 n7 n6 n5 n4 n3 n2 n1 n13 n0 H0 H1 ∧ preb_259 n12 n11 n10 n9 n8 n7 H0) ∧ some q0 = some (mub_259_83 n12 n11 n10 n9 n8 n7 n6 n5 n4 n3 n2 n1 n13 n0 H0 H1)) (f25 : n0 < n3) (f26 : n14 = 337) (f27 : n14 = hV H1 (n6).toNat 75) (f28 : n15 = 240) (f29 : n16 = w32 (n15 * n5)) (f30 : n17 = w32 (n16 + n0)) (f31 : n18 = w32 (n0 - n4)) (f32 : n19 = w32 (n18 * n1)) (f33 : n20 = w32 (n2 + n19)) (f34 : hUpd H2 H1 n14 n17 n20) (f35 : n21 = w32 (n0 + 1)) : Ab_259_83 n12 n11 n10 n9 n8 n7 n6 n5 n4 n3 n2 n1 n13 n21 H0 H2 ∧ ∀ q, some q0 = some q → mub_259_83 n12 n11 n10 n9 n8 n7 n6 n5 n4 n3 n2 n1 n13 n21 H0 H2 < q := by
  have g4 := f24.2.1.1
  unfold Ab_259_83 at g4
  have g3 := f24.2.1.2
  unfold preb_259 at g3
  have g5 := Option.some.inj f24.2.2
  unfold mub_259_83 at g5
  unfold Ab_259_83
  unfold mub_259_83
  have e1 : hV H2 285 65 = hV H1 285 65 := (uPlace f34 285 65 (iS (show n14 = ((337 : Nat) : Int) from f26) rfl))
  have e2 : SS H2 = SS H1 := SS_upR f34 (show n14 = ((337 : Nat) : Int) from f26) (by decide)
  have e3 : (0 : Int) ≤ hV H1 285 65 ∧ hV H1 285 65 ≤ 2147483647 := f24.1.2.2 285 65 _ _ kW_285_65
  try simp only [e1, e2]
  have k0 := g4.1
  have k1 := g4.2.1
  have k2 := g4.2.2.1
  have k3 := g4.2.2.2.1
  have k4 := g4.2.2.2.2.1
  have y0 := g4.2.2.2.2.2.1
  have y1 := g4.2.2.2.2.2.2.1
  have y2 := g4.2.2.2.2.2.2.2.1
  have y3 := g4.2.2.2.2.2.2.2.2.1
  have y4 := g4.2.2.2.2.2.2.2.2.2.1
  have y5 := g4.2.2.2.2.2.2.2.2.2.2
  have p0 := g3.1
  have p1 := g3.2.1
  have p2 := g3.2.2
  clear g3
  clear g4
  clear f27 e1 e2
  rw [f28] at f29
  first
  | (have ix0 : n16 = 240 * n5 := Eq.trans f29 (w32_id (by omega) (by omega)); subst ix0; clear f29)
  | (unfold w32 at f29; have ix0 : n16 = 240 * n5 := (by omega); subst ix0)
  | skip
  first
  | (have ix1 : n17 = (240 * n5) + n0 := Eq.trans f30 (w32_id (by omega) (by omega)); subst ix1; clear f30)
  | (unfold w32 at f30; have ix1 : n17 = (240 * n5) + n0 := (by omega); subst ix1)
  | skip
  first
  | (have ix2 : n18 = n0 - n4 := Eq.trans f31 (w32_id (by omega) (by omega)); subst ix2; clear f31)
  | (unfold w32 at f31; have ix2 : n18 = n0 - n4 := (by omega); subst ix2)
  | skip
  first
  | (have ix3 : n20 = n2 + n19 := Eq.trans f33 (w32_id (by omega) (by omega)); subst ix3; clear f33)
  | (unfold w32 at f33; have ix3 : n20 = n2 + n19 := (by omega); subst ix3)
  | skip
  first
  | (have ix4 : n21 = n0 + 1 := Eq.trans f35 (w32_id (by omega) (by omega)); subst ix4; clear f35)
  | (unfold w32 at f35; have ix4 : n21 = n0 + 1 := (by omega); subst ix4)
  | skip
  try unfold w32 at f29
  try unfold w32 at f30
  try unfold w32 at f31
  try unfold w32 at f32
  try unfold w32 at f33
  try unfold w32 at f35
  try subst k4
  try subst k3
  try subst k2
  try subst k1
  try subst k0
  refine ⟨?_, fun q hq => ?_⟩
  · refine ⟨?_, ?_, ?_, ?_, ?_, ?_, ?_, ?_, ?_, ?_, ?_⟩ <;> first | assumption | omega | trivial
  · have g6 := Option.some.inj hq
    subst g6
    omega
def g_259_83_5 : vG := ([(10, [21, 13], [], 1), (80, [14, 17, 20], [2, 1], 0), (1, [20, 10, 19], [], 0), (3, [19, 18, 11], [], 0), (2, [18, 13, 8], [], 0), (1, [17, 16, 13], [], 0), (3, [16, 15, 7], [], 0), (0, [15], [], 240), (20, [14, 6], [1], 75), (0, [14], [], 337), (42, [13, 9], [], 0), (5000, [0, 1, 2, 3, 4, 5, 6, 7, 8, 9, 10, 11, 12, 13], [0, 1], 83), (0, [0], [], 285), (90, [1], [], -2147483648), (91, [1], [], 2147483647), (90, [2], [], -2147483648), (91, [2], [], 2147483647), (90, [3], [], -2147483648), (91, [3], [], 2147483647), (90, [4], [], -2147483648), (91, [4], [], 2147483647), (90, [5], [], -2147483648), (91, [5], [], 2147483647), (0, [6], [], 285), (90, [7], [], -2147483648), (91, [7], [], 2147483647), (90, [8], [], -2147483648), (91, [8], [], 2147483647), (90, [9], [], -2147483648), (91, [9], [], 2147483647), (90, [10], [], -2147483648), (91, [10], [], 2147483647), (90, [11], [], -2147483648), (91, [11], [], 2147483647), (90, [13], [], -2147483648), (91, [13], [], 2147483647)], (4000, [6, 7, 8, 9, 10, 11, 12, 21], [2], 83))
theorem c_259_83_5 {q0 : Nat} : vOkm T0 (eP e_259 L_259 A_259 mu_259 (some q0)) 6 g_259_83_5 := vOk_inI fun ρ η f0 f1 f2 f3 f4 f5 f6 f7 f8 f9 f10 f11 f12 f13 f14 f15 f16 f17 f18 f19 f20 f21 f22 f23 f24 f25 f26 f27 f28 f29 f30 f31 f32 f33 f34 f35 => q_259_13 (q0 := q0) (n0 := ρ 13) (n1 := ρ 11) (n2 := ρ 10) (n3 := ρ 9) (n4 := ρ 8) (n5 := ρ 7) (n6 := ρ 6) (n7 := ρ 5) (n8 := ρ 4) (n9 := ρ 3) (n10 := ρ 2) (n11 := ρ 1) (n12 := ρ 0) (n13 := ρ 12) (n14 := ρ 14) (n15 := ρ 15) (n16 := ρ 16) (n17 := ρ 17) (n18 := ρ 18) (n19 := ρ 19) (n20 := ρ 20) (n21 := ρ 21) (H0 := η 0) (H1 := η 1) (H2 := η 2) f35 f34 f33 f32 f31 f30 f29 f28 f27 f26 f25 f24 f23 f22 f21 f20 f19 f18 f17 f16 f15 f14 f13 f12 f11 f10 f9 f8 f7 f6 f5 f4 f3 f2 f1 f0
def p_259_83 : List vG := [g_259_83_0,
  g_259_83_1,
  g_259_83_2,
  g_259_83_3,
  g_259_83_4,
  g_259_83_5]
theorem r_259_83 : vCovO false (eRc e_259 L_259 cs_259 2000 (83, [(0, (3, 12, 285, 0)), (1, (0, -2147483648, 2147483647, 0)), (2, (0, -2147483648, 2147483647, 0)), (3, (0, -2147483648, 2147483647, 0)), (4, (0, -2147483648, 2147483647, 0)), (5, (0, -2147483648, 2147483647, 0)), (6, (1, 0, 0, 0)), (8, (0, -2147483648, 2147483647, 0))])) p_259_83 = true := by decide +kernel
theorem m_259 (d : Nat) : eC e_259 (d + 3) := eC_ok (e := e_259) (L := L_259) (cs := cs_259) (n := 2000) (d := d + 2) (A := A_259) (μ := mu_259) (tp := false) (p0 := p_259_s) rfl ⟨m_251 (d + 1), ⟨m_257 d, ⟨m_258 (d + 1), trivial⟩⟩⟩ rfl (.inl rfl) (by decide +kernel) (fun z => nomatch z) r_259_s (allC c_259_s_0 (allC c_259_s_1 (allC c_259_s_2 (allC c_259_s_3 (allC c_259_s_4 (allC c_259_s_5 (allC c_259_s_6 (allC c_259_s_7 (allC c_259_s_8 allN))))))))) (allC (.inl ⟨p_259_83, r_259_83, fun q0 => (allC c_259_83_0 (allC c_259_83_1 (allC c_259_83_2 (allC c_259_83_3 (allC c_259_83_4 (allC c_259_83_5 allN))))))⟩) allN)
/- MixStageModel.sample (III)Z -/
noncomputable def s_260 : vM := ([(3, 12, 285, 0), (0, -2147483648, 2147483647, 0), (0, -2147483648, 2147483647, 0), (0, -2147483648, 2147483647, 0)], (0, 0, 1, 0), 1, 0, [(12, 65), (492, 0), (524, 0)])
def preb_260 (a0 a1 a2 a3 : Int) (h : gH) : Prop := hV h 285 65 ≤ 20000 ∧ SO h ∧ SS h
def pre_260 : List Int → gH → Prop := fun xs h => match xs with
  | [a0, a1, a2, a3] => preb_260 a0 a1 a2 a3 h
  | _ => False
def postb_260 (r a0 a1 a2 a3 : Int) (h0 h : gH) : Prop := SO h ∧ SS h ∧ hV h 285 65 ≤ hV h0 285 65 + 1
def post_260 : List Int → gH → gH → Prop := fun xs h0 h => match xs with
  | [r, a0, a1, a2, a3] => postb_260 r a0 a1 a2 a3 h0 h
  | _ => True
noncomputable def e_260 : vE := (260, s_260, pre_260, post_260)
noncomputable def L_260 : List vE := [e_251, e_257, e_258]
def cs_260 : List vC := []
def A_260 : Int → List Int → gH → gH → Prop := fun c xs h0 h => True
def mu_260 : Int → List Int → gH → gH → Nat := fun c xs h0 h => 0
theorem q_260_0 {n0 n1 n2 n3 n4 n5 : Int} {H0 H1 : gH} (f0 : n0 ≤ 2147483647) (f1 : (-2147483648) ≤ n0) (f2 : n1 ≤ 2147483647) (f3 : (-2147483648) ≤ n1) (f4 : n2 ≤ 2147483647) (f5 : (-2147483648) ≤ n2) (f6 : n3 = 285) (f7 : hWt T0 H0 ∧ preb_260 n3 n2 n1 n0 H0) (f8 : n4 ≤ 1) (f9 : 0 ≤ n4) (f10 : (hLe T0 H0 H1 ∧ hFr s_257.2.2.2.2 H0 H1 ∧ ((0 : Int) = 0 → H1.length = H0.length) ∧ hWt T0 H1) ∧ postb_257 n4 n3 n2 H0 H1) (f11 : n4 = 0) (f12 : n5 = 0) : postb_260 n5 n3 n2 n1 n0 H0 H1 := by
  unfold preb_260 at f7
  unfold postb_257 at f10
  unfold postb_260
  have e1 : hV H1 285 64 = hV H0 285 64 := (f10.1.2.1.1 285 64 kF_257_285_64)
  have e3 : hV H1 285 65 = hV H0 285 65 := (f10.1.2.1.1 285 65 kF_257_285_65)
  have e4 : hV H1 328 = hV H0 328 := fRow f10.1.2.1 328 kR_257_328
  have e5 : hV H1 329 = hV H0 329 := fRow f10.1.2.1 329 kR_257_329
  have e6 : SO H1 = SO H0 := SO_fr f10.1.2.1 (by decide +kernel)
  have e7 : SS H1 = SS H0 := SS_fr f10.1.2.1 (by decide +kernel)
  have e8 : (0 : Int) ≤ hV H0 285 65 ∧ hV H0 285 65 ≤ 2147483647 := f7.1 285 65 _ _ kW_285_65
  have e9 : (0 : Int) ≤ hV H0 285 64 ∧ hV H0 285 64 ≤ 20 := bTo e1 (f10.1.2.2.2 285 64 _ _ kW_285_64)
  try simp only [e1, e4, e5] at f10
  try simp only [e3, e6, e7]
  have p0 := f7.2.1
  have p1 := f7.2.2.1
  have p2 := f7.2.2.2
  have r0_0 := f10.2
  clear e1 e3 e4 e5 e6 e7
  refine ⟨?_, ?_, ?_⟩ <;> first | assumption | omega | trivial
def g_260_s_0 : vG := ([(0, [5], [], 0), (30, [4], [], 0), (1257, [4, 0, 1], [0, 1], 0), (90, [4], [], 0), (91, [4], [], 1), (6000, [0, 1, 2, 3], [0], 0), (0, [0], [], 285), (90, [1], [], -2147483648), (91, [1], [], 2147483647), (90, [2], [], -2147483648), (91, [2], [], 2147483647), (90, [3], [], -2147483648), (91, [3], [], 2147483647)], (3000, [5], [1], 36))
theorem c_260_s_0 : vOkm T0 (eP e_260 L_260 A_260 mu_260 none) 4 g_260_s_0 := vOk_inI fun ρ η f0 f1 f2 f3 f4 f5 f6 f7 f8 f9 f10 f11 f12 => q_260_0 (n0 := ρ 3) (n1 := ρ 2) (n2 := ρ 1) (n3 := ρ 0) (n4 := ρ 4) (n5 := ρ 5) (H0 := η 0) (H1 := η 1) f12 f11 f10 f9 f8 f7 f6 f5 f4 f3 f2 f1 f0
theorem q_260_1 {n0 n1 n2 n3 n4 n5 : Int} {H0 H1 : gH} (f0 : n0 ≤ 2147483647) (f1 : (-2147483648) ≤ n0) (f2 : n1 ≤ 2147483647) (f3 : (-2147483648) ≤ n1) (f4 : n2 ≤ 2147483647) (f5 : (-2147483648) ≤ n2) (f6 : n3 = 285) (f7 : hWt T0 H0 ∧ preb_260 n3 n2 n1 n0 H0) (f8 : n4 ≤ 1) (f9 : 0 ≤ n4) (f10 : (hLe T0 H0 H1 ∧ hFr s_257.2.2.2.2 H0 H1 ∧ ((0 : Int) = 0 → H1.length = H0.length) ∧ hWt T0 H1) ∧ postb_257 n4 n3 n2 H0 H1) (f11 : n4 ≠ 0) (f12 : n1 < 0) (f13 : n5 = 0) : postb_260 n5 n3 n2 n1 n0 H0 H1 := by
  unfold preb_260 at f7
  unfold postb_257 at f10
  unfold postb_260
  have e1 : hV H1 285 64 = hV H0 285 64 := (f10.1.2.1.1 285 64 kF_257_285_64)
  have e3 : hV H1 285 65 = hV H0 285 65 := (f10.1.2.1.1 285 65 kF_257_285_65)
  have e4 : hV H1 328 = hV H0 328 := fRow f10.1.2.1 328 kR_257_328
  have e5 : hV H1 329 = hV H0 329 := fRow f10.1.2.1 329 kR_257_329
  have e6 : SO H1 = SO H0 := SO_fr f10.1.2.1 (by decide +kernel)
  have e7 : SS H1 = SS H0 := SS_fr f10.1.2.1 (by decide +kernel)
  have e8 : (0 : Int) ≤ hV H0 285 65 ∧ hV H0 285 65 ≤ 2147483647 := f7.1 285 65 _ _ kW_285_65
  have e9 : (0 : Int) ≤ hV H0 285 64 ∧ hV H0 285 64 ≤ 20 := bTo e1 (f10.1.2.2.2 285 64 _ _ kW_285_64)
  try simp only [e1, e4, e5] at f10
  try simp only [e3, e6, e7]
  have p0 := f7.2.1
  have p1 := f7.2.2.1
  have p2 := f7.2.2.2
  have r0_0 := f10.2
  clear e1 e3 e4 e5 e6 e7
  refine ⟨?_, ?_, ?_⟩ <;> first | assumption | omega | trivial
def g_260_s_1 : vG := ([(0, [5], [], 0), (32, [2], [], 0), (31, [4], [], 0), (1257, [4, 0, 1], [0, 1], 0), (90, [4], [], 0), (91, [4], [], 1), (6000, [0, 1, 2, 3], [0], 0), (0, [0], [], 285), (90, [1], [], -2147483648), (91, [1], [], 2147483647), (90, [2], [], -2147483648), (91, [2], [], 2147483647), (90, [3], [], -2147483648), (91, [3], [], 2147483647)], (3000, [5], [1], 36))
theorem c_260_s_1 : vOkm T0 (eP e_260 L_260 A_260 mu_260 none) 4 g_260_s_1 := vOk_inI fun ρ η f0 f1 f2 f3 f4 f5 f6 f7 f8 f9 f10 f11 f12 f13 => q_260_1 (n0 := ρ 3) (n1 := ρ 2) (n2 := ρ 1) (n3 := ρ 0) (n4 := ρ 4) (n5 := ρ 5) (H0 := η 0) (H1 := η 1) f13 f12 f11 f10 f9 f8 f7 f6 f5 f4 f3 f2 f1 f0
theorem q_260_2 {n0 n1 n2 n3 n4 : Int} {H0 H1 : gH} (f0 : n0 = 285) (f1 : hWt T0 H0 ∧ preb_260 n0 n1 n2 n3 H0) (f2 : (hLe T0 H0 H1 ∧ hFr s_257.2.2.2.2 H0 H1 ∧ ((0 : Int) = 0 → H1.length = H0.length) ∧ hWt T0 H1) ∧ postb_257 n4 n0 n1 H0 H1) (f3 : n4 ≠ 0) : 0 ≤ n1 ∧ n1 < 20 := by
  unfold preb_260 at f1
  unfold postb_257 at f2
  have e1 : hV H1 285 64 = hV H0 285 64 := (f2.1.2.1.1 285 64 kF_257_285_64)
  have e2 : hV H1 328 = hV H0 328 := fRow f2.1.2.1 328 kR_257_328
  have e3 : hV H1 329 = hV H0 329 := fRow f2.1.2.1 329 kR_257_329
  have e4 : (0 : Int) ≤ hV H0 285 65 ∧ hV H0 285 65 ≤ 2147483647 := f1.1 285 65 _ _ kW_285_65
  have e5 : (0 : Int) ≤ hV H0 285 64 ∧ hV H0 285 64 ≤ 20 := bTo e1 (f2.1.2.2.2 285 64 _ _ kW_285_64)
  try simp only [e1, e2, e3] at f2
  have p0 := f1.2.1
  have p1 := f1.2.2.1
  have p2 := f1.2.2.2
  have r0_0 := f2.2
  clear e1 e2 e3
  omega
def g_260_s_2 : vG := ([(31, [4], [], 0), (1257, [4, 0, 1], [0, 1], 0), (6000, [0, 1, 2, 3], [0], 0), (0, [0], [], 285)], (70, [1], [], 20))
theorem c_260_s_2 : vOkm T0 (eP e_260 L_260 A_260 mu_260 none) 4 g_260_s_2 := vOk_inI fun ρ η f0 f1 f2 f3 => q_260_2 (n0 := ρ 0) (n1 := ρ 1) (n2 := ρ 2) (n3 := ρ 3) (n4 := ρ 4) (H0 := η 0) (H1 := η 1) f3 f2 f1 f0
theorem q_260_3 {n0 n1 n2 n3 n4 n5 n6 n7 : Int} {H0 H1 : gH} (f0 : n0 ≤ 2147483647) (f1 : (-2147483648) ≤ n0) (f2 : n1 ≤ 2147483647) (f3 : (-2147483648) ≤ n1) (f4 : n2 ≤ 2147483647) (f5 : (-2147483648) ≤ n2) (f6 : n3 = 285) (f7 : hWt T0 H0 ∧ preb_260 n3 n2 n1 n0 H0) (f8 : n4 ≤ 1) (f9 : 0 ≤ n4) (f10 : (hLe T0 H0 H1 ∧ hFr s_257.2.2.2.2 H0 H1 ∧ ((0 : Int) = 0 → H1.length = H0.length) ∧ hWt T0 H1) ∧ postb_257 n4 n3 n2 H0 H1) (f11 : n4 ≠ 0) (f12 : 0 ≤ n1) (f13 : n5 = 329) (f14 : n5 = hV H1 (n3).toNat 67) (f15 : n6 ≤ 240) (f16 : (-1) ≤ n6) (f17 : n6 = hV H1 (n5).toNat (n2).toNat) (f18 : n6 ≤ n1) (f19 : n7 = 0) : postb_260 n7 n3 n2 n1 n0 H0 H1 := by
  unfold preb_260 at f7
  unfold postb_257 at f10
  unfold postb_260
  have e0 : hV H1 329 = hV H0 329 := fRow f10.1.2.1 329 kR_257_329
  have e1 : n6 = hV H0 329 (n2).toNat := (by rw [f13] at f17; exact f17 : n6 = hV H1 329 (n2).toNat).trans ((congrFun e0 _))
  have e3 : hV H1 285 64 = hV H0 285 64 := (f10.1.2.1.1 285 64 kF_257_285_64)
  have e5 : hV H1 285 65 = hV H0 285 65 := (f10.1.2.1.1 285 65 kF_257_285_65)
  have e6 : hV H1 328 = hV H0 328 := fRow f10.1.2.1 328 kR_257_328
  have e7 : SO H1 = SO H0 := SO_fr f10.1.2.1 (by decide +kernel)
  have e8 : SS H1 = SS H0 := SS_fr f10.1.2.1 (by decide +kernel)
  have e9 : (0 : Int) ≤ hV H0 285 65 ∧ hV H0 285 65 ≤ 2147483647 := f7.1 285 65 _ _ kW_285_65
  have e10 : (0 : Int) ≤ hV H0 285 64 ∧ hV H0 285 64 ≤ 20 := bTo e3 (f10.1.2.2.2 285 64 _ _ kW_285_64)
  try simp only [e3, e6, e0] at f10
  try simp only [e5, e7, e8]
  have p0 := f7.2.1
  have p1 := f7.2.2.1
  have p2 := f7.2.2.2
  have r0_0 := f10.2
  clear f14 f17 e0 e3 e5 e6 e7 e8
  subst e1
  refine ⟨?_, ?_, ?_⟩ <;> first | assumption | omega | trivial
def g_260_s_3 : vG := ([(0, [7], [], 0), (43, [2, 6], [], 0), (22, [6, 5, 1], [1], 0), (90, [6], [], -1), (91, [6], [], 240), (20, [5, 0], [1], 67), (0, [5], [], 329), (33, [2], [], 0), (31, [4], [], 0), (1257, [4, 0, 1], [0, 1], 0), (90, [4], [], 0), (91, [4], [], 1), (6000, [0, 1, 2, 3], [0], 0), (0, [0], [], 285), (90, [1], [], -2147483648), (91, [1], [], 2147483647), (90, [2], [], -2147483648), (91, [2], [], 2147483647), (90, [3], [], -2147483648), (91, [3], [], 2147483647)], (3000, [7], [1], 36))
theorem c_260_s_3 : vOkm T0 (eP e_260 L_260 A_260 mu_260 none) 4 g_260_s_3 := vOk_inI fun ρ η f0 f1 f2 f3 f4 f5 f6 f7 f8 f9 f10 f11 f12 f13 f14 f15 f16 f17 f18 f19 => q_260_3 (n0 := ρ 3) (n1 := ρ 2) (n2 := ρ 1) (n3 := ρ 0) (n4 := ρ 4) (n5 := ρ 5) (n6 := ρ 6) (n7 := ρ 7) (H0 := η 0) (H1 := η 1) f19 f18 f17 f16 f15 f14 f13 f12 f11 f10 f9 f8 f7 f6 f5 f4 f3 f2 f1 f0
theorem q_260_4 {n0 n1 n2 n3 n4 n5 n6 n7 n8 : Int} {H0 H1 : gH} (f0 : n0 = 285) (f1 : hWt T0 H0 ∧ preb_260 n0 n1 n2 n3 H0) (f2 : (hLe T0 H0 H1 ∧ hFr s_257.2.2.2.2 H0 H1 ∧ ((0 : Int) = 0 → H1.length = H0.length) ∧ hWt T0 H1) ∧ postb_257 n4 n0 n1 H0 H1) (f3 : n4 ≠ 0) (f4 : 0 ≤ n2) (f5 : n5 ≤ 240) (f6 : n2 < n5) (f7 : n6 = 240) (f8 : n7 = w32 (n6 * n1)) (f9 : n8 = w32 (n7 + n2)) : 0 ≤ n8 ∧ n8 < 4800 := by
  unfold preb_260 at f1
  unfold postb_257 at f2
  have e1 : hV H1 285 64 = hV H0 285 64 := (f2.1.2.1.1 285 64 kF_257_285_64)
  have e2 : hV H1 328 = hV H0 328 := fRow f2.1.2.1 328 kR_257_328
  have e3 : hV H1 329 = hV H0 329 := fRow f2.1.2.1 329 kR_257_329
  have e4 : (0 : Int) ≤ hV H0 285 65 ∧ hV H0 285 65 ≤ 2147483647 := f1.1 285 65 _ _ kW_285_65
  have e5 : (0 : Int) ≤ hV H0 285 64 ∧ hV H0 285 64 ≤ 20 := bTo e1 (f2.1.2.2.2 285 64 _ _ kW_285_64)
  try simp only [e1, e2, e3] at f2
  have p0 := f1.2.1
  have p1 := f1.2.2.1
  have p2 := f1.2.2.2
  have r0_0 := f2.2
  clear e1 e2 e3
  rw [f7] at f8
  first
  | (have ix0 : n7 = 240 * n1 := Eq.trans f8 (w32_id (by omega) (by omega)); subst ix0; clear f8)
  | (unfold w32 at f8; have ix0 : n7 = 240 * n1 := (by omega); subst ix0)
  | skip
  first
  | (have ix1 : n8 = (240 * n1) + n2 := Eq.trans f9 (w32_id (by omega) (by omega)); subst ix1; clear f9)
  | (unfold w32 at f9; have ix1 : n8 = (240 * n1) + n2 := (by omega); subst ix1)
  | skip
  try unfold w32 at f8
  try unfold w32 at f9
  omega
def g_260_s_4 : vG := ([(1, [13, 12, 2], [], 0), (3, [12, 11, 1], [], 0), (0, [11], [], 240), (42, [2, 6], [], 0), (91, [6], [], 240), (33, [2], [], 0), (31, [4], [], 0), (1257, [4, 0, 1], [0, 1], 0), (6000, [0, 1, 2, 3], [0], 0), (0, [0], [], 285)], (70, [13], [], 4800))
theorem c_260_s_4 : vOkm T0 (eP e_260 L_260 A_260 mu_260 none) 4 g_260_s_4 := vOk_inI fun ρ η f0 f1 f2 f3 f4 f5 f6 f7 f8 f9 => q_260_4 (n0 := ρ 0) (n1 := ρ 1) (n2 := ρ 2) (n3 := ρ 3) (n4 := ρ 4) (n5 := ρ 6) (n6 := ρ 11) (n7 := ρ 12) (n8 := ρ 13) (H0 := η 0) (H1 := η 1) f9 f8 f7 f6 f5 f4 f3 f2 f1 f0
theorem q_260_5 {n0 n1 n2 : Int} {H0 H1 : gH} (f0 : n0 = 285) (f1 : (hLe T0 H0 H1 ∧ hFr s_257.2.2.2.2 H0 H1 ∧ ((0 : Int) = 0 → H1.length = H0.length) ∧ hWt T0 H1) ∧ postb_257 n1 n0 n2 H0 H1) (f2 : n1 ≠ 0) : 0 ≤ n2 := by
  unfold postb_257 at f1
  have e1 : hV H1 285 64 = hV H0 285 64 := (f1.1.2.1.1 285 64 kF_257_285_64)
  have e2 : hV H1 328 = hV H0 328 := fRow f1.1.2.1 328 kR_257_328
  have e3 : hV H1 329 = hV H0 329 := fRow f1.1.2.1 329 kR_257_329
  have e4 : (0 : Int) ≤ hV H0 285 64 ∧ hV H0 285 64 ≤ 20 := bTo e1 (f1.1.2.2.2 285 64 _ _ kW_285_64)
  try simp only [e1, e2, e3] at f1
  have r0_0 := f1.2
  clear e1 e2 e3
  omega
def g_260_s_5 : vG := ([(31, [4], [], 0), (1257, [4, 0, 1], [0, 1], 0), (0, [0], [], 285)], (90, [1], [], 0))
theorem c_260_s_5 : vOkm T0 (eP e_260 L_260 A_260 mu_260 none) 4 g_260_s_5 := vOk_inI fun ρ η f0 f1 f2 => q_260_5 (n0 := ρ 0) (n1 := ρ 4) (n2 := ρ 1) (H0 := η 0) (H1 := η 1) f2 f1 f0
theorem q_260_6 {n0 n1 n2 n3 n4 : Int} {H0 H1 : gH} (f0 : n0 = 285) (f1 : hWt T0 H0 ∧ preb_260 n0 n1 n2 n3 H0) (f2 : (hLe T0 H0 H1 ∧ hFr s_257.2.2.2.2 H0 H1 ∧ ((0 : Int) = 0 → H1.length = H0.length) ∧ hWt T0 H1) ∧ postb_257 n4 n0 n1 H0 H1) (f3 : n4 ≠ 0) : n1 ≤ 19 := by
  unfold preb_260 at f1
  unfold postb_257 at f2
  have e1 : hV H1 285 64 = hV H0 285 64 := (f2.1.2.1.1 285 64 kF_257_285_64)
  have e2 : hV H1 328 = hV H0 328 := fRow f2.1.2.1 328 kR_257_328
  have e3 : hV H1 329 = hV H0 329 := fRow f2.1.2.1 329 kR_257_329
  have e4 : (0 : Int) ≤ hV H0 285 65 ∧ hV H0 285 65 ≤ 2147483647 := f1.1 285 65 _ _ kW_285_65
  have e5 : (0 : Int) ≤ hV H0 285 64 ∧ hV H0 285 64 ≤ 20 := bTo e1 (f2.1.2.2.2 285 64 _ _ kW_285_64)
  try simp only [e1, e2, e3] at f2
  have p0 := f1.2.1
  have p1 := f1.2.2.1
  have p2 := f1.2.2.2
  have r0_0 := f2.2
  clear e1 e2 e3
  omega
def g_260_s_6 : vG := ([(31, [4], [], 0), (1257, [4, 0, 1], [0, 1], 0), (6000, [0, 1, 2, 3], [0], 0), (0, [0], [], 285)], (91, [1], [], 19))
theorem c_260_s_6 : vOkm T0 (eP e_260 L_260 A_260 mu_260 none) 4 g_260_s_6 := vOk_inI fun ρ η f0 f1 f2 f3 => q_260_6 (n0 := ρ 0) (n1 := ρ 1) (n2 := ρ 2) (n3 := ρ 3) (n4 := ρ 4) (H0 := η 0) (H1 := η 1) f3 f2 f1 f0
theorem kR_251_333 : vFreeR s_251.2.2.2.2 333 = true := by decide +kernel
theorem kR_257_333 : vFreeR s_257.2.2.2.2 333 = true := by decide +kernel
theorem kR_251_334 : vFreeR s_251.2.2.2.2 334 = true := by decide +kernel
theorem kR_257_334 : vFreeR s_257.2.2.2.2 334 = true := by decide +kernel
theorem kR_251_341 : vFreeR s_251.2.2.2.2 341 = true := by decide +kernel
theorem kR_257_341 : vFreeR s_257.2.2.2.2 341 = true := by decide +kernel
theorem q_260_7 {n0 n1 n2 n3 n4 n5 n6 n7 n8 n9 n10 n11 n12 n13 : Int} {H0 H1 H2 H3 : gH} (f0 : n0 ≤ 2147483647) (f1 : (-2147483648) ≤ n0) (f2 : n1 ≤ 2147483647) (f3 : (-2147483648) ≤ n1) (f4 : n2 ≤ 2147483647) (f5 : (-2147483648) ≤ n2) (f6 : n3 = 285) (f7 : hWt T0 H0 ∧ preb_260 n3 n2 n1 n0 H0) (f8 : n4 ≤ 1) (f9 : 0 ≤ n4) (f10 : (hLe T0 H0 H1 ∧ hFr s_257.2.2.2.2 H0 H1 ∧ ((0 : Int) = 0 → H1.length = H0.length) ∧ hWt T0 H1) ∧ postb_257 n4 n3 n2 H0 H1) (f11 : n4 ≠ 0) (f12 : 0 ≤ n1) (f13 : n5 = 329) (f14 : n5 = hV H1 (n3).toNat 67) (f15 : n6 ≤ 240) (f16 : (-1) ≤ n6) (f17 : n6 = hV H1 (n5).toNat (n2).toNat) (f18 : n1 < n6) (f19 : n7 = (-9999)) (f20 : n8 = 9999) (f21 : n9 ≤ 1) (f22 : 0 ≤ n9) (f23 : (hLe T0 H1 H2 ∧ hFr s_251.2.2.2.2 H1 H2 ∧ ((0 : Int) = 0 → H2.length = H1.length) ∧ hWt T0 H2) ∧ postb_251 n9 n0 n7 n8 H1 H2) (f24 : n9 ≠ 0) (f25 : n10 = 337) (f26 : n10 = hV H2 (n3).toNat 75) (f27 : n11 = 240) (f28 : n12 = w32 (n11 * n2)) (f29 : n13 = w32 (n12 + n1)) (f30 : hUpd H3 H2 n10 n13 n0) : preb_258 n3 n2 H3 := by
  unfold preb_260 at f7
  unfold postb_257 at f10
  unfold postb_251 at f23
  unfold preb_258
  have e0 : hV H1 329 = hV H0 329 := fRow f10.1.2.1 329 kR_257_329
  have e1 : n6 = hV H0 329 (n2).toNat := (by rw [f13] at f17; exact f17 : n6 = hV H1 329 (n2).toNat).trans ((congrFun e0 _))
  have e3 : hV H1 285 64 = hV H0 285 64 := (f10.1.2.1.1 285 64 kF_257_285_64)
  have e4 : hV H1 328 = hV H0 328 := fRow f10.1.2.1 328 kR_257_328
  have e8 : hV H3 285 65 = hV H0 285 65 := ((uPlace f30 285 65 (iS (show n10 = ((337 : Nat) : Int) from f25) rfl))).trans (((f23.1.2.1.1 285 65 kF_251_285_65)).trans (f10.1.2.1.1 285 65 kF_257_285_65))
  have e13 : hV H3 333 = hV H0 333 := (uRowNe f30 333 (iS (show n10 = ((337 : Nat) : Int) from f25) rfl)).trans ((fRow f23.1.2.1 333 kR_251_333).trans (fRow f10.1.2.1 333 kR_257_333))
  have e18 : hV H3 334 = hV H0 334 := (uRowNe f30 334 (iS (show n10 = ((337 : Nat) : Int) from f25) rfl)).trans ((fRow f23.1.2.1 334 kR_251_334).trans (fRow f10.1.2.1 334 kR_257_334))
  have e23 : hV H3 341 = hV H0 341 := (uRowNe f30 341 (iS (show n10 = ((337 : Nat) : Int) from f25) rfl)).trans ((fRow f23.1.2.1 341 kR_251_341).trans (fRow f10.1.2.1 341 kR_257_341))
  have e24 : (0 : Int) ≤ hV H0 285 65 ∧ hV H0 285 65 ≤ 2147483647 := f7.1 285 65 _ _ kW_285_65
  have e25 : (0 : Int) ≤ hV H0 285 64 ∧ hV H0 285 64 ≤ 20 := bTo e3 (f10.1.2.2.2 285 64 _ _ kW_285_64)
  try simp only [SS] at *
  try simp only [e3, e4, e0] at f10
  try simp only [e8, e13, e18, e23]
  have p0 := f7.2.1
  have p1 := f7.2.2.1
  have p2 := f7.2.2.2
  have r0_0 := f10.2
  have r1_0 := f23.2
  clear f14 f17 f26 e0 e3 e4 e8 e13 e18 e23
  subst e1
  rw [f27] at f28
  first
  | (have ix0 : n12 = 240 * n2 := Eq.trans f28 (w32_id (by omega) (by omega)); subst ix0; clear f28)
  | (unfold w32 at f28; have ix0 : n12 = 240 * n2 := (by omega); subst ix0)
  | skip
  first
  | (have ix1 : n13 = (240 * n2) + n1 := Eq.trans f29 (w32_id (by omega) (by omega)); subst ix1; clear f29)
  | (unfold w32 at f29; have ix1 : n13 = (240 * n2) + n1 := (by omega); subst ix1)
  | skip
  try unfold w32 at f28
  try unfold w32 at f29

  first
  | exact ⟨by omega, SSp_le y0 (by omega)⟩
  | exact ⟨by omega, SSp_le y1 (by omega)⟩
  | exact ⟨by omega, SSp_le y2 (by omega)⟩
  | exact ⟨by omega, SSp_le y3 (by omega)⟩
  | exact ⟨by omega, SSp_le y4 (by omega)⟩
  | exact ⟨by omega, SSp_le y5 (by omega)⟩
  | exact ⟨by omega, SSp_le y6 (by omega)⟩
  | exact ⟨by omega, SSp_le y7 (by omega)⟩
  | exact ⟨by omega, SSp_le p0 (by omega)⟩
  | exact ⟨by omega, SSp_le p1 (by omega)⟩
  | exact ⟨by omega, SSp_le p2 (by omega)⟩
  | exact ⟨by omega, SSp_le p3 (by omega)⟩
  | omega
def g_260_s_7 : vG := ([(80, [10, 13, 3], [3, 2], 0), (1, [13, 12, 2], [], 0), (3, [12, 11, 1], [], 0), (0, [11], [], 240), (20, [10, 0], [2], 75), (0, [10], [], 337), (31, [9], [], 0), (1251, [9, 3, 7, 8], [1, 2], 0), (90, [9], [], 0), (91, [9], [], 1), (0, [8], [], 9999), (0, [7], [], -9999), (42, [2, 6], [], 0), (22, [6, 5, 1], [1], 0), (90, [6], [], -1), (91, [6], [], 240), (20, [5, 0], [1], 67), (0, [5], [], 329), (33, [2], [], 0), (31, [4], [], 0), (1257, [4, 0, 1], [0, 1], 0), (90, [4], [], 0), (91, [4], [], 1), (6000, [0, 1, 2, 3], [0], 0), (0, [0], [], 285), (90, [1], [], -2147483648), (91, [1], [], 2147483647), (90, [2], [], -2147483648), (91, [2], [], 2147483647), (90, [3], [], -2147483648), (91, [3], [], 2147483647)], (2258, [0, 1], [3], 0))
theorem c_260_s_7 : vOkm T0 (eP e_260 L_260 A_260 mu_260 none) 4 g_260_s_7 := vOk_inI fun ρ η f0 f1 f2 f3 f4 f5 f6 f7 f8 f9 f10 f11 f12 f13 f14 f15 f16 f17 f18 f19 f20 f21 f22 f23 f24 f25 f26 f27 f28 f29 f30 => q_260_7 (n0 := ρ 3) (n1 := ρ 2) (n2 := ρ 1) (n3 := ρ 0) (n4 := ρ 4) (n5 := ρ 5) (n6 := ρ 6) (n7 := ρ 7) (n8 := ρ 8) (n9 := ρ 9) (n10 := ρ 10) (n11 := ρ 11) (n12 := ρ 12) (n13 := ρ 13) (H0 := η 0) (H1 := η 1) (H2 := η 2) (H3 := η 3) f30 f29 f28 f27 f26 f25 f24 f23 f22 f21 f20 f19 f18 f17 f16 f15 f14 f13 f12 f11 f10 f9 f8 f7 f6 f5 f4 f3 f2 f1 f0
theorem q_260_8 {n0 n1 n2 n3 n4 n5 n6 n7 n8 n9 n10 n11 n12 n13 n14 : Int} {H0 H1 H2 H3 H4 : gH} (f0 : n0 ≤ 2147483647) (f1 : (-2147483648) ≤ n0) (f2 : n1 ≤ 2147483647) (f3 : (-2147483648) ≤ n1) (f4 : n2 ≤ 2147483647) (f5 : (-2147483648) ≤ n2) (f6 : n3 = 285) (f7 : hWt T0 H0 ∧ preb_260 n3 n2 n1 n0 H0) (f8 : n4 ≤ 1) (f9 : 0 ≤ n4) (f10 : (hLe T0 H0 H1 ∧ hFr s_257.2.2.2.2 H0 H1 ∧ ((0 : Int) = 0 → H1.length = H0.length) ∧ hWt T0 H1) ∧ postb_257 n4 n3 n2 H0 H1) (f11 : n4 ≠ 0) (f12 : 0 ≤ n1) (f13 : n5 = 329) (f14 : n5 = hV H1 (n3).toNat 67) (f15 : n6 ≤ 240) (f16 : (-1) ≤ n6) (f17 : n6 = hV H1 (n5).toNat (n2).toNat) (f18 : n1 < n6) (f19 : n7 = (-9999)) (f20 : n8 = 9999) (f21 : n9 ≤ 1) (f22 : 0 ≤ n9) (f23 : (hLe T0 H1 H2 ∧ hFr s_251.2.2.2.2 H1 H2 ∧ ((0 : Int) = 0 → H2.length = H1.length) ∧ hWt T0 H2) ∧ postb_251 n9 n0 n7 n8 H1 H2) (f24 : n9 ≠ 0) (f25 : n10 = 337) (f26 : n10 = hV H2 (n3).toNat 75) (f27 : n11 = 240) (f28 : n12 = w32 (n11 * n2)) (f29 : n13 = w32 (n12 + n1)) (f30 : hUpd H3 H2 n10 n13 n0) (f31 : (hLe T0 H3 H4 ∧ hFr s_258.2.2.2.2 H3 H4 ∧ ((0 : Int) = 0 → H4.length = H3.length) ∧ hWt T0 H4) ∧ postb_258 n3 n2 H3 H4) (f32 : n14 = 1) : postb_260 n14 n3 n2 n1 n0 H0 H4 := by
  unfold preb_260 at f7
  unfold postb_257 at f10
  unfold postb_251 at f23
  unfold postb_258 at f31
  unfold postb_260
  have e0 : hV H1 329 = hV H0 329 := fRow f10.1.2.1 329 kR_257_329
  have e1 : n6 = hV H0 329 (n2).toNat := (by rw [f13] at f17; exact f17 : n6 = hV H1 329 (n2).toNat).trans ((congrFun e0 _))
  have e3 : hV H1 285 64 = hV H0 285 64 := (f10.1.2.1.1 285 64 kF_257_285_64)
  have e4 : hV H1 328 = hV H0 328 := fRow f10.1.2.1 328 kR_257_328
  have e8 : hV H3 285 65 = hV H0 285 65 := ((uPlace f30 285 65 (iS (show n10 = ((337 : Nat) : Int) from f25) rfl))).trans (((f23.1.2.1.1 285 65 kF_251_285_65)).trans (f10.1.2.1.1 285 65 kF_257_285_65))
  have e13 : hV H3 333 = hV H0 333 := (uRowNe f30 333 (iS (show n10 = ((337 : Nat) : Int) from f25) rfl)).trans ((fRow f23.1.2.1 333 kR_251_333).trans (fRow f10.1.2.1 333 kR_257_333))
  have e14 : SO H1 = SO H0 := SO_fr f10.1.2.1 (by decide +kernel)
  have e15 : SO H2 = SO H1 := SO_fr f23.1.2.1 (by decide +kernel)
  have e16 : SO H2 = SO H0 := e15.trans e14
  have e17 : SO H3 = SO H2 := SO_upR f30 (show n10 = ((337 : Nat) : Int) from f25) (by decide)
  have e18 : SO H3 = SO H0 := e17.trans e16
  have e19 : SO H4 = SO H3 := SO_fr f31.1.2.1 (by decide +kernel)
  have e20 : SO H4 = SO H0 := e19.trans e18
  have e21 : (0 : Int) ≤ hV H0 285 65 ∧ hV H0 285 65 ≤ 2147483647 := f7.1 285 65 _ _ kW_285_65
  have e22 : (0 : Int) ≤ hV H0 285 64 ∧ hV H0 285 64 ≤ 20 := bTo e3 (f10.1.2.2.2 285 64 _ _ kW_285_64)
  have e24 : (0 : Int) ≤ hV H4 285 65 ∧ hV H4 285 65 ≤ 2147483647 := f31.1.2.2.2 285 65 _ _ kW_285_65
  try simp only [e3, e4, e0] at f10
  try simp only [e8, e13] at f31
  try simp only [e20]
  have p0 := f7.2.1
  have p1 := f7.2.2.1
  have p2 := f7.2.2.2
  have r0_0 := f10.2
  have r1_0 := f23.2
  have r2_0 := f31.2.1
  have r2_1 := f31.2.2.1
  have r2_2 := f31.2.2.2
  clear f14 f17 f26 e0 e3 e4 e8 e13 e14 e15 e16 e17 e18 e19 e20
  subst e1
  rw [f27] at f28
  first
  | (have ix0 : n12 = 240 * n2 := Eq.trans f28 (w32_id (by omega) (by omega)); subst ix0; clear f28)
  | (unfold w32 at f28; have ix0 : n12 = 240 * n2 := (by omega); subst ix0)
  | skip
  first
  | (have ix1 : n13 = (240 * n2) + n1 := Eq.trans f29 (w32_id (by omega) (by omega)); subst ix1; clear f29)
  | (unfold w32 at f29; have ix1 : n13 = (240 * n2) + n1 := (by omega); subst ix1)
  | skip
  try unfold w32 at f28
  try unfold w32 at f29
  refine ⟨?_, ?_, ?_⟩ <;> first | assumption | omega | trivial
def g_260_s_8 : vG := ([(0, [14], [], 1), (1258, [0, 1], [3, 4], 0), (80, [10, 13, 3], [3, 2], 0), (1, [13, 12, 2], [], 0), (3, [12, 11, 1], [], 0), (0, [11], [], 240), (20, [10, 0], [2], 75), (0, [10], [], 337), (31, [9], [], 0), (1251, [9, 3, 7, 8], [1, 2], 0), (90, [9], [], 0), (91, [9], [], 1), (0, [8], [], 9999), (0, [7], [], -9999), (42, [2, 6], [], 0), (22, [6, 5, 1], [1], 0), (90, [6], [], -1), (91, [6], [], 240), (20, [5, 0], [1], 67), (0, [5], [], 329), (33, [2], [], 0), (31, [4], [], 0), (1257, [4, 0, 1], [0, 1], 0), (90, [4], [], 0), (91, [4], [], 1), (6000, [0, 1, 2, 3], [0], 0), (0, [0], [], 285), (90, [1], [], -2147483648), (91, [1], [], 2147483647), (90, [2], [], -2147483648), (91, [2], [], 2147483647), (90, [3], [], -2147483648), (91, [3], [], 2147483647)], (3000, [14], [4], 56))
theorem c_260_s_8 : vOkm T0 (eP e_260 L_260 A_260 mu_260 none) 4 g_260_s_8 := vOk_inI fun ρ η f0 f1 f2 f3 f4 f5 f6 f7 f8 f9 f10 f11 f12 f13 f14 f15 f16 f17 f18 f19 f20 f21 f22 f23 f24 f25 f26 f27 f28 f29 f30 f31 f32 => q_260_8 (n0 := ρ 3) (n1 := ρ 2) (n2 := ρ 1) (n3 := ρ 0) (n4 := ρ 4) (n5 := ρ 5) (n6 := ρ 6) (n7 := ρ 7) (n8 := ρ 8) (n9 := ρ 9) (n10 := ρ 10) (n11 := ρ 11) (n12 := ρ 12) (n13 := ρ 13) (n14 := ρ 14) (H0 := η 0) (H1 := η 1) (H2 := η 2) (H3 := η 3) (H4 := η 4) f32 f31 f30 f29 f28 f27 f26 f25 f24 f23 f22 f21 f20 f19 f18 f17 f16 f15 f14 f13 f12 f11 f10 f9 f8 f7 f6 f5 f4 f3 f2 f1 f0
theorem q_260_9 {n0 n1 n2 n3 n4 n5 n6 n7 n8 n9 n10 : Int} {H0 H1 H2 : gH} (f0 : n0 ≤ 2147483647) (f1 : (-2147483648) ≤ n0) (f2 : n1 ≤ 2147483647) (f3 : (-2147483648) ≤ n1) (f4 : n2 ≤ 2147483647) (f5 : (-2147483648) ≤ n2) (f6 : n3 = 285) (f7 : hWt T0 H0 ∧ preb_260 n3 n2 n1 n0 H0) (f8 : n4 ≤ 1) (f9 : 0 ≤ n4) (f10 : (hLe T0 H0 H1 ∧ hFr s_257.2.2.2.2 H0 H1 ∧ ((0 : Int) = 0 → H1.length = H0.length) ∧ hWt T0 H1) ∧ postb_257 n4 n3 n2 H0 H1) (f11 : n4 ≠ 0) (f12 : 0 ≤ n1) (f13 : n5 = 329) (f14 : n5 = hV H1 (n3).toNat 67) (f15 : n6 ≤ 240) (f16 : (-1) ≤ n6) (f17 : n6 = hV H1 (n5).toNat (n2).toNat) (f18 : n1 < n6) (f19 : n7 = (-9999)) (f20 : n8 = 9999) (f21 : n9 ≤ 1) (f22 : 0 ≤ n9) (f23 : (hLe T0 H1 H2 ∧ hFr s_251.2.2.2.2 H1 H2 ∧ ((0 : Int) = 0 → H2.length = H1.length) ∧ hWt T0 H2) ∧ postb_251 n9 n0 n7 n8 H1 H2) (f24 : n9 = 0) (f25 : n10 = 0) : postb_260 n10 n3 n2 n1 n0 H0 H2 := by
  unfold preb_260 at f7
  unfold postb_257 at f10
  unfold postb_251 at f23
  unfold postb_260
  have e0 : hV H1 329 = hV H0 329 := fRow f10.1.2.1 329 kR_257_329
  have e1 : n6 = hV H0 329 (n2).toNat := (by rw [f13] at f17; exact f17 : n6 = hV H1 329 (n2).toNat).trans ((congrFun e0 _))
  have e3 : hV H1 285 64 = hV H0 285 64 := (f10.1.2.1.1 285 64 kF_257_285_64)
  have e4 : hV H1 328 = hV H0 328 := fRow f10.1.2.1 328 kR_257_328
  have e7 : hV H2 285 65 = hV H0 285 65 := ((f23.1.2.1.1 285 65 kF_251_285_65)).trans (f10.1.2.1.1 285 65 kF_257_285_65)
  have e8 : SO H1 = SO H0 := SO_fr f10.1.2.1 (by decide +kernel)
  have e9 : SO H2 = SO H1 := SO_fr f23.1.2.1 (by decide +kernel)
  have e10 : SO H2 = SO H0 := e9.trans e8
  have e11 : SS H1 = SS H0 := SS_fr f10.1.2.1 (by decide +kernel)
  have e12 : SS H2 = SS H1 := SS_fr f23.1.2.1 (by decide +kernel)
  have e13 : SS H2 = SS H0 := e12.trans e11
  have e14 : (0 : Int) ≤ hV H0 285 65 ∧ hV H0 285 65 ≤ 2147483647 := f7.1 285 65 _ _ kW_285_65
  have e15 : (0 : Int) ≤ hV H0 285 64 ∧ hV H0 285 64 ≤ 20 := bTo e3 (f10.1.2.2.2 285 64 _ _ kW_285_64)
  try simp only [e3, e4, e0] at f10
  try simp only [e7, e10, e13]
  have p0 := f7.2.1
  have p1 := f7.2.2.1
  have p2 := f7.2.2.2
  have r0_0 := f10.2
  have r1_0 := f23.2
  clear f14 f17 e0 e3 e4 e7 e8 e9 e10 e11 e12 e13
  subst e1
  refine ⟨?_, ?_, ?_⟩ <;> first | assumption | omega | trivial
def g_260_s_9 : vG := ([(0, [10], [], 0), (30, [9], [], 0), (1251, [9, 3, 7, 8], [1, 2], 0), (90, [9], [], 0), (91, [9], [], 1), (0, [8], [], 9999), (0, [7], [], -9999), (42, [2, 6], [], 0), (22, [6, 5, 1], [1], 0), (90, [6], [], -1), (91, [6], [], 240), (20, [5, 0], [1], 67), (0, [5], [], 329), (33, [2], [], 0), (31, [4], [], 0), (1257, [4, 0, 1], [0, 1], 0), (90, [4], [], 0), (91, [4], [], 1), (6000, [0, 1, 2, 3], [0], 0), (0, [0], [], 285), (90, [1], [], -2147483648), (91, [1], [], 2147483647), (90, [2], [], -2147483648), (91, [2], [], 2147483647), (90, [3], [], -2147483648), (91, [3], [], 2147483647)], (3000, [10], [2], 36))
theorem c_260_s_9 : vOkm T0 (eP e_260 L_260 A_260 mu_260 none) 4 g_260_s_9 := vOk_inI fun ρ η f0 f1 f2 f3 f4 f5 f6 f7 f8 f9 f10 f11 f12 f13 f14 f15 f16 f17 f18 f19 f20 f21 f22 f23 f24 f25 => q_260_9 (n0 := ρ 3) (n1 := ρ 2) (n2 := ρ 1) (n3 := ρ 0) (n4 := ρ 4) (n5 := ρ 5) (n6 := ρ 6) (n7 := ρ 7) (n8 := ρ 8) (n9 := ρ 9) (n10 := ρ 10) (H0 := η 0) (H1 := η 1) (H2 := η 2) f25 f24 f23 f22 f21 f20 f19 f18 f17 f16 f15 f14 f13 f12 f11 f10 f9 f8 f7 f6 f5 f4 f3 f2 f1 f0
def p_260_s : List vG := [g_260_s_0,
  g_260_s_1,
  g_260_s_2,
  g_260_s_3,
  g_260_s_4,
  g_260_s_5,
  g_260_s_6,
  g_260_s_7,
  g_260_s_8,
  g_260_s_9]
theorem r_260_s : vCovO false (eR0 e_260 L_260 cs_260 2000) p_260_s = true := by decide +kernel
theorem m_260 (d : Nat) : eC e_260 (d + 3) := eC_ok (e := e_260) (L := L_260) (cs := cs_260) (n := 2000) (d := d + 2) (A := A_260) (μ := mu_260) (tp := false) (p0 := p_260_s) rfl ⟨m_251 (d + 1), ⟨m_257 d, ⟨m_258 (d + 1), trivial⟩⟩⟩ rfl (.inl rfl) (by decide +kernel) (fun z => nomatch z) r_260_s (allC c_260_s_0 (allC c_260_s_1 (allC c_260_s_2 (allC c_260_s_3 (allC c_260_s_4 (allC c_260_s_5 (allC c_260_s_6 (allC c_260_s_7 (allC c_260_s_8 (allC c_260_s_9 allN)))))))))) allN
/- MixStageModel.mouth (II)I -/
noncomputable def s_261 : vM := ([(3, 12, 285, 0), (0, -2147483648, 2147483647, 0), (0, -2147483648, 2147483647, 0)], (0, -2147483648, 2147483647, 0), 0, 0, [(532, 0), (540, 0)])
noncomputable def e_261 : vE := (261, s_261, pre0, post0)
noncomputable def L_261 : List vE := [e_250, e_251]
def cs_261 : List vC := []
def A_261 : Int → List Int → gH → gH → Prop := fun c xs h0 h => True
def mu_261 : Int → List Int → gH → gH → Nat := fun c xs h0 h => 0
theorem q_261_0 {n0 n1 n2 n3 : Int} {H0 H1 : gH} (f0 : n0 = 285) (f1 : hWt T0 H0 ∧ True) (f2 : 0 ≤ n3) (f3 : (hLe T0 H0 H1 ∧ hFr s_250.2.2.2.2 H0 H1 ∧ ((0 : Int) = 0 → H1.length = H0.length) ∧ hWt T0 H1) ∧ postb_250 n3 n0 n1 H0 H1) (f4 : n3 ≠ 0) : 0 ≤ n1 ∧ n1 < 20 := by
  unfold postb_250 at f3
  have e1 : hV H1 285 64 = hV H0 285 64 := (f3.1.2.1.1 285 64 kF_250_285_64)
  have e2 : (0 : Int) ≤ hV H0 285 64 ∧ hV H0 285 64 ≤ 20 := bTo e1 (f3.1.2.2.2 285 64 _ _ kW_285_64)
  try simp only [e1] at f3
  have r0_0 := f3.2
  clear e1
  omega
def g_261_s_0 : vG := ([(31, [3], [], 0), (1250, [3, 0, 1], [0, 1], 0), (90, [3], [], 0), (6000, [0, 1, 2], [0], 0), (0, [0], [], 285)], (70, [1], [], 20))
theorem c_261_s_0 : vOkm T0 (eP e_261 L_261 A_261 mu_261 none) 3 g_261_s_0 := vOk_inI fun ρ η f0 f1 f2 f3 f4 => q_261_0 (n0 := ρ 0) (n1 := ρ 1) (n2 := ρ 2) (n3 := ρ 3) (H0 := η 0) (H1 := η 1) f4 f3 f2 f1 f0
def g_261_s_1 : vG := ([(31, [3], [], 0), (1250, [3, 0, 1], [0, 1], 0), (90, [3], [], 0), (6000, [0, 1, 2], [0], 0), (0, [0], [], 285)], (70, [1], [], 20))
theorem c_261_s_1 : vOkm T0 (eP e_261 L_261 A_261 mu_261 none) 3 g_261_s_1 := vOk_inI fun ρ η f0 f1 f2 f3 f4 => q_261_0 (n0 := ρ 0) (n1 := ρ 1) (n2 := ρ 2) (n3 := ρ 3) (H0 := η 0) (H1 := η 1) f4 f3 f2 f1 f0
theorem q_261_1 {n0 n1 n2 n3 n4 : Int} {H0 H1 : gH} (f0 : n0 = 285) (f1 : hWt T0 H0 ∧ True) (f2 : (hLe T0 H0 H1 ∧ hFr s_250.2.2.2.2 H0 H1 ∧ ((0 : Int) = 0 → H1.length = H0.length) ∧ hWt T0 H1) ∧ postb_250 n3 n0 n1 H0 H1) (f3 : n3 ≠ 0) (f4 : 0 ≤ n4) : 0 ≤ n1 ∧ n1 < 20 := by
  unfold postb_250 at f2
  have e1 : hV H1 285 64 = hV H0 285 64 := (f2.1.2.1.1 285 64 kF_250_285_64)
  have e2 : (0 : Int) ≤ hV H0 285 64 ∧ hV H0 285 64 ≤ 20 := bTo e1 (f2.1.2.2.2 285 64 _ _ kW_285_64)
  try simp only [e1] at f2
  have r0_0 := f2.2
  clear e1
  omega
def g_261_s_2 : vG := ([(90, [12], [], 0), (31, [3], [], 0), (1250, [3, 0, 1], [0, 1], 0), (6000, [0, 1, 2], [0], 0), (0, [0], [], 285)], (70, [1], [], 20))
theorem c_261_s_2 : vOkm T0 (eP e_261 L_261 A_261 mu_261 none) 3 g_261_s_2 := vOk_inI fun ρ η f0 f1 f2 f3 f4 => q_261_1 (n0 := ρ 0) (n1 := ρ 1) (n2 := ρ 2) (n3 := ρ 3) (n4 := ρ 12) (H0 := η 0) (H1 := η 1) f4 f3 f2 f1 f0
theorem kR_250_338 : vFreeR s_250.2.2.2.2 338 = true := by decide +kernel
theorem kR_251_338 : vFreeR s_251.2.2.2.2 338 = true := by decide +kernel
theorem q_261_2 {n0 n1 n2 n3 n4 n5 n6 n7 n8 n9 n10 n11 n12 n13 n14 : Int} {H0 H1 H2 : gH} (f0 : n0 = 285) (f1 : hWt T0 H0 ∧ True) (f2 : (hLe T0 H0 H1 ∧ hFr s_250.2.2.2.2 H0 H1 ∧ ((0 : Int) = 0 → H1.length = H0.length) ∧ hWt T0 H1) ∧ postb_250 n3 n0 n1 H0 H1) (f3 : n3 ≠ 0) (f4 : n4 = 338) (f5 : n5 = hV H1 (n4).toNat (n1).toNat) (f6 : n6 = 8) (f7 : n5 ≠ n6) (f8 : n7 = 0) (f9 : n8 = 59) (f10 : (hLe T0 H1 H2 ∧ hFr s_251.2.2.2.2 H1 H2 ∧ ((0 : Int) = 0 → H2.length = H1.length) ∧ hWt T0 H2) ∧ postb_251 n9 n2 n7 n8 H1 H2) (f11 : n10 = 8) (f12 : n11 = w32 (n10 * n1)) (f13 : n12 = 338) (f14 : n13 ≤ 8) (f15 : 0 ≤ n13) (f16 : n13 = hV H2 (n12).toNat (n1).toNat) (f17 : n14 = w32 (n11 + n13)) : 0 ≤ n14 ∧ n14 < 160 := by
  unfold postb_250 at f2
  unfold postb_251 at f10
  have e1 : n5 = hV H0 338 (n1).toNat := (by rw [f4] at f5; exact f5 : n5 = hV H1 338 (n1).toNat).trans ((congrFun (fRow f2.1.2.1 338 kR_250_338) _))
  have e3 : n13 = hV H0 338 (n1).toNat := (by rw [f13] at f16; exact f16 : n13 = hV H2 338 (n1).toNat).trans (((congrFun (fRow f10.1.2.1 338 kR_251_338) _)).trans ((congrFun (fRow f2.1.2.1 338 kR_250_338) _)))
  have e5 : hV H1 285 64 = hV H0 285 64 := (f2.1.2.1.1 285 64 kF_250_285_64)
  have e6 : (0 : Int) ≤ hV H0 285 64 ∧ hV H0 285 64 ≤ 20 := bTo e5 (f2.1.2.2.2 285 64 _ _ kW_285_64)
  try simp only [e5] at f2
  have r0_0 := f2.2
  have r1_0 := f10.2
  clear f5 f16 e5
  subst e1
  subst e3
  rw [f11] at f12
  first
  | (have ix0 : n11 = 8 * n1 := Eq.trans f12 (w32_id (by omega) (by omega)); subst ix0; clear f12)
  | (unfold w32 at f12; have ix0 : n11 = 8 * n1 := (by omega); subst ix0)
  | skip
  first
  | (have ix1 : n14 = (8 * n1) + hV H0 338 (n1).toNat := Eq.trans f17 (w32_id (by omega) (by omega)); subst ix1; clear f17)
  | (unfold w32 at f17; have ix1 : n14 = (8 * n1) + hV H0 338 (n1).toNat := (by omega); subst ix1)
  | skip
  try unfold w32 at f12
  try unfold w32 at f17
  omega
def g_261_s_3 : vG := ([(1, [18, 15, 17], [], 0), (22, [17, 16, 1], [2], 0), (90, [17], [], 0), (91, [17], [], 8), (0, [16], [], 338), (3, [15, 14, 1], [], 0), (0, [14], [], 8), (1251, [12, 2, 10, 11], [1, 2], 0), (0, [11], [], 59), (0, [10], [], 0), (41, [8, 9], [], 0), (0, [9], [], 8), (22, [8, 7, 1], [1], 0), (0, [7], [], 338), (31, [3], [], 0), (1250, [3, 0, 1], [0, 1], 0), (6000, [0, 1, 2], [0], 0), (0, [0], [], 285)], (70, [18], [], 160))
theorem c_261_s_3 : vOkm T0 (eP e_261 L_261 A_261 mu_261 none) 3 g_261_s_3 := vOk_inI fun ρ η f0 f1 f2 f3 f4 f5 f6 f7 f8 f9 f10 f11 f12 f13 f14 f15 f16 f17 => q_261_2 (n0 := ρ 0) (n1 := ρ 1) (n2 := ρ 2) (n3 := ρ 3) (n4 := ρ 7) (n5 := ρ 8) (n6 := ρ 9) (n7 := ρ 10) (n8 := ρ 11) (n9 := ρ 12) (n10 := ρ 14) (n11 := ρ 15) (n12 := ρ 16) (n13 := ρ 17) (n14 := ρ 18) (H0 := η 0) (H1 := η 1) (H2 := η 2) f17 f16 f15 f14 f13 f12 f11 f10 f9 f8 f7 f6 f5 f4 f3 f2 f1 f0
theorem q_261_3 {n0 n1 n2 n3 : Int} {H0 H1 H2 : gH} (f0 : n0 = 0) (f1 : n1 = 59) (f2 : (hLe T0 H1 H2 ∧ hFr s_251.2.2.2.2 H1 H2 ∧ ((0 : Int) = 0 → H2.length = H1.length) ∧ hWt T0 H2) ∧ postb_251 n2 n3 n0 n1 H1 H2) (f3 : n2 ≠ 0) : 0 ≤ n3 := by
  unfold postb_251 at f2
  have r0_0 := f2.2
  omega
def g_261_s_4 : vG := ([(31, [12], [], 0), (1251, [12, 2, 10, 11], [1, 2], 0), (0, [11], [], 59), (0, [10], [], 0)], (90, [2], [], 0))
theorem c_261_s_4 : vOkm T0 (eP e_261 L_261 A_261 mu_261 none) 3 g_261_s_4 := vOk_inI fun ρ η f0 f1 f2 f3 => q_261_3 (n0 := ρ 10) (n1 := ρ 11) (n2 := ρ 12) (n3 := ρ 2) (H0 := η 0) (H1 := η 1) (H2 := η 2) f3 f2 f1 f0
theorem q_261_4 {n0 n1 n2 n3 : Int} {H0 H1 H2 : gH} (f0 : n0 = 0) (f1 : n1 = 59) (f2 : (hLe T0 H1 H2 ∧ hFr s_251.2.2.2.2 H1 H2 ∧ ((0 : Int) = 0 → H2.length = H1.length) ∧ hWt T0 H2) ∧ postb_251 n2 n3 n0 n1 H1 H2) (f3 : n2 ≠ 0) : n3 ≤ 59 := by
  unfold postb_251 at f2
  have r0_0 := f2.2
  omega
def g_261_s_5 : vG := ([(31, [12], [], 0), (1251, [12, 2, 10, 11], [1, 2], 0), (0, [11], [], 59), (0, [10], [], 0)], (91, [2], [], 59))
theorem c_261_s_5 : vOkm T0 (eP e_261 L_261 A_261 mu_261 none) 3 g_261_s_5 := vOk_inI fun ρ η f0 f1 f2 f3 => q_261_4 (n0 := ρ 10) (n1 := ρ 11) (n2 := ρ 12) (n3 := ρ 2) (H0 := η 0) (H1 := η 1) (H2 := η 2) f3 f2 f1 f0
def g_261_s_6 : vG := ([(90, [12], [], 0), (31, [3], [], 0), (1250, [3, 0, 1], [0, 1], 0), (6000, [0, 1, 2], [0], 0), (0, [0], [], 285)], (70, [1], [], 20))
theorem c_261_s_6 : vOkm T0 (eP e_261 L_261 A_261 mu_261 none) 3 g_261_s_6 := vOk_inI fun ρ η f0 f1 f2 f3 f4 => q_261_1 (n0 := ρ 0) (n1 := ρ 1) (n2 := ρ 2) (n3 := ρ 3) (n4 := ρ 12) (H0 := η 0) (H1 := η 1) f4 f3 f2 f1 f0
def g_261_s_7 : vG := ([(90, [12], [], 0), (31, [3], [], 0), (1250, [3, 0, 1], [0, 1], 0), (6000, [0, 1, 2], [0], 0), (0, [0], [], 285)], (70, [1], [], 20))
theorem c_261_s_7 : vOkm T0 (eP e_261 L_261 A_261 mu_261 none) 3 g_261_s_7 := vOk_inI fun ρ η f0 f1 f2 f3 f4 => q_261_1 (n0 := ρ 0) (n1 := ρ 1) (n2 := ρ 2) (n3 := ρ 3) (n4 := ρ 12) (H0 := η 0) (H1 := η 1) f4 f3 f2 f1 f0
theorem q_261_5 {n0 n1 n2 : Int} {H0 : gH} (f0 : n0 ≤ 8) (f1 : 0 ≤ n0) (f2 : n1 = 1) (f3 : n2 = w32 (n0 + n1)) : 0 ≤ n2 := by
  first
  | (have ix0 : n2 = n0 + 1 := Eq.trans f3 (w32_iv (Iad (Iat f1 f0) (IC 1)) (by decide)); subst ix0; clear f3)
  | (have ix0 : n2 = n0 + 1 := Eq.trans f3 (w32_id (by omega) (by omega)); subst ix0; clear f3)
  | (unfold w32 at f3; have ix0 : n2 = n0 + 1 := (by omega); subst ix0)
  | skip
  try unfold w32 at f3
  omega
def g_261_s_8 : vG := ([(1, [22, 20, 21], [], 0), (0, [21], [], 1), (90, [20], [], 0), (91, [20], [], 8)], (90, [22], [], 0))
theorem c_261_s_8 : vOkm T0 (eP e_261 L_261 A_261 mu_261 none) 3 g_261_s_8 := vOk_inI fun ρ η f0 f1 f2 f3 => q_261_5 (n0 := ρ 20) (n1 := ρ 21) (n2 := ρ 22) (H0 := η 0) f3 f2 f1 f0
theorem q_261_6 {n0 n1 n2 n3 n4 n5 n6 n7 n8 n9 n10 n11 n12 n13 : Int} {H0 H1 H2 H3 : gH} (f0 : n0 = 338) (f1 : n1 = hV H1 (n0).toNat (n2).toNat) (f2 : n3 = 8) (f3 : n1 ≠ n3) (f4 : n4 = 0) (f5 : n5 = 59) (f6 : (hLe T0 H1 H2 ∧ hFr s_251.2.2.2.2 H1 H2 ∧ ((0 : Int) = 0 → H2.length = H1.length) ∧ hWt T0 H2) ∧ postb_251 n6 n7 n4 n5 H1 H2) (f7 : n8 = 339) (f8 : hUpd H3 H2 n8 n9 n7) (f9 : n10 = 338) (f10 : n11 ≤ 8) (f11 : 0 ≤ n11) (f12 : n11 = hV H3 (n10).toNat (n2).toNat) (f13 : n12 = 1) (f14 : n13 = w32 (n11 + n12)) : n13 ≤ 8 := by
  unfold postb_251 at f6
  have e0 : n1 = hV H1 338 (n2).toNat := (by rw [f0] at f1; exact f1 : n1 = hV H1 338 (n2).toNat)
  have e3 : n11 = hV H1 338 (n2).toNat := (by rw [f9] at f12; exact f12 : n11 = hV H3 338 (n2).toNat).trans (((congrFun (uRowNe f8 338 (iS (show n8 = ((339 : Nat) : Int) from f7) rfl)) _)).trans ((congrFun (fRow f6.1.2.1 338 kR_251_338) _)))
  have r0_0 := f6.2
  clear f1 f12
  subst e0
  subst e3
  first
  | (have ix0 : n13 = hV H1 338 (n2).toNat + 1 := Eq.trans f14 (w32_iv (Iad (Iat f11 f10) (IC 1)) (by decide)); subst ix0; clear f14)
  | (have ix0 : n13 = hV H1 338 (n2).toNat + 1 := Eq.trans f14 (w32_id (by omega) (by omega)); subst ix0; clear f14)
  | (unfold w32 at f14; have ix0 : n13 = hV H1 338 (n2).toNat + 1 := (by omega); subst ix0)
  | skip
  try unfold w32 at f14
  omega
def g_261_s_9 : vG := ([(1, [22, 20, 21], [], 0), (0, [21], [], 1), (22, [20, 19, 1], [3], 0), (90, [20], [], 0), (91, [20], [], 8), (0, [19], [], 338), (80, [13, 18, 2], [3, 2], 0), (0, [13], [], 339), (1251, [12, 2, 10, 11], [1, 2], 0), (0, [11], [], 59), (0, [10], [], 0), (41, [8, 9], [], 0), (0, [9], [], 8), (22, [8, 7, 1], [1], 0), (0, [7], [], 338)], (91, [22], [], 8))
theorem c_261_s_9 : vOkm T0 (eP e_261 L_261 A_261 mu_261 none) 3 g_261_s_9 := vOk_inI fun ρ η f0 f1 f2 f3 f4 f5 f6 f7 f8 f9 f10 f11 f12 f13 f14 => q_261_6 (n0 := ρ 7) (n1 := ρ 8) (n2 := ρ 1) (n3 := ρ 9) (n4 := ρ 10) (n5 := ρ 11) (n6 := ρ 12) (n7 := ρ 2) (n8 := ρ 13) (n9 := ρ 18) (n10 := ρ 19) (n11 := ρ 20) (n12 := ρ 21) (n13 := ρ 22) (H0 := η 0) (H1 := η 1) (H2 := η 2) (H3 := η 3) f14 f13 f12 f11 f10 f9 f8 f7 f6 f5 f4 f3 f2 f1 f0
def g_261_s_10 : vG := ([(90, [12], [], 0), (31, [3], [], 0), (1250, [3, 0, 1], [0, 1], 0), (6000, [0, 1, 2], [0], 0), (0, [0], [], 285)], (70, [1], [], 20))
theorem c_261_s_10 : vOkm T0 (eP e_261 L_261 A_261 mu_261 none) 3 g_261_s_10 := vOk_inI fun ρ η f0 f1 f2 f3 f4 => q_261_1 (n0 := ρ 0) (n1 := ρ 1) (n2 := ρ 2) (n3 := ρ 3) (n4 := ρ 12) (H0 := η 0) (H1 := η 1) f4 f3 f2 f1 f0
def p_261_s : List vG := [g_261_s_0,
  g_261_s_1,
  g_261_s_2,
  g_261_s_3,
  g_261_s_4,
  g_261_s_5,
  g_261_s_6,
  g_261_s_7,
  g_261_s_8,
  g_261_s_9,
  g_261_s_10]
theorem r_261_s : vCovO true (eR0 e_261 L_261 cs_261 2000) p_261_s = true := by decide +kernel
theorem m_261 (d : Nat) : eC e_261 (d + 2) := eC_ok (e := e_261) (L := L_261) (cs := cs_261) (n := 2000) (d := d + 1) (A := A_261) (μ := mu_261) (tp := true) (p0 := p_261_s) rfl ⟨m_250 d, ⟨m_251 d, trivial⟩⟩ rfl (.inr pre0_ok) (by decide +kernel) (fun _ => post0_ok) r_261_s (allC c_261_s_0 (allC c_261_s_1 (allC c_261_s_2 (allC c_261_s_3 (allC c_261_s_4 (allC c_261_s_5 (allC c_261_s_6 (allC c_261_s_7 (allC c_261_s_8 (allC c_261_s_9 (allC c_261_s_10 allN))))))))))) allN
/- MixStageModel.mark (II)Z -/
noncomputable def s_262 : vM := ([(3, 12, 285, 0), (0, -2147483648, 2147483647, 0), (0, -2147483648, 2147483647, 0)], (0, 0, 1, 0), 1, 0, [(12, 65), (548, 0), (556, 0)])
def preb_262 (a0 a1 a2 : Int) (h : gH) : Prop := hV h 285 65 ≤ 20000 ∧ SO h ∧ SS h
def pre_262 : List Int → gH → Prop := fun xs h => match xs with
  | [a0, a1, a2] => preb_262 a0 a1 a2 h
  | _ => False
def postb_262 (r a0 a1 a2 : Int) (h0 h : gH) : Prop := SS h ∧ hV h 285 65 ≤ hV h0 285 65 + 1
def post_262 : List Int → gH → gH → Prop := fun xs h0 h => match xs with
  | [r, a0, a1, a2] => postb_262 r a0 a1 a2 h0 h
  | _ => True
noncomputable def e_262 : vE := (262, s_262, pre_262, post_262)
noncomputable def L_262 : List vE := [e_251]
def cs_262 : List vC := []
def A_262 : Int → List Int → gH → gH → Prop := fun c xs h0 h => True
def mu_262 : Int → List Int → gH → gH → Nat := fun c xs h0 h => 0
theorem q_262_0 {n0 n1 n2 n3 n4 n5 n6 : Int} {H0 H1 : gH} (f0 : n0 ≤ 2147483647) (f1 : (-2147483648) ≤ n0) (f2 : n1 ≤ 2147483647) (f3 : (-2147483648) ≤ n1) (f4 : n2 = 285) (f5 : hWt T0 H0 ∧ preb_262 n2 n1 n0 H0) (f6 : n3 = 0) (f7 : n4 = 7) (f8 : n5 ≤ 1) (f9 : 0 ≤ n5) (f10 : (hLe T0 H0 H1 ∧ hFr s_251.2.2.2.2 H0 H1 ∧ ((0 : Int) = 0 → H1.length = H0.length) ∧ hWt T0 H1) ∧ postb_251 n5 n1 n3 n4 H0 H1) (f11 : n5 = 0) (f12 : n6 = 0) : postb_262 n6 n2 n1 n0 H0 H1 := by
  unfold preb_262 at f5
  unfold postb_251 at f10
  unfold postb_262
  have e1 : hV H1 285 65 = hV H0 285 65 := (f10.1.2.1.1 285 65 kF_251_285_65)
  have e2 : hV H1 333 = hV H0 333 := fRow f10.1.2.1 333 kR_251_333
  have e3 : hV H1 334 = hV H0 334 := fRow f10.1.2.1 334 kR_251_334
  have e4 : hV H1 341 = hV H0 341 := fRow f10.1.2.1 341 kR_251_341
  have e5 : (0 : Int) ≤ hV H0 285 65 ∧ hV H0 285 65 ≤ 2147483647 := f5.1 285 65 _ _ kW_285_65
  try simp only [SS] at *
  try simp only [e1, e2, e3, e4]
  have p0 := f5.2.1
  have p1 := f5.2.2.1
  have p2 := f5.2.2.2
  have r0_0 := f10.2
  clear e1 e2 e3 e4

  first
  | exact ⟨p2, by omega⟩
  | exact ⟨SSp_mark p2 (by omega) (by omega), by omega⟩
def g_262_s_0 : vG := ([(0, [6], [], 0), (30, [5], [], 0), (1251, [5, 1, 3, 4], [0, 1], 0), (90, [5], [], 0), (91, [5], [], 1), (0, [4], [], 7), (0, [3], [], 0), (6000, [0, 1, 2], [0], 0), (0, [0], [], 285), (90, [1], [], -2147483648), (91, [1], [], 2147483647), (90, [2], [], -2147483648), (91, [2], [], 2147483647)], (3000, [6], [1], 21))
theorem c_262_s_0 : vOkm T0 (eP e_262 L_262 A_262 mu_262 none) 3 g_262_s_0 := vOk_inI fun ρ η f0 f1 f2 f3 f4 f5 f6 f7 f8 f9 f10 f11 f12 => q_262_0 (n0 := ρ 2) (n1 := ρ 1) (n2 := ρ 0) (n3 := ρ 3) (n4 := ρ 4) (n5 := ρ 5) (n6 := ρ 6) (H0 := η 0) (H1 := η 1) f12 f11 f10 f9 f8 f7 f6 f5 f4 f3 f2 f1 f0
theorem q_262_1 {n0 n1 n2 n3 n4 : Int} {H0 H1 : gH} (f0 : n0 = 0) (f1 : n1 = 7) (f2 : (hLe T0 H0 H1 ∧ hFr s_251.2.2.2.2 H0 H1 ∧ ((0 : Int) = 0 → H1.length = H0.length) ∧ hWt T0 H1) ∧ postb_251 n2 n3 n0 n1 H0 H1) (f3 : n2 ≠ 0) (f4 : 0 ≤ n4) : 0 ≤ n3 ∧ n3 < 8 := by
  unfold postb_251 at f2
  have r0_0 := f2.2
  omega
def g_262_s_1 : vG := ([(90, [8], [], 0), (31, [5], [], 0), (1251, [5, 1, 3, 4], [0, 1], 0), (0, [4], [], 7), (0, [3], [], 0)], (70, [1], [], 8))
theorem c_262_s_1 : vOkm T0 (eP e_262 L_262 A_262 mu_262 none) 3 g_262_s_1 := vOk_inI fun ρ η f0 f1 f2 f3 f4 => q_262_1 (n0 := ρ 3) (n1 := ρ 4) (n2 := ρ 5) (n3 := ρ 1) (n4 := ρ 8) (H0 := η 0) (H1 := η 1) f4 f3 f2 f1 f0
theorem q_262_2 {n0 n1 n2 n3 : Int} {H0 H1 H2 : gH} (f0 : n0 = 0) (f1 : n1 = 60) (f2 : (hLe T0 H1 H2 ∧ hFr s_251.2.2.2.2 H1 H2 ∧ ((0 : Int) = 0 → H2.length = H1.length) ∧ hWt T0 H2) ∧ postb_251 n2 n3 n0 n1 H1 H2) (f3 : n2 ≠ 0) : 0 ≤ n3 := by
  unfold postb_251 at f2
  have r0_0 := f2.2
  omega
def g_262_s_2 : vG := ([(31, [8], [], 0), (1251, [8, 2, 6, 7], [1, 2], 0), (0, [7], [], 60), (0, [6], [], 0)], (90, [2], [], 0))
theorem c_262_s_2 : vOkm T0 (eP e_262 L_262 A_262 mu_262 none) 3 g_262_s_2 := vOk_inI fun ρ η f0 f1 f2 f3 => q_262_2 (n0 := ρ 6) (n1 := ρ 7) (n2 := ρ 8) (n3 := ρ 2) (H0 := η 0) (H1 := η 1) (H2 := η 2) f3 f2 f1 f0
theorem q_262_3 {n0 n1 n2 n3 : Int} {H0 H1 H2 : gH} (f0 : n0 = 0) (f1 : n1 = 60) (f2 : (hLe T0 H1 H2 ∧ hFr s_251.2.2.2.2 H1 H2 ∧ ((0 : Int) = 0 → H2.length = H1.length) ∧ hWt T0 H2) ∧ postb_251 n2 n3 n0 n1 H1 H2) (f3 : n2 ≠ 0) : n3 ≤ 60 := by
  unfold postb_251 at f2
  have r0_0 := f2.2
  omega
def g_262_s_3 : vG := ([(31, [8], [], 0), (1251, [8, 2, 6, 7], [1, 2], 0), (0, [7], [], 60), (0, [6], [], 0)], (91, [2], [], 60))
theorem c_262_s_3 : vOkm T0 (eP e_262 L_262 A_262 mu_262 none) 3 g_262_s_3 := vOk_inI fun ρ η f0 f1 f2 f3 => q_262_3 (n0 := ρ 6) (n1 := ρ 7) (n2 := ρ 8) (n3 := ρ 2) (H0 := η 0) (H1 := η 1) (H2 := η 2) f3 f2 f1 f0
theorem q_262_4 {n0 n1 n2 n3 n4 n5 n6 n7 n8 n9 n10 n11 n12 : Int} {H0 H1 H2 H3 : gH} (f0 : n0 = 285) (f1 : hWt T0 H0 ∧ preb_262 n0 n1 n2 H0) (f2 : n3 = 0) (f3 : n4 = 7) (f4 : (hLe T0 H0 H1 ∧ hFr s_251.2.2.2.2 H0 H1 ∧ ((0 : Int) = 0 → H1.length = H0.length) ∧ hWt T0 H1) ∧ postb_251 n5 n1 n3 n4 H0 H1) (f5 : n6 = 0) (f6 : n7 = 60) (f7 : (hLe T0 H1 H2 ∧ hFr s_251.2.2.2.2 H1 H2 ∧ ((0 : Int) = 0 → H2.length = H1.length) ∧ hWt T0 H2) ∧ postb_251 n8 n2 n6 n7 H1 H2) (f8 : n9 = 340) (f9 : hUpd H3 H2 n9 n1 n2) (f10 : n10 = hV H3 (n0).toNat 65) (f11 : n11 = 1) (f12 : n12 = w32 (n10 + n11)) : 0 ≤ n12 := by
  unfold preb_262 at f1
  unfold postb_251 at f4
  unfold postb_251 at f7
  have e3 : n10 = hV H0 285 65 := (by rw [f0] at f10; exact f10 : n10 = hV H3 285 65).trans (((uPlace f9 285 65 (iS (show n9 = ((340 : Nat) : Int) from f8) rfl))).trans (((f7.1.2.1.1 285 65 kF_251_285_65)).trans (f4.1.2.1.1 285 65 kF_251_285_65)))
  have e4 : (0 : Int) ≤ hV H0 285 65 ∧ hV H0 285 65 ≤ 2147483647 := f1.1 285 65 _ _ kW_285_65
  have p0 := f1.2.1
  have p1 := f1.2.2.1
  have p2 := f1.2.2.2
  have r0_0 := f4.2
  have r1_0 := f7.2
  clear f10
  subst e3
  first
  | (have ix0 : n12 = hV H0 285 65 + 1 := Eq.trans f12 (w32_id (by omega) (by omega)); subst ix0; clear f12)
  | (unfold w32 at f12; have ix0 : n12 = hV H0 285 65 + 1 := (by omega); subst ix0)
  | skip
  try unfold w32 at f12
  omega
def g_262_s_4 : vG := ([(1, [12, 10, 11], [], 0), (0, [11], [], 1), (20, [10, 0], [3], 65), (80, [9, 1, 2], [3, 2], 0), (0, [9], [], 340), (1251, [8, 2, 6, 7], [1, 2], 0), (0, [7], [], 60), (0, [6], [], 0), (1251, [5, 1, 3, 4], [0, 1], 0), (0, [4], [], 7), (0, [3], [], 0), (6000, [0, 1, 2], [0], 0), (0, [0], [], 285)], (90, [12], [], 0))
theorem c_262_s_4 : vOkm T0 (eP e_262 L_262 A_262 mu_262 none) 3 g_262_s_4 := vOk_inI fun ρ η f0 f1 f2 f3 f4 f5 f6 f7 f8 f9 f10 f11 f12 => q_262_4 (n0 := ρ 0) (n1 := ρ 1) (n2 := ρ 2) (n3 := ρ 3) (n4 := ρ 4) (n5 := ρ 5) (n6 := ρ 6) (n7 := ρ 7) (n8 := ρ 8) (n9 := ρ 9) (n10 := ρ 10) (n11 := ρ 11) (n12 := ρ 12) (H0 := η 0) (H1 := η 1) (H2 := η 2) (H3 := η 3) f12 f11 f10 f9 f8 f7 f6 f5 f4 f3 f2 f1 f0
theorem q_262_5 {n0 n1 n2 n3 n4 n5 n6 n7 n8 n9 n10 n11 n12 : Int} {H0 H1 H2 H3 : gH} (f0 : n0 = 285) (f1 : hWt T0 H0 ∧ preb_262 n0 n1 n2 H0) (f2 : n3 = 0) (f3 : n4 = 7) (f4 : (hLe T0 H0 H1 ∧ hFr s_251.2.2.2.2 H0 H1 ∧ ((0 : Int) = 0 → H1.length = H0.length) ∧ hWt T0 H1) ∧ postb_251 n5 n1 n3 n4 H0 H1) (f5 : n6 = 0) (f6 : n7 = 60) (f7 : (hLe T0 H1 H2 ∧ hFr s_251.2.2.2.2 H1 H2 ∧ ((0 : Int) = 0 → H2.length = H1.length) ∧ hWt T0 H2) ∧ postb_251 n8 n2 n6 n7 H1 H2) (f8 : n9 = 340) (f9 : hUpd H3 H2 n9 n1 n2) (f10 : n10 = hV H3 (n0).toNat 65) (f11 : n11 = 1) (f12 : n12 = w32 (n10 + n11)) : n12 ≤ 2147483647 := by
  unfold preb_262 at f1
  unfold postb_251 at f4
  unfold postb_251 at f7
  have e3 : n10 = hV H0 285 65 := (by rw [f0] at f10; exact f10 : n10 = hV H3 285 65).trans (((uPlace f9 285 65 (iS (show n9 = ((340 : Nat) : Int) from f8) rfl))).trans (((f7.1.2.1.1 285 65 kF_251_285_65)).trans (f4.1.2.1.1 285 65 kF_251_285_65)))
  have e4 : (0 : Int) ≤ hV H0 285 65 ∧ hV H0 285 65 ≤ 2147483647 := f1.1 285 65 _ _ kW_285_65
  have p0 := f1.2.1
  have p1 := f1.2.2.1
  have p2 := f1.2.2.2
  have r0_0 := f4.2
  have r1_0 := f7.2
  clear f10
  subst e3
  first
  | (have ix0 : n12 = hV H0 285 65 + 1 := Eq.trans f12 (w32_id (by omega) (by omega)); subst ix0; clear f12)
  | (unfold w32 at f12; have ix0 : n12 = hV H0 285 65 + 1 := (by omega); subst ix0)
  | skip
  try unfold w32 at f12
  omega
def g_262_s_5 : vG := ([(1, [12, 10, 11], [], 0), (0, [11], [], 1), (20, [10, 0], [3], 65), (80, [9, 1, 2], [3, 2], 0), (0, [9], [], 340), (1251, [8, 2, 6, 7], [1, 2], 0), (0, [7], [], 60), (0, [6], [], 0), (1251, [5, 1, 3, 4], [0, 1], 0), (0, [4], [], 7), (0, [3], [], 0), (6000, [0, 1, 2], [0], 0), (0, [0], [], 285)], (91, [12], [], 2147483647))
theorem c_262_s_5 : vOkm T0 (eP e_262 L_262 A_262 mu_262 none) 3 g_262_s_5 := vOk_inI fun ρ η f0 f1 f2 f3 f4 f5 f6 f7 f8 f9 f10 f11 f12 => q_262_5 (n0 := ρ 0) (n1 := ρ 1) (n2 := ρ 2) (n3 := ρ 3) (n4 := ρ 4) (n5 := ρ 5) (n6 := ρ 6) (n7 := ρ 7) (n8 := ρ 8) (n9 := ρ 9) (n10 := ρ 10) (n11 := ρ 11) (n12 := ρ 12) (H0 := η 0) (H1 := η 1) (H2 := η 2) (H3 := η 3) f12 f11 f10 f9 f8 f7 f6 f5 f4 f3 f2 f1 f0
def g_262_s_6 : vG := ([(90, [15], [], 0), (31, [5], [], 0), (1251, [5, 1, 3, 4], [0, 1], 0), (0, [4], [], 7), (0, [3], [], 0)], (70, [1], [], 8))
theorem c_262_s_6 : vOkm T0 (eP e_262 L_262 A_262 mu_262 none) 3 g_262_s_6 := vOk_inI fun ρ η f0 f1 f2 f3 f4 => q_262_1 (n0 := ρ 3) (n1 := ρ 4) (n2 := ρ 5) (n3 := ρ 1) (n4 := ρ 15) (H0 := η 0) (H1 := η 1) f4 f3 f2 f1 f0
theorem q_262_6 {n0 n1 n2 n3 n4 n5 n6 n7 n8 n9 n10 n11 n12 n13 n14 n15 n16 : Int} {H0 H1 H2 H3 H4 H5 : gH} (f0 : n0 ≤ 2147483647) (f1 : (-2147483648) ≤ n0) (f2 : n1 ≤ 2147483647) (f3 : (-2147483648) ≤ n1) (f4 : n2 = 285) (f5 : hWt T0 H0 ∧ preb_262 n2 n1 n0 H0) (f6 : n3 = 0) (f7 : n4 = 7) (f8 : n5 ≤ 1) (f9 : 0 ≤ n5) (f10 : (hLe T0 H0 H1 ∧ hFr s_251.2.2.2.2 H0 H1 ∧ ((0 : Int) = 0 → H1.length = H0.length) ∧ hWt T0 H1) ∧ postb_251 n5 n1 n3 n4 H0 H1) (f11 : n5 ≠ 0) (f12 : n6 = 0) (f13 : n7 = 60) (f14 : n8 ≤ 1) (f15 : 0 ≤ n8) (f16 : (hLe T0 H1 H2 ∧ hFr s_251.2.2.2.2 H1 H2 ∧ ((0 : Int) = 0 → H2.length = H1.length) ∧ hWt T0 H2) ∧ postb_251 n8 n0 n6 n7 H1 H2) (f17 : n8 ≠ 0) (f18 : n9 = 340) (f19 : n9 = hV H2 (n2).toNat 78) (f20 : hUpd H3 H2 n9 n1 n0) (f21 : n10 ≤ 2147483647) (f22 : 0 ≤ n10) (f23 : n10 = hV H3 (n2).toNat 65) (f24 : n11 = 1) (f25 : n12 = w32 (n10 + n11)) (f26 : n13 = 65) (f27 : hUpd H4 H3 n2 n13 n12) (f28 : n14 = 341) (f29 : n14 = hV H4 (n2).toNat 79) (f30 : n15 ≤ 2147483647) (f31 : 0 ≤ n15) (f32 : n15 = hV H4 (n2).toNat 65) (f33 : hUpd H5 H4 n14 n1 n15) (f34 : n16 = 1) : postb_262 n16 n2 n1 n0 H0 H5 := by
  unfold preb_262 at f5
  unfold postb_251 at f10
  unfold postb_251 at f16
  unfold postb_262
  have e3 : n10 = hV H0 285 65 := (by rw [f4] at f23; exact f23 : n10 = hV H3 285 65).trans (((uPlace f20 285 65 (iS (show n9 = ((340 : Nat) : Int) from f18) rfl))).trans (((f16.1.2.1.1 285 65 kF_251_285_65)).trans (f10.1.2.1.1 285 65 kF_251_285_65)))
  have e5 : n15 = n12 := (by rw [f4] at f32; exact f32 : n15 = hV H4 285 65).trans ((uSame f27 285 65 f4.symm f26.symm))
  have e7 : hV H5 285 65 = n12 := ((uPlace f33 285 65 (iS (show n14 = ((341 : Nat) : Int) from f28) rfl))).trans (uSame f27 285 65 f4.symm f26.symm)
  have e16 : hV H5 333 = hV H0 333 := (uRowNe f33 333 (iS (show n14 = ((341 : Nat) : Int) from f28) rfl)).trans ((uRowNe f27 333 (iS (show n2 = ((285 : Nat) : Int) from f4) rfl)).trans ((uRowNe f20 333 (iS (show n9 = ((340 : Nat) : Int) from f18) rfl)).trans ((fRow f16.1.2.1 333 kR_251_333).trans (fRow f10.1.2.1 333 kR_251_333))))
  have e25 : hV H5 334 = hV H0 334 := (uRowNe f33 334 (iS (show n14 = ((341 : Nat) : Int) from f28) rfl)).trans ((uRowNe f27 334 (iS (show n2 = ((285 : Nat) : Int) from f4) rfl)).trans ((uRowNe f20 334 (iS (show n9 = ((340 : Nat) : Int) from f18) rfl)).trans ((fRow f16.1.2.1 334 kR_251_334).trans (fRow f10.1.2.1 334 kR_251_334))))
  have e34 : hV H5 341 = (uF (hV H0 341) n1 n15) := (uRow f33 341 f28.symm).trans (congrArg (fun z => uF z n1 n15) ((uRowNe f27 341 (iS (show n2 = ((285 : Nat) : Int) from f4) rfl)).trans ((uRowNe f20 341 (iS (show n9 = ((340 : Nat) : Int) from f18) rfl)).trans ((fRow f16.1.2.1 341 kR_251_341).trans (fRow f10.1.2.1 341 kR_251_341)))))
  have e35 : (0 : Int) ≤ hV H0 285 65 ∧ hV H0 285 65 ≤ 2147483647 := f5.1 285 65 _ _ kW_285_65
  try simp only [SS] at *
  try simp only [e7, e16, e25, e34]
  have p0 := f5.2.1
  have p1 := f5.2.2.1
  have p2 := f5.2.2.2
  have r0_0 := f10.2
  have r1_0 := f16.2
  clear f19 f23 f29 f32 e16 e25 e34
  subst e3
  first
  | (have ix0 : n12 = hV H0 285 65 + 1 := Eq.trans f25 (w32_id (by omega) (by omega)); subst ix0; clear f25)
  | (unfold w32 at f25; have ix0 : n12 = hV H0 285 65 + 1 := (by omega); subst ix0)
  | skip
  try unfold w32 at f25

  first
  | exact ⟨p2, by omega⟩
  | exact ⟨SSp_mark p2 (by omega) (by omega), by omega⟩
def g_262_s_7 : vG := ([(0, [16], [], 1), (80, [14, 1, 15], [5, 4], 0), (20, [15, 0], [4], 65), (90, [15], [], 0), (91, [15], [], 2147483647), (20, [14, 0], [4], 79), (0, [14], [], 341), (80, [0, 13, 12], [4, 3], 0), (0, [13], [], 65), (1, [12, 10, 11], [], 0), (0, [11], [], 1), (20, [10, 0], [3], 65), (90, [10], [], 0), (91, [10], [], 2147483647), (80, [9, 1, 2], [3, 2], 0), (20, [9, 0], [2], 78), (0, [9], [], 340), (31, [8], [], 0), (1251, [8, 2, 6, 7], [1, 2], 0), (90, [8], [], 0), (91, [8], [], 1), (0, [7], [], 60), (0, [6], [], 0), (31, [5], [], 0), (1251, [5, 1, 3, 4], [0, 1], 0), (90, [5], [], 0), (91, [5], [], 1), (0, [4], [], 7), (0, [3], [], 0), (6000, [0, 1, 2], [0], 0), (0, [0], [], 285), (90, [1], [], -2147483648), (91, [1], [], 2147483647), (90, [2], [], -2147483648), (91, [2], [], 2147483647)], (3000, [16], [5], 50))
theorem c_262_s_7 : vOkm T0 (eP e_262 L_262 A_262 mu_262 none) 3 g_262_s_7 := vOk_inI fun ρ η f0 f1 f2 f3 f4 f5 f6 f7 f8 f9 f10 f11 f12 f13 f14 f15 f16 f17 f18 f19 f20 f21 f22 f23 f24 f25 f26 f27 f28 f29 f30 f31 f32 f33 f34 => q_262_6 (n0 := ρ 2) (n1 := ρ 1) (n2 := ρ 0) (n3 := ρ 3) (n4 := ρ 4) (n5 := ρ 5) (n6 := ρ 6) (n7 := ρ 7) (n8 := ρ 8) (n9 := ρ 9) (n10 := ρ 10) (n11 := ρ 11) (n12 := ρ 12) (n13 := ρ 13) (n14 := ρ 14) (n15 := ρ 15) (n16 := ρ 16) (H0 := η 0) (H1 := η 1) (H2 := η 2) (H3 := η 3) (H4 := η 4) (H5 := η 5) f34 f33 f32 f31 f30 f29 f28 f27 f26 f25 f24 f23 f22 f21 f20 f19 f18 f17 f16 f15 f14 f13 f12 f11 f10 f9 f8 f7 f6 f5 f4 f3 f2 f1 f0
theorem q_262_7 {n0 n1 n2 n3 n4 n5 n6 n7 n8 n9 : Int} {H0 H1 H2 : gH} (f0 : n0 ≤ 2147483647) (f1 : (-2147483648) ≤ n0) (f2 : n1 ≤ 2147483647) (f3 : (-2147483648) ≤ n1) (f4 : n2 = 285) (f5 : hWt T0 H0 ∧ preb_262 n2 n1 n0 H0) (f6 : n3 = 0) (f7 : n4 = 7) (f8 : n5 ≤ 1) (f9 : 0 ≤ n5) (f10 : (hLe T0 H0 H1 ∧ hFr s_251.2.2.2.2 H0 H1 ∧ ((0 : Int) = 0 → H1.length = H0.length) ∧ hWt T0 H1) ∧ postb_251 n5 n1 n3 n4 H0 H1) (f11 : n5 ≠ 0) (f12 : n6 = 0) (f13 : n7 = 60) (f14 : n8 ≤ 1) (f15 : 0 ≤ n8) (f16 : (hLe T0 H1 H2 ∧ hFr s_251.2.2.2.2 H1 H2 ∧ ((0 : Int) = 0 → H2.length = H1.length) ∧ hWt T0 H2) ∧ postb_251 n8 n0 n6 n7 H1 H2) (f17 : n8 = 0) (f18 : n9 = 0) : postb_262 n9 n2 n1 n0 H0 H2 := by
  unfold preb_262 at f5
  unfold postb_251 at f10
  unfold postb_251 at f16
  unfold postb_262
  have e2 : hV H2 285 65 = hV H0 285 65 := ((f16.1.2.1.1 285 65 kF_251_285_65)).trans (f10.1.2.1.1 285 65 kF_251_285_65)
  have e5 : hV H2 333 = hV H0 333 := (fRow f16.1.2.1 333 kR_251_333).trans (fRow f10.1.2.1 333 kR_251_333)
  have e8 : hV H2 334 = hV H0 334 := (fRow f16.1.2.1 334 kR_251_334).trans (fRow f10.1.2.1 334 kR_251_334)
  have e11 : hV H2 341 = hV H0 341 := (fRow f16.1.2.1 341 kR_251_341).trans (fRow f10.1.2.1 341 kR_251_341)
  have e12 : (0 : Int) ≤ hV H0 285 65 ∧ hV H0 285 65 ≤ 2147483647 := f5.1 285 65 _ _ kW_285_65
  try simp only [SS] at *
  try simp only [e2, e5, e8, e11]
  have p0 := f5.2.1
  have p1 := f5.2.2.1
  have p2 := f5.2.2.2
  have r0_0 := f10.2
  have r1_0 := f16.2
  clear e2 e5 e8 e11

  first
  | exact ⟨p2, by omega⟩
  | exact ⟨SSp_mark p2 (by omega) (by omega), by omega⟩
def g_262_s_8 : vG := ([(0, [9], [], 0), (30, [8], [], 0), (1251, [8, 2, 6, 7], [1, 2], 0), (90, [8], [], 0), (91, [8], [], 1), (0, [7], [], 60), (0, [6], [], 0), (31, [5], [], 0), (1251, [5, 1, 3, 4], [0, 1], 0), (90, [5], [], 0), (91, [5], [], 1), (0, [4], [], 7), (0, [3], [], 0), (6000, [0, 1, 2], [0], 0), (0, [0], [], 285), (90, [1], [], -2147483648), (91, [1], [], 2147483647), (90, [2], [], -2147483648), (91, [2], [], 2147483647)], (3000, [9], [2], 21))
theorem c_262_s_8 : vOkm T0 (eP e_262 L_262 A_262 mu_262 none) 3 g_262_s_8 := vOk_inI fun ρ η f0 f1 f2 f3 f4 f5 f6 f7 f8 f9 f10 f11 f12 f13 f14 f15 f16 f17 f18 => q_262_7 (n0 := ρ 2) (n1 := ρ 1) (n2 := ρ 0) (n3 := ρ 3) (n4 := ρ 4) (n5 := ρ 5) (n6 := ρ 6) (n7 := ρ 7) (n8 := ρ 8) (n9 := ρ 9) (H0 := η 0) (H1 := η 1) (H2 := η 2) f18 f17 f16 f15 f14 f13 f12 f11 f10 f9 f8 f7 f6 f5 f4 f3 f2 f1 f0
def p_262_s : List vG := [g_262_s_0,
  g_262_s_1,
  g_262_s_2,
  g_262_s_3,
  g_262_s_4,
  g_262_s_5,
  g_262_s_6,
  g_262_s_7,
  g_262_s_8]
theorem r_262_s : vCovO false (eR0 e_262 L_262 cs_262 2000) p_262_s = true := by decide +kernel
theorem m_262 (d : Nat) : eC e_262 (d + 2) := eC_ok (e := e_262) (L := L_262) (cs := cs_262) (n := 2000) (d := d + 1) (A := A_262) (μ := mu_262) (tp := false) (p0 := p_262_s) rfl ⟨m_251 d, trivial⟩ rfl (.inl rfl) (by decide +kernel) (fun z => nomatch z) r_262_s (allC c_262_s_0 (allC c_262_s_1 (allC c_262_s_2 (allC c_262_s_3 (allC c_262_s_4 (allC c_262_s_5 (allC c_262_s_6 (allC c_262_s_7 (allC c_262_s_8 allN))))))))) allN
/- MixStageModel.hisses (II)Z -/
noncomputable def s_263 : vM := ([(3, 12, 285, 0), (0, -2147483648, 2147483647, 0), (0, -2147483648, 2147483647, 0)], (0, 0, 1, 0), 0, 0, [(564, 0)])
noncomputable def e_263 : vE := (263, s_263, pre0, post0)
noncomputable def L_263 : List vE := [e_251]
def cs_263 : List vC := []
def A_263 : Int → List Int → gH → gH → Prop := fun c xs h0 h => True
def mu_263 : Int → List Int → gH → gH → Nat := fun c xs h0 h => 0
theorem q_263_0 {n0 n1 n2 n3 n4 : Int} {H0 H1 : gH} (f0 : n0 = 0) (f1 : n1 = 7) (f2 : (hLe T0 H0 H1 ∧ hFr s_251.2.2.2.2 H0 H1 ∧ ((0 : Int) = 0 → H1.length = H0.length) ∧ hWt T0 H1) ∧ postb_251 n2 n3 n0 n1 H0 H1) (f3 : n2 ≠ 0) (f4 : 0 ≤ n4) : 0 ≤ n3 ∧ n3 < 8 := by
  unfold postb_251 at f2
  have r0_0 := f2.2
  omega
def g_263_s_0 : vG := ([(90, [8], [], 0), (31, [5], [], 0), (1251, [5, 1, 3, 4], [0, 1], 0), (0, [4], [], 7), (0, [3], [], 0)], (70, [1], [], 8))
theorem c_263_s_0 : vOkm T0 (eP e_263 L_263 A_263 mu_263 none) 3 g_263_s_0 := vOk_inI fun ρ η f0 f1 f2 f3 f4 => q_263_0 (n0 := ρ 3) (n1 := ρ 4) (n2 := ρ 5) (n3 := ρ 1) (n4 := ρ 8) (H0 := η 0) (H1 := η 1) f4 f3 f2 f1 f0
theorem q_263_1 {n0 n1 n2 n3 : Int} {H0 H1 H2 : gH} (f0 : n0 = 0) (f1 : n1 = 999) (f2 : (hLe T0 H1 H2 ∧ hFr s_251.2.2.2.2 H1 H2 ∧ ((0 : Int) = 0 → H2.length = H1.length) ∧ hWt T0 H2) ∧ postb_251 n2 n3 n0 n1 H1 H2) (f3 : n2 ≠ 0) : 0 ≤ n3 := by
  unfold postb_251 at f2
  have r0_0 := f2.2
  omega
def g_263_s_1 : vG := ([(31, [8], [], 0), (1251, [8, 2, 6, 7], [1, 2], 0), (0, [7], [], 999), (0, [6], [], 0)], (90, [2], [], 0))
theorem c_263_s_1 : vOkm T0 (eP e_263 L_263 A_263 mu_263 none) 3 g_263_s_1 := vOk_inI fun ρ η f0 f1 f2 f3 => q_263_1 (n0 := ρ 6) (n1 := ρ 7) (n2 := ρ 8) (n3 := ρ 2) (H0 := η 0) (H1 := η 1) (H2 := η 2) f3 f2 f1 f0
theorem q_263_2 {n0 n1 n2 n3 : Int} {H0 H1 H2 : gH} (f0 : n0 = 0) (f1 : n1 = 999) (f2 : (hLe T0 H1 H2 ∧ hFr s_251.2.2.2.2 H1 H2 ∧ ((0 : Int) = 0 → H2.length = H1.length) ∧ hWt T0 H2) ∧ postb_251 n2 n3 n0 n1 H1 H2) (f3 : n2 ≠ 0) : n3 ≤ 999 := by
  unfold postb_251 at f2
  have r0_0 := f2.2
  omega
def g_263_s_2 : vG := ([(31, [8], [], 0), (1251, [8, 2, 6, 7], [1, 2], 0), (0, [7], [], 999), (0, [6], [], 0)], (91, [2], [], 999))
theorem c_263_s_2 : vOkm T0 (eP e_263 L_263 A_263 mu_263 none) 3 g_263_s_2 := vOk_inI fun ρ η f0 f1 f2 f3 => q_263_2 (n0 := ρ 6) (n1 := ρ 7) (n2 := ρ 8) (n3 := ρ 2) (H0 := η 0) (H1 := η 1) (H2 := η 2) f3 f2 f1 f0
def p_263_s : List vG := [g_263_s_0,
  g_263_s_1,
  g_263_s_2]
theorem r_263_s : vCovO true (eR0 e_263 L_263 cs_263 2000) p_263_s = true := by decide +kernel
theorem m_263 (d : Nat) : eC e_263 (d + 2) := eC_ok (e := e_263) (L := L_263) (cs := cs_263) (n := 2000) (d := d + 1) (A := A_263) (μ := mu_263) (tp := true) (p0 := p_263_s) rfl ⟨m_251 d, trivial⟩ rfl (.inr pre0_ok) (by decide +kernel) (fun _ => post0_ok) r_263_s (allC c_263_s_0 (allC c_263_s_1 (allC c_263_s_2 allN))) allN
