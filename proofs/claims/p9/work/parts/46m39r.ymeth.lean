/-! CONTRACTS of methods (printed by wip/gen/emit.py). -/
/- MixStageModel.emit (II)V -/
noncomputable def s_234 : vM := ([(3, 12, 285, 0), (0, 0, 5, 0), (0, 0, 9999, 0)], (9, 0, 0, 0), 1, 0, [(12, 51), (388, 0), (396, 0)])
def preb_234 (a0 a1 a2 : Int) (h : gH) : Prop := hV h 285 51 ≤ 1199
def pre_234 : List Int → gH → Prop := fun xs h => match xs with
  | [a0, a1, a2] => preb_234 a0 a1 a2 h
  | _ => False
def postb_234 (a0 a1 a2 : Int) (h0 h : gH) : Prop := hV h 285 51 = hV h0 285 51 + 1 ∧ (hV h 320) = uF (hV h0 320) (hV h0 285 51) a1 ∧ (hV h 321) = uF (hV h0 321) (hV h0 285 51) a2
def post_234 : List Int → gH → gH → Prop := fun xs h0 h => match xs with
  | [a0, a1, a2] => postb_234 a0 a1 a2 h0 h
  | _ => True
noncomputable def e_234 : vE := (234, s_234, pre_234, post_234)
noncomputable def L_234 : List vE := []
def cs_234 : List vC := []
def A_234 : Int → List Int → gH → gH → Prop := fun c xs h0 h => True
def mu_234 : Int → List Int → gH → gH → Nat := fun c xs h0 h => 0
theorem kW_285_51 : vRg T0 285 51 (0) (1200) = true := by decide +kernel
theorem q_234_0 {n0 n1 n2 n3 : Int} {H0 : gH} (f0 : n0 = 285) (f1 : hWt T0 H0 ∧ preb_234 n0 n1 n2 H0) (f2 : n3 = hV H0 (n0).toNat 51) : 0 ≤ n3 ∧ n3 < 1200 := by
  unfold preb_234 at f1
  have e0 : n3 = hV H0 285 51 := (by rw [f0] at f2; exact f2 : n3 = hV H0 285 51)
  have e1 : (0 : Int) ≤ hV H0 285 51 ∧ hV H0 285 51 ≤ 1200 := f1.1 285 51 _ _ kW_285_51
  have p0 := f1.2
  clear f2
  clear f1
  subst e0
  omega
def g_234_s_0 : vG := ([(20, [4, 0], [0], 51), (6000, [0, 1, 2], [0], 0), (0, [0], [], 285)], (70, [4], [], 1200))
theorem c_234_s_0 : vOkm T0 (eP e_234 L_234 A_234 mu_234 none) 3 g_234_s_0 := vOk_inI fun ρ η f0 f1 f2 => q_234_0 (n0 := ρ 0) (n1 := ρ 1) (n2 := ρ 2) (n3 := ρ 4) (H0 := η 0) f2 f1 f0
theorem q_234_1 {n0 n1 n2 n3 n4 n5 : Int} {H0 H1 : gH} (f0 : n0 = 285) (f1 : hWt T0 H0 ∧ preb_234 n0 n1 n2 H0) (f2 : n3 = 320) (f3 : hUpd H1 H0 n3 n4 n1) (f4 : n5 = hV H1 (n0).toNat 51) : 0 ≤ n5 ∧ n5 < 1200 := by
  unfold preb_234 at f1
  have e1 : n5 = hV H0 285 51 := (by rw [f0] at f4; exact f4 : n5 = hV H1 285 51).trans ((uPlace f3 285 51 (iS (show n3 = ((320 : Nat) : Int) from f2) rfl)))
  have e2 : (0 : Int) ≤ hV H0 285 51 ∧ hV H0 285 51 ≤ 1200 := f1.1 285 51 _ _ kW_285_51
  have p0 := f1.2
  clear f4
  clear f1
  subst e1
  omega
def g_234_s_1 : vG := ([(20, [6, 0], [1], 51), (80, [3, 4, 1], [1, 0], 0), (0, [3], [], 320), (6000, [0, 1, 2], [0], 0), (0, [0], [], 285)], (70, [6], [], 1200))
theorem c_234_s_1 : vOkm T0 (eP e_234 L_234 A_234 mu_234 none) 3 g_234_s_1 := vOk_inI fun ρ η f0 f1 f2 f3 f4 => q_234_1 (n0 := ρ 0) (n1 := ρ 1) (n2 := ρ 2) (n3 := ρ 3) (n4 := ρ 4) (n5 := ρ 6) (H0 := η 0) (H1 := η 1) f4 f3 f2 f1 f0
theorem q_234_2 {n0 n1 n2 : Int} {H0 : gH} (f0 : n0 ≤ 1200) (f1 : 0 ≤ n0) (f2 : n1 = 1) (f3 : n2 = w32 (n0 + n1)) : 0 ≤ n2 := by
  first
  | (have ix0 : n2 = n0 + 1 := Eq.trans f3 (w32_iv (Iad (Iat f1 f0) (IC 1)) (by decide)); subst ix0; clear f3)
  | (have ix0 : n2 = n0 + 1 := Eq.trans f3 (w32_id (by omega) (by omega)); subst ix0; clear f3)
  | (unfold w32 at f3; have ix0 : n2 = n0 + 1 := (by omega); subst ix0)
  | skip
  try unfold w32 at f3
  omega
def g_234_s_2 : vG := ([(1, [9, 7, 8], [], 0), (0, [8], [], 1), (90, [7], [], 0), (91, [7], [], 1200)], (90, [9], [], 0))
theorem c_234_s_2 : vOkm T0 (eP e_234 L_234 A_234 mu_234 none) 3 g_234_s_2 := vOk_inI fun ρ η f0 f1 f2 f3 => q_234_2 (n0 := ρ 7) (n1 := ρ 8) (n2 := ρ 9) (H0 := η 0) f3 f2 f1 f0
theorem q_234_3 {n0 n1 n2 n3 n4 n5 n6 n7 n8 n9 : Int} {H0 H1 H2 : gH} (f0 : n0 = 285) (f1 : hWt T0 H0 ∧ preb_234 n0 n1 n2 H0) (f2 : n3 = 320) (f3 : hUpd H1 H0 n3 n4 n1) (f4 : n5 = 321) (f5 : hUpd H2 H1 n5 n6 n2) (f6 : n7 = hV H2 (n0).toNat 51) (f7 : n8 = 1) (f8 : n9 = w32 (n7 + n8)) : n9 ≤ 1200 := by
  unfold preb_234 at f1
  have e2 : n7 = hV H0 285 51 := (by rw [f0] at f6; exact f6 : n7 = hV H2 285 51).trans (((uPlace f5 285 51 (iS (show n5 = ((321 : Nat) : Int) from f4) rfl))).trans (uPlace f3 285 51 (iS (show n3 = ((320 : Nat) : Int) from f2) rfl)))
  have e3 : (0 : Int) ≤ hV H0 285 51 ∧ hV H0 285 51 ≤ 1200 := f1.1 285 51 _ _ kW_285_51
  have p0 := f1.2
  clear f6
  clear f1
  subst e2
  first
  | (have ix0 : n9 = hV H0 285 51 + 1 := Eq.trans f8 (w32_iv (Iad (Iat e3.1 e3.2) (IC 1)) (by decide)); subst ix0; clear f8)
  | (have ix0 : n9 = hV H0 285 51 + 1 := Eq.trans f8 (w32_id (by omega) (by omega)); subst ix0; clear f8)
  | (unfold w32 at f8; have ix0 : n9 = hV H0 285 51 + 1 := (by omega); subst ix0)
  | skip
  try unfold w32 at f8
  omega
def g_234_s_3 : vG := ([(1, [9, 7, 8], [], 0), (0, [8], [], 1), (20, [7, 0], [2], 51), (80, [5, 6, 2], [2, 1], 0), (0, [5], [], 321), (80, [3, 4, 1], [1, 0], 0), (0, [3], [], 320), (6000, [0, 1, 2], [0], 0), (0, [0], [], 285)], (91, [9], [], 1200))
theorem c_234_s_3 : vOkm T0 (eP e_234 L_234 A_234 mu_234 none) 3 g_234_s_3 := vOk_inI fun ρ η f0 f1 f2 f3 f4 f5 f6 f7 f8 => q_234_3 (n0 := ρ 0) (n1 := ρ 1) (n2 := ρ 2) (n3 := ρ 3) (n4 := ρ 4) (n5 := ρ 5) (n6 := ρ 6) (n7 := ρ 7) (n8 := ρ 8) (n9 := ρ 9) (H0 := η 0) (H1 := η 1) (H2 := η 2) f8 f7 f6 f5 f4 f3 f2 f1 f0
theorem q_234_4 {n0 n1 n2 n3 n4 n5 n6 n7 n8 n9 n10 : Int} {H0 H1 H2 H3 : gH} (f0 : n0 ≤ 9999) (f1 : 0 ≤ n0) (f2 : n1 ≤ 5) (f3 : 0 ≤ n1) (f4 : n2 = 285) (f5 : hWt T0 H0 ∧ preb_234 n2 n1 n0 H0) (f6 : n3 = 320) (f7 : n3 = hV H0 (n2).toNat 52) (f8 : n4 ≤ 1200) (f9 : 0 ≤ n4) (f10 : n4 = hV H0 (n2).toNat 51) (f11 : hUpd H1 H0 n3 n4 n1) (f12 : n5 = 321) (f13 : n5 = hV H1 (n2).toNat 53) (f14 : n6 ≤ 1200) (f15 : 0 ≤ n6) (f16 : n6 = hV H1 (n2).toNat 51) (f17 : hUpd H2 H1 n5 n6 n0) (f18 : n7 ≤ 1200) (f19 : 0 ≤ n7) (f20 : n7 = hV H2 (n2).toNat 51) (f21 : n8 = 1) (f22 : n9 = w32 (n7 + n8)) (f23 : n10 = 51) (f24 : hUpd H3 H2 n2 n10 n9) : postb_234 n2 n1 n0 H0 H3 := by
  unfold preb_234 at f5
  unfold postb_234
  have e0 : n4 = hV H0 285 51 := (by rw [f4] at f10; exact f10 : n4 = hV H0 285 51)
  have e2 : n6 = hV H0 285 51 := (by rw [f4] at f16; exact f16 : n6 = hV H1 285 51).trans ((uPlace f11 285 51 (iS (show n3 = ((320 : Nat) : Int) from f6) rfl)))
  have e4 : n7 = hV H0 285 51 := (by rw [f4] at f20; exact f20 : n7 = hV H2 285 51).trans (((uPlace f17 285 51 (iS (show n5 = ((321 : Nat) : Int) from f12) rfl))).trans (uPlace f11 285 51 (iS (show n3 = ((320 : Nat) : Int) from f6) rfl)))
  have e6 : hV H3 285 51 = n9 := (uSame f24 285 51 f4.symm f23.symm)
  have e11 : hV H3 320 = (uF (hV H0 320) n4 n1) := (uRowNe f24 320 (iS (show n2 = ((285 : Nat) : Int) from f4) rfl)).trans ((uRowNe f17 320 (iS (show n5 = ((321 : Nat) : Int) from f12) rfl)).trans (uRow f11 320 f6.symm))
  have e16 : hV H3 321 = (uF (hV H0 321) n6 n0) := (uRowNe f24 321 (iS (show n2 = ((285 : Nat) : Int) from f4) rfl)).trans ((uRow f17 321 f12.symm).trans (congrArg (fun z => uF z n6 n0) (uRowNe f11 321 (iS (show n3 = ((320 : Nat) : Int) from f6) rfl))))
  have e17 : (0 : Int) ≤ hV H0 285 51 ∧ hV H0 285 51 ≤ 1200 := f5.1 285 51 _ _ kW_285_51
  try simp only [e6, e11, e16]
  have p0 := f5.2
  clear f7 f10 f13 f16 f20 e11 e16
  clear f5
  subst e0
  subst e2
  subst e4
  first
  | (have ix0 : n9 = hV H0 285 51 + 1 := Eq.trans f22 (w32_iv (Iad (Iat f9 f8) (IC 1)) (by decide)); subst ix0; clear f22)
  | (have ix0 : n9 = hV H0 285 51 + 1 := Eq.trans f22 (w32_id (by omega) (by omega)); subst ix0; clear f22)
  | (unfold w32 at f22; have ix0 : n9 = hV H0 285 51 + 1 := (by omega); subst ix0)
  | skip
  try unfold w32 at f22

  refine ⟨by omega, ?_, ?_⟩ <;> first | rfl | (congr 1; omega) | (congr 1 <;> omega)
def g_234_s_4 : vG := ([(80, [0, 10, 9], [3, 2], 0), (0, [10], [], 51), (1, [9, 7, 8], [], 0), (0, [8], [], 1), (20, [7, 0], [2], 51), (90, [7], [], 0), (91, [7], [], 1200), (80, [5, 6, 2], [2, 1], 0), (20, [6, 0], [1], 51), (90, [6], [], 0), (91, [6], [], 1200), (20, [5, 0], [1], 53), (0, [5], [], 321), (80, [3, 4, 1], [1, 0], 0), (20, [4, 0], [0], 51), (90, [4], [], 0), (91, [4], [], 1200), (20, [3, 0], [0], 52), (0, [3], [], 320), (6000, [0, 1, 2], [0], 0), (0, [0], [], 285), (90, [1], [], 0), (91, [1], [], 5), (90, [2], [], 0), (91, [2], [], 9999)], (3000, [], [3], 30))
theorem c_234_s_4 : vOkm T0 (eP e_234 L_234 A_234 mu_234 none) 3 g_234_s_4 := vOk_inI fun ρ η f0 f1 f2 f3 f4 f5 f6 f7 f8 f9 f10 f11 f12 f13 f14 f15 f16 f17 f18 f19 f20 f21 f22 f23 f24 => q_234_4 (n0 := ρ 2) (n1 := ρ 1) (n2 := ρ 0) (n3 := ρ 3) (n4 := ρ 4) (n5 := ρ 5) (n6 := ρ 6) (n7 := ρ 7) (n8 := ρ 8) (n9 := ρ 9) (n10 := ρ 10) (H0 := η 0) (H1 := η 1) (H2 := η 2) (H3 := η 3) f24 f23 f22 f21 f20 f19 f18 f17 f16 f15 f14 f13 f12 f11 f10 f9 f8 f7 f6 f5 f4 f3 f2 f1 f0
def p_234_s : List vG := [g_234_s_0,
  g_234_s_1,
  g_234_s_2,
  g_234_s_3,
  g_234_s_4]
theorem r_234_s : vCovO false (eR0 e_234 L_234 cs_234 2000) p_234_s = true := by decide +kernel
theorem m_234 (d : Nat) : eC e_234 (d + 1) := eC_ok (e := e_234) (L := L_234) (cs := cs_234) (n := 2000) (d := d + 0) (A := A_234) (μ := mu_234) (tp := false) (p0 := p_234_s) rfl trivial rfl (.inl rfl) (by decide +kernel) (fun z => nomatch z) r_234_s (allC c_234_s_0 (allC c_234_s_1 (allC c_234_s_2 (allC c_234_s_3 (allC c_234_s_4 allN))))) allN
/- MixStageModel.unit ()V -/
noncomputable def s_237 : vM := ([(3, 12, 285, 0)], (9, 0, 0, 0), 1, 0, [(12, 11), (12, 13), (12, 14), (12, 51), (388, 0), (396, 0)])
def preb_237 (a0 : Int) (h : gH) : Prop := RR h ∧ hV h 285 35 = 1 - hV h 285 34 ∧ 600 * hV h 285 35 ≤ hV h 285 51 ∧ hV h 285 51 ≤ 600 * hV h 285 35 + 510
def pre_237 : List Int → gH → Prop := fun xs h => match xs with
  | [a0] => preb_237 a0 h
  | _ => False
def postb_237 (a0 : Int) (h0 h : gH) : Prop := RR h ∧ (hV h 285 13 = 0 → ∀ d : Int, COp (hV h0 320) (hV h0 321) (hV h 320) (hV h 321) (hV h0 285 51) d (hV h 285 51) (d + 1)) ∧ hV h0 285 11 ≤ hV h 285 11 ∧ hV h0 285 11 + 1 ≤ hV h 285 11 + hV h 285 13 ∧ hV h0 285 13 ≤ hV h 285 13 ∧ hV h 285 11 ≤ hV h0 285 11 + 1 ∧ hV h0 285 51 ≤ hV h 285 51 ∧ hV h 285 51 ≤ hV h0 285 51 + 1 ∧ hV h0 285 51 + 1 ≤ hV h 285 51 + hV h 285 13 ∧ hV h 285 51 + hV h0 285 11 + hV h0 285 13 ≤ hV h0 285 51 + hV h 285 11 + hV h 285 13
def post_237 : List Int → gH → gH → Prop := fun xs h0 h => match xs with
  | [a0] => postb_237 a0 h0 h
  | _ => True
noncomputable def e_237 : vE := (237, s_237, pre_237, post_237)
noncomputable def L_237 : List vE := [e_216, e_217, e_219, e_234]
def cs_237 : List vC := []
def A_237 : Int → List Int → gH → gH → Prop := fun c xs h0 h => True
def mu_237 : Int → List Int → gH → gH → Nat := fun c xs h0 h => 0
theorem kR_217_320 : vFreeR s_217.2.2.2.2 320 = true := by decide +kernel
theorem kR_216_320 : vFreeR s_216.2.2.2.2 320 = true := by decide +kernel
theorem kR_217_321 : vFreeR s_217.2.2.2.2 321 = true := by decide +kernel
theorem kR_216_321 : vFreeR s_216.2.2.2.2 321 = true := by decide +kernel
theorem kF_217_285_51 : vFree s_217.2.2.2.2 285 51 = true := by decide +kernel
theorem kF_216_285_51 : vFree s_216.2.2.2.2 285 51 = true := by decide +kernel
theorem kW_285_34 : vRg T0 285 34 (0) (1) = true := by decide +kernel
theorem kW_285_35 : vRg T0 285 35 (0) (1) = true := by decide +kernel
theorem q_237_0 {n0 n1 n2 n3 n4 : Int} {H0 H1 H2 : gH} (f0 : n0 = 285) (f1 : hWt T0 H0 ∧ preb_237 n0 H0) (f2 : n1 = 2) (f3 : n2 ≤ 1) (f4 : 0 ≤ n2) (f5 : (hLe T0 H0 H1 ∧ hFr s_216.2.2.2.2 H0 H1 ∧ ((0 : Int) = 0 → H1.length = H0.length) ∧ hWt T0 H1) ∧ postb_216 n2 n0 n1 H0 H1) (f6 : n2 = 0) (f7 : n3 ≤ 2) (f8 : 0 ≤ n3) (f9 : n3 = hV H1 (n0).toNat 13) (f10 : n3 ≠ 0) (f11 : n4 = 1) (f12 : (hLe T0 H1 H2 ∧ hFr s_217.2.2.2.2 H1 H2 ∧ ((0 : Int) = 0 → H2.length = H1.length) ∧ hWt T0 H2) ∧ postb_217 n0 n4 H1 H2) : postb_237 n0 H0 H2 := by
  unfold preb_237 at f1
  unfold postb_216 at f5
  unfold postb_217 at f12
  unfold postb_237
  have e1 : n3 = hV H0 285 13 := (by rw [f0] at f9; exact f9 : n3 = hV H1 285 13).trans ((f5.1.2.1.1 285 13 kF_216_285_13))
  have e3 : hV H1 285 11 = hV H0 285 11 := (f5.1.2.1.1 285 11 kF_216_285_11)
  have e4 : hV H1 285 13 = hV H0 285 13 := (f5.1.2.1.1 285 13 kF_216_285_13)
  have e5 : hV H1 288 = hV H0 288 := fRow f5.1.2.1 288 kR_216_288
  have e7 : hV H2 285 11 = hV H0 285 11 := ((f12.1.2.1.1 285 11 kF_217_285_11)).trans (f5.1.2.1.1 285 11 kF_216_285_11)
  have e10 : hV H2 285 51 = hV H0 285 51 := ((f12.1.2.1.1 285 51 kF_217_285_51)).trans (f5.1.2.1.1 285 51 kF_216_285_51)
  have e13 : hV H2 320 = hV H0 320 := (fRow f12.1.2.1 320 kR_217_320).trans (fRow f5.1.2.1 320 kR_216_320)
  have e16 : hV H2 321 = hV H0 321 := (fRow f12.1.2.1 321 kR_217_321).trans (fRow f5.1.2.1 321 kR_216_321)
  have e17 : RR H1 = RR H0 := RR_fr f5.1.2.1 (by decide +kernel)
  have e18 : RR H2 = RR H1 := RR_fr f12.1.2.1 (by decide +kernel)
  have e19 : RR H2 = RR H0 := e18.trans e17
  have e20 : (0 : Int) ≤ hV H0 285 11 ∧ hV H0 285 11 ≤ 500 := f1.1 285 11 _ _ kW_285_11
  have e21 : (0 : Int) ≤ hV H0 285 13 ∧ hV H0 285 13 ≤ 2 := f1.1 285 13 _ _ kW_285_13
  have e22 : (0 : Int) ≤ hV H0 285 34 ∧ hV H0 285 34 ≤ 1 := f1.1 285 34 _ _ kW_285_34
  have e23 : (0 : Int) ≤ hV H0 285 35 ∧ hV H0 285 35 ≤ 1 := f1.1 285 35 _ _ kW_285_35
  have e24 : (0 : Int) ≤ hV H0 285 51 ∧ hV H0 285 51 ≤ 1200 := f1.1 285 51 _ _ kW_285_51
  have e28 : (0 : Int) ≤ hV H2 285 13 ∧ hV H2 285 13 ≤ 2 := f12.1.2.2.2 285 13 _ _ kW_285_13
  try simp only [e7, e10, e13, e16, e19]
  have p0 := f1.2.1
  have p1 := f1.2.2.1
  have p2 := f1.2.2.2.1
  have p3 := f1.2.2.2.2
  have r0_0 := f5.2.1
  have r0_1 := f5.2.2
  have r1_0 := f12.2.1
  have r1_1 := f12.2.2
  try simp only [e4] at r0_0
  try simp only [e3, e4, e5] at r0_1
  try simp only [e4] at r1_0
  clear f9 e3 e4 e5 e7 e10 e13 e16 e17 e18 e19
  clear f1 f5 f12
  subst e1

  refine ⟨p0, fun hf d => by omega, ?_, ?_, ?_, ?_, ?_, ?_, ?_, ?_⟩ <;> omega
def g_237_s_0 : vG := ([(1217, [0, 4], [1, 2], 0), (0, [4], [], 1), (31, [3], [], 0), (20, [3, 0], [1], 13), (90, [3], [], 0), (91, [3], [], 2), (30, [2], [], 0), (1216, [2, 0, 1], [0, 1], 0), (90, [2], [], 0), (91, [2], [], 1), (0, [1], [], 2), (6000, [0], [0], 0), (0, [0], [], 285)], (3000, [], [2], 93))
theorem c_237_s_0 : vOkm T0 (eP e_237 L_237 A_237 mu_237 none) 1 g_237_s_0 := vOk_inI fun ρ η f0 f1 f2 f3 f4 f5 f6 f7 f8 f9 f10 f11 f12 => q_237_0 (n0 := ρ 0) (n1 := ρ 1) (n2 := ρ 2) (n3 := ρ 3) (n4 := ρ 4) (H0 := η 0) (H1 := η 1) (H2 := η 2) f12 f11 f10 f9 f8 f7 f6 f5 f4 f3 f2 f1 f0
theorem q_237_1 {n0 n1 n2 n3 n4 n5 n6 n7 n8 : Int} {H0 H1 H2 : gH} (f0 : n0 = 285) (f1 : hWt T0 H0 ∧ preb_237 n0 H0) (f2 : n1 = 2) (f3 : n2 ≤ 1) (f4 : 0 ≤ n2) (f5 : (hLe T0 H0 H1 ∧ hFr s_216.2.2.2.2 H0 H1 ∧ ((0 : Int) = 0 → H1.length = H0.length) ∧ hWt T0 H1) ∧ postb_216 n2 n0 n1 H0 H1) (f6 : n2 = 0) (f7 : n3 ≤ 2) (f8 : 0 ≤ n3) (f9 : n3 = hV H1 (n0).toNat 13) (f10 : n3 = 0) (f11 : n4 = 288) (f12 : n4 = hV H1 (n0).toNat 5) (f13 : n5 ≤ 500) (f14 : 0 ≤ n5) (f15 : n5 = hV H1 (n0).toNat 11) (f16 : n6 ≤ 53) (f17 : 0 ≤ n6) (f18 : n6 = hV H1 (n4).toNat (n5).toNat) (f19 : n7 = 49) (f20 : n6 < n7) (f21 : n8 = 1) (f22 : (hLe T0 H1 H2 ∧ hFr s_217.2.2.2.2 H1 H2 ∧ ((0 : Int) = 0 → H2.length = H1.length) ∧ hWt T0 H2) ∧ postb_217 n0 n8 H1 H2) : postb_237 n0 H0 H2 := by
  unfold preb_237 at f1
  unfold postb_216 at f5
  unfold postb_217 at f22
  unfold postb_237
  have e1 : n3 = hV H0 285 13 := (by rw [f0] at f9; exact f9 : n3 = hV H1 285 13).trans ((f5.1.2.1.1 285 13 kF_216_285_13))
  have e3 : n5 = hV H0 285 11 := (by rw [f0] at f15; exact f15 : n5 = hV H1 285 11).trans ((f5.1.2.1.1 285 11 kF_216_285_11))
  have e4 : hV H1 288 = hV H0 288 := fRow f5.1.2.1 288 kR_216_288
  have e5 : n6 = hV H0 288 (n5).toNat := (by rw [f11] at f18; exact f18 : n6 = hV H1 288 (n5).toNat).trans ((congrFun e4 _))
  have e6 : hV H1 285 11 = hV H0 285 11 := (f5.1.2.1.1 285 11 kF_216_285_11)
  have e7 : hV H1 285 13 = hV H0 285 13 := (f5.1.2.1.1 285 13 kF_216_285_13)
  have e9 : hV H2 285 11 = hV H0 285 11 := ((f22.1.2.1.1 285 11 kF_217_285_11)).trans (f5.1.2.1.1 285 11 kF_216_285_11)
  have e12 : hV H2 285 51 = hV H0 285 51 := ((f22.1.2.1.1 285 51 kF_217_285_51)).trans (f5.1.2.1.1 285 51 kF_216_285_51)
  have e15 : hV H2 320 = hV H0 320 := (fRow f22.1.2.1 320 kR_217_320).trans (fRow f5.1.2.1 320 kR_216_320)
  have e18 : hV H2 321 = hV H0 321 := (fRow f22.1.2.1 321 kR_217_321).trans (fRow f5.1.2.1 321 kR_216_321)
  have e19 : RR H1 = RR H0 := RR_fr f5.1.2.1 (by decide +kernel)
  have e20 : RR H2 = RR H1 := RR_fr f22.1.2.1 (by decide +kernel)
  have e21 : RR H2 = RR H0 := e20.trans e19
  have e22 : (0 : Int) ≤ hV H0 285 11 ∧ hV H0 285 11 ≤ 500 := f1.1 285 11 _ _ kW_285_11
  have e23 : (0 : Int) ≤ hV H0 285 13 ∧ hV H0 285 13 ≤ 2 := f1.1 285 13 _ _ kW_285_13
  have e24 : (0 : Int) ≤ hV H0 285 34 ∧ hV H0 285 34 ≤ 1 := f1.1 285 34 _ _ kW_285_34
  have e25 : (0 : Int) ≤ hV H0 285 35 ∧ hV H0 285 35 ≤ 1 := f1.1 285 35 _ _ kW_285_35
  have e26 : (0 : Int) ≤ hV H0 285 51 ∧ hV H0 285 51 ≤ 1200 := f1.1 285 51 _ _ kW_285_51
  have e30 : (0 : Int) ≤ hV H2 285 13 ∧ hV H2 285 13 ≤ 2 := f22.1.2.2.2 285 13 _ _ kW_285_13
  try simp only [e9, e12, e15, e18, e21]
  have p0 := f1.2.1
  have p1 := f1.2.2.1
  have p2 := f1.2.2.2.1
  have p3 := f1.2.2.2.2
  have r0_0 := f5.2.1
  have r0_1 := f5.2.2
  have r1_0 := f22.2.1
  have r1_1 := f22.2.2
  try simp only [e7] at r0_0
  try simp only [e6, e7, e4] at r0_1
  try simp only [e7] at r1_0
  clear f9 f12 f15 f18 e4 e6 e7 e9 e12 e15 e18 e19 e20 e21
  clear f1 f5 f22
  subst e1
  subst e3
  subst e5

  refine ⟨p0, fun hf d => by omega, ?_, ?_, ?_, ?_, ?_, ?_, ?_, ?_⟩ <;> omega
def g_237_s_1 : vG := ([(1217, [0, 8], [1, 2], 0), (0, [8], [], 1), (42, [6, 7], [], 0), (0, [7], [], 49), (22, [6, 4, 5], [1], 0), (90, [6], [], 0), (91, [6], [], 53), (20, [5, 0], [1], 11), (90, [5], [], 0), (91, [5], [], 500), (20, [4, 0], [1], 5), (0, [4], [], 288), (30, [3], [], 0), (20, [3, 0], [1], 13), (90, [3], [], 0), (91, [3], [], 2), (30, [2], [], 0), (1216, [2, 0, 1], [0, 1], 0), (90, [2], [], 0), (91, [2], [], 1), (0, [1], [], 2), (6000, [0], [0], 0), (0, [0], [], 285)], (3000, [], [2], 93))
theorem c_237_s_1 : vOkm T0 (eP e_237 L_237 A_237 mu_237 none) 1 g_237_s_1 := vOk_inI fun ρ η f0 f1 f2 f3 f4 f5 f6 f7 f8 f9 f10 f11 f12 f13 f14 f15 f16 f17 f18 f19 f20 f21 f22 => q_237_1 (n0 := ρ 0) (n1 := ρ 1) (n2 := ρ 2) (n3 := ρ 3) (n4 := ρ 4) (n5 := ρ 5) (n6 := ρ 6) (n7 := ρ 7) (n8 := ρ 8) (H0 := η 0) (H1 := η 1) (H2 := η 2) f22 f21 f20 f19 f18 f17 f16 f15 f14 f13 f12 f11 f10 f9 f8 f7 f6 f5 f4 f3 f2 f1 f0
theorem q_237_2 {n0 n1 n2 n3 n4 n5 n6 n7 n8 n9 n10 n11 n12 : Int} {H0 H1 H2 : gH} (f0 : n0 = 285) (f1 : hWt T0 H0 ∧ preb_237 n0 H0) (f2 : n1 = 2) (f3 : n2 ≤ 1) (f4 : 0 ≤ n2) (f5 : (hLe T0 H0 H1 ∧ hFr s_216.2.2.2.2 H0 H1 ∧ ((0 : Int) = 0 → H1.length = H0.length) ∧ hWt T0 H1) ∧ postb_216 n2 n0 n1 H0 H1) (f6 : n2 = 0) (f7 : n3 ≤ 2) (f8 : 0 ≤ n3) (f9 : n3 = hV H1 (n0).toNat 13) (f10 : n3 = 0) (f11 : n4 = 288) (f12 : n4 = hV H1 (n0).toNat 5) (f13 : n5 ≤ 500) (f14 : 0 ≤ n5) (f15 : n5 = hV H1 (n0).toNat 11) (f16 : n6 ≤ 53) (f17 : 0 ≤ n6) (f18 : n6 = hV H1 (n4).toNat (n5).toNat) (f19 : n7 = 49) (f20 : n7 ≤ n6) (f21 : n8 = 288) (f22 : n8 = hV H1 (n0).toNat 5) (f23 : n9 ≤ 500) (f24 : 0 ≤ n9) (f25 : n9 = hV H1 (n0).toNat 11) (f26 : n10 ≤ 53) (f27 : 0 ≤ n10) (f28 : n10 = hV H1 (n8).toNat (n9).toNat) (f29 : n11 = 53) (f30 : n11 < n10) (f31 : n12 = 1) (f32 : (hLe T0 H1 H2 ∧ hFr s_217.2.2.2.2 H1 H2 ∧ ((0 : Int) = 0 → H2.length = H1.length) ∧ hWt T0 H2) ∧ postb_217 n0 n12 H1 H2) : postb_237 n0 H0 H2 := by
  unfold preb_237 at f1
  unfold postb_216 at f5
  unfold postb_217 at f32
  unfold postb_237
  have e1 : n3 = hV H0 285 13 := (by rw [f0] at f9; exact f9 : n3 = hV H1 285 13).trans ((f5.1.2.1.1 285 13 kF_216_285_13))
  have e3 : n5 = hV H0 285 11 := (by rw [f0] at f15; exact f15 : n5 = hV H1 285 11).trans ((f5.1.2.1.1 285 11 kF_216_285_11))
  have e4 : hV H1 288 = hV H0 288 := fRow f5.1.2.1 288 kR_216_288
  have e5 : n6 = hV H0 288 (n5).toNat := (by rw [f11] at f18; exact f18 : n6 = hV H1 288 (n5).toNat).trans ((congrFun e4 _))
  have e6 : n9 = hV H0 285 11 := (by rw [f0] at f25; exact f25 : n9 = hV H1 285 11).trans ((f5.1.2.1.1 285 11 kF_216_285_11))
  have e7 : n10 = hV H0 288 (n9).toNat := (by rw [f21] at f28; exact f28 : n10 = hV H1 288 (n9).toNat).trans ((congrFun e4 _))
  have e8 : hV H1 285 11 = hV H0 285 11 := (f5.1.2.1.1 285 11 kF_216_285_11)
  have e9 : hV H1 285 13 = hV H0 285 13 := (f5.1.2.1.1 285 13 kF_216_285_13)
  have e11 : hV H2 285 11 = hV H0 285 11 := ((f32.1.2.1.1 285 11 kF_217_285_11)).trans (f5.1.2.1.1 285 11 kF_216_285_11)
  have e14 : hV H2 285 51 = hV H0 285 51 := ((f32.1.2.1.1 285 51 kF_217_285_51)).trans (f5.1.2.1.1 285 51 kF_216_285_51)
  have e17 : hV H2 320 = hV H0 320 := (fRow f32.1.2.1 320 kR_217_320).trans (fRow f5.1.2.1 320 kR_216_320)
  have e20 : hV H2 321 = hV H0 321 := (fRow f32.1.2.1 321 kR_217_321).trans (fRow f5.1.2.1 321 kR_216_321)
  have e21 : RR H1 = RR H0 := RR_fr f5.1.2.1 (by decide +kernel)
  have e22 : RR H2 = RR H1 := RR_fr f32.1.2.1 (by decide +kernel)
  have e23 : RR H2 = RR H0 := e22.trans e21
  have e24 : (0 : Int) ≤ hV H0 285 11 ∧ hV H0 285 11 ≤ 500 := f1.1 285 11 _ _ kW_285_11
  have e25 : (0 : Int) ≤ hV H0 285 13 ∧ hV H0 285 13 ≤ 2 := f1.1 285 13 _ _ kW_285_13
  have e26 : (0 : Int) ≤ hV H0 285 34 ∧ hV H0 285 34 ≤ 1 := f1.1 285 34 _ _ kW_285_34
  have e27 : (0 : Int) ≤ hV H0 285 35 ∧ hV H0 285 35 ≤ 1 := f1.1 285 35 _ _ kW_285_35
  have e28 : (0 : Int) ≤ hV H0 285 51 ∧ hV H0 285 51 ≤ 1200 := f1.1 285 51 _ _ kW_285_51
  have e32 : (0 : Int) ≤ hV H2 285 13 ∧ hV H2 285 13 ≤ 2 := f32.1.2.2.2 285 13 _ _ kW_285_13
  try simp only [e11, e14, e17, e20, e23]
  have p0 := f1.2.1
  have p1 := f1.2.2.1
  have p2 := f1.2.2.2.1
  have p3 := f1.2.2.2.2
  have r0_0 := f5.2.1
  have r0_1 := f5.2.2
  have r1_0 := f32.2.1
  have r1_1 := f32.2.2
  try simp only [e9] at r0_0
  try simp only [e8, e9, e4] at r0_1
  try simp only [e9] at r1_0
  clear f9 f12 f15 f18 f22 f25 f28 e4 e8 e9 e11 e14 e17 e20 e21 e22 e23
  clear f1 f5 f32
  subst e1
  subst e3
  subst e5
  subst e6
  subst e7

  refine ⟨p0, fun hf d => by omega, ?_, ?_, ?_, ?_, ?_, ?_, ?_, ?_⟩ <;> omega
def g_237_s_2 : vG := ([(1217, [0, 12], [1, 2], 0), (0, [12], [], 1), (44, [10, 11], [], 0), (0, [11], [], 53), (22, [10, 8, 9], [1], 0), (90, [10], [], 0), (91, [10], [], 53), (20, [9, 0], [1], 11), (90, [9], [], 0), (91, [9], [], 500), (20, [8, 0], [1], 5), (0, [8], [], 288), (43, [6, 7], [], 0), (0, [7], [], 49), (22, [6, 4, 5], [1], 0), (90, [6], [], 0), (91, [6], [], 53), (20, [5, 0], [1], 11), (90, [5], [], 0), (91, [5], [], 500), (20, [4, 0], [1], 5), (0, [4], [], 288), (30, [3], [], 0), (20, [3, 0], [1], 13), (90, [3], [], 0), (91, [3], [], 2), (30, [2], [], 0), (1216, [2, 0, 1], [0, 1], 0), (90, [2], [], 0), (91, [2], [], 1), (0, [1], [], 2), (6000, [0], [0], 0), (0, [0], [], 285)], (3000, [], [2], 93))
theorem c_237_s_2 : vOkm T0 (eP e_237 L_237 A_237 mu_237 none) 1 g_237_s_2 := vOk_inI fun ρ η f0 f1 f2 f3 f4 f5 f6 f7 f8 f9 f10 f11 f12 f13 f14 f15 f16 f17 f18 f19 f20 f21 f22 f23 f24 f25 f26 f27 f28 f29 f30 f31 f32 => q_237_2 (n0 := ρ 0) (n1 := ρ 1) (n2 := ρ 2) (n3 := ρ 3) (n4 := ρ 4) (n5 := ρ 5) (n6 := ρ 6) (n7 := ρ 7) (n8 := ρ 8) (n9 := ρ 9) (n10 := ρ 10) (n11 := ρ 11) (n12 := ρ 12) (H0 := η 0) (H1 := η 1) (H2 := η 2) f32 f31 f30 f29 f28 f27 f26 f25 f24 f23 f22 f21 f20 f19 f18 f17 f16 f15 f14 f13 f12 f11 f10 f9 f8 f7 f6 f5 f4 f3 f2 f1 f0
theorem q_237_3 {n0 n1 n2 n3 n4 n5 n6 n7 n8 n9 : Int} {H0 H1 : gH} (f0 : n0 = 285) (f1 : n1 = 288) (f2 : n2 = hV H1 (n0).toNat 11) (f3 : n3 = hV H1 (n1).toNat (n2).toNat) (f4 : n4 = 49) (f5 : n4 ≤ n3) (f6 : n5 = 288) (f7 : n6 = hV H1 (n0).toNat 11) (f8 : n7 ≤ 53) (f9 : n7 = hV H1 (n5).toNat (n6).toNat) (f10 : n8 = 49) (f11 : n9 = w32 (n7 - n8)) : 0 ≤ n9 := by
  have e0 : n2 = hV H1 285 11 := (by rw [f0] at f2; exact f2 : n2 = hV H1 285 11)
  have e1 : n3 = hV H1 288 (n2).toNat := (by rw [f1] at f3; exact f3 : n3 = hV H1 288 (n2).toNat)
  have e2 : n6 = hV H1 285 11 := (by rw [f0] at f7; exact f7 : n6 = hV H1 285 11)
  have e3 : n7 = hV H1 288 (n6).toNat := (by rw [f6] at f9; exact f9 : n7 = hV H1 288 (n6).toNat)
  clear f2 f3 f7 f9
  subst e0
  subst e1
  subst e2
  subst e3
  first
  | (have ix0 : n9 = hV H1 288 (hV H1 285 11).toNat - 49 := Eq.trans f11 (w32_id (by omega) (by omega)); subst ix0; clear f11)
  | (unfold w32 at f11; have ix0 : n9 = hV H1 288 (hV H1 285 11).toNat - 49 := (by omega); subst ix0)
  | skip
  try unfold w32 at f11
  omega
def g_237_s_3 : vG := ([(2, [17, 15, 16], [], 0), (0, [16], [], 49), (22, [15, 13, 14], [1], 0), (91, [15], [], 53), (20, [14, 0], [1], 11), (0, [13], [], 288), (43, [6, 7], [], 0), (0, [7], [], 49), (22, [6, 4, 5], [1], 0), (20, [5, 0], [1], 11), (0, [4], [], 288), (0, [0], [], 285)], (90, [17], [], 0))
theorem c_237_s_3 : vOkm T0 (eP e_237 L_237 A_237 mu_237 none) 1 g_237_s_3 := vOk_inI fun ρ η f0 f1 f2 f3 f4 f5 f6 f7 f8 f9 f10 f11 => q_237_3 (n0 := ρ 0) (n1 := ρ 4) (n2 := ρ 5) (n3 := ρ 6) (n4 := ρ 7) (n5 := ρ 13) (n6 := ρ 14) (n7 := ρ 15) (n8 := ρ 16) (n9 := ρ 17) (H0 := η 0) (H1 := η 1) f11 f10 f9 f8 f7 f6 f5 f4 f3 f2 f1 f0
theorem q_237_4 {n0 n1 n2 : Int} {H0 : gH} (f0 : n0 ≤ 53) (f1 : 0 ≤ n0) (f2 : n1 = 49) (f3 : n2 = w32 (n0 - n1)) : n2 ≤ 9999 := by
  first
  | (have ix0 : n2 = n0 - 49 := Eq.trans f3 (w32_iv (Isu (Iat f1 f0) (IC 49)) (by decide)); subst ix0; clear f3)
  | (have ix0 : n2 = n0 - 49 := Eq.trans f3 (w32_id (by omega) (by omega)); subst ix0; clear f3)
  | (unfold w32 at f3; have ix0 : n2 = n0 - 49 := (by omega); subst ix0)
  | skip
  try unfold w32 at f3
  omega
def g_237_s_4 : vG := ([(2, [17, 15, 16], [], 0), (0, [16], [], 49), (90, [15], [], 0), (91, [15], [], 53)], (91, [17], [], 9999))
theorem c_237_s_4 : vOkm T0 (eP e_237 L_237 A_237 mu_237 none) 1 g_237_s_4 := vOk_inI fun ρ η f0 f1 f2 f3 => q_237_4 (n0 := ρ 15) (n1 := ρ 16) (n2 := ρ 17) (H0 := η 0) f3 f2 f1 f0
theorem q_237_5 {n0 n1 n2 n3 n4 n5 n6 : Int} {H0 H1 : gH} (f0 : n0 = 285) (f1 : hWt T0 H0 ∧ preb_237 n0 H0) (f2 : n1 = 2) (f3 : (hLe T0 H0 H1 ∧ hFr s_216.2.2.2.2 H0 H1 ∧ ((0 : Int) = 0 → H1.length = H0.length) ∧ hWt T0 H1) ∧ postb_216 n2 n0 n1 H0 H1) (f4 : n3 = 1) (f5 : n4 ≤ 53) (f6 : 0 ≤ n4) (f7 : n5 = 49) : preb_234 n0 n3 n6 H1 := by
  unfold preb_237 at f1
  unfold postb_216 at f3
  unfold preb_234
  have e1 : hV H1 285 11 = hV H0 285 11 := (f3.1.2.1.1 285 11 kF_216_285_11)
  have e3 : hV H1 285 13 = hV H0 285 13 := (f3.1.2.1.1 285 13 kF_216_285_13)
  have e5 : hV H1 285 51 = hV H0 285 51 := (f3.1.2.1.1 285 51 kF_216_285_51)
  have e6 : hV H1 288 = hV H0 288 := fRow f3.1.2.1 288 kR_216_288
  have e7 : (0 : Int) ≤ hV H0 285 34 ∧ hV H0 285 34 ≤ 1 := f1.1 285 34 _ _ kW_285_34
  have e8 : (0 : Int) ≤ hV H0 285 35 ∧ hV H0 285 35 ≤ 1 := f1.1 285 35 _ _ kW_285_35
  have e9 : (0 : Int) ≤ hV H0 285 51 ∧ hV H0 285 51 ≤ 1200 := f1.1 285 51 _ _ kW_285_51
  have e10 : (0 : Int) ≤ hV H0 285 11 ∧ hV H0 285 11 ≤ 500 := bTo e1 (f3.1.2.2.2 285 11 _ _ kW_285_11)
  have e12 : (0 : Int) ≤ hV H0 285 13 ∧ hV H0 285 13 ≤ 2 := bTo e3 (f3.1.2.2.2 285 13 _ _ kW_285_13)
  try simp only [e5]
  have p0 := f1.2.1
  have p1 := f1.2.2.1
  have p2 := f1.2.2.2.1
  have p3 := f1.2.2.2.2
  have r0_0 := f3.2.1
  have r0_1 := f3.2.2
  try simp only [e3] at r0_0
  try simp only [e1, e3, e6] at r0_1
  clear e1 e3 e5 e6
  clear f1 f3
  first | assumption | omega | trivial
def g_237_s_5 : vG := ([(0, [16], [], 49), (90, [15], [], 0), (91, [15], [], 53), (0, [12], [], 1), (1216, [2, 0, 1], [0, 1], 0), (0, [1], [], 2), (6000, [0], [0], 0), (0, [0], [], 285)], (2234, [0, 12, 17], [1], 0))
theorem c_237_s_5 : vOkm T0 (eP e_237 L_237 A_237 mu_237 none) 1 g_237_s_5 := vOk_inI fun ρ η f0 f1 f2 f3 f4 f5 f6 f7 => q_237_5 (n0 := ρ 0) (n1 := ρ 1) (n2 := ρ 2) (n3 := ρ 12) (n4 := ρ 15) (n5 := ρ 16) (n6 := ρ 17) (H0 := η 0) (H1 := η 1) f7 f6 f5 f4 f3 f2 f1 f0
theorem kR_219_306 : vFreeR s_219.2.2.2.2 306 = true := by decide +kernel
theorem kR_234_306 : vFreeR s_234.2.2.2.2 306 = true := by decide +kernel
theorem kR_216_306 : vFreeR s_216.2.2.2.2 306 = true := by decide +kernel
theorem kR_219_307 : vFreeR s_219.2.2.2.2 307 = true := by decide +kernel
theorem kR_234_307 : vFreeR s_234.2.2.2.2 307 = true := by decide +kernel
theorem kR_216_307 : vFreeR s_216.2.2.2.2 307 = true := by decide +kernel
theorem kR_219_308 : vFreeR s_219.2.2.2.2 308 = true := by decide +kernel
theorem kR_234_308 : vFreeR s_234.2.2.2.2 308 = true := by decide +kernel
theorem kR_216_308 : vFreeR s_216.2.2.2.2 308 = true := by decide +kernel
theorem kR_219_309 : vFreeR s_219.2.2.2.2 309 = true := by decide +kernel
theorem kR_234_309 : vFreeR s_234.2.2.2.2 309 = true := by decide +kernel
theorem kR_216_309 : vFreeR s_216.2.2.2.2 309 = true := by decide +kernel
theorem kR_219_310 : vFreeR s_219.2.2.2.2 310 = true := by decide +kernel
theorem kR_234_310 : vFreeR s_234.2.2.2.2 310 = true := by decide +kernel
theorem kR_216_310 : vFreeR s_216.2.2.2.2 310 = true := by decide +kernel
theorem kR_219_311 : vFreeR s_219.2.2.2.2 311 = true := by decide +kernel
theorem kR_234_311 : vFreeR s_234.2.2.2.2 311 = true := by decide +kernel
theorem kR_216_311 : vFreeR s_216.2.2.2.2 311 = true := by decide +kernel
theorem kR_219_317 : vFreeR s_219.2.2.2.2 317 = true := by decide +kernel
theorem kR_234_317 : vFreeR s_234.2.2.2.2 317 = true := by decide +kernel
theorem kR_216_317 : vFreeR s_216.2.2.2.2 317 = true := by decide +kernel
theorem kR_219_318 : vFreeR s_219.2.2.2.2 318 = true := by decide +kernel
theorem kR_234_318 : vFreeR s_234.2.2.2.2 318 = true := by decide +kernel
theorem kR_216_318 : vFreeR s_216.2.2.2.2 318 = true := by decide +kernel
theorem kR_219_319 : vFreeR s_219.2.2.2.2 319 = true := by decide +kernel
theorem kR_234_319 : vFreeR s_234.2.2.2.2 319 = true := by decide +kernel
theorem kR_216_319 : vFreeR s_216.2.2.2.2 319 = true := by decide +kernel
theorem kR_219_320 : vFreeR s_219.2.2.2.2 320 = true := by decide +kernel
theorem kR_219_321 : vFreeR s_219.2.2.2.2 321 = true := by decide +kernel
theorem kF_234_285_11 : vFree s_234.2.2.2.2 285 11 = true := by decide +kernel
theorem kF_234_285_13 : vFree s_234.2.2.2.2 285 13 = true := by decide +kernel
theorem kF_219_285_34 : vFree s_219.2.2.2.2 285 34 = true := by decide +kernel
theorem kF_234_285_34 : vFree s_234.2.2.2.2 285 34 = true := by decide +kernel
theorem kF_216_285_34 : vFree s_216.2.2.2.2 285 34 = true := by decide +kernel
theorem kF_219_285_35 : vFree s_219.2.2.2.2 285 35 = true := by decide +kernel
theorem kF_234_285_35 : vFree s_234.2.2.2.2 285 35 = true := by decide +kernel
theorem kF_216_285_35 : vFree s_216.2.2.2.2 285 35 = true := by decide +kernel
theorem kF_219_285_44 : vFree s_219.2.2.2.2 285 44 = true := by decide +kernel
theorem kF_234_285_44 : vFree s_234.2.2.2.2 285 44 = true := by decide +kernel
theorem kF_216_285_44 : vFree s_216.2.2.2.2 285 44 = true := by decide +kernel
theorem kF_219_285_51 : vFree s_219.2.2.2.2 285 51 = true := by decide +kernel
theorem kW_285_44 : vRg T0 285 44 (0) (400) = true := by decide +kernel
theorem q_237_6 {n0 n1 n2 n3 n4 n5 n6 n7 n8 n9 n10 n11 n12 n13 n14 n15 n16 n17 : Int} {H0 H1 H2 H3 : gH} (f0 : n0 = 285) (f1 : hWt T0 H0 ∧ preb_237 n0 H0) (f2 : n1 = 2) (f3 : n2 ≤ 1) (f4 : 0 ≤ n2) (f5 : (hLe T0 H0 H1 ∧ hFr s_216.2.2.2.2 H0 H1 ∧ ((0 : Int) = 0 → H1.length = H0.length) ∧ hWt T0 H1) ∧ postb_216 n2 n0 n1 H0 H1) (f6 : n2 = 0) (f7 : n3 ≤ 2) (f8 : 0 ≤ n3) (f9 : n3 = hV H1 (n0).toNat 13) (f10 : n3 = 0) (f11 : n4 = 288) (f12 : n4 = hV H1 (n0).toNat 5) (f13 : n5 ≤ 500) (f14 : 0 ≤ n5) (f15 : n5 = hV H1 (n0).toNat 11) (f16 : n6 ≤ 53) (f17 : 0 ≤ n6) (f18 : n6 = hV H1 (n4).toNat (n5).toNat) (f19 : n7 = 49) (f20 : n7 ≤ n6) (f21 : n8 = 288) (f22 : n8 = hV H1 (n0).toNat 5) (f23 : n9 ≤ 500) (f24 : 0 ≤ n9) (f25 : n9 = hV H1 (n0).toNat 11) (f26 : n10 ≤ 53) (f27 : 0 ≤ n10) (f28 : n10 = hV H1 (n8).toNat (n9).toNat) (f29 : n11 = 53) (f30 : n10 ≤ n11) (f31 : n12 = 1) (f32 : n13 = 288) (f33 : n13 = hV H1 (n0).toNat 5) (f34 : n14 ≤ 500) (f35 : 0 ≤ n14) (f36 : n14 = hV H1 (n0).toNat 11) (f37 : n15 ≤ 53) (f38 : 0 ≤ n15) (f39 : n15 = hV H1 (n13).toNat (n14).toNat) (f40 : n16 = 49) (f41 : n17 = w32 (n15 - n16)) (f42 : (hLe T0 H1 H2 ∧ hFr s_234.2.2.2.2 H1 H2 ∧ ((0 : Int) = 0 → H2.length = H1.length) ∧ hWt T0 H2) ∧ postb_234 n0 n12 n17 H1 H2) (f43 : (hLe T0 H2 H3 ∧ hFr s_219.2.2.2.2 H2 H3 ∧ ((0 : Int) = 0 → H3.length = H2.length) ∧ hWt T0 H3) ∧ postb_219 n0 H2 H3) : postb_237 n0 H0 H3 := by
  unfold preb_237 at f1
  unfold postb_216 at f5
  unfold postb_234 at f42
  unfold postb_219 at f43
  unfold postb_237
  have e1 : n3 = hV H0 285 13 := (by rw [f0] at f9; exact f9 : n3 = hV H1 285 13).trans ((f5.1.2.1.1 285 13 kF_216_285_13))
  have e3 : n5 = hV H0 285 11 := (by rw [f0] at f15; exact f15 : n5 = hV H1 285 11).trans ((f5.1.2.1.1 285 11 kF_216_285_11))
  have e4 : hV H1 288 = hV H0 288 := fRow f5.1.2.1 288 kR_216_288
  have e5 : n6 = hV H0 288 (n5).toNat := (by rw [f11] at f18; exact f18 : n6 = hV H1 288 (n5).toNat).trans ((congrFun e4 _))
  have e6 : n9 = hV H0 285 11 := (by rw [f0] at f25; exact f25 : n9 = hV H1 285 11).trans ((f5.1.2.1.1 285 11 kF_216_285_11))
  have e7 : n10 = hV H0 288 (n9).toNat := (by rw [f21] at f28; exact f28 : n10 = hV H1 288 (n9).toNat).trans ((congrFun e4 _))
  have e8 : n14 = hV H0 285 11 := (by rw [f0] at f36; exact f36 : n14 = hV H1 285 11).trans ((f5.1.2.1.1 285 11 kF_216_285_11))
  have e9 : n15 = hV H0 288 (n14).toNat := (by rw [f32] at f39; exact f39 : n15 = hV H1 288 (n14).toNat).trans ((congrFun e4 _))
  have e10 : hV H1 285 11 = hV H0 285 11 := (f5.1.2.1.1 285 11 kF_216_285_11)
  have e11 : hV H1 285 13 = hV H0 285 13 := (f5.1.2.1.1 285 13 kF_216_285_13)
  have e13 : hV H1 285 51 = hV H0 285 51 := (f5.1.2.1.1 285 51 kF_216_285_51)
  have e14 : hV H1 320 = hV H0 320 := fRow f5.1.2.1 320 kR_216_320
  have e15 : hV H1 321 = hV H0 321 := fRow f5.1.2.1 321 kR_216_321
  have e17 : hV H2 285 11 = hV H0 285 11 := ((f42.1.2.1.1 285 11 kF_234_285_11)).trans (f5.1.2.1.1 285 11 kF_216_285_11)
  have e19 : hV H2 285 13 = hV H0 285 13 := ((f42.1.2.1.1 285 13 kF_234_285_13)).trans (f5.1.2.1.1 285 13 kF_216_285_13)
  have e23 : hV H3 285 34 = hV H0 285 34 := ((f43.1.2.1.1 285 34 kF_219_285_34)).trans (((f42.1.2.1.1 285 34 kF_234_285_34)).trans (f5.1.2.1.1 285 34 kF_216_285_34))
  have e27 : hV H3 285 35 = hV H0 285 35 := ((f43.1.2.1.1 285 35 kF_219_285_35)).trans (((f42.1.2.1.1 285 35 kF_234_285_35)).trans (f5.1.2.1.1 285 35 kF_216_285_35))
  have e31 : hV H3 285 44 = hV H0 285 44 := ((f43.1.2.1.1 285 44 kF_219_285_44)).trans (((f42.1.2.1.1 285 44 kF_234_285_44)).trans (f5.1.2.1.1 285 44 kF_216_285_44))
  have e33 : hV H3 285 51 = hV H2 285 51 := (f43.1.2.1.1 285 51 kF_219_285_51)
  have e38 : hV H3 306 = hV H0 306 := (fRow f43.1.2.1 306 kR_219_306).trans ((fRow f42.1.2.1 306 kR_234_306).trans (fRow f5.1.2.1 306 kR_216_306))
  have e43 : hV H3 307 = hV H0 307 := (fRow f43.1.2.1 307 kR_219_307).trans ((fRow f42.1.2.1 307 kR_234_307).trans (fRow f5.1.2.1 307 kR_216_307))
  have e48 : hV H3 308 = hV H0 308 := (fRow f43.1.2.1 308 kR_219_308).trans ((fRow f42.1.2.1 308 kR_234_308).trans (fRow f5.1.2.1 308 kR_216_308))
  have e53 : hV H3 309 = hV H0 309 := (fRow f43.1.2.1 309 kR_219_309).trans ((fRow f42.1.2.1 309 kR_234_309).trans (fRow f5.1.2.1 309 kR_216_309))
  have e58 : hV H3 310 = hV H0 310 := (fRow f43.1.2.1 310 kR_219_310).trans ((fRow f42.1.2.1 310 kR_234_310).trans (fRow f5.1.2.1 310 kR_216_310))
  have e63 : hV H3 311 = hV H0 311 := (fRow f43.1.2.1 311 kR_219_311).trans ((fRow f42.1.2.1 311 kR_234_311).trans (fRow f5.1.2.1 311 kR_216_311))
  have e68 : hV H3 317 = hV H0 317 := (fRow f43.1.2.1 317 kR_219_317).trans ((fRow f42.1.2.1 317 kR_234_317).trans (fRow f5.1.2.1 317 kR_216_317))
  have e73 : hV H3 318 = hV H0 318 := (fRow f43.1.2.1 318 kR_219_318).trans ((fRow f42.1.2.1 318 kR_234_318).trans (fRow f5.1.2.1 318 kR_216_318))
  have e78 : hV H3 319 = hV H0 319 := (fRow f43.1.2.1 319 kR_219_319).trans ((fRow f42.1.2.1 319 kR_234_319).trans (fRow f5.1.2.1 319 kR_216_319))
  have e79 : hV H3 320 = hV H2 320 := fRow f43.1.2.1 320 kR_219_320
  have e80 : hV H3 321 = hV H2 321 := fRow f43.1.2.1 321 kR_219_321
  have e81 : (0 : Int) ≤ hV H0 285 11 ∧ hV H0 285 11 ≤ 500 := f1.1 285 11 _ _ kW_285_11
  have e82 : (0 : Int) ≤ hV H0 285 13 ∧ hV H0 285 13 ≤ 2 := f1.1 285 13 _ _ kW_285_13
  have e83 : (0 : Int) ≤ hV H0 285 34 ∧ hV H0 285 34 ≤ 1 := f1.1 285 34 _ _ kW_285_34
  have e84 : (0 : Int) ≤ hV H0 285 35 ∧ hV H0 285 35 ≤ 1 := f1.1 285 35 _ _ kW_285_35
  have e85 : (0 : Int) ≤ hV H0 285 44 ∧ hV H0 285 44 ≤ 400 := f1.1 285 44 _ _ kW_285_44
  have e86 : (0 : Int) ≤ hV H0 285 51 ∧ hV H0 285 51 ≤ 1200 := f1.1 285 51 _ _ kW_285_51
  have e92 : (0 : Int) ≤ hV H2 285 51 ∧ hV H2 285 51 ≤ 1200 := f42.1.2.2.2 285 51 _ _ kW_285_51
  have e93 : (0 : Int) ≤ hV H3 285 11 ∧ hV H3 285 11 ≤ 500 := f43.1.2.2.2 285 11 _ _ kW_285_11
  have e94 : (0 : Int) ≤ hV H3 285 13 ∧ hV H3 285 13 ≤ 2 := f43.1.2.2.2 285 13 _ _ kW_285_13
  try simp only [RR]
  try simp only [e23, e27, e31, e33, e38, e43, e48, e53, e58, e63, e68, e73, e78, e79, e80]
  have p0 := f1.2.1
  have p1 := f1.2.2.1
  have p2 := f1.2.2.2.1
  have p3 := f1.2.2.2.2
  have r0_0 := f5.2.1
  have r0_1 := f5.2.2
  have r1_0 := f42.2.1
  have r1_1 := f42.2.2.1
  have r1_2 := f42.2.2.2
  have r2_0 := f43.2.1
  have r2_1 := f43.2.2.1
  have r2_2 := f43.2.2.2.1
  have r2_3 := f43.2.2.2.2
  try simp only [RR] at p0
  try simp only [e11] at r0_0
  try simp only [e10, e11, e4] at r0_1
  try simp only [e13] at r1_0
  try simp only [e13, e14] at r1_1
  try simp only [e13, e15] at r1_2
  try simp only [e17] at r2_0
  try simp only [e17] at r2_1
  try simp only [e19] at r2_2
  try simp only [e17] at r2_3
  clear f9 f12 f15 f18 f22 f25 f28 f33 f36 f39 e4 e10 e11 e13 e14 e15 e17 e19 e23 e27 e31 e33 e38 e43 e48 e53 e58 e63 e68 e73 e78 e79 e80
  clear f1 f5 f42 f43
  subst e1
  subst e3
  subst e5
  subst e6
  subst e7
  subst e8
  subst e9
  unfold w32 at f41

  refine ⟨?_, ?_, ?_, ?_, ?_, ?_, ?_, ?_, ?_, ?_⟩
  · rw [r1_1, r1_2]
    exact RR_emit p0 (by omega) (by omega) (by omega) (by omega) (by omega) (by omega) (by omega) (by omega)
  · rw [r1_1, r1_2]
    intro hf d
    exact CO_step (CO_refl rfl rfl) (by omega) (by omega) (by omega) (.inl ⟨by omega, by omega, by omega⟩)
  all_goals omega
def g_237_s_6 : vG := ([(1219, [0], [2, 3], 0), (1234, [0, 12, 17], [1, 2], 0), (2, [17, 15, 16], [], 0), (0, [16], [], 49), (22, [15, 13, 14], [1], 0), (90, [15], [], 0), (91, [15], [], 53), (20, [14, 0], [1], 11), (90, [14], [], 0), (91, [14], [], 500), (20, [13, 0], [1], 5), (0, [13], [], 288), (0, [12], [], 1), (45, [10, 11], [], 0), (0, [11], [], 53), (22, [10, 8, 9], [1], 0), (90, [10], [], 0), (91, [10], [], 53), (20, [9, 0], [1], 11), (90, [9], [], 0), (91, [9], [], 500), (20, [8, 0], [1], 5), (0, [8], [], 288), (43, [6, 7], [], 0), (0, [7], [], 49), (22, [6, 4, 5], [1], 0), (90, [6], [], 0), (91, [6], [], 53), (20, [5, 0], [1], 11), (90, [5], [], 0), (91, [5], [], 500), (20, [4, 0], [1], 5), (0, [4], [], 288), (30, [3], [], 0), (20, [3, 0], [1], 13), (90, [3], [], 0), (91, [3], [], 2), (30, [2], [], 0), (1216, [2, 0, 1], [0, 1], 0), (90, [2], [], 0), (91, [2], [], 1), (0, [1], [], 2), (6000, [0], [0], 0), (0, [0], [], 285)], (3000, [], [3], 93))
theorem c_237_s_6 : vOkm T0 (eP e_237 L_237 A_237 mu_237 none) 1 g_237_s_6 := vOk_inI fun ρ η f0 f1 f2 f3 f4 f5 f6 f7 f8 f9 f10 f11 f12 f13 f14 f15 f16 f17 f18 f19 f20 f21 f22 f23 f24 f25 f26 f27 f28 f29 f30 f31 f32 f33 f34 f35 f36 f37 f38 f39 f40 f41 f42 f43 => q_237_6 (n0 := ρ 0) (n1 := ρ 1) (n2 := ρ 2) (n3 := ρ 3) (n4 := ρ 4) (n5 := ρ 5) (n6 := ρ 6) (n7 := ρ 7) (n8 := ρ 8) (n9 := ρ 9) (n10 := ρ 10) (n11 := ρ 11) (n12 := ρ 12) (n13 := ρ 13) (n14 := ρ 14) (n15 := ρ 15) (n16 := ρ 16) (n17 := ρ 17) (H0 := η 0) (H1 := η 1) (H2 := η 2) (H3 := η 3) f43 f42 f41 f40 f39 f38 f37 f36 f35 f34 f33 f32 f31 f30 f29 f28 f27 f26 f25 f24 f23 f22 f21 f20 f19 f18 f17 f16 f15 f14 f13 f12 f11 f10 f9 f8 f7 f6 f5 f4 f3 f2 f1 f0
theorem q_237_7 {n0 n1 n2 n3 n4 : Int} {H0 H1 : gH} (f0 : n0 = 285) (f1 : hWt T0 H0 ∧ preb_237 n0 H0) (f2 : n1 = 2) (f3 : (hLe T0 H0 H1 ∧ hFr s_216.2.2.2.2 H0 H1 ∧ ((0 : Int) = 0 → H1.length = H0.length) ∧ hWt T0 H1) ∧ postb_216 n2 n0 n1 H0 H1) (f4 : n3 = 0) : preb_234 n0 n3 n4 H1 := by
  unfold preb_237 at f1
  unfold postb_216 at f3
  unfold preb_234
  have e1 : hV H1 285 11 = hV H0 285 11 := (f3.1.2.1.1 285 11 kF_216_285_11)
  have e3 : hV H1 285 13 = hV H0 285 13 := (f3.1.2.1.1 285 13 kF_216_285_13)
  have e5 : hV H1 285 51 = hV H0 285 51 := (f3.1.2.1.1 285 51 kF_216_285_51)
  have e6 : hV H1 288 = hV H0 288 := fRow f3.1.2.1 288 kR_216_288
  have e7 : (0 : Int) ≤ hV H0 285 34 ∧ hV H0 285 34 ≤ 1 := f1.1 285 34 _ _ kW_285_34
  have e8 : (0 : Int) ≤ hV H0 285 35 ∧ hV H0 285 35 ≤ 1 := f1.1 285 35 _ _ kW_285_35
  have e9 : (0 : Int) ≤ hV H0 285 51 ∧ hV H0 285 51 ≤ 1200 := f1.1 285 51 _ _ kW_285_51
  have e10 : (0 : Int) ≤ hV H0 285 11 ∧ hV H0 285 11 ≤ 500 := bTo e1 (f3.1.2.2.2 285 11 _ _ kW_285_11)
  have e12 : (0 : Int) ≤ hV H0 285 13 ∧ hV H0 285 13 ≤ 2 := bTo e3 (f3.1.2.2.2 285 13 _ _ kW_285_13)
  try simp only [e5]
  have p0 := f1.2.1
  have p1 := f1.2.2.1
  have p2 := f1.2.2.2.1
  have p3 := f1.2.2.2.2
  have r0_0 := f3.2.1
  have r0_1 := f3.2.2
  try simp only [e3] at r0_0
  try simp only [e1, e3, e6] at r0_1
  clear e1 e3 e5 e6
  clear f1 f3
  first | assumption | omega | trivial
def g_237_s_7 : vG := ([(0, [3], [], 0), (1216, [2, 0, 1], [0, 1], 0), (0, [1], [], 2), (6000, [0], [0], 0), (0, [0], [], 285)], (2234, [0, 3, 6], [1], 0))
theorem c_237_s_7 : vOkm T0 (eP e_237 L_237 A_237 mu_237 none) 1 g_237_s_7 := vOk_inI fun ρ η f0 f1 f2 f3 f4 => q_237_7 (n0 := ρ 0) (n1 := ρ 1) (n2 := ρ 2) (n3 := ρ 3) (n4 := ρ 6) (H0 := η 0) (H1 := η 1) f4 f3 f2 f1 f0
theorem kR_216_290 : vFreeR s_216.2.2.2.2 290 = true := by decide +kernel
theorem q_237_8 {n0 n1 n2 n3 n4 n5 n6 : Int} {H0 H1 H2 H3 : gH} (f0 : n0 = 285) (f1 : hWt T0 H0 ∧ preb_237 n0 H0) (f2 : n1 = 2) (f3 : n2 ≤ 1) (f4 : 0 ≤ n2) (f5 : (hLe T0 H0 H1 ∧ hFr s_216.2.2.2.2 H0 H1 ∧ ((0 : Int) = 0 → H1.length = H0.length) ∧ hWt T0 H1) ∧ postb_216 n2 n0 n1 H0 H1) (f6 : n2 ≠ 0) (f7 : n3 = 0) (f8 : n4 = 290) (f9 : n4 = hV H1 (n0).toNat 7) (f10 : n5 ≤ 500) (f11 : 0 ≤ n5) (f12 : n5 = hV H1 (n0).toNat 11) (f13 : n6 ≤ 9999) (f14 : 0 ≤ n6) (f15 : n6 = hV H1 (n4).toNat (n5).toNat) (f16 : (hLe T0 H1 H2 ∧ hFr s_234.2.2.2.2 H1 H2 ∧ ((0 : Int) = 0 → H2.length = H1.length) ∧ hWt T0 H2) ∧ postb_234 n0 n3 n6 H1 H2) (f17 : (hLe T0 H2 H3 ∧ hFr s_219.2.2.2.2 H2 H3 ∧ ((0 : Int) = 0 → H3.length = H2.length) ∧ hWt T0 H3) ∧ postb_219 n0 H2 H3) : postb_237 n0 H0 H3 := by
  unfold preb_237 at f1
  unfold postb_216 at f5
  unfold postb_234 at f16
  unfold postb_219 at f17
  unfold postb_237
  have e1 : n5 = hV H0 285 11 := (by rw [f0] at f12; exact f12 : n5 = hV H1 285 11).trans ((f5.1.2.1.1 285 11 kF_216_285_11))
  have e3 : n6 = hV H0 290 (n5).toNat := (by rw [f8] at f15; exact f15 : n6 = hV H1 290 (n5).toNat).trans ((congrFun (fRow f5.1.2.1 290 kR_216_290) _))
  have e4 : hV H1 285 11 = hV H0 285 11 := (f5.1.2.1.1 285 11 kF_216_285_11)
  have e6 : hV H1 285 13 = hV H0 285 13 := (f5.1.2.1.1 285 13 kF_216_285_13)
  have e8 : hV H1 285 51 = hV H0 285 51 := (f5.1.2.1.1 285 51 kF_216_285_51)
  have e9 : hV H1 288 = hV H0 288 := fRow f5.1.2.1 288 kR_216_288
  have e10 : hV H1 320 = hV H0 320 := fRow f5.1.2.1 320 kR_216_320
  have e11 : hV H1 321 = hV H0 321 := fRow f5.1.2.1 321 kR_216_321
  have e13 : hV H2 285 11 = hV H0 285 11 := ((f16.1.2.1.1 285 11 kF_234_285_11)).trans (f5.1.2.1.1 285 11 kF_216_285_11)
  have e15 : hV H2 285 13 = hV H0 285 13 := ((f16.1.2.1.1 285 13 kF_234_285_13)).trans (f5.1.2.1.1 285 13 kF_216_285_13)
  have e19 : hV H3 285 34 = hV H0 285 34 := ((f17.1.2.1.1 285 34 kF_219_285_34)).trans (((f16.1.2.1.1 285 34 kF_234_285_34)).trans (f5.1.2.1.1 285 34 kF_216_285_34))
  have e23 : hV H3 285 35 = hV H0 285 35 := ((f17.1.2.1.1 285 35 kF_219_285_35)).trans (((f16.1.2.1.1 285 35 kF_234_285_35)).trans (f5.1.2.1.1 285 35 kF_216_285_35))
  have e27 : hV H3 285 44 = hV H0 285 44 := ((f17.1.2.1.1 285 44 kF_219_285_44)).trans (((f16.1.2.1.1 285 44 kF_234_285_44)).trans (f5.1.2.1.1 285 44 kF_216_285_44))
  have e29 : hV H3 285 51 = hV H2 285 51 := (f17.1.2.1.1 285 51 kF_219_285_51)
  have e34 : hV H3 306 = hV H0 306 := (fRow f17.1.2.1 306 kR_219_306).trans ((fRow f16.1.2.1 306 kR_234_306).trans (fRow f5.1.2.1 306 kR_216_306))
  have e39 : hV H3 307 = hV H0 307 := (fRow f17.1.2.1 307 kR_219_307).trans ((fRow f16.1.2.1 307 kR_234_307).trans (fRow f5.1.2.1 307 kR_216_307))
  have e44 : hV H3 308 = hV H0 308 := (fRow f17.1.2.1 308 kR_219_308).trans ((fRow f16.1.2.1 308 kR_234_308).trans (fRow f5.1.2.1 308 kR_216_308))
  have e49 : hV H3 309 = hV H0 309 := (fRow f17.1.2.1 309 kR_219_309).trans ((fRow f16.1.2.1 309 kR_234_309).trans (fRow f5.1.2.1 309 kR_216_309))
  have e54 : hV H3 310 = hV H0 310 := (fRow f17.1.2.1 310 kR_219_310).trans ((fRow f16.1.2.1 310 kR_234_310).trans (fRow f5.1.2.1 310 kR_216_310))
  have e59 : hV H3 311 = hV H0 311 := (fRow f17.1.2.1 311 kR_219_311).trans ((fRow f16.1.2.1 311 kR_234_311).trans (fRow f5.1.2.1 311 kR_216_311))
  have e64 : hV H3 317 = hV H0 317 := (fRow f17.1.2.1 317 kR_219_317).trans ((fRow f16.1.2.1 317 kR_234_317).trans (fRow f5.1.2.1 317 kR_216_317))
  have e69 : hV H3 318 = hV H0 318 := (fRow f17.1.2.1 318 kR_219_318).trans ((fRow f16.1.2.1 318 kR_234_318).trans (fRow f5.1.2.1 318 kR_216_318))
  have e74 : hV H3 319 = hV H0 319 := (fRow f17.1.2.1 319 kR_219_319).trans ((fRow f16.1.2.1 319 kR_234_319).trans (fRow f5.1.2.1 319 kR_216_319))
  have e75 : hV H3 320 = hV H2 320 := fRow f17.1.2.1 320 kR_219_320
  have e76 : hV H3 321 = hV H2 321 := fRow f17.1.2.1 321 kR_219_321
  have e77 : (0 : Int) ≤ hV H0 285 11 ∧ hV H0 285 11 ≤ 500 := f1.1 285 11 _ _ kW_285_11
  have e78 : (0 : Int) ≤ hV H0 285 13 ∧ hV H0 285 13 ≤ 2 := f1.1 285 13 _ _ kW_285_13
  have e79 : (0 : Int) ≤ hV H0 285 34 ∧ hV H0 285 34 ≤ 1 := f1.1 285 34 _ _ kW_285_34
  have e80 : (0 : Int) ≤ hV H0 285 35 ∧ hV H0 285 35 ≤ 1 := f1.1 285 35 _ _ kW_285_35
  have e81 : (0 : Int) ≤ hV H0 285 44 ∧ hV H0 285 44 ≤ 400 := f1.1 285 44 _ _ kW_285_44
  have e82 : (0 : Int) ≤ hV H0 285 51 ∧ hV H0 285 51 ≤ 1200 := f1.1 285 51 _ _ kW_285_51
  have e88 : (0 : Int) ≤ hV H2 285 51 ∧ hV H2 285 51 ≤ 1200 := f16.1.2.2.2 285 51 _ _ kW_285_51
  have e89 : (0 : Int) ≤ hV H3 285 11 ∧ hV H3 285 11 ≤ 500 := f17.1.2.2.2 285 11 _ _ kW_285_11
  have e90 : (0 : Int) ≤ hV H3 285 13 ∧ hV H3 285 13 ≤ 2 := f17.1.2.2.2 285 13 _ _ kW_285_13
  try simp only [RR]
  try simp only [e19, e23, e27, e29, e34, e39, e44, e49, e54, e59, e64, e69, e74, e75, e76]
  have p0 := f1.2.1
  have p1 := f1.2.2.1
  have p2 := f1.2.2.2.1
  have p3 := f1.2.2.2.2
  have r0_0 := f5.2.1
  have r0_1 := f5.2.2
  have r1_0 := f16.2.1
  have r1_1 := f16.2.2.1
  have r1_2 := f16.2.2.2
  have r2_0 := f17.2.1
  have r2_1 := f17.2.2.1
  have r2_2 := f17.2.2.2.1
  have r2_3 := f17.2.2.2.2
  try simp only [RR] at p0
  try simp only [e6] at r0_0
  try simp only [e4, e6, e9] at r0_1
  try simp only [e8] at r1_0
  try simp only [e8, e10] at r1_1
  try simp only [e8, e11] at r1_2
  try simp only [e13] at r2_0
  try simp only [e13] at r2_1
  try simp only [e15] at r2_2
  try simp only [e13] at r2_3
  clear f9 f12 f15 e4 e6 e8 e9 e10 e11 e13 e15 e19 e23 e27 e29 e34 e39 e44 e49 e54 e59 e64 e69 e74 e75 e76
  clear f1 f5 f16 f17
  subst e1
  subst e3

  refine ⟨?_, ?_, ?_, ?_, ?_, ?_, ?_, ?_, ?_, ?_⟩
  · rw [r1_1, r1_2]
    exact RR_emit p0 (by omega) (by omega) (by omega) (by omega) (by omega) (by omega) (by omega) (by omega)
  · rw [r1_1, r1_2]
    intro hf d
    exact CO_step (CO_refl rfl rfl) (by omega) (by omega) (by omega) (.inl ⟨by omega, by omega, by omega⟩)
  all_goals omega
def g_237_s_8 : vG := ([(1219, [0], [2, 3], 0), (1234, [0, 3, 6], [1, 2], 0), (22, [6, 4, 5], [1], 0), (90, [6], [], 0), (91, [6], [], 9999), (20, [5, 0], [1], 11), (90, [5], [], 0), (91, [5], [], 500), (20, [4, 0], [1], 7), (0, [4], [], 290), (0, [3], [], 0), (31, [2], [], 0), (1216, [2, 0, 1], [0, 1], 0), (90, [2], [], 0), (91, [2], [], 1), (0, [1], [], 2), (6000, [0], [0], 0), (0, [0], [], 285)], (3000, [], [3], 93))
theorem c_237_s_8 : vOkm T0 (eP e_237 L_237 A_237 mu_237 none) 1 g_237_s_8 := vOk_inI fun ρ η f0 f1 f2 f3 f4 f5 f6 f7 f8 f9 f10 f11 f12 f13 f14 f15 f16 f17 => q_237_8 (n0 := ρ 0) (n1 := ρ 1) (n2 := ρ 2) (n3 := ρ 3) (n4 := ρ 4) (n5 := ρ 5) (n6 := ρ 6) (H0 := η 0) (H1 := η 1) (H2 := η 2) (H3 := η 3) f17 f16 f15 f14 f13 f12 f11 f10 f9 f8 f7 f6 f5 f4 f3 f2 f1 f0
def p_237_s : List vG := [g_237_s_0,
  g_237_s_1,
  g_237_s_2,
  g_237_s_3,
  g_237_s_4,
  g_237_s_5,
  g_237_s_6,
  g_237_s_7,
  g_237_s_8]
theorem r_237_s : vCovO false (eR0 e_237 L_237 cs_237 2000) p_237_s = true := by decide +kernel
theorem m_237 (d : Nat) : eC e_237 (d + 3) := eC_ok (e := e_237) (L := L_237) (cs := cs_237) (n := 2000) (d := d + 2) (A := A_237) (μ := mu_237) (tp := false) (p0 := p_237_s) rfl ⟨m_216 (d + 1), ⟨m_217 (d + 1), ⟨m_219 d, ⟨m_234 (d + 1), trivial⟩⟩⟩⟩ rfl (.inl rfl) (by decide +kernel) (fun z => nomatch z) r_237_s (allC c_237_s_0 (allC c_237_s_1 (allC c_237_s_2 (allC c_237_s_3 (allC c_237_s_4 (allC c_237_s_5 (allC c_237_s_6 (allC c_237_s_7 (allC c_237_s_8 allN))))))))) allN
/- MixStageModel.comesOut (Z)V -/
noncomputable def s_235 : vM := ([(3, 12, 285, 0), (0, 0, 1, 0)], (9, 0, 0, 0), 1, 0, [(12, 51), (12, 55), (388, 0), (396, 0)])
def preb_235 (a0 a1 : Int) (h : gH) : Prop := RR h ∧ hV h 285 35 = 1 - hV h 285 34 ∧ 600 * hV h 285 35 ≤ hV h 285 51 ∧ hV h 285 51 + hV h 285 55 - wo (hV h 322) (hV h 285 55).toNat ≤ 600 * hV h 285 35 + 510
def pre_235 : List Int → gH → Prop := fun xs h => match xs with
  | [a0, a1] => preb_235 a0 a1 h
  | _ => False
def postb_235 (a0 a1 : Int) (h0 h : gH) : Prop := RR h ∧ COp (hV h0 320) (hV h0 321) (hV h 320) (hV h 321) (hV h0 285 51) (hV h0 285 55 - wo (hV h0 322) (hV h0 285 55).toNat + 1) (hV h 285 51) (hV h 285 55 - wo (hV h 322) (hV h 285 55).toNat + 1) ∧ hV h 285 51 + hV h 285 55 = hV h0 285 51 + hV h0 285 55 ∧ hV h 285 55 ≤ hV h0 285 55 ∧ wo (hV h 322) (hV h 285 55).toNat = wo (hV h0 322) (hV h0 285 55).toNat ∧ (hV h 285 55 = 0 ∨ hV h 322 ((hV h 285 55 - 1).toNat) = 6 ∨ (a1 = 1 ∧ (hV h 322 ((hV h 285 55 - 1).toNat) = 8 ∨ hV h 322 ((hV h 285 55 - 1).toNat) = 9)))
def post_235 : List Int → gH → gH → Prop := fun xs h0 h => match xs with
  | [a0, a1] => postb_235 a0 a1 h0 h
  | _ => True
noncomputable def e_235 : vE := (235, s_235, pre_235, post_235)
noncomputable def L_235 : List vE := [e_234]
def cs_235 : List vC := [(0, [(0, (3, 12, 285, 0)), (1, (0, 0, 1, 0)), (2, (0, -2147483648, 2147483647, 0))])]
def Ab_235_0 (a0 a1 x0 x1 x2 : Int) (h0 h : gH) : Prop := x1 = a1 ∧ RR h ∧ COp (hV h0 320) (hV h0 321) (hV h 320) (hV h 321) (hV h0 285 51) (hV h0 285 55 - wo (hV h0 322) (hV h0 285 55).toNat + 1) (hV h 285 51) (hV h 285 55 - wo (hV h 322) (hV h 285 55).toNat + 1) ∧ hV h 285 51 + hV h 285 55 = hV h0 285 51 + hV h0 285 55 ∧ hV h 285 55 ≤ hV h0 285 55 ∧ wo (hV h 322) (hV h 285 55).toNat = wo (hV h0 322) (hV h0 285 55).toNat
def mub_235_0 (a0 a1 x0 x1 x2 : Int) (h0 h : gH) : Nat := (hV h 285 55).toNat
def A_235 : Int → List Int → gH → gH → Prop := fun c xs h0 h => match c.toNat with
  | 0 => (match xs with
    | [a0, a1, x0, x1, x2] => Ab_235_0 a0 a1 x0 x1 x2 h0 h
    | _ => False)
  | _ => True
def mu_235 : Int → List Int → gH → gH → Nat := fun c xs h0 h => match c.toNat with
  | 0 => (match xs with
    | [a0, a1, x0, x1, x2] => mub_235_0 a0 a1 x0 x1 x2 h0 h
    | _ => 0)
  | _ => 0
theorem kW_285_55 : vRg T0 285 55 (0) (64) = true := by decide +kernel
theorem q_235_0 {n0 n1 n2 : Int} {H0 : gH} (f0 : n0 ≤ 1) (f1 : 0 ≤ n0) (f2 : n1 = 285) (f3 : hWt T0 H0 ∧ preb_235 n1 n0 H0) (f4 : n2 ≤ 64) (f5 : 0 ≤ n2) (f6 : n2 = hV H0 (n1).toNat 55) (f7 : n2 ≤ 0) : postb_235 n1 n0 H0 H0 := by
  unfold preb_235 at f3
  unfold postb_235
  have e0 : n2 = hV H0 285 55 := (by rw [f2] at f6; exact f6 : n2 = hV H0 285 55)
  have e1 : (0 : Int) ≤ hV H0 285 34 ∧ hV H0 285 34 ≤ 1 := f3.1 285 34 _ _ kW_285_34
  have e2 : (0 : Int) ≤ hV H0 285 35 ∧ hV H0 285 35 ≤ 1 := f3.1 285 35 _ _ kW_285_35
  have e3 : (0 : Int) ≤ hV H0 285 51 ∧ hV H0 285 51 ≤ 1200 := f3.1 285 51 _ _ kW_285_51
  have e4 : (0 : Int) ≤ hV H0 285 55 ∧ hV H0 285 55 ≤ 64 := f3.1 285 55 _ _ kW_285_55
  have p0 := f3.2.1
  have p1 := f3.2.2.1
  have p2 := f3.2.2.2.1
  have p3 := f3.2.2.2.2
  clear f6
  clear f3
  subst e0

  have y0 := p0
  have y1 : COp (hV H0 320) (hV H0 321) (hV H0 320) (hV H0 321) (hV H0 285 51) (hV H0 285 55 - wo (hV H0 322) (hV H0 285 55).toNat + 1) (hV H0 285 51) (hV H0 285 55 - wo (hV H0 322) (hV H0 285 55).toNat + 1) := CO_refl rfl rfl
  refine ⟨y0, y1, ?_, ?_, ?_, ?_⟩ <;> first | trivial | omega
def g_235_s_0 : vG := ([(35, [2], [], 0), (20, [2, 0], [0], 55), (90, [2], [], 0), (91, [2], [], 64), (6000, [0, 1], [0], 0), (0, [0], [], 285), (90, [1], [], 0), (91, [1], [], 1)], (3000, [], [0], 91))
theorem c_235_s_0 : vOkm T0 (eP e_235 L_235 A_235 mu_235 none) 2 g_235_s_0 := vOk_inI fun ρ η f0 f1 f2 f3 f4 f5 f6 f7 => q_235_0 (n0 := ρ 1) (n1 := ρ 0) (n2 := ρ 2) (H0 := η 0) f7 f6 f5 f4 f3 f2 f1 f0
theorem q_235_1 {n0 n1 n2 n3 n4 : Int} {H0 : gH} (f0 : n0 = 285) (f1 : n1 = hV H0 (n0).toNat 55) (f2 : 0 < n1) (f3 : n2 ≤ 64) (f4 : n2 = hV H0 (n0).toNat 55) (f5 : n3 = 1) (f6 : n4 = w32 (n2 - n3)) : 0 ≤ n4 ∧ n4 < 64 := by
  have e0 : n1 = hV H0 285 55 := (by rw [f0] at f1; exact f1 : n1 = hV H0 285 55)
  have e1 : n2 = hV H0 285 55 := (by rw [f0] at f4; exact f4 : n2 = hV H0 285 55)
  clear f1 f4
  subst e0
  subst e1
  first
  | (have ix0 : n4 = hV H0 285 55 - 1 := Eq.trans f6 (w32_id (by omega) (by omega)); subst ix0; clear f6)
  | (unfold w32 at f6; have ix0 : n4 = hV H0 285 55 - 1 := (by omega); subst ix0)
  | skip
  try unfold w32 at f6
  omega
def g_235_s_1 : vG := ([(2, [6, 4, 5], [], 0), (0, [5], [], 1), (20, [4, 0], [0], 55), (91, [4], [], 64), (34, [2], [], 0), (20, [2, 0], [0], 55), (0, [0], [], 285)], (70, [6], [], 64))
theorem c_235_s_1 : vOkm T0 (eP e_235 L_235 A_235 mu_235 none) 2 g_235_s_1 := vOk_inI fun ρ η f0 f1 f2 f3 f4 f5 f6 => q_235_1 (n0 := ρ 0) (n1 := ρ 2) (n2 := ρ 4) (n3 := ρ 5) (n4 := ρ 6) (H0 := η 0) f6 f5 f4 f3 f2 f1 f0
theorem q_235_2 {n0 n1 n2 n3 n4 n5 n6 n7 n8 : Int} {H0 : gH} (f0 : n0 ≤ 1) (f1 : 0 ≤ n0) (f2 : n1 = 285) (f3 : hWt T0 H0 ∧ preb_235 n1 n0 H0) (f4 : n2 ≤ 64) (f5 : 0 ≤ n2) (f6 : n2 = hV H0 (n1).toNat 55) (f7 : 0 < n2) (f8 : n3 = 322) (f9 : n3 = hV H0 (n1).toNat 54) (f10 : n4 ≤ 64) (f11 : 0 ≤ n4) (f12 : n4 = hV H0 (n1).toNat 55) (f13 : n5 = 1) (f14 : n6 = w32 (n4 - n5)) (f15 : n7 ≤ 53) (f16 : 0 ≤ n7) (f17 : n7 = hV H0 (n3).toNat (n6).toNat) (f18 : n8 = 6) (f19 : n7 = n8) : postb_235 n1 n0 H0 H0 := by
  unfold preb_235 at f3
  unfold postb_235
  have e0 : n2 = hV H0 285 55 := (by rw [f2] at f6; exact f6 : n2 = hV H0 285 55)
  have e1 : n4 = hV H0 285 55 := (by rw [f2] at f12; exact f12 : n4 = hV H0 285 55)
  have e2 : n7 = hV H0 322 (n6).toNat := (by rw [f8] at f17; exact f17 : n7 = hV H0 322 (n6).toNat)
  have e3 : (0 : Int) ≤ hV H0 285 34 ∧ hV H0 285 34 ≤ 1 := f3.1 285 34 _ _ kW_285_34
  have e4 : (0 : Int) ≤ hV H0 285 35 ∧ hV H0 285 35 ≤ 1 := f3.1 285 35 _ _ kW_285_35
  have e5 : (0 : Int) ≤ hV H0 285 51 ∧ hV H0 285 51 ≤ 1200 := f3.1 285 51 _ _ kW_285_51
  have e6 : (0 : Int) ≤ hV H0 285 55 ∧ hV H0 285 55 ≤ 64 := f3.1 285 55 _ _ kW_285_55
  have p0 := f3.2.1
  have p1 := f3.2.2.1
  have p2 := f3.2.2.2.1
  have p3 := f3.2.2.2.2
  clear f6 f9 f12 f17
  clear f3
  subst e0
  subst e1
  subst e2
  first
  | (have ix0 : n6 = hV H0 285 55 - 1 := Eq.trans f14 (w32_iv (Isu (Iat f5 f4) (IC 1)) (by decide)); subst ix0; clear f14)
  | (have ix0 : n6 = hV H0 285 55 - 1 := Eq.trans f14 (w32_id (by omega) (by omega)); subst ix0; clear f14)
  | (unfold w32 at f14; have ix0 : n6 = hV H0 285 55 - 1 := (by omega); subst ix0)
  | skip
  try unfold w32 at f14

  have y0 := p0
  have y1 : COp (hV H0 320) (hV H0 321) (hV H0 320) (hV H0 321) (hV H0 285 51) (hV H0 285 55 - wo (hV H0 322) (hV H0 285 55).toNat + 1) (hV H0 285 51) (hV H0 285 55 - wo (hV H0 322) (hV H0 285 55).toNat + 1) := CO_refl rfl rfl
  refine ⟨y0, y1, ?_, ?_, ?_, ?_⟩ <;> first | trivial | omega
def g_235_s_2 : vG := ([(40, [7, 8], [], 0), (0, [8], [], 6), (22, [7, 3, 6], [0], 0), (90, [7], [], 0), (91, [7], [], 53), (2, [6, 4, 5], [], 0), (0, [5], [], 1), (20, [4, 0], [0], 55), (90, [4], [], 0), (91, [4], [], 64), (20, [3, 0], [0], 54), (0, [3], [], 322), (34, [2], [], 0), (20, [2, 0], [0], 55), (90, [2], [], 0), (91, [2], [], 64), (6000, [0, 1], [0], 0), (0, [0], [], 285), (90, [1], [], 0), (91, [1], [], 1)], (3000, [], [0], 41))
theorem c_235_s_2 : vOkm T0 (eP e_235 L_235 A_235 mu_235 none) 2 g_235_s_2 := vOk_inI fun ρ η f0 f1 f2 f3 f4 f5 f6 f7 f8 f9 f10 f11 f12 f13 f14 f15 f16 f17 f18 f19 => q_235_2 (n0 := ρ 1) (n1 := ρ 0) (n2 := ρ 2) (n3 := ρ 3) (n4 := ρ 4) (n5 := ρ 5) (n6 := ρ 6) (n7 := ρ 7) (n8 := ρ 8) (H0 := η 0) f19 f18 f17 f16 f15 f14 f13 f12 f11 f10 f9 f8 f7 f6 f5 f4 f3 f2 f1 f0
theorem q_235_3 {n0 n1 n2 n3 n4 : Int} {H0 : gH} (f0 : n0 = 285) (f1 : n1 = hV H0 (n0).toNat 55) (f2 : 0 < n1) (f3 : n2 ≤ 64) (f4 : n2 = hV H0 (n0).toNat 55) (f5 : n3 = 1) (f6 : n4 = w32 (n2 - n3)) : 0 ≤ n4 := by
  have e0 : n1 = hV H0 285 55 := (by rw [f0] at f1; exact f1 : n1 = hV H0 285 55)
  have e1 : n2 = hV H0 285 55 := (by rw [f0] at f4; exact f4 : n2 = hV H0 285 55)
  clear f1 f4
  subst e0
  subst e1
  first
  | (have ix0 : n4 = hV H0 285 55 - 1 := Eq.trans f6 (w32_id (by omega) (by omega)); subst ix0; clear f6)
  | (unfold w32 at f6; have ix0 : n4 = hV H0 285 55 - 1 := (by omega); subst ix0)
  | skip
  try unfold w32 at f6
  omega
def g_235_s_3 : vG := ([(2, [11, 9, 10], [], 0), (0, [10], [], 1), (20, [9, 0], [0], 55), (91, [9], [], 64), (34, [2], [], 0), (20, [2, 0], [0], 55), (0, [0], [], 285)], (90, [11], [], 0))
theorem c_235_s_3 : vOkm T0 (eP e_235 L_235 A_235 mu_235 none) 2 g_235_s_3 := vOk_inI fun ρ η f0 f1 f2 f3 f4 f5 f6 => q_235_3 (n0 := ρ 0) (n1 := ρ 2) (n2 := ρ 9) (n3 := ρ 10) (n4 := ρ 11) (H0 := η 0) f6 f5 f4 f3 f2 f1 f0
theorem q_235_4 {n0 n1 n2 : Int} {H0 : gH} (f0 : n0 ≤ 64) (f1 : 0 ≤ n0) (f2 : n1 = 1) (f3 : n2 = w32 (n0 - n1)) : n2 ≤ 64 := by
  first
  | (have ix0 : n2 = n0 - 1 := Eq.trans f3 (w32_iv (Isu (Iat f1 f0) (IC 1)) (by decide)); subst ix0; clear f3)
  | (have ix0 : n2 = n0 - 1 := Eq.trans f3 (w32_id (by omega) (by omega)); subst ix0; clear f3)
  | (unfold w32 at f3; have ix0 : n2 = n0 - 1 := (by omega); subst ix0)
  | skip
  try unfold w32 at f3
  omega
def g_235_s_4 : vG := ([(2, [11, 9, 10], [], 0), (0, [10], [], 1), (90, [9], [], 0), (91, [9], [], 64)], (91, [11], [], 64))
theorem c_235_s_4 : vOkm T0 (eP e_235 L_235 A_235 mu_235 none) 2 g_235_s_4 := vOk_inI fun ρ η f0 f1 f2 f3 => q_235_4 (n0 := ρ 9) (n1 := ρ 10) (n2 := ρ 11) (H0 := η 0) f3 f2 f1 f0
theorem q_235_5 {n0 n1 n2 n3 n4 n5 n6 n7 n8 n9 n10 n11 n12 n13 n14 n15 n16 n17 : Int} {H0 H1 : gH} (f0 : n0 ≤ 1) (f1 : 0 ≤ n0) (f2 : n1 = 285) (f3 : hWt T0 H0 ∧ preb_235 n1 n0 H0) (f4 : n2 ≤ 64) (f5 : 0 ≤ n2) (f6 : n2 = hV H0 (n1).toNat 55) (f7 : 0 < n2) (f8 : n3 = 322) (f9 : n3 = hV H0 (n1).toNat 54) (f10 : n4 ≤ 64) (f11 : 0 ≤ n4) (f12 : n4 = hV H0 (n1).toNat 55) (f13 : n5 = 1) (f14 : n6 = w32 (n4 - n5)) (f15 : n7 ≤ 53) (f16 : 0 ≤ n7) (f17 : n7 = hV H0 (n3).toNat (n6).toNat) (f18 : n8 = 6) (f19 : n7 ≠ n8) (f20 : n0 = 0) (f21 : n9 ≤ 64) (f22 : 0 ≤ n9) (f23 : n9 = hV H0 (n1).toNat 55) (f24 : n10 = 1) (f25 : n11 = w32 (n9 - n10)) (f26 : n12 = 55) (f27 : hUpd H1 H0 n1 n12 n11) (f28 : n13 = 8) (f29 : n7 ≠ n13) (f30 : n14 = 9) (f31 : n7 ≠ n14) (f32 : n15 = 10) (f33 : n7 ≠ n15) (f34 : n16 = 5) (f35 : n17 = 0) : preb_234 n1 n16 n17 H1 := by
  unfold preb_235 at f3
  unfold preb_234
  have e0 : n2 = hV H0 285 55 := (by rw [f2] at f6; exact f6 : n2 = hV H0 285 55)
  have e1 : n4 = hV H0 285 55 := (by rw [f2] at f12; exact f12 : n4 = hV H0 285 55)
  have e2 : n7 = hV H0 322 (n6).toNat := (by rw [f8] at f17; exact f17 : n7 = hV H0 322 (n6).toNat)
  have e3 : n9 = hV H0 285 55 := (by rw [f2] at f23; exact f23 : n9 = hV H0 285 55)
  have e5 : hV H1 285 51 = hV H0 285 51 := (uSlot f27 285 51 (iS (show n12 = ((55 : Nat) : Int) from f26) rfl))
  have e6 : (0 : Int) ≤ hV H0 285 34 ∧ hV H0 285 34 ≤ 1 := f3.1 285 34 _ _ kW_285_34
  have e7 : (0 : Int) ≤ hV H0 285 35 ∧ hV H0 285 35 ≤ 1 := f3.1 285 35 _ _ kW_285_35
  have e8 : (0 : Int) ≤ hV H0 285 51 ∧ hV H0 285 51 ≤ 1200 := f3.1 285 51 _ _ kW_285_51
  have e9 : (0 : Int) ≤ hV H0 285 55 ∧ hV H0 285 55 ≤ 64 := f3.1 285 55 _ _ kW_285_55
  try simp only [e5]
  have p0 := f3.2.1
  have p1 := f3.2.2.1
  have p2 := f3.2.2.2.1
  have p3 := f3.2.2.2.2
  clear f6 f9 f12 f17 f23 e5
  clear f3
  subst e0
  subst e1
  subst e2
  subst e3
  first
  | (have ix0 : n6 = hV H0 285 55 - 1 := Eq.trans f14 (w32_iv (Isu (Iat f5 f4) (IC 1)) (by decide)); subst ix0; clear f14)
  | (have ix0 : n6 = hV H0 285 55 - 1 := Eq.trans f14 (w32_id (by omega) (by omega)); subst ix0; clear f14)
  | (unfold w32 at f14; have ix0 : n6 = hV H0 285 55 - 1 := (by omega); subst ix0)
  | skip
  first
  | (have ix1 : n11 = hV H0 285 55 - 1 := Eq.trans f25 (w32_iv (Isu (Iat f5 f4) (IC 1)) (by decide)); subst ix1; clear f25)
  | (have ix1 : n11 = hV H0 285 55 - 1 := Eq.trans f25 (w32_id (by omega) (by omega)); subst ix1; clear f25)
  | (unfold w32 at f25; have ix1 : n11 = hV H0 285 55 - 1 := (by omega); subst ix1)
  | skip
  try unfold w32 at f14
  try unfold w32 at f25

  have wp := wo_pop (w := hV H0 322) (n := hV H0 285 55) (by omega)
  have wl := wo_le (w := hV H0 322) (hV H0 285 55 - 1).toNat
  omega
def g_235_s_5 : vG := ([(0, [17], [], 0), (0, [16], [], 5), (41, [7, 15], [], 0), (0, [15], [], 10), (41, [7, 14], [], 0), (0, [14], [], 9), (41, [7, 13], [], 0), (0, [13], [], 8), (80, [0, 12, 11], [1, 0], 0), (0, [12], [], 55), (2, [11, 9, 10], [], 0), (0, [10], [], 1), (20, [9, 0], [0], 55), (90, [9], [], 0), (91, [9], [], 64), (30, [1], [], 0), (41, [7, 8], [], 0), (0, [8], [], 6), (22, [7, 3, 6], [0], 0), (90, [7], [], 0), (91, [7], [], 53), (2, [6, 4, 5], [], 0), (0, [5], [], 1), (20, [4, 0], [0], 55), (90, [4], [], 0), (91, [4], [], 64), (20, [3, 0], [0], 54), (0, [3], [], 322), (34, [2], [], 0), (20, [2, 0], [0], 55), (90, [2], [], 0), (91, [2], [], 64), (6000, [0, 1], [0], 0), (0, [0], [], 285), (90, [1], [], 0), (91, [1], [], 1)], (2234, [0, 16, 17], [1], 0))
theorem c_235_s_5 : vOkm T0 (eP e_235 L_235 A_235 mu_235 none) 2 g_235_s_5 := vOk_inI fun ρ η f0 f1 f2 f3 f4 f5 f6 f7 f8 f9 f10 f11 f12 f13 f14 f15 f16 f17 f18 f19 f20 f21 f22 f23 f24 f25 f26 f27 f28 f29 f30 f31 f32 f33 f34 f35 => q_235_5 (n0 := ρ 1) (n1 := ρ 0) (n2 := ρ 2) (n3 := ρ 3) (n4 := ρ 4) (n5 := ρ 5) (n6 := ρ 6) (n7 := ρ 7) (n8 := ρ 8) (n9 := ρ 9) (n10 := ρ 10) (n11 := ρ 11) (n12 := ρ 12) (n13 := ρ 13) (n14 := ρ 14) (n15 := ρ 15) (n16 := ρ 16) (n17 := ρ 17) (H0 := η 0) (H1 := η 1) f35 f34 f33 f32 f31 f30 f29 f28 f27 f26 f25 f24 f23 f22 f21 f20 f19 f18 f17 f16 f15 f14 f13 f12 f11 f10 f9 f8 f7 f6 f5 f4 f3 f2 f1 f0
theorem kR_234_322 : vFreeR s_234.2.2.2.2 322 = true := by decide +kernel
theorem kF_234_285_55 : vFree s_234.2.2.2.2 285 55 = true := by decide +kernel
theorem q_235_6 {n0 n1 n2 n3 n4 n5 n6 n7 n8 n9 n10 n11 n12 n13 n14 n15 n16 n17 : Int} {H0 H1 H2 : gH} (f0 : n0 ≤ 1) (f1 : 0 ≤ n0) (f2 : n1 = 285) (f3 : hWt T0 H0 ∧ preb_235 n1 n0 H0) (f4 : n2 ≤ 64) (f5 : 0 ≤ n2) (f6 : n2 = hV H0 (n1).toNat 55) (f7 : 0 < n2) (f8 : n3 = 322) (f9 : n3 = hV H0 (n1).toNat 54) (f10 : n4 ≤ 64) (f11 : 0 ≤ n4) (f12 : n4 = hV H0 (n1).toNat 55) (f13 : n5 = 1) (f14 : n6 = w32 (n4 - n5)) (f15 : n7 ≤ 53) (f16 : 0 ≤ n7) (f17 : n7 = hV H0 (n3).toNat (n6).toNat) (f18 : n8 = 6) (f19 : n7 ≠ n8) (f20 : n0 = 0) (f21 : n9 ≤ 64) (f22 : 0 ≤ n9) (f23 : n9 = hV H0 (n1).toNat 55) (f24 : n10 = 1) (f25 : n11 = w32 (n9 - n10)) (f26 : n12 = 55) (f27 : hUpd H1 H0 n1 n12 n11) (f28 : n13 = 8) (f29 : n7 ≠ n13) (f30 : n14 = 9) (f31 : n7 ≠ n14) (f32 : n15 = 10) (f33 : n7 ≠ n15) (f34 : n16 = 5) (f35 : n17 = 0) (f36 : (hLe T0 H1 H2 ∧ hFr s_234.2.2.2.2 H1 H2 ∧ ((0 : Int) = 0 → H2.length = H1.length) ∧ hWt T0 H2) ∧ postb_234 n1 n16 n17 H1 H2) : Ab_235_0 n1 n0 n1 n0 n7 H0 H2 ∧ ∀ q, none = some q → mub_235_0 n1 n0 n1 n0 n7 H0 H2 < q := by
  unfold preb_235 at f3
  unfold postb_234 at f36
  unfold Ab_235_0
  have e0 : n2 = hV H0 285 55 := (by rw [f2] at f6; exact f6 : n2 = hV H0 285 55)
  have e1 : n4 = hV H0 285 55 := (by rw [f2] at f12; exact f12 : n4 = hV H0 285 55)
  have e2 : n7 = hV H0 322 (n6).toNat := (by rw [f8] at f17; exact f17 : n7 = hV H0 322 (n6).toNat)
  have e3 : n9 = hV H0 285 55 := (by rw [f2] at f23; exact f23 : n9 = hV H0 285 55)
  have e5 : hV H1 285 51 = hV H0 285 51 := (uSlot f27 285 51 (iS (show n12 = ((55 : Nat) : Int) from f26) rfl))
  have e6 : hV H1 320 = hV H0 320 := uRowNe f27 320 (iS (show n1 = ((285 : Nat) : Int) from f2) rfl)
  have e7 : hV H1 321 = hV H0 321 := uRowNe f27 321 (iS (show n1 = ((285 : Nat) : Int) from f2) rfl)
  have e10 : hV H2 285 34 = hV H0 285 34 := ((f36.1.2.1.1 285 34 kF_234_285_34)).trans (uSlot f27 285 34 (iS (show n12 = ((55 : Nat) : Int) from f26) rfl))
  have e13 : hV H2 285 35 = hV H0 285 35 := ((f36.1.2.1.1 285 35 kF_234_285_35)).trans (uSlot f27 285 35 (iS (show n12 = ((55 : Nat) : Int) from f26) rfl))
  have e16 : hV H2 285 44 = hV H0 285 44 := ((f36.1.2.1.1 285 44 kF_234_285_44)).trans (uSlot f27 285 44 (iS (show n12 = ((55 : Nat) : Int) from f26) rfl))
  have e19 : hV H2 285 55 = n11 := ((f36.1.2.1.1 285 55 kF_234_285_55)).trans (uSame f27 285 55 f2.symm f26.symm)
  have e22 : hV H2 306 = hV H0 306 := (fRow f36.1.2.1 306 kR_234_306).trans (uRowNe f27 306 (iS (show n1 = ((285 : Nat) : Int) from f2) rfl))
  have e25 : hV H2 307 = hV H0 307 := (fRow f36.1.2.1 307 kR_234_307).trans (uRowNe f27 307 (iS (show n1 = ((285 : Nat) : Int) from f2) rfl))
  have e28 : hV H2 308 = hV H0 308 := (fRow f36.1.2.1 308 kR_234_308).trans (uRowNe f27 308 (iS (show n1 = ((285 : Nat) : Int) from f2) rfl))
  have e31 : hV H2 309 = hV H0 309 := (fRow f36.1.2.1 309 kR_234_309).trans (uRowNe f27 309 (iS (show n1 = ((285 : Nat) : Int) from f2) rfl))
  have e34 : hV H2 310 = hV H0 310 := (fRow f36.1.2.1 310 kR_234_310).trans (uRowNe f27 310 (iS (show n1 = ((285 : Nat) : Int) from f2) rfl))
  have e37 : hV H2 311 = hV H0 311 := (fRow f36.1.2.1 311 kR_234_311).trans (uRowNe f27 311 (iS (show n1 = ((285 : Nat) : Int) from f2) rfl))
  have e40 : hV H2 317 = hV H0 317 := (fRow f36.1.2.1 317 kR_234_317).trans (uRowNe f27 317 (iS (show n1 = ((285 : Nat) : Int) from f2) rfl))
  have e43 : hV H2 318 = hV H0 318 := (fRow f36.1.2.1 318 kR_234_318).trans (uRowNe f27 318 (iS (show n1 = ((285 : Nat) : Int) from f2) rfl))
  have e46 : hV H2 319 = hV H0 319 := (fRow f36.1.2.1 319 kR_234_319).trans (uRowNe f27 319 (iS (show n1 = ((285 : Nat) : Int) from f2) rfl))
  have e49 : hV H2 322 = hV H0 322 := (fRow f36.1.2.1 322 kR_234_322).trans (uRowNe f27 322 (iS (show n1 = ((285 : Nat) : Int) from f2) rfl))
  have e50 : (0 : Int) ≤ hV H0 285 34 ∧ hV H0 285 34 ≤ 1 := f3.1 285 34 _ _ kW_285_34
  have e51 : (0 : Int) ≤ hV H0 285 35 ∧ hV H0 285 35 ≤ 1 := f3.1 285 35 _ _ kW_285_35
  have e52 : (0 : Int) ≤ hV H0 285 44 ∧ hV H0 285 44 ≤ 400 := f3.1 285 44 _ _ kW_285_44
  have e53 : (0 : Int) ≤ hV H0 285 51 ∧ hV H0 285 51 ≤ 1200 := f3.1 285 51 _ _ kW_285_51
  have e54 : (0 : Int) ≤ hV H0 285 55 ∧ hV H0 285 55 ≤ 64 := f3.1 285 55 _ _ kW_285_55
  have e58 : (0 : Int) ≤ hV H2 285 51 ∧ hV H2 285 51 ≤ 1200 := f36.1.2.2.2 285 51 _ _ kW_285_51
  have e59 : (0 : Int) ≤ hV H2 285 55 ∧ hV H2 285 55 ≤ 64 := f36.1.2.2.2 285 55 _ _ kW_285_55
  try simp only [RR]
  try simp only [e19] at e59
  try simp only [e10, e13, e16, e19, e22, e25, e28, e31, e34, e37, e40, e43, e46, e49]
  have p0 := f3.2.1
  have p1 := f3.2.2.1
  have p2 := f3.2.2.2.1
  have p3 := f3.2.2.2.2
  have r0_0 := f36.2.1
  have r0_1 := f36.2.2.1
  have r0_2 := f36.2.2.2
  try simp only [RR] at p0
  try simp only [e5] at r0_0
  try simp only [e5, e6] at r0_1
  try simp only [e5, e7] at r0_2
  clear f6 f9 f12 f17 f23 e5 e6 e7 e10 e13 e16 e22 e25 e28 e31 e34 e37 e40 e43 e46 e49
  clear f3 f36
  subst e0
  subst e1
  subst e2
  subst e3
  first
  | (have ix0 : n6 = hV H0 285 55 - 1 := Eq.trans f14 (w32_iv (Isu (Iat f5 f4) (IC 1)) (by decide)); subst ix0; clear f14)
  | (have ix0 : n6 = hV H0 285 55 - 1 := Eq.trans f14 (w32_id (by omega) (by omega)); subst ix0; clear f14)
  | (unfold w32 at f14; have ix0 : n6 = hV H0 285 55 - 1 := (by omega); subst ix0)
  | skip
  first
  | (have ix1 : n11 = hV H0 285 55 - 1 := Eq.trans f25 (w32_iv (Isu (Iat f5 f4) (IC 1)) (by decide)); subst ix1; clear f25)
  | (have ix1 : n11 = hV H0 285 55 - 1 := Eq.trans f25 (w32_id (by omega) (by omega)); subst ix1; clear f25)
  | (unfold w32 at f25; have ix1 : n11 = hV H0 285 55 - 1 := (by omega); subst ix1)
  | skip
  try unfold w32 at f14
  try unfold w32 at f25

  have y0 := p0
  have y1 : COp (hV H0 320) (hV H0 321) (hV H0 320) (hV H0 321) (hV H0 285 51) (hV H0 285 55 - wo (hV H0 322) (hV H0 285 55).toNat + 1) (hV H0 285 51) (hV H0 285 55 - wo (hV H0 322) (hV H0 285 55).toNat + 1) := CO_refl rfl rfl
  have wp := wo_pop (w := hV H0 322) (n := hV H0 285 55) (by omega)
  have wl := wo_le (w := hV H0 322) (hV H0 285 55 - 1).toNat
  refine ⟨⟨?_, ?_, ?_, ?_⟩, fun q hq => ?_⟩
  · first | trivial | omega
  · rw [r0_1, r0_2]
    exact RR_emit y0 (by omega) (by omega) (by omega) (by omega) (by omega) (by omega) (by omega) (by omega)
  · rw [r0_1, r0_2]
    exact CO_step y1 (by omega) (by omega) (by omega) (.inr ⟨by omega, by omega, by omega⟩)
  · first
    | omega
    | (refine ⟨?_, ?_, ?_⟩ <;> first | exact True.intro | omega)
  · exact nomatch hq
def g_235_s_6 : vG := ([(1234, [0, 16, 17], [1, 2], 0), (0, [17], [], 0), (0, [16], [], 5), (41, [7, 15], [], 0), (0, [15], [], 10), (41, [7, 14], [], 0), (0, [14], [], 9), (41, [7, 13], [], 0), (0, [13], [], 8), (80, [0, 12, 11], [1, 0], 0), (0, [12], [], 55), (2, [11, 9, 10], [], 0), (0, [10], [], 1), (20, [9, 0], [0], 55), (90, [9], [], 0), (91, [9], [], 64), (30, [1], [], 0), (41, [7, 8], [], 0), (0, [8], [], 6), (22, [7, 3, 6], [0], 0), (90, [7], [], 0), (91, [7], [], 53), (2, [6, 4, 5], [], 0), (0, [5], [], 1), (20, [4, 0], [0], 55), (90, [4], [], 0), (91, [4], [], 64), (20, [3, 0], [0], 54), (0, [3], [], 322), (34, [2], [], 0), (20, [2, 0], [0], 55), (90, [2], [], 0), (91, [2], [], 64), (6000, [0, 1], [0], 0), (0, [0], [], 285), (90, [1], [], 0), (91, [1], [], 1)], (4000, [0, 1, 7], [2], 0))
theorem c_235_s_6 : vOkm T0 (eP e_235 L_235 A_235 mu_235 none) 2 g_235_s_6 := vOk_inI fun ρ η f0 f1 f2 f3 f4 f5 f6 f7 f8 f9 f10 f11 f12 f13 f14 f15 f16 f17 f18 f19 f20 f21 f22 f23 f24 f25 f26 f27 f28 f29 f30 f31 f32 f33 f34 f35 f36 => q_235_6 (n0 := ρ 1) (n1 := ρ 0) (n2 := ρ 2) (n3 := ρ 3) (n4 := ρ 4) (n5 := ρ 5) (n6 := ρ 6) (n7 := ρ 7) (n8 := ρ 8) (n9 := ρ 9) (n10 := ρ 10) (n11 := ρ 11) (n12 := ρ 12) (n13 := ρ 13) (n14 := ρ 14) (n15 := ρ 15) (n16 := ρ 16) (n17 := ρ 17) (H0 := η 0) (H1 := η 1) (H2 := η 2) f36 f35 f34 f33 f32 f31 f30 f29 f28 f27 f26 f25 f24 f23 f22 f21 f20 f19 f18 f17 f16 f15 f14 f13 f12 f11 f10 f9 f8 f7 f6 f5 f4 f3 f2 f1 f0
theorem q_235_7 {n0 n1 n2 n3 n4 n5 n6 n7 n8 n9 n10 n11 n12 n13 n14 n15 n16 n17 : Int} {H0 H1 : gH} (f0 : n0 ≤ 1) (f1 : 0 ≤ n0) (f2 : n1 = 285) (f3 : hWt T0 H0 ∧ preb_235 n1 n0 H0) (f4 : n2 ≤ 64) (f5 : 0 ≤ n2) (f6 : n2 = hV H0 (n1).toNat 55) (f7 : 0 < n2) (f8 : n3 = 322) (f9 : n3 = hV H0 (n1).toNat 54) (f10 : n4 ≤ 64) (f11 : 0 ≤ n4) (f12 : n4 = hV H0 (n1).toNat 55) (f13 : n5 = 1) (f14 : n6 = w32 (n4 - n5)) (f15 : n7 ≤ 53) (f16 : 0 ≤ n7) (f17 : n7 = hV H0 (n3).toNat (n6).toNat) (f18 : n8 = 6) (f19 : n7 ≠ n8) (f20 : n0 = 0) (f21 : n9 ≤ 64) (f22 : 0 ≤ n9) (f23 : n9 = hV H0 (n1).toNat 55) (f24 : n10 = 1) (f25 : n11 = w32 (n9 - n10)) (f26 : n12 = 55) (f27 : hUpd H1 H0 n1 n12 n11) (f28 : n13 = 8) (f29 : n7 ≠ n13) (f30 : n14 = 9) (f31 : n7 ≠ n14) (f32 : n15 = 10) (f33 : n7 = n15) (f34 : n16 = 4) (f35 : n17 = 0) : preb_234 n1 n16 n17 H1 := by
  unfold preb_235 at f3
  unfold preb_234
  have e0 : n2 = hV H0 285 55 := (by rw [f2] at f6; exact f6 : n2 = hV H0 285 55)
  have e1 : n4 = hV H0 285 55 := (by rw [f2] at f12; exact f12 : n4 = hV H0 285 55)
  have e2 : n7 = hV H0 322 (n6).toNat := (by rw [f8] at f17; exact f17 : n7 = hV H0 322 (n6).toNat)
  have e3 : n9 = hV H0 285 55 := (by rw [f2] at f23; exact f23 : n9 = hV H0 285 55)
  have e5 : hV H1 285 51 = hV H0 285 51 := (uSlot f27 285 51 (iS (show n12 = ((55 : Nat) : Int) from f26) rfl))
  have e6 : (0 : Int) ≤ hV H0 285 34 ∧ hV H0 285 34 ≤ 1 := f3.1 285 34 _ _ kW_285_34
  have e7 : (0 : Int) ≤ hV H0 285 35 ∧ hV H0 285 35 ≤ 1 := f3.1 285 35 _ _ kW_285_35
  have e8 : (0 : Int) ≤ hV H0 285 51 ∧ hV H0 285 51 ≤ 1200 := f3.1 285 51 _ _ kW_285_51
  have e9 : (0 : Int) ≤ hV H0 285 55 ∧ hV H0 285 55 ≤ 64 := f3.1 285 55 _ _ kW_285_55
  try simp only [e5]
  have p0 := f3.2.1
  have p1 := f3.2.2.1
  have p2 := f3.2.2.2.1
  have p3 := f3.2.2.2.2
  clear f6 f9 f12 f17 f23 e5
  clear f3
  subst e0
  subst e1
  subst e2
  subst e3
  first
  | (have ix0 : n6 = hV H0 285 55 - 1 := Eq.trans f14 (w32_iv (Isu (Iat f5 f4) (IC 1)) (by decide)); subst ix0; clear f14)
  | (have ix0 : n6 = hV H0 285 55 - 1 := Eq.trans f14 (w32_id (by omega) (by omega)); subst ix0; clear f14)
  | (unfold w32 at f14; have ix0 : n6 = hV H0 285 55 - 1 := (by omega); subst ix0)
  | skip
  first
  | (have ix1 : n11 = hV H0 285 55 - 1 := Eq.trans f25 (w32_iv (Isu (Iat f5 f4) (IC 1)) (by decide)); subst ix1; clear f25)
  | (have ix1 : n11 = hV H0 285 55 - 1 := Eq.trans f25 (w32_id (by omega) (by omega)); subst ix1; clear f25)
  | (unfold w32 at f25; have ix1 : n11 = hV H0 285 55 - 1 := (by omega); subst ix1)
  | skip
  try unfold w32 at f14
  try unfold w32 at f25

  have wp := wo_pop (w := hV H0 322) (n := hV H0 285 55) (by omega)
  have wl := wo_le (w := hV H0 322) (hV H0 285 55 - 1).toNat
  omega
def g_235_s_7 : vG := ([(0, [17], [], 0), (0, [16], [], 4), (40, [7, 15], [], 0), (0, [15], [], 10), (41, [7, 14], [], 0), (0, [14], [], 9), (41, [7, 13], [], 0), (0, [13], [], 8), (80, [0, 12, 11], [1, 0], 0), (0, [12], [], 55), (2, [11, 9, 10], [], 0), (0, [10], [], 1), (20, [9, 0], [0], 55), (90, [9], [], 0), (91, [9], [], 64), (30, [1], [], 0), (41, [7, 8], [], 0), (0, [8], [], 6), (22, [7, 3, 6], [0], 0), (90, [7], [], 0), (91, [7], [], 53), (2, [6, 4, 5], [], 0), (0, [5], [], 1), (20, [4, 0], [0], 55), (90, [4], [], 0), (91, [4], [], 64), (20, [3, 0], [0], 54), (0, [3], [], 322), (34, [2], [], 0), (20, [2, 0], [0], 55), (90, [2], [], 0), (91, [2], [], 64), (6000, [0, 1], [0], 0), (0, [0], [], 285), (90, [1], [], 0), (91, [1], [], 1)], (2234, [0, 16, 17], [1], 0))
theorem c_235_s_7 : vOkm T0 (eP e_235 L_235 A_235 mu_235 none) 2 g_235_s_7 := vOk_inI fun ρ η f0 f1 f2 f3 f4 f5 f6 f7 f8 f9 f10 f11 f12 f13 f14 f15 f16 f17 f18 f19 f20 f21 f22 f23 f24 f25 f26 f27 f28 f29 f30 f31 f32 f33 f34 f35 => q_235_7 (n0 := ρ 1) (n1 := ρ 0) (n2 := ρ 2) (n3 := ρ 3) (n4 := ρ 4) (n5 := ρ 5) (n6 := ρ 6) (n7 := ρ 7) (n8 := ρ 8) (n9 := ρ 9) (n10 := ρ 10) (n11 := ρ 11) (n12 := ρ 12) (n13 := ρ 13) (n14 := ρ 14) (n15 := ρ 15) (n16 := ρ 16) (n17 := ρ 17) (H0 := η 0) (H1 := η 1) f35 f34 f33 f32 f31 f30 f29 f28 f27 f26 f25 f24 f23 f22 f21 f20 f19 f18 f17 f16 f15 f14 f13 f12 f11 f10 f9 f8 f7 f6 f5 f4 f3 f2 f1 f0
theorem q_235_8 {n0 n1 n2 n3 n4 n5 n6 n7 n8 n9 n10 n11 n12 n13 n14 n15 n16 n17 : Int} {H0 H1 H2 : gH} (f0 : n0 ≤ 1) (f1 : 0 ≤ n0) (f2 : n1 = 285) (f3 : hWt T0 H0 ∧ preb_235 n1 n0 H0) (f4 : n2 ≤ 64) (f5 : 0 ≤ n2) (f6 : n2 = hV H0 (n1).toNat 55) (f7 : 0 < n2) (f8 : n3 = 322) (f9 : n3 = hV H0 (n1).toNat 54) (f10 : n4 ≤ 64) (f11 : 0 ≤ n4) (f12 : n4 = hV H0 (n1).toNat 55) (f13 : n5 = 1) (f14 : n6 = w32 (n4 - n5)) (f15 : n7 ≤ 53) (f16 : 0 ≤ n7) (f17 : n7 = hV H0 (n3).toNat (n6).toNat) (f18 : n8 = 6) (f19 : n7 ≠ n8) (f20 : n0 = 0) (f21 : n9 ≤ 64) (f22 : 0 ≤ n9) (f23 : n9 = hV H0 (n1).toNat 55) (f24 : n10 = 1) (f25 : n11 = w32 (n9 - n10)) (f26 : n12 = 55) (f27 : hUpd H1 H0 n1 n12 n11) (f28 : n13 = 8) (f29 : n7 ≠ n13) (f30 : n14 = 9) (f31 : n7 ≠ n14) (f32 : n15 = 10) (f33 : n7 = n15) (f34 : n16 = 4) (f35 : n17 = 0) (f36 : (hLe T0 H1 H2 ∧ hFr s_234.2.2.2.2 H1 H2 ∧ ((0 : Int) = 0 → H2.length = H1.length) ∧ hWt T0 H2) ∧ postb_234 n1 n16 n17 H1 H2) : Ab_235_0 n1 n0 n1 n0 n7 H0 H2 ∧ ∀ q, none = some q → mub_235_0 n1 n0 n1 n0 n7 H0 H2 < q := by
  unfold preb_235 at f3
  unfold postb_234 at f36
  unfold Ab_235_0
  have e0 : n2 = hV H0 285 55 := (by rw [f2] at f6; exact f6 : n2 = hV H0 285 55)
  have e1 : n4 = hV H0 285 55 := (by rw [f2] at f12; exact f12 : n4 = hV H0 285 55)
  have e2 : n7 = hV H0 322 (n6).toNat := (by rw [f8] at f17; exact f17 : n7 = hV H0 322 (n6).toNat)
  have e3 : n9 = hV H0 285 55 := (by rw [f2] at f23; exact f23 : n9 = hV H0 285 55)
  have e5 : hV H1 285 51 = hV H0 285 51 := (uSlot f27 285 51 (iS (show n12 = ((55 : Nat) : Int) from f26) rfl))
  have e6 : hV H1 320 = hV H0 320 := uRowNe f27 320 (iS (show n1 = ((285 : Nat) : Int) from f2) rfl)
  have e7 : hV H1 321 = hV H0 321 := uRowNe f27 321 (iS (show n1 = ((285 : Nat) : Int) from f2) rfl)
  have e10 : hV H2 285 34 = hV H0 285 34 := ((f36.1.2.1.1 285 34 kF_234_285_34)).trans (uSlot f27 285 34 (iS (show n12 = ((55 : Nat) : Int) from f26) rfl))
  have e13 : hV H2 285 35 = hV H0 285 35 := ((f36.1.2.1.1 285 35 kF_234_285_35)).trans (uSlot f27 285 35 (iS (show n12 = ((55 : Nat) : Int) from f26) rfl))
  have e16 : hV H2 285 44 = hV H0 285 44 := ((f36.1.2.1.1 285 44 kF_234_285_44)).trans (uSlot f27 285 44 (iS (show n12 = ((55 : Nat) : Int) from f26) rfl))
  have e19 : hV H2 285 55 = n11 := ((f36.1.2.1.1 285 55 kF_234_285_55)).trans (uSame f27 285 55 f2.symm f26.symm)
  have e22 : hV H2 306 = hV H0 306 := (fRow f36.1.2.1 306 kR_234_306).trans (uRowNe f27 306 (iS (show n1 = ((285 : Nat) : Int) from f2) rfl))
  have e25 : hV H2 307 = hV H0 307 := (fRow f36.1.2.1 307 kR_234_307).trans (uRowNe f27 307 (iS (show n1 = ((285 : Nat) : Int) from f2) rfl))
  have e28 : hV H2 308 = hV H0 308 := (fRow f36.1.2.1 308 kR_234_308).trans (uRowNe f27 308 (iS (show n1 = ((285 : Nat) : Int) from f2) rfl))
  have e31 : hV H2 309 = hV H0 309 := (fRow f36.1.2.1 309 kR_234_309).trans (uRowNe f27 309 (iS (show n1 = ((285 : Nat) : Int) from f2) rfl))
  have e34 : hV H2 310 = hV H0 310 := (fRow f36.1.2.1 310 kR_234_310).trans (uRowNe f27 310 (iS (show n1 = ((285 : Nat) : Int) from f2) rfl))
  have e37 : hV H2 311 = hV H0 311 := (fRow f36.1.2.1 311 kR_234_311).trans (uRowNe f27 311 (iS (show n1 = ((285 : Nat) : Int) from f2) rfl))
  have e40 : hV H2 317 = hV H0 317 := (fRow f36.1.2.1 317 kR_234_317).trans (uRowNe f27 317 (iS (show n1 = ((285 : Nat) : Int) from f2) rfl))
  have e43 : hV H2 318 = hV H0 318 := (fRow f36.1.2.1 318 kR_234_318).trans (uRowNe f27 318 (iS (show n1 = ((285 : Nat) : Int) from f2) rfl))
  have e46 : hV H2 319 = hV H0 319 := (fRow f36.1.2.1 319 kR_234_319).trans (uRowNe f27 319 (iS (show n1 = ((285 : Nat) : Int) from f2) rfl))
  have e49 : hV H2 322 = hV H0 322 := (fRow f36.1.2.1 322 kR_234_322).trans (uRowNe f27 322 (iS (show n1 = ((285 : Nat) : Int) from f2) rfl))
  have e50 : (0 : Int) ≤ hV H0 285 34 ∧ hV H0 285 34 ≤ 1 := f3.1 285 34 _ _ kW_285_34
  have e51 : (0 : Int) ≤ hV H0 285 35 ∧ hV H0 285 35 ≤ 1 := f3.1 285 35 _ _ kW_285_35
  have e52 : (0 : Int) ≤ hV H0 285 44 ∧ hV H0 285 44 ≤ 400 := f3.1 285 44 _ _ kW_285_44
  have e53 : (0 : Int) ≤ hV H0 285 51 ∧ hV H0 285 51 ≤ 1200 := f3.1 285 51 _ _ kW_285_51
  have e54 : (0 : Int) ≤ hV H0 285 55 ∧ hV H0 285 55 ≤ 64 := f3.1 285 55 _ _ kW_285_55
  have e58 : (0 : Int) ≤ hV H2 285 51 ∧ hV H2 285 51 ≤ 1200 := f36.1.2.2.2 285 51 _ _ kW_285_51
  have e59 : (0 : Int) ≤ hV H2 285 55 ∧ hV H2 285 55 ≤ 64 := f36.1.2.2.2 285 55 _ _ kW_285_55
  try simp only [RR]
  try simp only [e19] at e59
  try simp only [e10, e13, e16, e19, e22, e25, e28, e31, e34, e37, e40, e43, e46, e49]
  have p0 := f3.2.1
  have p1 := f3.2.2.1
  have p2 := f3.2.2.2.1
  have p3 := f3.2.2.2.2
  have r0_0 := f36.2.1
  have r0_1 := f36.2.2.1
  have r0_2 := f36.2.2.2
  try simp only [RR] at p0
  try simp only [e5] at r0_0
  try simp only [e5, e6] at r0_1
  try simp only [e5, e7] at r0_2
  clear f6 f9 f12 f17 f23 e5 e6 e7 e10 e13 e16 e22 e25 e28 e31 e34 e37 e40 e43 e46 e49
  clear f3 f36
  subst e0
  subst e1
  subst e2
  subst e3
  first
  | (have ix0 : n6 = hV H0 285 55 - 1 := Eq.trans f14 (w32_iv (Isu (Iat f5 f4) (IC 1)) (by decide)); subst ix0; clear f14)
  | (have ix0 : n6 = hV H0 285 55 - 1 := Eq.trans f14 (w32_id (by omega) (by omega)); subst ix0; clear f14)
  | (unfold w32 at f14; have ix0 : n6 = hV H0 285 55 - 1 := (by omega); subst ix0)
  | skip
  first
  | (have ix1 : n11 = hV H0 285 55 - 1 := Eq.trans f25 (w32_iv (Isu (Iat f5 f4) (IC 1)) (by decide)); subst ix1; clear f25)
  | (have ix1 : n11 = hV H0 285 55 - 1 := Eq.trans f25 (w32_id (by omega) (by omega)); subst ix1; clear f25)
  | (unfold w32 at f25; have ix1 : n11 = hV H0 285 55 - 1 := (by omega); subst ix1)
  | skip
  try unfold w32 at f14
  try unfold w32 at f25

  have y0 := p0
  have y1 : COp (hV H0 320) (hV H0 321) (hV H0 320) (hV H0 321) (hV H0 285 51) (hV H0 285 55 - wo (hV H0 322) (hV H0 285 55).toNat + 1) (hV H0 285 51) (hV H0 285 55 - wo (hV H0 322) (hV H0 285 55).toNat + 1) := CO_refl rfl rfl
  have wp := wo_pop (w := hV H0 322) (n := hV H0 285 55) (by omega)
  have wl := wo_le (w := hV H0 322) (hV H0 285 55 - 1).toNat
  refine ⟨⟨?_, ?_, ?_, ?_⟩, fun q hq => ?_⟩
  · first | trivial | omega
  · rw [r0_1, r0_2]
    exact RR_emit y0 (by omega) (by omega) (by omega) (by omega) (by omega) (by omega) (by omega) (by omega)
  · rw [r0_1, r0_2]
    exact CO_step y1 (by omega) (by omega) (by omega) (.inr ⟨by omega, by omega, by omega⟩)
  · first
    | omega
    | (refine ⟨?_, ?_, ?_⟩ <;> first | exact True.intro | omega)
  · exact nomatch hq
def g_235_s_8 : vG := ([(1234, [0, 16, 17], [1, 2], 0), (0, [17], [], 0), (0, [16], [], 4), (40, [7, 15], [], 0), (0, [15], [], 10), (41, [7, 14], [], 0), (0, [14], [], 9), (41, [7, 13], [], 0), (0, [13], [], 8), (80, [0, 12, 11], [1, 0], 0), (0, [12], [], 55), (2, [11, 9, 10], [], 0), (0, [10], [], 1), (20, [9, 0], [0], 55), (90, [9], [], 0), (91, [9], [], 64), (30, [1], [], 0), (41, [7, 8], [], 0), (0, [8], [], 6), (22, [7, 3, 6], [0], 0), (90, [7], [], 0), (91, [7], [], 53), (2, [6, 4, 5], [], 0), (0, [5], [], 1), (20, [4, 0], [0], 55), (90, [4], [], 0), (91, [4], [], 64), (20, [3, 0], [0], 54), (0, [3], [], 322), (34, [2], [], 0), (20, [2, 0], [0], 55), (90, [2], [], 0), (91, [2], [], 64), (6000, [0, 1], [0], 0), (0, [0], [], 285), (90, [1], [], 0), (91, [1], [], 1)], (4000, [0, 1, 7], [2], 0))
theorem c_235_s_8 : vOkm T0 (eP e_235 L_235 A_235 mu_235 none) 2 g_235_s_8 := vOk_inI fun ρ η f0 f1 f2 f3 f4 f5 f6 f7 f8 f9 f10 f11 f12 f13 f14 f15 f16 f17 f18 f19 f20 f21 f22 f23 f24 f25 f26 f27 f28 f29 f30 f31 f32 f33 f34 f35 f36 => q_235_8 (n0 := ρ 1) (n1 := ρ 0) (n2 := ρ 2) (n3 := ρ 3) (n4 := ρ 4) (n5 := ρ 5) (n6 := ρ 6) (n7 := ρ 7) (n8 := ρ 8) (n9 := ρ 9) (n10 := ρ 10) (n11 := ρ 11) (n12 := ρ 12) (n13 := ρ 13) (n14 := ρ 14) (n15 := ρ 15) (n16 := ρ 16) (n17 := ρ 17) (H0 := η 0) (H1 := η 1) (H2 := η 2) f36 f35 f34 f33 f32 f31 f30 f29 f28 f27 f26 f25 f24 f23 f22 f21 f20 f19 f18 f17 f16 f15 f14 f13 f12 f11 f10 f9 f8 f7 f6 f5 f4 f3 f2 f1 f0
theorem q_235_9 {n0 n1 n2 n3 n4 n5 n6 n7 n8 n9 n10 n11 n12 n13 n14 n15 n16 : Int} {H0 H1 : gH} (f0 : n0 ≤ 1) (f1 : 0 ≤ n0) (f2 : n1 = 285) (f3 : hWt T0 H0 ∧ preb_235 n1 n0 H0) (f4 : n2 ≤ 64) (f5 : 0 ≤ n2) (f6 : n2 = hV H0 (n1).toNat 55) (f7 : 0 < n2) (f8 : n3 = 322) (f9 : n3 = hV H0 (n1).toNat 54) (f10 : n4 ≤ 64) (f11 : 0 ≤ n4) (f12 : n4 = hV H0 (n1).toNat 55) (f13 : n5 = 1) (f14 : n6 = w32 (n4 - n5)) (f15 : n7 ≤ 53) (f16 : 0 ≤ n7) (f17 : n7 = hV H0 (n3).toNat (n6).toNat) (f18 : n8 = 6) (f19 : n7 ≠ n8) (f20 : n0 = 0) (f21 : n9 ≤ 64) (f22 : 0 ≤ n9) (f23 : n9 = hV H0 (n1).toNat 55) (f24 : n10 = 1) (f25 : n11 = w32 (n9 - n10)) (f26 : n12 = 55) (f27 : hUpd H1 H0 n1 n12 n11) (f28 : n13 = 8) (f29 : n7 ≠ n13) (f30 : n14 = 9) (f31 : n7 = n14) (f32 : n15 = 3) (f33 : n16 = 0) : preb_234 n1 n15 n16 H1 := by
  unfold preb_235 at f3
  unfold preb_234
  have e0 : n2 = hV H0 285 55 := (by rw [f2] at f6; exact f6 : n2 = hV H0 285 55)
  have e1 : n4 = hV H0 285 55 := (by rw [f2] at f12; exact f12 : n4 = hV H0 285 55)
  have e2 : n7 = hV H0 322 (n6).toNat := (by rw [f8] at f17; exact f17 : n7 = hV H0 322 (n6).toNat)
  have e3 : n9 = hV H0 285 55 := (by rw [f2] at f23; exact f23 : n9 = hV H0 285 55)
  have e5 : hV H1 285 51 = hV H0 285 51 := (uSlot f27 285 51 (iS (show n12 = ((55 : Nat) : Int) from f26) rfl))
  have e6 : (0 : Int) ≤ hV H0 285 34 ∧ hV H0 285 34 ≤ 1 := f3.1 285 34 _ _ kW_285_34
  have e7 : (0 : Int) ≤ hV H0 285 35 ∧ hV H0 285 35 ≤ 1 := f3.1 285 35 _ _ kW_285_35
  have e8 : (0 : Int) ≤ hV H0 285 51 ∧ hV H0 285 51 ≤ 1200 := f3.1 285 51 _ _ kW_285_51
  have e9 : (0 : Int) ≤ hV H0 285 55 ∧ hV H0 285 55 ≤ 64 := f3.1 285 55 _ _ kW_285_55
  try simp only [e5]
  have p0 := f3.2.1
  have p1 := f3.2.2.1
  have p2 := f3.2.2.2.1
  have p3 := f3.2.2.2.2
  clear f6 f9 f12 f17 f23 e5
  clear f3
  subst e0
  subst e1
  subst e2
  subst e3
  first
  | (have ix0 : n6 = hV H0 285 55 - 1 := Eq.trans f14 (w32_iv (Isu (Iat f5 f4) (IC 1)) (by decide)); subst ix0; clear f14)
  | (have ix0 : n6 = hV H0 285 55 - 1 := Eq.trans f14 (w32_id (by omega) (by omega)); subst ix0; clear f14)
  | (unfold w32 at f14; have ix0 : n6 = hV H0 285 55 - 1 := (by omega); subst ix0)
  | skip
  first
  | (have ix1 : n11 = hV H0 285 55 - 1 := Eq.trans f25 (w32_iv (Isu (Iat f5 f4) (IC 1)) (by decide)); subst ix1; clear f25)
  | (have ix1 : n11 = hV H0 285 55 - 1 := Eq.trans f25 (w32_id (by omega) (by omega)); subst ix1; clear f25)
  | (unfold w32 at f25; have ix1 : n11 = hV H0 285 55 - 1 := (by omega); subst ix1)
  | skip
  try unfold w32 at f14
  try unfold w32 at f25

  have wp := wo_pop (w := hV H0 322) (n := hV H0 285 55) (by omega)
  have wl := wo_le (w := hV H0 322) (hV H0 285 55 - 1).toNat
  omega
def g_235_s_9 : vG := ([(0, [16], [], 0), (0, [15], [], 3), (40, [7, 14], [], 0), (0, [14], [], 9), (41, [7, 13], [], 0), (0, [13], [], 8), (80, [0, 12, 11], [1, 0], 0), (0, [12], [], 55), (2, [11, 9, 10], [], 0), (0, [10], [], 1), (20, [9, 0], [0], 55), (90, [9], [], 0), (91, [9], [], 64), (30, [1], [], 0), (41, [7, 8], [], 0), (0, [8], [], 6), (22, [7, 3, 6], [0], 0), (90, [7], [], 0), (91, [7], [], 53), (2, [6, 4, 5], [], 0), (0, [5], [], 1), (20, [4, 0], [0], 55), (90, [4], [], 0), (91, [4], [], 64), (20, [3, 0], [0], 54), (0, [3], [], 322), (34, [2], [], 0), (20, [2, 0], [0], 55), (90, [2], [], 0), (91, [2], [], 64), (6000, [0, 1], [0], 0), (0, [0], [], 285), (90, [1], [], 0), (91, [1], [], 1)], (2234, [0, 15, 16], [1], 0))
theorem c_235_s_9 : vOkm T0 (eP e_235 L_235 A_235 mu_235 none) 2 g_235_s_9 := vOk_inI fun ρ η f0 f1 f2 f3 f4 f5 f6 f7 f8 f9 f10 f11 f12 f13 f14 f15 f16 f17 f18 f19 f20 f21 f22 f23 f24 f25 f26 f27 f28 f29 f30 f31 f32 f33 => q_235_9 (n0 := ρ 1) (n1 := ρ 0) (n2 := ρ 2) (n3 := ρ 3) (n4 := ρ 4) (n5 := ρ 5) (n6 := ρ 6) (n7 := ρ 7) (n8 := ρ 8) (n9 := ρ 9) (n10 := ρ 10) (n11 := ρ 11) (n12 := ρ 12) (n13 := ρ 13) (n14 := ρ 14) (n15 := ρ 15) (n16 := ρ 16) (H0 := η 0) (H1 := η 1) f33 f32 f31 f30 f29 f28 f27 f26 f25 f24 f23 f22 f21 f20 f19 f18 f17 f16 f15 f14 f13 f12 f11 f10 f9 f8 f7 f6 f5 f4 f3 f2 f1 f0
theorem q_235_10 {n0 n1 n2 n3 n4 n5 n6 n7 n8 n9 n10 n11 n12 n13 n14 n15 n16 : Int} {H0 H1 H2 : gH} (f0 : n0 ≤ 1) (f1 : 0 ≤ n0) (f2 : n1 = 285) (f3 : hWt T0 H0 ∧ preb_235 n1 n0 H0) (f4 : n2 ≤ 64) (f5 : 0 ≤ n2) (f6 : n2 = hV H0 (n1).toNat 55) (f7 : 0 < n2) (f8 : n3 = 322) (f9 : n3 = hV H0 (n1).toNat 54) (f10 : n4 ≤ 64) (f11 : 0 ≤ n4) (f12 : n4 = hV H0 (n1).toNat 55) (f13 : n5 = 1) (f14 : n6 = w32 (n4 - n5)) (f15 : n7 ≤ 53) (f16 : 0 ≤ n7) (f17 : n7 = hV H0 (n3).toNat (n6).toNat) (f18 : n8 = 6) (f19 : n7 ≠ n8) (f20 : n0 = 0) (f21 : n9 ≤ 64) (f22 : 0 ≤ n9) (f23 : n9 = hV H0 (n1).toNat 55) (f24 : n10 = 1) (f25 : n11 = w32 (n9 - n10)) (f26 : n12 = 55) (f27 : hUpd H1 H0 n1 n12 n11) (f28 : n13 = 8) (f29 : n7 ≠ n13) (f30 : n14 = 9) (f31 : n7 = n14) (f32 : n15 = 3) (f33 : n16 = 0) (f34 : (hLe T0 H1 H2 ∧ hFr s_234.2.2.2.2 H1 H2 ∧ ((0 : Int) = 0 → H2.length = H1.length) ∧ hWt T0 H2) ∧ postb_234 n1 n15 n16 H1 H2) : Ab_235_0 n1 n0 n1 n0 n7 H0 H2 ∧ ∀ q, none = some q → mub_235_0 n1 n0 n1 n0 n7 H0 H2 < q := by
  unfold preb_235 at f3
  unfold postb_234 at f34
  unfold Ab_235_0
  have e0 : n2 = hV H0 285 55 := (by rw [f2] at f6; exact f6 : n2 = hV H0 285 55)
  have e1 : n4 = hV H0 285 55 := (by rw [f2] at f12; exact f12 : n4 = hV H0 285 55)
  have e2 : n7 = hV H0 322 (n6).toNat := (by rw [f8] at f17; exact f17 : n7 = hV H0 322 (n6).toNat)
  have e3 : n9 = hV H0 285 55 := (by rw [f2] at f23; exact f23 : n9 = hV H0 285 55)
  have e5 : hV H1 285 51 = hV H0 285 51 := (uSlot f27 285 51 (iS (show n12 = ((55 : Nat) : Int) from f26) rfl))
  have e6 : hV H1 320 = hV H0 320 := uRowNe f27 320 (iS (show n1 = ((285 : Nat) : Int) from f2) rfl)
  have e7 : hV H1 321 = hV H0 321 := uRowNe f27 321 (iS (show n1 = ((285 : Nat) : Int) from f2) rfl)
  have e10 : hV H2 285 34 = hV H0 285 34 := ((f34.1.2.1.1 285 34 kF_234_285_34)).trans (uSlot f27 285 34 (iS (show n12 = ((55 : Nat) : Int) from f26) rfl))
  have e13 : hV H2 285 35 = hV H0 285 35 := ((f34.1.2.1.1 285 35 kF_234_285_35)).trans (uSlot f27 285 35 (iS (show n12 = ((55 : Nat) : Int) from f26) rfl))
  have e16 : hV H2 285 44 = hV H0 285 44 := ((f34.1.2.1.1 285 44 kF_234_285_44)).trans (uSlot f27 285 44 (iS (show n12 = ((55 : Nat) : Int) from f26) rfl))
  have e19 : hV H2 285 55 = n11 := ((f34.1.2.1.1 285 55 kF_234_285_55)).trans (uSame f27 285 55 f2.symm f26.symm)
  have e22 : hV H2 306 = hV H0 306 := (fRow f34.1.2.1 306 kR_234_306).trans (uRowNe f27 306 (iS (show n1 = ((285 : Nat) : Int) from f2) rfl))
  have e25 : hV H2 307 = hV H0 307 := (fRow f34.1.2.1 307 kR_234_307).trans (uRowNe f27 307 (iS (show n1 = ((285 : Nat) : Int) from f2) rfl))
  have e28 : hV H2 308 = hV H0 308 := (fRow f34.1.2.1 308 kR_234_308).trans (uRowNe f27 308 (iS (show n1 = ((285 : Nat) : Int) from f2) rfl))
  have e31 : hV H2 309 = hV H0 309 := (fRow f34.1.2.1 309 kR_234_309).trans (uRowNe f27 309 (iS (show n1 = ((285 : Nat) : Int) from f2) rfl))
  have e34 : hV H2 310 = hV H0 310 := (fRow f34.1.2.1 310 kR_234_310).trans (uRowNe f27 310 (iS (show n1 = ((285 : Nat) : Int) from f2) rfl))
  have e37 : hV H2 311 = hV H0 311 := (fRow f34.1.2.1 311 kR_234_311).trans (uRowNe f27 311 (iS (show n1 = ((285 : Nat) : Int) from f2) rfl))
  have e40 : hV H2 317 = hV H0 317 := (fRow f34.1.2.1 317 kR_234_317).trans (uRowNe f27 317 (iS (show n1 = ((285 : Nat) : Int) from f2) rfl))
  have e43 : hV H2 318 = hV H0 318 := (fRow f34.1.2.1 318 kR_234_318).trans (uRowNe f27 318 (iS (show n1 = ((285 : Nat) : Int) from f2) rfl))
  have e46 : hV H2 319 = hV H0 319 := (fRow f34.1.2.1 319 kR_234_319).trans (uRowNe f27 319 (iS (show n1 = ((285 : Nat) : Int) from f2) rfl))
  have e49 : hV H2 322 = hV H0 322 := (fRow f34.1.2.1 322 kR_234_322).trans (uRowNe f27 322 (iS (show n1 = ((285 : Nat) : Int) from f2) rfl))
  have e50 : (0 : Int) ≤ hV H0 285 34 ∧ hV H0 285 34 ≤ 1 := f3.1 285 34 _ _ kW_285_34
  have e51 : (0 : Int) ≤ hV H0 285 35 ∧ hV H0 285 35 ≤ 1 := f3.1 285 35 _ _ kW_285_35
  have e52 : (0 : Int) ≤ hV H0 285 44 ∧ hV H0 285 44 ≤ 400 := f3.1 285 44 _ _ kW_285_44
  have e53 : (0 : Int) ≤ hV H0 285 51 ∧ hV H0 285 51 ≤ 1200 := f3.1 285 51 _ _ kW_285_51
  have e54 : (0 : Int) ≤ hV H0 285 55 ∧ hV H0 285 55 ≤ 64 := f3.1 285 55 _ _ kW_285_55
  have e58 : (0 : Int) ≤ hV H2 285 51 ∧ hV H2 285 51 ≤ 1200 := f34.1.2.2.2 285 51 _ _ kW_285_51
  have e59 : (0 : Int) ≤ hV H2 285 55 ∧ hV H2 285 55 ≤ 64 := f34.1.2.2.2 285 55 _ _ kW_285_55
  try simp only [RR]
  try simp only [e19] at e59
  try simp only [e10, e13, e16, e19, e22, e25, e28, e31, e34, e37, e40, e43, e46, e49]
  have p0 := f3.2.1
  have p1 := f3.2.2.1
  have p2 := f3.2.2.2.1
  have p3 := f3.2.2.2.2
  have r0_0 := f34.2.1
  have r0_1 := f34.2.2.1
  have r0_2 := f34.2.2.2
  try simp only [RR] at p0
  try simp only [e5] at r0_0
  try simp only [e5, e6] at r0_1
  try simp only [e5, e7] at r0_2
  clear f6 f9 f12 f17 f23 e5 e6 e7 e10 e13 e16 e22 e25 e28 e31 e34 e37 e40 e43 e46 e49
  clear f3 f34
  subst e0
  subst e1
  subst e2
  subst e3
  first
  | (have ix0 : n6 = hV H0 285 55 - 1 := Eq.trans f14 (w32_iv (Isu (Iat f5 f4) (IC 1)) (by decide)); subst ix0; clear f14)
  | (have ix0 : n6 = hV H0 285 55 - 1 := Eq.trans f14 (w32_id (by omega) (by omega)); subst ix0; clear f14)
  | (unfold w32 at f14; have ix0 : n6 = hV H0 285 55 - 1 := (by omega); subst ix0)
  | skip
  first
  | (have ix1 : n11 = hV H0 285 55 - 1 := Eq.trans f25 (w32_iv (Isu (Iat f5 f4) (IC 1)) (by decide)); subst ix1; clear f25)
  | (have ix1 : n11 = hV H0 285 55 - 1 := Eq.trans f25 (w32_id (by omega) (by omega)); subst ix1; clear f25)
  | (unfold w32 at f25; have ix1 : n11 = hV H0 285 55 - 1 := (by omega); subst ix1)
  | skip
  try unfold w32 at f14
  try unfold w32 at f25

  have y0 := p0
  have y1 : COp (hV H0 320) (hV H0 321) (hV H0 320) (hV H0 321) (hV H0 285 51) (hV H0 285 55 - wo (hV H0 322) (hV H0 285 55).toNat + 1) (hV H0 285 51) (hV H0 285 55 - wo (hV H0 322) (hV H0 285 55).toNat + 1) := CO_refl rfl rfl
  have wp := wo_pop (w := hV H0 322) (n := hV H0 285 55) (by omega)
  have wl := wo_le (w := hV H0 322) (hV H0 285 55 - 1).toNat
  refine ⟨⟨?_, ?_, ?_, ?_⟩, fun q hq => ?_⟩
  · first | trivial | omega
  · rw [r0_1, r0_2]
    exact RR_emit y0 (by omega) (by omega) (by omega) (by omega) (by omega) (by omega) (by omega) (by omega)
  · rw [r0_1, r0_2]
    exact CO_step y1 (by omega) (by omega) (by omega) (.inr ⟨by omega, by omega, by omega⟩)
  · first
    | omega
    | (refine ⟨?_, ?_, ?_⟩ <;> first | exact True.intro | omega)
  · exact nomatch hq
def g_235_s_10 : vG := ([(1234, [0, 15, 16], [1, 2], 0), (0, [16], [], 0), (0, [15], [], 3), (40, [7, 14], [], 0), (0, [14], [], 9), (41, [7, 13], [], 0), (0, [13], [], 8), (80, [0, 12, 11], [1, 0], 0), (0, [12], [], 55), (2, [11, 9, 10], [], 0), (0, [10], [], 1), (20, [9, 0], [0], 55), (90, [9], [], 0), (91, [9], [], 64), (30, [1], [], 0), (41, [7, 8], [], 0), (0, [8], [], 6), (22, [7, 3, 6], [0], 0), (90, [7], [], 0), (91, [7], [], 53), (2, [6, 4, 5], [], 0), (0, [5], [], 1), (20, [4, 0], [0], 55), (90, [4], [], 0), (91, [4], [], 64), (20, [3, 0], [0], 54), (0, [3], [], 322), (34, [2], [], 0), (20, [2, 0], [0], 55), (90, [2], [], 0), (91, [2], [], 64), (6000, [0, 1], [0], 0), (0, [0], [], 285), (90, [1], [], 0), (91, [1], [], 1)], (4000, [0, 1, 7], [2], 0))
theorem c_235_s_10 : vOkm T0 (eP e_235 L_235 A_235 mu_235 none) 2 g_235_s_10 := vOk_inI fun ρ η f0 f1 f2 f3 f4 f5 f6 f7 f8 f9 f10 f11 f12 f13 f14 f15 f16 f17 f18 f19 f20 f21 f22 f23 f24 f25 f26 f27 f28 f29 f30 f31 f32 f33 f34 => q_235_10 (n0 := ρ 1) (n1 := ρ 0) (n2 := ρ 2) (n3 := ρ 3) (n4 := ρ 4) (n5 := ρ 5) (n6 := ρ 6) (n7 := ρ 7) (n8 := ρ 8) (n9 := ρ 9) (n10 := ρ 10) (n11 := ρ 11) (n12 := ρ 12) (n13 := ρ 13) (n14 := ρ 14) (n15 := ρ 15) (n16 := ρ 16) (H0 := η 0) (H1 := η 1) (H2 := η 2) f34 f33 f32 f31 f30 f29 f28 f27 f26 f25 f24 f23 f22 f21 f20 f19 f18 f17 f16 f15 f14 f13 f12 f11 f10 f9 f8 f7 f6 f5 f4 f3 f2 f1 f0
theorem q_235_11 {n0 n1 n2 n3 n4 n5 n6 n7 n8 n9 n10 n11 n12 n13 n14 n15 : Int} {H0 H1 : gH} (f0 : n0 ≤ 1) (f1 : 0 ≤ n0) (f2 : n1 = 285) (f3 : hWt T0 H0 ∧ preb_235 n1 n0 H0) (f4 : n2 ≤ 64) (f5 : 0 ≤ n2) (f6 : n2 = hV H0 (n1).toNat 55) (f7 : 0 < n2) (f8 : n3 = 322) (f9 : n3 = hV H0 (n1).toNat 54) (f10 : n4 ≤ 64) (f11 : 0 ≤ n4) (f12 : n4 = hV H0 (n1).toNat 55) (f13 : n5 = 1) (f14 : n6 = w32 (n4 - n5)) (f15 : n7 ≤ 53) (f16 : 0 ≤ n7) (f17 : n7 = hV H0 (n3).toNat (n6).toNat) (f18 : n8 = 6) (f19 : n7 ≠ n8) (f20 : n0 = 0) (f21 : n9 ≤ 64) (f22 : 0 ≤ n9) (f23 : n9 = hV H0 (n1).toNat 55) (f24 : n10 = 1) (f25 : n11 = w32 (n9 - n10)) (f26 : n12 = 55) (f27 : hUpd H1 H0 n1 n12 n11) (f28 : n13 = 8) (f29 : n7 = n13) (f30 : n14 = 2) (f31 : n15 = 0) : preb_234 n1 n14 n15 H1 := by
  unfold preb_235 at f3
  unfold preb_234
  have e0 : n2 = hV H0 285 55 := (by rw [f2] at f6; exact f6 : n2 = hV H0 285 55)
  have e1 : n4 = hV H0 285 55 := (by rw [f2] at f12; exact f12 : n4 = hV H0 285 55)
  have e2 : n7 = hV H0 322 (n6).toNat := (by rw [f8] at f17; exact f17 : n7 = hV H0 322 (n6).toNat)
  have e3 : n9 = hV H0 285 55 := (by rw [f2] at f23; exact f23 : n9 = hV H0 285 55)
  have e5 : hV H1 285 51 = hV H0 285 51 := (uSlot f27 285 51 (iS (show n12 = ((55 : Nat) : Int) from f26) rfl))
  have e6 : (0 : Int) ≤ hV H0 285 34 ∧ hV H0 285 34 ≤ 1 := f3.1 285 34 _ _ kW_285_34
  have e7 : (0 : Int) ≤ hV H0 285 35 ∧ hV H0 285 35 ≤ 1 := f3.1 285 35 _ _ kW_285_35
  have e8 : (0 : Int) ≤ hV H0 285 51 ∧ hV H0 285 51 ≤ 1200 := f3.1 285 51 _ _ kW_285_51
  have e9 : (0 : Int) ≤ hV H0 285 55 ∧ hV H0 285 55 ≤ 64 := f3.1 285 55 _ _ kW_285_55
  try simp only [e5]
  have p0 := f3.2.1
  have p1 := f3.2.2.1
  have p2 := f3.2.2.2.1
  have p3 := f3.2.2.2.2
  clear f6 f9 f12 f17 f23 e5
  clear f3
  subst e0
  subst e1
  subst e2
  subst e3
  first
  | (have ix0 : n6 = hV H0 285 55 - 1 := Eq.trans f14 (w32_iv (Isu (Iat f5 f4) (IC 1)) (by decide)); subst ix0; clear f14)
  | (have ix0 : n6 = hV H0 285 55 - 1 := Eq.trans f14 (w32_id (by omega) (by omega)); subst ix0; clear f14)
  | (unfold w32 at f14; have ix0 : n6 = hV H0 285 55 - 1 := (by omega); subst ix0)
  | skip
  first
  | (have ix1 : n11 = hV H0 285 55 - 1 := Eq.trans f25 (w32_iv (Isu (Iat f5 f4) (IC 1)) (by decide)); subst ix1; clear f25)
  | (have ix1 : n11 = hV H0 285 55 - 1 := Eq.trans f25 (w32_id (by omega) (by omega)); subst ix1; clear f25)
  | (unfold w32 at f25; have ix1 : n11 = hV H0 285 55 - 1 := (by omega); subst ix1)
  | skip
  try unfold w32 at f14
  try unfold w32 at f25

  have wp := wo_pop (w := hV H0 322) (n := hV H0 285 55) (by omega)
  have wl := wo_le (w := hV H0 322) (hV H0 285 55 - 1).toNat
  omega
def g_235_s_11 : vG := ([(0, [15], [], 0), (0, [14], [], 2), (40, [7, 13], [], 0), (0, [13], [], 8), (80, [0, 12, 11], [1, 0], 0), (0, [12], [], 55), (2, [11, 9, 10], [], 0), (0, [10], [], 1), (20, [9, 0], [0], 55), (90, [9], [], 0), (91, [9], [], 64), (30, [1], [], 0), (41, [7, 8], [], 0), (0, [8], [], 6), (22, [7, 3, 6], [0], 0), (90, [7], [], 0), (91, [7], [], 53), (2, [6, 4, 5], [], 0), (0, [5], [], 1), (20, [4, 0], [0], 55), (90, [4], [], 0), (91, [4], [], 64), (20, [3, 0], [0], 54), (0, [3], [], 322), (34, [2], [], 0), (20, [2, 0], [0], 55), (90, [2], [], 0), (91, [2], [], 64), (6000, [0, 1], [0], 0), (0, [0], [], 285), (90, [1], [], 0), (91, [1], [], 1)], (2234, [0, 14, 15], [1], 0))
theorem c_235_s_11 : vOkm T0 (eP e_235 L_235 A_235 mu_235 none) 2 g_235_s_11 := vOk_inI fun ρ η f0 f1 f2 f3 f4 f5 f6 f7 f8 f9 f10 f11 f12 f13 f14 f15 f16 f17 f18 f19 f20 f21 f22 f23 f24 f25 f26 f27 f28 f29 f30 f31 => q_235_11 (n0 := ρ 1) (n1 := ρ 0) (n2 := ρ 2) (n3 := ρ 3) (n4 := ρ 4) (n5 := ρ 5) (n6 := ρ 6) (n7 := ρ 7) (n8 := ρ 8) (n9 := ρ 9) (n10 := ρ 10) (n11 := ρ 11) (n12 := ρ 12) (n13 := ρ 13) (n14 := ρ 14) (n15 := ρ 15) (H0 := η 0) (H1 := η 1) f31 f30 f29 f28 f27 f26 f25 f24 f23 f22 f21 f20 f19 f18 f17 f16 f15 f14 f13 f12 f11 f10 f9 f8 f7 f6 f5 f4 f3 f2 f1 f0
theorem q_235_12 {n0 n1 n2 n3 n4 n5 n6 n7 n8 n9 n10 n11 n12 n13 n14 n15 : Int} {H0 H1 H2 : gH} (f0 : n0 ≤ 1) (f1 : 0 ≤ n0) (f2 : n1 = 285) (f3 : hWt T0 H0 ∧ preb_235 n1 n0 H0) (f4 : n2 ≤ 64) (f5 : 0 ≤ n2) (f6 : n2 = hV H0 (n1).toNat 55) (f7 : 0 < n2) (f8 : n3 = 322) (f9 : n3 = hV H0 (n1).toNat 54) (f10 : n4 ≤ 64) (f11 : 0 ≤ n4) (f12 : n4 = hV H0 (n1).toNat 55) (f13 : n5 = 1) (f14 : n6 = w32 (n4 - n5)) (f15 : n7 ≤ 53) (f16 : 0 ≤ n7) (f17 : n7 = hV H0 (n3).toNat (n6).toNat) (f18 : n8 = 6) (f19 : n7 ≠ n8) (f20 : n0 = 0) (f21 : n9 ≤ 64) (f22 : 0 ≤ n9) (f23 : n9 = hV H0 (n1).toNat 55) (f24 : n10 = 1) (f25 : n11 = w32 (n9 - n10)) (f26 : n12 = 55) (f27 : hUpd H1 H0 n1 n12 n11) (f28 : n13 = 8) (f29 : n7 = n13) (f30 : n14 = 2) (f31 : n15 = 0) (f32 : (hLe T0 H1 H2 ∧ hFr s_234.2.2.2.2 H1 H2 ∧ ((0 : Int) = 0 → H2.length = H1.length) ∧ hWt T0 H2) ∧ postb_234 n1 n14 n15 H1 H2) : Ab_235_0 n1 n0 n1 n0 n7 H0 H2 ∧ ∀ q, none = some q → mub_235_0 n1 n0 n1 n0 n7 H0 H2 < q := by
  unfold preb_235 at f3
  unfold postb_234 at f32
  unfold Ab_235_0
  have e0 : n2 = hV H0 285 55 := (by rw [f2] at f6; exact f6 : n2 = hV H0 285 55)
  have e1 : n4 = hV H0 285 55 := (by rw [f2] at f12; exact f12 : n4 = hV H0 285 55)
  have e2 : n7 = hV H0 322 (n6).toNat := (by rw [f8] at f17; exact f17 : n7 = hV H0 322 (n6).toNat)
  have e3 : n9 = hV H0 285 55 := (by rw [f2] at f23; exact f23 : n9 = hV H0 285 55)
  have e5 : hV H1 285 51 = hV H0 285 51 := (uSlot f27 285 51 (iS (show n12 = ((55 : Nat) : Int) from f26) rfl))
  have e6 : hV H1 320 = hV H0 320 := uRowNe f27 320 (iS (show n1 = ((285 : Nat) : Int) from f2) rfl)
  have e7 : hV H1 321 = hV H0 321 := uRowNe f27 321 (iS (show n1 = ((285 : Nat) : Int) from f2) rfl)
  have e10 : hV H2 285 34 = hV H0 285 34 := ((f32.1.2.1.1 285 34 kF_234_285_34)).trans (uSlot f27 285 34 (iS (show n12 = ((55 : Nat) : Int) from f26) rfl))
  have e13 : hV H2 285 35 = hV H0 285 35 := ((f32.1.2.1.1 285 35 kF_234_285_35)).trans (uSlot f27 285 35 (iS (show n12 = ((55 : Nat) : Int) from f26) rfl))
  have e16 : hV H2 285 44 = hV H0 285 44 := ((f32.1.2.1.1 285 44 kF_234_285_44)).trans (uSlot f27 285 44 (iS (show n12 = ((55 : Nat) : Int) from f26) rfl))
  have e19 : hV H2 285 55 = n11 := ((f32.1.2.1.1 285 55 kF_234_285_55)).trans (uSame f27 285 55 f2.symm f26.symm)
  have e22 : hV H2 306 = hV H0 306 := (fRow f32.1.2.1 306 kR_234_306).trans (uRowNe f27 306 (iS (show n1 = ((285 : Nat) : Int) from f2) rfl))
  have e25 : hV H2 307 = hV H0 307 := (fRow f32.1.2.1 307 kR_234_307).trans (uRowNe f27 307 (iS (show n1 = ((285 : Nat) : Int) from f2) rfl))
  have e28 : hV H2 308 = hV H0 308 := (fRow f32.1.2.1 308 kR_234_308).trans (uRowNe f27 308 (iS (show n1 = ((285 : Nat) : Int) from f2) rfl))
  have e31 : hV H2 309 = hV H0 309 := (fRow f32.1.2.1 309 kR_234_309).trans (uRowNe f27 309 (iS (show n1 = ((285 : Nat) : Int) from f2) rfl))
  have e34 : hV H2 310 = hV H0 310 := (fRow f32.1.2.1 310 kR_234_310).trans (uRowNe f27 310 (iS (show n1 = ((285 : Nat) : Int) from f2) rfl))
  have e37 : hV H2 311 = hV H0 311 := (fRow f32.1.2.1 311 kR_234_311).trans (uRowNe f27 311 (iS (show n1 = ((285 : Nat) : Int) from f2) rfl))
  have e40 : hV H2 317 = hV H0 317 := (fRow f32.1.2.1 317 kR_234_317).trans (uRowNe f27 317 (iS (show n1 = ((285 : Nat) : Int) from f2) rfl))
  have e43 : hV H2 318 = hV H0 318 := (fRow f32.1.2.1 318 kR_234_318).trans (uRowNe f27 318 (iS (show n1 = ((285 : Nat) : Int) from f2) rfl))
  have e46 : hV H2 319 = hV H0 319 := (fRow f32.1.2.1 319 kR_234_319).trans (uRowNe f27 319 (iS (show n1 = ((285 : Nat) : Int) from f2) rfl))
  have e49 : hV H2 322 = hV H0 322 := (fRow f32.1.2.1 322 kR_234_322).trans (uRowNe f27 322 (iS (show n1 = ((285 : Nat) : Int) from f2) rfl))
  have e50 : (0 : Int) ≤ hV H0 285 34 ∧ hV H0 285 34 ≤ 1 := f3.1 285 34 _ _ kW_285_34
  have e51 : (0 : Int) ≤ hV H0 285 35 ∧ hV H0 285 35 ≤ 1 := f3.1 285 35 _ _ kW_285_35
  have e52 : (0 : Int) ≤ hV H0 285 44 ∧ hV H0 285 44 ≤ 400 := f3.1 285 44 _ _ kW_285_44
  have e53 : (0 : Int) ≤ hV H0 285 51 ∧ hV H0 285 51 ≤ 1200 := f3.1 285 51 _ _ kW_285_51
  have e54 : (0 : Int) ≤ hV H0 285 55 ∧ hV H0 285 55 ≤ 64 := f3.1 285 55 _ _ kW_285_55
  have e58 : (0 : Int) ≤ hV H2 285 51 ∧ hV H2 285 51 ≤ 1200 := f32.1.2.2.2 285 51 _ _ kW_285_51
  have e59 : (0 : Int) ≤ hV H2 285 55 ∧ hV H2 285 55 ≤ 64 := f32.1.2.2.2 285 55 _ _ kW_285_55
  try simp only [RR]
  try simp only [e19] at e59
  try simp only [e10, e13, e16, e19, e22, e25, e28, e31, e34, e37, e40, e43, e46, e49]
  have p0 := f3.2.1
  have p1 := f3.2.2.1
  have p2 := f3.2.2.2.1
  have p3 := f3.2.2.2.2
  have r0_0 := f32.2.1
  have r0_1 := f32.2.2.1
  have r0_2 := f32.2.2.2
  try simp only [RR] at p0
  try simp only [e5] at r0_0
  try simp only [e5, e6] at r0_1
  try simp only [e5, e7] at r0_2
  clear f6 f9 f12 f17 f23 e5 e6 e7 e10 e13 e16 e22 e25 e28 e31 e34 e37 e40 e43 e46 e49
  clear f3 f32
  subst e0
  subst e1
  subst e2
  subst e3
  first
  | (have ix0 : n6 = hV H0 285 55 - 1 := Eq.trans f14 (w32_iv (Isu (Iat f5 f4) (IC 1)) (by decide)); subst ix0; clear f14)
  | (have ix0 : n6 = hV H0 285 55 - 1 := Eq.trans f14 (w32_id (by omega) (by omega)); subst ix0; clear f14)
  | (unfold w32 at f14; have ix0 : n6 = hV H0 285 55 - 1 := (by omega); subst ix0)
  | skip
  first
  | (have ix1 : n11 = hV H0 285 55 - 1 := Eq.trans f25 (w32_iv (Isu (Iat f5 f4) (IC 1)) (by decide)); subst ix1; clear f25)
  | (have ix1 : n11 = hV H0 285 55 - 1 := Eq.trans f25 (w32_id (by omega) (by omega)); subst ix1; clear f25)
  | (unfold w32 at f25; have ix1 : n11 = hV H0 285 55 - 1 := (by omega); subst ix1)
  | skip
  try unfold w32 at f14
  try unfold w32 at f25

  have y0 := p0
  have y1 : COp (hV H0 320) (hV H0 321) (hV H0 320) (hV H0 321) (hV H0 285 51) (hV H0 285 55 - wo (hV H0 322) (hV H0 285 55).toNat + 1) (hV H0 285 51) (hV H0 285 55 - wo (hV H0 322) (hV H0 285 55).toNat + 1) := CO_refl rfl rfl
  have wp := wo_pop (w := hV H0 322) (n := hV H0 285 55) (by omega)
  have wl := wo_le (w := hV H0 322) (hV H0 285 55 - 1).toNat
  refine ⟨⟨?_, ?_, ?_, ?_⟩, fun q hq => ?_⟩
  · first | trivial | omega
  · rw [r0_1, r0_2]
    exact RR_emit y0 (by omega) (by omega) (by omega) (by omega) (by omega) (by omega) (by omega) (by omega)
  · rw [r0_1, r0_2]
    exact CO_step y1 (by omega) (by omega) (by omega) (.inr ⟨by omega, by omega, by omega⟩)
  · first
    | omega
    | (refine ⟨?_, ?_, ?_⟩ <;> first | exact True.intro | omega)
  · exact nomatch hq
def g_235_s_12 : vG := ([(1234, [0, 14, 15], [1, 2], 0), (0, [15], [], 0), (0, [14], [], 2), (40, [7, 13], [], 0), (0, [13], [], 8), (80, [0, 12, 11], [1, 0], 0), (0, [12], [], 55), (2, [11, 9, 10], [], 0), (0, [10], [], 1), (20, [9, 0], [0], 55), (90, [9], [], 0), (91, [9], [], 64), (30, [1], [], 0), (41, [7, 8], [], 0), (0, [8], [], 6), (22, [7, 3, 6], [0], 0), (90, [7], [], 0), (91, [7], [], 53), (2, [6, 4, 5], [], 0), (0, [5], [], 1), (20, [4, 0], [0], 55), (90, [4], [], 0), (91, [4], [], 64), (20, [3, 0], [0], 54), (0, [3], [], 322), (34, [2], [], 0), (20, [2, 0], [0], 55), (90, [2], [], 0), (91, [2], [], 64), (6000, [0, 1], [0], 0), (0, [0], [], 285), (90, [1], [], 0), (91, [1], [], 1)], (4000, [0, 1, 7], [2], 0))
theorem c_235_s_12 : vOkm T0 (eP e_235 L_235 A_235 mu_235 none) 2 g_235_s_12 := vOk_inI fun ρ η f0 f1 f2 f3 f4 f5 f6 f7 f8 f9 f10 f11 f12 f13 f14 f15 f16 f17 f18 f19 f20 f21 f22 f23 f24 f25 f26 f27 f28 f29 f30 f31 f32 => q_235_12 (n0 := ρ 1) (n1 := ρ 0) (n2 := ρ 2) (n3 := ρ 3) (n4 := ρ 4) (n5 := ρ 5) (n6 := ρ 6) (n7 := ρ 7) (n8 := ρ 8) (n9 := ρ 9) (n10 := ρ 10) (n11 := ρ 11) (n12 := ρ 12) (n13 := ρ 13) (n14 := ρ 14) (n15 := ρ 15) (H0 := η 0) (H1 := η 1) (H2 := η 2) f32 f31 f30 f29 f28 f27 f26 f25 f24 f23 f22 f21 f20 f19 f18 f17 f16 f15 f14 f13 f12 f11 f10 f9 f8 f7 f6 f5 f4 f3 f2 f1 f0
theorem q_235_13 {n0 n1 n2 n3 n4 n5 n6 n7 n8 n9 : Int} {H0 : gH} (f0 : n0 ≤ 1) (f1 : 0 ≤ n0) (f2 : n1 = 285) (f3 : hWt T0 H0 ∧ preb_235 n1 n0 H0) (f4 : n2 ≤ 64) (f5 : 0 ≤ n2) (f6 : n2 = hV H0 (n1).toNat 55) (f7 : 0 < n2) (f8 : n3 = 322) (f9 : n3 = hV H0 (n1).toNat 54) (f10 : n4 ≤ 64) (f11 : 0 ≤ n4) (f12 : n4 = hV H0 (n1).toNat 55) (f13 : n5 = 1) (f14 : n6 = w32 (n4 - n5)) (f15 : n7 ≤ 53) (f16 : 0 ≤ n7) (f17 : n7 = hV H0 (n3).toNat (n6).toNat) (f18 : n8 = 6) (f19 : n7 ≠ n8) (f20 : n0 ≠ 0) (f21 : n9 = 8) (f22 : n7 = n9) : postb_235 n1 n0 H0 H0 := by
  unfold preb_235 at f3
  unfold postb_235
  have e0 : n2 = hV H0 285 55 := (by rw [f2] at f6; exact f6 : n2 = hV H0 285 55)
  have e1 : n4 = hV H0 285 55 := (by rw [f2] at f12; exact f12 : n4 = hV H0 285 55)
  have e2 : n7 = hV H0 322 (n6).toNat := (by rw [f8] at f17; exact f17 : n7 = hV H0 322 (n6).toNat)
  have e3 : (0 : Int) ≤ hV H0 285 34 ∧ hV H0 285 34 ≤ 1 := f3.1 285 34 _ _ kW_285_34
  have e4 : (0 : Int) ≤ hV H0 285 35 ∧ hV H0 285 35 ≤ 1 := f3.1 285 35 _ _ kW_285_35
  have e5 : (0 : Int) ≤ hV H0 285 51 ∧ hV H0 285 51 ≤ 1200 := f3.1 285 51 _ _ kW_285_51
  have e6 : (0 : Int) ≤ hV H0 285 55 ∧ hV H0 285 55 ≤ 64 := f3.1 285 55 _ _ kW_285_55
  have p0 := f3.2.1
  have p1 := f3.2.2.1
  have p2 := f3.2.2.2.1
  have p3 := f3.2.2.2.2
  clear f6 f9 f12 f17
  clear f3
  subst e0
  subst e1
  subst e2
  first
  | (have ix0 : n6 = hV H0 285 55 - 1 := Eq.trans f14 (w32_iv (Isu (Iat f5 f4) (IC 1)) (by decide)); subst ix0; clear f14)
  | (have ix0 : n6 = hV H0 285 55 - 1 := Eq.trans f14 (w32_id (by omega) (by omega)); subst ix0; clear f14)
  | (unfold w32 at f14; have ix0 : n6 = hV H0 285 55 - 1 := (by omega); subst ix0)
  | skip
  try unfold w32 at f14

  have y0 := p0
  have y1 : COp (hV H0 320) (hV H0 321) (hV H0 320) (hV H0 321) (hV H0 285 51) (hV H0 285 55 - wo (hV H0 322) (hV H0 285 55).toNat + 1) (hV H0 285 51) (hV H0 285 55 - wo (hV H0 322) (hV H0 285 55).toNat + 1) := CO_refl rfl rfl
  refine ⟨y0, y1, ?_, ?_, ?_, ?_⟩ <;> first | trivial | omega
def g_235_s_13 : vG := ([(40, [7, 9], [], 0), (0, [9], [], 8), (31, [1], [], 0), (41, [7, 8], [], 0), (0, [8], [], 6), (22, [7, 3, 6], [0], 0), (90, [7], [], 0), (91, [7], [], 53), (2, [6, 4, 5], [], 0), (0, [5], [], 1), (20, [4, 0], [0], 55), (90, [4], [], 0), (91, [4], [], 64), (20, [3, 0], [0], 54), (0, [3], [], 322), (34, [2], [], 0), (20, [2, 0], [0], 55), (90, [2], [], 0), (91, [2], [], 64), (6000, [0, 1], [0], 0), (0, [0], [], 285), (90, [1], [], 0), (91, [1], [], 1)], (3000, [], [0], 41))
theorem c_235_s_13 : vOkm T0 (eP e_235 L_235 A_235 mu_235 none) 2 g_235_s_13 := vOk_inI fun ρ η f0 f1 f2 f3 f4 f5 f6 f7 f8 f9 f10 f11 f12 f13 f14 f15 f16 f17 f18 f19 f20 f21 f22 => q_235_13 (n0 := ρ 1) (n1 := ρ 0) (n2 := ρ 2) (n3 := ρ 3) (n4 := ρ 4) (n5 := ρ 5) (n6 := ρ 6) (n7 := ρ 7) (n8 := ρ 8) (n9 := ρ 9) (H0 := η 0) f22 f21 f20 f19 f18 f17 f16 f15 f14 f13 f12 f11 f10 f9 f8 f7 f6 f5 f4 f3 f2 f1 f0
def g_235_s_14 : vG := ([(2, [13, 11, 12], [], 0), (0, [12], [], 1), (20, [11, 0], [0], 55), (91, [11], [], 64), (34, [2], [], 0), (20, [2, 0], [0], 55), (0, [0], [], 285)], (90, [13], [], 0))
theorem c_235_s_14 : vOkm T0 (eP e_235 L_235 A_235 mu_235 none) 2 g_235_s_14 := vOk_inI fun ρ η f0 f1 f2 f3 f4 f5 f6 => q_235_3 (n0 := ρ 0) (n1 := ρ 2) (n2 := ρ 11) (n3 := ρ 12) (n4 := ρ 13) (H0 := η 0) f6 f5 f4 f3 f2 f1 f0
def g_235_s_15 : vG := ([(2, [13, 11, 12], [], 0), (0, [12], [], 1), (90, [11], [], 0), (91, [11], [], 64)], (91, [13], [], 64))
theorem c_235_s_15 : vOkm T0 (eP e_235 L_235 A_235 mu_235 none) 2 g_235_s_15 := vOk_inI fun ρ η f0 f1 f2 f3 => q_235_4 (n0 := ρ 11) (n1 := ρ 12) (n2 := ρ 13) (H0 := η 0) f3 f2 f1 f0
theorem q_235_14 {n0 n1 n2 n3 n4 n5 n6 n7 n8 n9 n10 n11 n12 n13 n14 n15 n16 n17 n18 n19 : Int} {H0 H1 : gH} (f0 : n0 ≤ 1) (f1 : 0 ≤ n0) (f2 : n1 = 285) (f3 : hWt T0 H0 ∧ preb_235 n1 n0 H0) (f4 : n2 ≤ 64) (f5 : 0 ≤ n2) (f6 : n2 = hV H0 (n1).toNat 55) (f7 : 0 < n2) (f8 : n3 = 322) (f9 : n3 = hV H0 (n1).toNat 54) (f10 : n4 ≤ 64) (f11 : 0 ≤ n4) (f12 : n4 = hV H0 (n1).toNat 55) (f13 : n5 = 1) (f14 : n6 = w32 (n4 - n5)) (f15 : n7 ≤ 53) (f16 : 0 ≤ n7) (f17 : n7 = hV H0 (n3).toNat (n6).toNat) (f18 : n8 = 6) (f19 : n7 ≠ n8) (f20 : n0 ≠ 0) (f21 : n9 = 8) (f22 : n7 ≠ n9) (f23 : n10 = 9) (f24 : n7 ≠ n10) (f25 : n11 ≤ 64) (f26 : 0 ≤ n11) (f27 : n11 = hV H0 (n1).toNat 55) (f28 : n12 = 1) (f29 : n13 = w32 (n11 - n12)) (f30 : n14 = 55) (f31 : hUpd H1 H0 n1 n14 n13) (f32 : n15 = 8) (f33 : n7 ≠ n15) (f34 : n16 = 9) (f35 : n7 ≠ n16) (f36 : n17 = 10) (f37 : n7 ≠ n17) (f38 : n18 = 5) (f39 : n19 = 0) : preb_234 n1 n18 n19 H1 := by
  unfold preb_235 at f3
  unfold preb_234
  have e0 : n2 = hV H0 285 55 := (by rw [f2] at f6; exact f6 : n2 = hV H0 285 55)
  have e1 : n4 = hV H0 285 55 := (by rw [f2] at f12; exact f12 : n4 = hV H0 285 55)
  have e2 : n7 = hV H0 322 (n6).toNat := (by rw [f8] at f17; exact f17 : n7 = hV H0 322 (n6).toNat)
  have e3 : n11 = hV H0 285 55 := (by rw [f2] at f27; exact f27 : n11 = hV H0 285 55)
  have e5 : hV H1 285 51 = hV H0 285 51 := (uSlot f31 285 51 (iS (show n14 = ((55 : Nat) : Int) from f30) rfl))
  have e6 : (0 : Int) ≤ hV H0 285 34 ∧ hV H0 285 34 ≤ 1 := f3.1 285 34 _ _ kW_285_34
  have e7 : (0 : Int) ≤ hV H0 285 35 ∧ hV H0 285 35 ≤ 1 := f3.1 285 35 _ _ kW_285_35
  have e8 : (0 : Int) ≤ hV H0 285 51 ∧ hV H0 285 51 ≤ 1200 := f3.1 285 51 _ _ kW_285_51
  have e9 : (0 : Int) ≤ hV H0 285 55 ∧ hV H0 285 55 ≤ 64 := f3.1 285 55 _ _ kW_285_55
  try simp only [e5]
  have p0 := f3.2.1
  have p1 := f3.2.2.1
  have p2 := f3.2.2.2.1
  have p3 := f3.2.2.2.2
  clear f6 f9 f12 f17 f27 e5
  clear f3
  subst e0
  subst e1
  subst e2
  subst e3
  first
  | (have ix0 : n6 = hV H0 285 55 - 1 := Eq.trans f14 (w32_iv (Isu (Iat f5 f4) (IC 1)) (by decide)); subst ix0; clear f14)
  | (have ix0 : n6 = hV H0 285 55 - 1 := Eq.trans f14 (w32_id (by omega) (by omega)); subst ix0; clear f14)
  | (unfold w32 at f14; have ix0 : n6 = hV H0 285 55 - 1 := (by omega); subst ix0)
  | skip
  first
  | (have ix1 : n13 = hV H0 285 55 - 1 := Eq.trans f29 (w32_iv (Isu (Iat f5 f4) (IC 1)) (by decide)); subst ix1; clear f29)
  | (have ix1 : n13 = hV H0 285 55 - 1 := Eq.trans f29 (w32_id (by omega) (by omega)); subst ix1; clear f29)
  | (unfold w32 at f29; have ix1 : n13 = hV H0 285 55 - 1 := (by omega); subst ix1)
  | skip
  try unfold w32 at f14
  try unfold w32 at f29

  have wp := wo_pop (w := hV H0 322) (n := hV H0 285 55) (by omega)
  have wl := wo_le (w := hV H0 322) (hV H0 285 55 - 1).toNat
  omega
def g_235_s_16 : vG := ([(0, [19], [], 0), (0, [18], [], 5), (41, [7, 17], [], 0), (0, [17], [], 10), (41, [7, 16], [], 0), (0, [16], [], 9), (41, [7, 15], [], 0), (0, [15], [], 8), (80, [0, 14, 13], [1, 0], 0), (0, [14], [], 55), (2, [13, 11, 12], [], 0), (0, [12], [], 1), (20, [11, 0], [0], 55), (90, [11], [], 0), (91, [11], [], 64), (41, [7, 10], [], 0), (0, [10], [], 9), (41, [7, 9], [], 0), (0, [9], [], 8), (31, [1], [], 0), (41, [7, 8], [], 0), (0, [8], [], 6), (22, [7, 3, 6], [0], 0), (90, [7], [], 0), (91, [7], [], 53), (2, [6, 4, 5], [], 0), (0, [5], [], 1), (20, [4, 0], [0], 55), (90, [4], [], 0), (91, [4], [], 64), (20, [3, 0], [0], 54), (0, [3], [], 322), (34, [2], [], 0), (20, [2, 0], [0], 55), (90, [2], [], 0), (91, [2], [], 64), (6000, [0, 1], [0], 0), (0, [0], [], 285), (90, [1], [], 0), (91, [1], [], 1)], (2234, [0, 18, 19], [1], 0))
theorem c_235_s_16 : vOkm T0 (eP e_235 L_235 A_235 mu_235 none) 2 g_235_s_16 := vOk_inI fun ρ η f0 f1 f2 f3 f4 f5 f6 f7 f8 f9 f10 f11 f12 f13 f14 f15 f16 f17 f18 f19 f20 f21 f22 f23 f24 f25 f26 f27 f28 f29 f30 f31 f32 f33 f34 f35 f36 f37 f38 f39 => q_235_14 (n0 := ρ 1) (n1 := ρ 0) (n2 := ρ 2) (n3 := ρ 3) (n4 := ρ 4) (n5 := ρ 5) (n6 := ρ 6) (n7 := ρ 7) (n8 := ρ 8) (n9 := ρ 9) (n10 := ρ 10) (n11 := ρ 11) (n12 := ρ 12) (n13 := ρ 13) (n14 := ρ 14) (n15 := ρ 15) (n16 := ρ 16) (n17 := ρ 17) (n18 := ρ 18) (n19 := ρ 19) (H0 := η 0) (H1 := η 1) f39 f38 f37 f36 f35 f34 f33 f32 f31 f30 f29 f28 f27 f26 f25 f24 f23 f22 f21 f20 f19 f18 f17 f16 f15 f14 f13 f12 f11 f10 f9 f8 f7 f6 f5 f4 f3 f2 f1 f0
theorem q_235_15 {n0 n1 n2 n3 n4 n5 n6 n7 n8 n9 n10 n11 n12 n13 n14 n15 n16 n17 n18 n19 : Int} {H0 H1 H2 : gH} (f0 : n0 ≤ 1) (f1 : 0 ≤ n0) (f2 : n1 = 285) (f3 : hWt T0 H0 ∧ preb_235 n1 n0 H0) (f4 : n2 ≤ 64) (f5 : 0 ≤ n2) (f6 : n2 = hV H0 (n1).toNat 55) (f7 : 0 < n2) (f8 : n3 = 322) (f9 : n3 = hV H0 (n1).toNat 54) (f10 : n4 ≤ 64) (f11 : 0 ≤ n4) (f12 : n4 = hV H0 (n1).toNat 55) (f13 : n5 = 1) (f14 : n6 = w32 (n4 - n5)) (f15 : n7 ≤ 53) (f16 : 0 ≤ n7) (f17 : n7 = hV H0 (n3).toNat (n6).toNat) (f18 : n8 = 6) (f19 : n7 ≠ n8) (f20 : n0 ≠ 0) (f21 : n9 = 8) (f22 : n7 ≠ n9) (f23 : n10 = 9) (f24 : n7 ≠ n10) (f25 : n11 ≤ 64) (f26 : 0 ≤ n11) (f27 : n11 = hV H0 (n1).toNat 55) (f28 : n12 = 1) (f29 : n13 = w32 (n11 - n12)) (f30 : n14 = 55) (f31 : hUpd H1 H0 n1 n14 n13) (f32 : n15 = 8) (f33 : n7 ≠ n15) (f34 : n16 = 9) (f35 : n7 ≠ n16) (f36 : n17 = 10) (f37 : n7 ≠ n17) (f38 : n18 = 5) (f39 : n19 = 0) (f40 : (hLe T0 H1 H2 ∧ hFr s_234.2.2.2.2 H1 H2 ∧ ((0 : Int) = 0 → H2.length = H1.length) ∧ hWt T0 H2) ∧ postb_234 n1 n18 n19 H1 H2) : Ab_235_0 n1 n0 n1 n0 n7 H0 H2 ∧ ∀ q, none = some q → mub_235_0 n1 n0 n1 n0 n7 H0 H2 < q := by
  unfold preb_235 at f3
  unfold postb_234 at f40
  unfold Ab_235_0
  have e0 : n2 = hV H0 285 55 := (by rw [f2] at f6; exact f6 : n2 = hV H0 285 55)
  have e1 : n4 = hV H0 285 55 := (by rw [f2] at f12; exact f12 : n4 = hV H0 285 55)
  have e2 : n7 = hV H0 322 (n6).toNat := (by rw [f8] at f17; exact f17 : n7 = hV H0 322 (n6).toNat)
  have e3 : n11 = hV H0 285 55 := (by rw [f2] at f27; exact f27 : n11 = hV H0 285 55)
  have e5 : hV H1 285 51 = hV H0 285 51 := (uSlot f31 285 51 (iS (show n14 = ((55 : Nat) : Int) from f30) rfl))
  have e6 : hV H1 320 = hV H0 320 := uRowNe f31 320 (iS (show n1 = ((285 : Nat) : Int) from f2) rfl)
  have e7 : hV H1 321 = hV H0 321 := uRowNe f31 321 (iS (show n1 = ((285 : Nat) : Int) from f2) rfl)
  have e10 : hV H2 285 34 = hV H0 285 34 := ((f40.1.2.1.1 285 34 kF_234_285_34)).trans (uSlot f31 285 34 (iS (show n14 = ((55 : Nat) : Int) from f30) rfl))
  have e13 : hV H2 285 35 = hV H0 285 35 := ((f40.1.2.1.1 285 35 kF_234_285_35)).trans (uSlot f31 285 35 (iS (show n14 = ((55 : Nat) : Int) from f30) rfl))
  have e16 : hV H2 285 44 = hV H0 285 44 := ((f40.1.2.1.1 285 44 kF_234_285_44)).trans (uSlot f31 285 44 (iS (show n14 = ((55 : Nat) : Int) from f30) rfl))
  have e19 : hV H2 285 55 = n13 := ((f40.1.2.1.1 285 55 kF_234_285_55)).trans (uSame f31 285 55 f2.symm f30.symm)
  have e22 : hV H2 306 = hV H0 306 := (fRow f40.1.2.1 306 kR_234_306).trans (uRowNe f31 306 (iS (show n1 = ((285 : Nat) : Int) from f2) rfl))
  have e25 : hV H2 307 = hV H0 307 := (fRow f40.1.2.1 307 kR_234_307).trans (uRowNe f31 307 (iS (show n1 = ((285 : Nat) : Int) from f2) rfl))
  have e28 : hV H2 308 = hV H0 308 := (fRow f40.1.2.1 308 kR_234_308).trans (uRowNe f31 308 (iS (show n1 = ((285 : Nat) : Int) from f2) rfl))
  have e31 : hV H2 309 = hV H0 309 := (fRow f40.1.2.1 309 kR_234_309).trans (uRowNe f31 309 (iS (show n1 = ((285 : Nat) : Int) from f2) rfl))
  have e34 : hV H2 310 = hV H0 310 := (fRow f40.1.2.1 310 kR_234_310).trans (uRowNe f31 310 (iS (show n1 = ((285 : Nat) : Int) from f2) rfl))
  have e37 : hV H2 311 = hV H0 311 := (fRow f40.1.2.1 311 kR_234_311).trans (uRowNe f31 311 (iS (show n1 = ((285 : Nat) : Int) from f2) rfl))
  have e40 : hV H2 317 = hV H0 317 := (fRow f40.1.2.1 317 kR_234_317).trans (uRowNe f31 317 (iS (show n1 = ((285 : Nat) : Int) from f2) rfl))
  have e43 : hV H2 318 = hV H0 318 := (fRow f40.1.2.1 318 kR_234_318).trans (uRowNe f31 318 (iS (show n1 = ((285 : Nat) : Int) from f2) rfl))
  have e46 : hV H2 319 = hV H0 319 := (fRow f40.1.2.1 319 kR_234_319).trans (uRowNe f31 319 (iS (show n1 = ((285 : Nat) : Int) from f2) rfl))
  have e49 : hV H2 322 = hV H0 322 := (fRow f40.1.2.1 322 kR_234_322).trans (uRowNe f31 322 (iS (show n1 = ((285 : Nat) : Int) from f2) rfl))
  have e50 : (0 : Int) ≤ hV H0 285 34 ∧ hV H0 285 34 ≤ 1 := f3.1 285 34 _ _ kW_285_34
  have e51 : (0 : Int) ≤ hV H0 285 35 ∧ hV H0 285 35 ≤ 1 := f3.1 285 35 _ _ kW_285_35
  have e52 : (0 : Int) ≤ hV H0 285 44 ∧ hV H0 285 44 ≤ 400 := f3.1 285 44 _ _ kW_285_44
  have e53 : (0 : Int) ≤ hV H0 285 51 ∧ hV H0 285 51 ≤ 1200 := f3.1 285 51 _ _ kW_285_51
  have e54 : (0 : Int) ≤ hV H0 285 55 ∧ hV H0 285 55 ≤ 64 := f3.1 285 55 _ _ kW_285_55
  have e58 : (0 : Int) ≤ hV H2 285 51 ∧ hV H2 285 51 ≤ 1200 := f40.1.2.2.2 285 51 _ _ kW_285_51
  have e59 : (0 : Int) ≤ hV H2 285 55 ∧ hV H2 285 55 ≤ 64 := f40.1.2.2.2 285 55 _ _ kW_285_55
  try simp only [RR]
  try simp only [e19] at e59
  try simp only [e10, e13, e16, e19, e22, e25, e28, e31, e34, e37, e40, e43, e46, e49]
  have p0 := f3.2.1
  have p1 := f3.2.2.1
  have p2 := f3.2.2.2.1
  have p3 := f3.2.2.2.2
  have r0_0 := f40.2.1
  have r0_1 := f40.2.2.1
  have r0_2 := f40.2.2.2
  try simp only [RR] at p0
  try simp only [e5] at r0_0
  try simp only [e5, e6] at r0_1
  try simp only [e5, e7] at r0_2
  clear f6 f9 f12 f17 f27 e5 e6 e7 e10 e13 e16 e22 e25 e28 e31 e34 e37 e40 e43 e46 e49
  clear f3 f40
  subst e0
  subst e1
  subst e2
  subst e3
  first
  | (have ix0 : n6 = hV H0 285 55 - 1 := Eq.trans f14 (w32_iv (Isu (Iat f5 f4) (IC 1)) (by decide)); subst ix0; clear f14)
  | (have ix0 : n6 = hV H0 285 55 - 1 := Eq.trans f14 (w32_id (by omega) (by omega)); subst ix0; clear f14)
  | (unfold w32 at f14; have ix0 : n6 = hV H0 285 55 - 1 := (by omega); subst ix0)
  | skip
  first
  | (have ix1 : n13 = hV H0 285 55 - 1 := Eq.trans f29 (w32_iv (Isu (Iat f5 f4) (IC 1)) (by decide)); subst ix1; clear f29)
  | (have ix1 : n13 = hV H0 285 55 - 1 := Eq.trans f29 (w32_id (by omega) (by omega)); subst ix1; clear f29)
  | (unfold w32 at f29; have ix1 : n13 = hV H0 285 55 - 1 := (by omega); subst ix1)
  | skip
  try unfold w32 at f14
  try unfold w32 at f29

  have y0 := p0
  have y1 : COp (hV H0 320) (hV H0 321) (hV H0 320) (hV H0 321) (hV H0 285 51) (hV H0 285 55 - wo (hV H0 322) (hV H0 285 55).toNat + 1) (hV H0 285 51) (hV H0 285 55 - wo (hV H0 322) (hV H0 285 55).toNat + 1) := CO_refl rfl rfl
  have wp := wo_pop (w := hV H0 322) (n := hV H0 285 55) (by omega)
  have wl := wo_le (w := hV H0 322) (hV H0 285 55 - 1).toNat
  refine ⟨⟨?_, ?_, ?_, ?_⟩, fun q hq => ?_⟩
  · first | trivial | omega
  · rw [r0_1, r0_2]
    exact RR_emit y0 (by omega) (by omega) (by omega) (by omega) (by omega) (by omega) (by omega) (by omega)
  · rw [r0_1, r0_2]
    exact CO_step y1 (by omega) (by omega) (by omega) (.inr ⟨by omega, by omega, by omega⟩)
  · first
    | omega
    | (refine ⟨?_, ?_, ?_⟩ <;> first | exact True.intro | omega)
  · exact nomatch hq
def g_235_s_17 : vG := ([(1234, [0, 18, 19], [1, 2], 0), (0, [19], [], 0), (0, [18], [], 5), (41, [7, 17], [], 0), (0, [17], [], 10), (41, [7, 16], [], 0), (0, [16], [], 9), (41, [7, 15], [], 0), (0, [15], [], 8), (80, [0, 14, 13], [1, 0], 0), (0, [14], [], 55), (2, [13, 11, 12], [], 0), (0, [12], [], 1), (20, [11, 0], [0], 55), (90, [11], [], 0), (91, [11], [], 64), (41, [7, 10], [], 0), (0, [10], [], 9), (41, [7, 9], [], 0), (0, [9], [], 8), (31, [1], [], 0), (41, [7, 8], [], 0), (0, [8], [], 6), (22, [7, 3, 6], [0], 0), (90, [7], [], 0), (91, [7], [], 53), (2, [6, 4, 5], [], 0), (0, [5], [], 1), (20, [4, 0], [0], 55), (90, [4], [], 0), (91, [4], [], 64), (20, [3, 0], [0], 54), (0, [3], [], 322), (34, [2], [], 0), (20, [2, 0], [0], 55), (90, [2], [], 0), (91, [2], [], 64), (6000, [0, 1], [0], 0), (0, [0], [], 285), (90, [1], [], 0), (91, [1], [], 1)], (4000, [0, 1, 7], [2], 0))
theorem c_235_s_17 : vOkm T0 (eP e_235 L_235 A_235 mu_235 none) 2 g_235_s_17 := vOk_inI fun ρ η f0 f1 f2 f3 f4 f5 f6 f7 f8 f9 f10 f11 f12 f13 f14 f15 f16 f17 f18 f19 f20 f21 f22 f23 f24 f25 f26 f27 f28 f29 f30 f31 f32 f33 f34 f35 f36 f37 f38 f39 f40 => q_235_15 (n0 := ρ 1) (n1 := ρ 0) (n2 := ρ 2) (n3 := ρ 3) (n4 := ρ 4) (n5 := ρ 5) (n6 := ρ 6) (n7 := ρ 7) (n8 := ρ 8) (n9 := ρ 9) (n10 := ρ 10) (n11 := ρ 11) (n12 := ρ 12) (n13 := ρ 13) (n14 := ρ 14) (n15 := ρ 15) (n16 := ρ 16) (n17 := ρ 17) (n18 := ρ 18) (n19 := ρ 19) (H0 := η 0) (H1 := η 1) (H2 := η 2) f40 f39 f38 f37 f36 f35 f34 f33 f32 f31 f30 f29 f28 f27 f26 f25 f24 f23 f22 f21 f20 f19 f18 f17 f16 f15 f14 f13 f12 f11 f10 f9 f8 f7 f6 f5 f4 f3 f2 f1 f0
theorem q_235_16 {n0 n1 n2 n3 n4 n5 n6 n7 n8 n9 n10 n11 n12 n13 n14 n15 n16 n17 n18 n19 : Int} {H0 H1 : gH} (f0 : n0 ≤ 1) (f1 : 0 ≤ n0) (f2 : n1 = 285) (f3 : hWt T0 H0 ∧ preb_235 n1 n0 H0) (f4 : n2 ≤ 64) (f5 : 0 ≤ n2) (f6 : n2 = hV H0 (n1).toNat 55) (f7 : 0 < n2) (f8 : n3 = 322) (f9 : n3 = hV H0 (n1).toNat 54) (f10 : n4 ≤ 64) (f11 : 0 ≤ n4) (f12 : n4 = hV H0 (n1).toNat 55) (f13 : n5 = 1) (f14 : n6 = w32 (n4 - n5)) (f15 : n7 ≤ 53) (f16 : 0 ≤ n7) (f17 : n7 = hV H0 (n3).toNat (n6).toNat) (f18 : n8 = 6) (f19 : n7 ≠ n8) (f20 : n0 ≠ 0) (f21 : n9 = 8) (f22 : n7 ≠ n9) (f23 : n10 = 9) (f24 : n7 ≠ n10) (f25 : n11 ≤ 64) (f26 : 0 ≤ n11) (f27 : n11 = hV H0 (n1).toNat 55) (f28 : n12 = 1) (f29 : n13 = w32 (n11 - n12)) (f30 : n14 = 55) (f31 : hUpd H1 H0 n1 n14 n13) (f32 : n15 = 8) (f33 : n7 ≠ n15) (f34 : n16 = 9) (f35 : n7 ≠ n16) (f36 : n17 = 10) (f37 : n7 = n17) (f38 : n18 = 4) (f39 : n19 = 0) : preb_234 n1 n18 n19 H1 := by
  unfold preb_235 at f3
  unfold preb_234
  have e0 : n2 = hV H0 285 55 := (by rw [f2] at f6; exact f6 : n2 = hV H0 285 55)
  have e1 : n4 = hV H0 285 55 := (by rw [f2] at f12; exact f12 : n4 = hV H0 285 55)
  have e2 : n7 = hV H0 322 (n6).toNat := (by rw [f8] at f17; exact f17 : n7 = hV H0 322 (n6).toNat)
  have e3 : n11 = hV H0 285 55 := (by rw [f2] at f27; exact f27 : n11 = hV H0 285 55)
  have e5 : hV H1 285 51 = hV H0 285 51 := (uSlot f31 285 51 (iS (show n14 = ((55 : Nat) : Int) from f30) rfl))
  have e6 : (0 : Int) ≤ hV H0 285 34 ∧ hV H0 285 34 ≤ 1 := f3.1 285 34 _ _ kW_285_34
  have e7 : (0 : Int) ≤ hV H0 285 35 ∧ hV H0 285 35 ≤ 1 := f3.1 285 35 _ _ kW_285_35
  have e8 : (0 : Int) ≤ hV H0 285 51 ∧ hV H0 285 51 ≤ 1200 := f3.1 285 51 _ _ kW_285_51
  have e9 : (0 : Int) ≤ hV H0 285 55 ∧ hV H0 285 55 ≤ 64 := f3.1 285 55 _ _ kW_285_55
  try simp only [e5]
  have p0 := f3.2.1
  have p1 := f3.2.2.1
  have p2 := f3.2.2.2.1
  have p3 := f3.2.2.2.2
  clear f6 f9 f12 f17 f27 e5
  clear f3
  subst e0
  subst e1
  subst e2
  subst e3
  first
  | (have ix0 : n6 = hV H0 285 55 - 1 := Eq.trans f14 (w32_iv (Isu (Iat f5 f4) (IC 1)) (by decide)); subst ix0; clear f14)
  | (have ix0 : n6 = hV H0 285 55 - 1 := Eq.trans f14 (w32_id (by omega) (by omega)); subst ix0; clear f14)
  | (unfold w32 at f14; have ix0 : n6 = hV H0 285 55 - 1 := (by omega); subst ix0)
  | skip
  first
  | (have ix1 : n13 = hV H0 285 55 - 1 := Eq.trans f29 (w32_iv (Isu (Iat f5 f4) (IC 1)) (by decide)); subst ix1; clear f29)
  | (have ix1 : n13 = hV H0 285 55 - 1 := Eq.trans f29 (w32_id (by omega) (by omega)); subst ix1; clear f29)
  | (unfold w32 at f29; have ix1 : n13 = hV H0 285 55 - 1 := (by omega); subst ix1)
  | skip
  try unfold w32 at f14
  try unfold w32 at f29

  have wp := wo_pop (w := hV H0 322) (n := hV H0 285 55) (by omega)
  have wl := wo_le (w := hV H0 322) (hV H0 285 55 - 1).toNat
  omega
def g_235_s_18 : vG := ([(0, [19], [], 0), (0, [18], [], 4), (40, [7, 17], [], 0), (0, [17], [], 10), (41, [7, 16], [], 0), (0, [16], [], 9), (41, [7, 15], [], 0), (0, [15], [], 8), (80, [0, 14, 13], [1, 0], 0), (0, [14], [], 55), (2, [13, 11, 12], [], 0), (0, [12], [], 1), (20, [11, 0], [0], 55), (90, [11], [], 0), (91, [11], [], 64), (41, [7, 10], [], 0), (0, [10], [], 9), (41, [7, 9], [], 0), (0, [9], [], 8), (31, [1], [], 0), (41, [7, 8], [], 0), (0, [8], [], 6), (22, [7, 3, 6], [0], 0), (90, [7], [], 0), (91, [7], [], 53), (2, [6, 4, 5], [], 0), (0, [5], [], 1), (20, [4, 0], [0], 55), (90, [4], [], 0), (91, [4], [], 64), (20, [3, 0], [0], 54), (0, [3], [], 322), (34, [2], [], 0), (20, [2, 0], [0], 55), (90, [2], [], 0), (91, [2], [], 64), (6000, [0, 1], [0], 0), (0, [0], [], 285), (90, [1], [], 0), (91, [1], [], 1)], (2234, [0, 18, 19], [1], 0))
theorem c_235_s_18 : vOkm T0 (eP e_235 L_235 A_235 mu_235 none) 2 g_235_s_18 := vOk_inI fun ρ η f0 f1 f2 f3 f4 f5 f6 f7 f8 f9 f10 f11 f12 f13 f14 f15 f16 f17 f18 f19 f20 f21 f22 f23 f24 f25 f26 f27 f28 f29 f30 f31 f32 f33 f34 f35 f36 f37 f38 f39 => q_235_16 (n0 := ρ 1) (n1 := ρ 0) (n2 := ρ 2) (n3 := ρ 3) (n4 := ρ 4) (n5 := ρ 5) (n6 := ρ 6) (n7 := ρ 7) (n8 := ρ 8) (n9 := ρ 9) (n10 := ρ 10) (n11 := ρ 11) (n12 := ρ 12) (n13 := ρ 13) (n14 := ρ 14) (n15 := ρ 15) (n16 := ρ 16) (n17 := ρ 17) (n18 := ρ 18) (n19 := ρ 19) (H0 := η 0) (H1 := η 1) f39 f38 f37 f36 f35 f34 f33 f32 f31 f30 f29 f28 f27 f26 f25 f24 f23 f22 f21 f20 f19 f18 f17 f16 f15 f14 f13 f12 f11 f10 f9 f8 f7 f6 f5 f4 f3 f2 f1 f0
theorem q_235_17 {n0 n1 n2 n3 n4 n5 n6 n7 n8 n9 n10 n11 n12 n13 n14 n15 n16 n17 n18 n19 : Int} {H0 H1 H2 : gH} (f0 : n0 ≤ 1) (f1 : 0 ≤ n0) (f2 : n1 = 285) (f3 : hWt T0 H0 ∧ preb_235 n1 n0 H0) (f4 : n2 ≤ 64) (f5 : 0 ≤ n2) (f6 : n2 = hV H0 (n1).toNat 55) (f7 : 0 < n2) (f8 : n3 = 322) (f9 : n3 = hV H0 (n1).toNat 54) (f10 : n4 ≤ 64) (f11 : 0 ≤ n4) (f12 : n4 = hV H0 (n1).toNat 55) (f13 : n5 = 1) (f14 : n6 = w32 (n4 - n5)) (f15 : n7 ≤ 53) (f16 : 0 ≤ n7) (f17 : n7 = hV H0 (n3).toNat (n6).toNat) (f18 : n8 = 6) (f19 : n7 ≠ n8) (f20 : n0 ≠ 0) (f21 : n9 = 8) (f22 : n7 ≠ n9) (f23 : n10 = 9) (f24 : n7 ≠ n10) (f25 : n11 ≤ 64) (f26 : 0 ≤ n11) (f27 : n11 = hV H0 (n1).toNat 55) (f28 : n12 = 1) (f29 : n13 = w32 (n11 - n12)) (f30 : n14 = 55) (f31 : hUpd H1 H0 n1 n14 n13) (f32 : n15 = 8) (f33 : n7 ≠ n15) (f34 : n16 = 9) (f35 : n7 ≠ n16) (f36 : n17 = 10) (f37 : n7 = n17) (f38 : n18 = 4) (f39 : n19 = 0) (f40 : (hLe T0 H1 H2 ∧ hFr s_234.2.2.2.2 H1 H2 ∧ ((0 : Int) = 0 → H2.length = H1.length) ∧ hWt T0 H2) ∧ postb_234 n1 n18 n19 H1 H2) : Ab_235_0 n1 n0 n1 n0 n7 H0 H2 ∧ ∀ q, none = some q → mub_235_0 n1 n0 n1 n0 n7 H0 H2 < q := by
  unfold preb_235 at f3
  unfold postb_234 at f40
  unfold Ab_235_0
  have e0 : n2 = hV H0 285 55 := (by rw [f2] at f6; exact f6 : n2 = hV H0 285 55)
  have e1 : n4 = hV H0 285 55 := (by rw [f2] at f12; exact f12 : n4 = hV H0 285 55)
  have e2 : n7 = hV H0 322 (n6).toNat := (by rw [f8] at f17; exact f17 : n7 = hV H0 322 (n6).toNat)
  have e3 : n11 = hV H0 285 55 := (by rw [f2] at f27; exact f27 : n11 = hV H0 285 55)
  have e5 : hV H1 285 51 = hV H0 285 51 := (uSlot f31 285 51 (iS (show n14 = ((55 : Nat) : Int) from f30) rfl))
  have e6 : hV H1 320 = hV H0 320 := uRowNe f31 320 (iS (show n1 = ((285 : Nat) : Int) from f2) rfl)
  have e7 : hV H1 321 = hV H0 321 := uRowNe f31 321 (iS (show n1 = ((285 : Nat) : Int) from f2) rfl)
  have e10 : hV H2 285 34 = hV H0 285 34 := ((f40.1.2.1.1 285 34 kF_234_285_34)).trans (uSlot f31 285 34 (iS (show n14 = ((55 : Nat) : Int) from f30) rfl))
  have e13 : hV H2 285 35 = hV H0 285 35 := ((f40.1.2.1.1 285 35 kF_234_285_35)).trans (uSlot f31 285 35 (iS (show n14 = ((55 : Nat) : Int) from f30) rfl))
  have e16 : hV H2 285 44 = hV H0 285 44 := ((f40.1.2.1.1 285 44 kF_234_285_44)).trans (uSlot f31 285 44 (iS (show n14 = ((55 : Nat) : Int) from f30) rfl))
  have e19 : hV H2 285 55 = n13 := ((f40.1.2.1.1 285 55 kF_234_285_55)).trans (uSame f31 285 55 f2.symm f30.symm)
  have e22 : hV H2 306 = hV H0 306 := (fRow f40.1.2.1 306 kR_234_306).trans (uRowNe f31 306 (iS (show n1 = ((285 : Nat) : Int) from f2) rfl))
  have e25 : hV H2 307 = hV H0 307 := (fRow f40.1.2.1 307 kR_234_307).trans (uRowNe f31 307 (iS (show n1 = ((285 : Nat) : Int) from f2) rfl))
  have e28 : hV H2 308 = hV H0 308 := (fRow f40.1.2.1 308 kR_234_308).trans (uRowNe f31 308 (iS (show n1 = ((285 : Nat) : Int) from f2) rfl))
  have e31 : hV H2 309 = hV H0 309 := (fRow f40.1.2.1 309 kR_234_309).trans (uRowNe f31 309 (iS (show n1 = ((285 : Nat) : Int) from f2) rfl))
  have e34 : hV H2 310 = hV H0 310 := (fRow f40.1.2.1 310 kR_234_310).trans (uRowNe f31 310 (iS (show n1 = ((285 : Nat) : Int) from f2) rfl))
  have e37 : hV H2 311 = hV H0 311 := (fRow f40.1.2.1 311 kR_234_311).trans (uRowNe f31 311 (iS (show n1 = ((285 : Nat) : Int) from f2) rfl))
  have e40 : hV H2 317 = hV H0 317 := (fRow f40.1.2.1 317 kR_234_317).trans (uRowNe f31 317 (iS (show n1 = ((285 : Nat) : Int) from f2) rfl))
  have e43 : hV H2 318 = hV H0 318 := (fRow f40.1.2.1 318 kR_234_318).trans (uRowNe f31 318 (iS (show n1 = ((285 : Nat) : Int) from f2) rfl))
  have e46 : hV H2 319 = hV H0 319 := (fRow f40.1.2.1 319 kR_234_319).trans (uRowNe f31 319 (iS (show n1 = ((285 : Nat) : Int) from f2) rfl))
  have e49 : hV H2 322 = hV H0 322 := (fRow f40.1.2.1 322 kR_234_322).trans (uRowNe f31 322 (iS (show n1 = ((285 : Nat) : Int) from f2) rfl))
  have e50 : (0 : Int) ≤ hV H0 285 34 ∧ hV H0 285 34 ≤ 1 := f3.1 285 34 _ _ kW_285_34
  have e51 : (0 : Int) ≤ hV H0 285 35 ∧ hV H0 285 35 ≤ 1 := f3.1 285 35 _ _ kW_285_35
  have e52 : (0 : Int) ≤ hV H0 285 44 ∧ hV H0 285 44 ≤ 400 := f3.1 285 44 _ _ kW_285_44
  have e53 : (0 : Int) ≤ hV H0 285 51 ∧ hV H0 285 51 ≤ 1200 := f3.1 285 51 _ _ kW_285_51
  have e54 : (0 : Int) ≤ hV H0 285 55 ∧ hV H0 285 55 ≤ 64 := f3.1 285 55 _ _ kW_285_55
  have e58 : (0 : Int) ≤ hV H2 285 51 ∧ hV H2 285 51 ≤ 1200 := f40.1.2.2.2 285 51 _ _ kW_285_51
  have e59 : (0 : Int) ≤ hV H2 285 55 ∧ hV H2 285 55 ≤ 64 := f40.1.2.2.2 285 55 _ _ kW_285_55
  try simp only [RR]
  try simp only [e19] at e59
  try simp only [e10, e13, e16, e19, e22, e25, e28, e31, e34, e37, e40, e43, e46, e49]
  have p0 := f3.2.1
  have p1 := f3.2.2.1
  have p2 := f3.2.2.2.1
  have p3 := f3.2.2.2.2
  have r0_0 := f40.2.1
  have r0_1 := f40.2.2.1
  have r0_2 := f40.2.2.2
  try simp only [RR] at p0
  try simp only [e5] at r0_0
  try simp only [e5, e6] at r0_1
  try simp only [e5, e7] at r0_2
  clear f6 f9 f12 f17 f27 e5 e6 e7 e10 e13 e16 e22 e25 e28 e31 e34 e37 e40 e43 e46 e49
  clear f3 f40
  subst e0
  subst e1
  subst e2
  subst e3
  first
  | (have ix0 : n6 = hV H0 285 55 - 1 := Eq.trans f14 (w32_iv (Isu (Iat f5 f4) (IC 1)) (by decide)); subst ix0; clear f14)
  | (have ix0 : n6 = hV H0 285 55 - 1 := Eq.trans f14 (w32_id (by omega) (by omega)); subst ix0; clear f14)
  | (unfold w32 at f14; have ix0 : n6 = hV H0 285 55 - 1 := (by omega); subst ix0)
  | skip
  first
  | (have ix1 : n13 = hV H0 285 55 - 1 := Eq.trans f29 (w32_iv (Isu (Iat f5 f4) (IC 1)) (by decide)); subst ix1; clear f29)
  | (have ix1 : n13 = hV H0 285 55 - 1 := Eq.trans f29 (w32_id (by omega) (by omega)); subst ix1; clear f29)
  | (unfold w32 at f29; have ix1 : n13 = hV H0 285 55 - 1 := (by omega); subst ix1)
  | skip
  try unfold w32 at f14
  try unfold w32 at f29

  have y0 := p0
  have y1 : COp (hV H0 320) (hV H0 321) (hV H0 320) (hV H0 321) (hV H0 285 51) (hV H0 285 55 - wo (hV H0 322) (hV H0 285 55).toNat + 1) (hV H0 285 51) (hV H0 285 55 - wo (hV H0 322) (hV H0 285 55).toNat + 1) := CO_refl rfl rfl
  have wp := wo_pop (w := hV H0 322) (n := hV H0 285 55) (by omega)
  have wl := wo_le (w := hV H0 322) (hV H0 285 55 - 1).toNat
  refine ⟨⟨?_, ?_, ?_, ?_⟩, fun q hq => ?_⟩
  · first | trivial | omega
  · rw [r0_1, r0_2]
    exact RR_emit y0 (by omega) (by omega) (by omega) (by omega) (by omega) (by omega) (by omega) (by omega)
  · rw [r0_1, r0_2]
    exact CO_step y1 (by omega) (by omega) (by omega) (.inr ⟨by omega, by omega, by omega⟩)
  · first
    | omega
    | (refine ⟨?_, ?_, ?_⟩ <;> first | exact True.intro | omega)
  · exact nomatch hq
def g_235_s_19 : vG := ([(1234, [0, 18, 19], [1, 2], 0), (0, [19], [], 0), (0, [18], [], 4), (40, [7, 17], [], 0), (0, [17], [], 10), (41, [7, 16], [], 0), (0, [16], [], 9), (41, [7, 15], [], 0), (0, [15], [], 8), (80, [0, 14, 13], [1, 0], 0), (0, [14], [], 55), (2, [13, 11, 12], [], 0), (0, [12], [], 1), (20, [11, 0], [0], 55), (90, [11], [], 0), (91, [11], [], 64), (41, [7, 10], [], 0), (0, [10], [], 9), (41, [7, 9], [], 0), (0, [9], [], 8), (31, [1], [], 0), (41, [7, 8], [], 0), (0, [8], [], 6), (22, [7, 3, 6], [0], 0), (90, [7], [], 0), (91, [7], [], 53), (2, [6, 4, 5], [], 0), (0, [5], [], 1), (20, [4, 0], [0], 55), (90, [4], [], 0), (91, [4], [], 64), (20, [3, 0], [0], 54), (0, [3], [], 322), (34, [2], [], 0), (20, [2, 0], [0], 55), (90, [2], [], 0), (91, [2], [], 64), (6000, [0, 1], [0], 0), (0, [0], [], 285), (90, [1], [], 0), (91, [1], [], 1)], (4000, [0, 1, 7], [2], 0))
theorem c_235_s_19 : vOkm T0 (eP e_235 L_235 A_235 mu_235 none) 2 g_235_s_19 := vOk_inI fun ρ η f0 f1 f2 f3 f4 f5 f6 f7 f8 f9 f10 f11 f12 f13 f14 f15 f16 f17 f18 f19 f20 f21 f22 f23 f24 f25 f26 f27 f28 f29 f30 f31 f32 f33 f34 f35 f36 f37 f38 f39 f40 => q_235_17 (n0 := ρ 1) (n1 := ρ 0) (n2 := ρ 2) (n3 := ρ 3) (n4 := ρ 4) (n5 := ρ 5) (n6 := ρ 6) (n7 := ρ 7) (n8 := ρ 8) (n9 := ρ 9) (n10 := ρ 10) (n11 := ρ 11) (n12 := ρ 12) (n13 := ρ 13) (n14 := ρ 14) (n15 := ρ 15) (n16 := ρ 16) (n17 := ρ 17) (n18 := ρ 18) (n19 := ρ 19) (H0 := η 0) (H1 := η 1) (H2 := η 2) f40 f39 f38 f37 f36 f35 f34 f33 f32 f31 f30 f29 f28 f27 f26 f25 f24 f23 f22 f21 f20 f19 f18 f17 f16 f15 f14 f13 f12 f11 f10 f9 f8 f7 f6 f5 f4 f3 f2 f1 f0
theorem q_235_18 {n0 n1 n2 n3 n4 n5 n6 n7 n8 n9 n10 n11 n12 n13 n14 n15 n16 n17 n18 : Int} {H0 H1 : gH} (f0 : n0 ≤ 1) (f1 : 0 ≤ n0) (f2 : n1 = 285) (f3 : hWt T0 H0 ∧ preb_235 n1 n0 H0) (f4 : n2 ≤ 64) (f5 : 0 ≤ n2) (f6 : n2 = hV H0 (n1).toNat 55) (f7 : 0 < n2) (f8 : n3 = 322) (f9 : n3 = hV H0 (n1).toNat 54) (f10 : n4 ≤ 64) (f11 : 0 ≤ n4) (f12 : n4 = hV H0 (n1).toNat 55) (f13 : n5 = 1) (f14 : n6 = w32 (n4 - n5)) (f15 : n7 ≤ 53) (f16 : 0 ≤ n7) (f17 : n7 = hV H0 (n3).toNat (n6).toNat) (f18 : n8 = 6) (f19 : n7 ≠ n8) (f20 : n0 ≠ 0) (f21 : n9 = 8) (f22 : n7 ≠ n9) (f23 : n10 = 9) (f24 : n7 ≠ n10) (f25 : n11 ≤ 64) (f26 : 0 ≤ n11) (f27 : n11 = hV H0 (n1).toNat 55) (f28 : n12 = 1) (f29 : n13 = w32 (n11 - n12)) (f30 : n14 = 55) (f31 : hUpd H1 H0 n1 n14 n13) (f32 : n15 = 8) (f33 : n7 ≠ n15) (f34 : n16 = 9) (f35 : n7 = n16) (f36 : n17 = 3) (f37 : n18 = 0) : preb_234 n1 n17 n18 H1 := by
  unfold preb_235 at f3
  unfold preb_234
  have e0 : n2 = hV H0 285 55 := (by rw [f2] at f6; exact f6 : n2 = hV H0 285 55)
  have e1 : n4 = hV H0 285 55 := (by rw [f2] at f12; exact f12 : n4 = hV H0 285 55)
  have e2 : n7 = hV H0 322 (n6).toNat := (by rw [f8] at f17; exact f17 : n7 = hV H0 322 (n6).toNat)
  have e3 : n11 = hV H0 285 55 := (by rw [f2] at f27; exact f27 : n11 = hV H0 285 55)
  have e5 : hV H1 285 51 = hV H0 285 51 := (uSlot f31 285 51 (iS (show n14 = ((55 : Nat) : Int) from f30) rfl))
  have e6 : (0 : Int) ≤ hV H0 285 34 ∧ hV H0 285 34 ≤ 1 := f3.1 285 34 _ _ kW_285_34
  have e7 : (0 : Int) ≤ hV H0 285 35 ∧ hV H0 285 35 ≤ 1 := f3.1 285 35 _ _ kW_285_35
  have e8 : (0 : Int) ≤ hV H0 285 51 ∧ hV H0 285 51 ≤ 1200 := f3.1 285 51 _ _ kW_285_51
  have e9 : (0 : Int) ≤ hV H0 285 55 ∧ hV H0 285 55 ≤ 64 := f3.1 285 55 _ _ kW_285_55
  try simp only [e5]
  have p0 := f3.2.1
  have p1 := f3.2.2.1
  have p2 := f3.2.2.2.1
  have p3 := f3.2.2.2.2
  clear f6 f9 f12 f17 f27 e5
  clear f3
  subst e0
  subst e1
  subst e2
  subst e3
  first
  | (have ix0 : n6 = hV H0 285 55 - 1 := Eq.trans f14 (w32_iv (Isu (Iat f5 f4) (IC 1)) (by decide)); subst ix0; clear f14)
  | (have ix0 : n6 = hV H0 285 55 - 1 := Eq.trans f14 (w32_id (by omega) (by omega)); subst ix0; clear f14)
  | (unfold w32 at f14; have ix0 : n6 = hV H0 285 55 - 1 := (by omega); subst ix0)
  | skip
  first
  | (have ix1 : n13 = hV H0 285 55 - 1 := Eq.trans f29 (w32_iv (Isu (Iat f5 f4) (IC 1)) (by decide)); subst ix1; clear f29)
  | (have ix1 : n13 = hV H0 285 55 - 1 := Eq.trans f29 (w32_id (by omega) (by omega)); subst ix1; clear f29)
  | (unfold w32 at f29; have ix1 : n13 = hV H0 285 55 - 1 := (by omega); subst ix1)
  | skip
  try unfold w32 at f14
  try unfold w32 at f29

  have wp := wo_pop (w := hV H0 322) (n := hV H0 285 55) (by omega)
  have wl := wo_le (w := hV H0 322) (hV H0 285 55 - 1).toNat
  omega
def g_235_s_20 : vG := ([(0, [18], [], 0), (0, [17], [], 3), (40, [7, 16], [], 0), (0, [16], [], 9), (41, [7, 15], [], 0), (0, [15], [], 8), (80, [0, 14, 13], [1, 0], 0), (0, [14], [], 55), (2, [13, 11, 12], [], 0), (0, [12], [], 1), (20, [11, 0], [0], 55), (90, [11], [], 0), (91, [11], [], 64), (41, [7, 10], [], 0), (0, [10], [], 9), (41, [7, 9], [], 0), (0, [9], [], 8), (31, [1], [], 0), (41, [7, 8], [], 0), (0, [8], [], 6), (22, [7, 3, 6], [0], 0), (90, [7], [], 0), (91, [7], [], 53), (2, [6, 4, 5], [], 0), (0, [5], [], 1), (20, [4, 0], [0], 55), (90, [4], [], 0), (91, [4], [], 64), (20, [3, 0], [0], 54), (0, [3], [], 322), (34, [2], [], 0), (20, [2, 0], [0], 55), (90, [2], [], 0), (91, [2], [], 64), (6000, [0, 1], [0], 0), (0, [0], [], 285), (90, [1], [], 0), (91, [1], [], 1)], (2234, [0, 17, 18], [1], 0))
theorem c_235_s_20 : vOkm T0 (eP e_235 L_235 A_235 mu_235 none) 2 g_235_s_20 := vOk_inI fun ρ η f0 f1 f2 f3 f4 f5 f6 f7 f8 f9 f10 f11 f12 f13 f14 f15 f16 f17 f18 f19 f20 f21 f22 f23 f24 f25 f26 f27 f28 f29 f30 f31 f32 f33 f34 f35 f36 f37 => q_235_18 (n0 := ρ 1) (n1 := ρ 0) (n2 := ρ 2) (n3 := ρ 3) (n4 := ρ 4) (n5 := ρ 5) (n6 := ρ 6) (n7 := ρ 7) (n8 := ρ 8) (n9 := ρ 9) (n10 := ρ 10) (n11 := ρ 11) (n12 := ρ 12) (n13 := ρ 13) (n14 := ρ 14) (n15 := ρ 15) (n16 := ρ 16) (n17 := ρ 17) (n18 := ρ 18) (H0 := η 0) (H1 := η 1) f37 f36 f35 f34 f33 f32 f31 f30 f29 f28 f27 f26 f25 f24 f23 f22 f21 f20 f19 f18 f17 f16 f15 f14 f13 f12 f11 f10 f9 f8 f7 f6 f5 f4 f3 f2 f1 f0
theorem q_235_19 {n0 n1 n2 n3 n4 n5 n6 n7 n8 n9 n10 n11 n12 n13 n14 n15 n16 n17 n18 : Int} {H0 H1 H2 : gH} (f0 : n0 ≤ 1) (f1 : 0 ≤ n0) (f2 : n1 = 285) (f3 : hWt T0 H0 ∧ preb_235 n1 n0 H0) (f4 : n2 ≤ 64) (f5 : 0 ≤ n2) (f6 : n2 = hV H0 (n1).toNat 55) (f7 : 0 < n2) (f8 : n3 = 322) (f9 : n3 = hV H0 (n1).toNat 54) (f10 : n4 ≤ 64) (f11 : 0 ≤ n4) (f12 : n4 = hV H0 (n1).toNat 55) (f13 : n5 = 1) (f14 : n6 = w32 (n4 - n5)) (f15 : n7 ≤ 53) (f16 : 0 ≤ n7) (f17 : n7 = hV H0 (n3).toNat (n6).toNat) (f18 : n8 = 6) (f19 : n7 ≠ n8) (f20 : n0 ≠ 0) (f21 : n9 = 8) (f22 : n7 ≠ n9) (f23 : n10 = 9) (f24 : n7 ≠ n10) (f25 : n11 ≤ 64) (f26 : 0 ≤ n11) (f27 : n11 = hV H0 (n1).toNat 55) (f28 : n12 = 1) (f29 : n13 = w32 (n11 - n12)) (f30 : n14 = 55) (f31 : hUpd H1 H0 n1 n14 n13) (f32 : n15 = 8) (f33 : n7 ≠ n15) (f34 : n16 = 9) (f35 : n7 = n16) (f36 : n17 = 3) (f37 : n18 = 0) (f38 : (hLe T0 H1 H2 ∧ hFr s_234.2.2.2.2 H1 H2 ∧ ((0 : Int) = 0 → H2.length = H1.length) ∧ hWt T0 H2) ∧ postb_234 n1 n17 n18 H1 H2) : Ab_235_0 n1 n0 n1 n0 n7 H0 H2 ∧ ∀ q, none = some q → mub_235_0 n1 n0 n1 n0 n7 H0 H2 < q := by
  unfold preb_235 at f3
  unfold postb_234 at f38
  unfold Ab_235_0
  have e0 : n2 = hV H0 285 55 := (by rw [f2] at f6; exact f6 : n2 = hV H0 285 55)
  have e1 : n4 = hV H0 285 55 := (by rw [f2] at f12; exact f12 : n4 = hV H0 285 55)
  have e2 : n7 = hV H0 322 (n6).toNat := (by rw [f8] at f17; exact f17 : n7 = hV H0 322 (n6).toNat)
  have e3 : n11 = hV H0 285 55 := (by rw [f2] at f27; exact f27 : n11 = hV H0 285 55)
  have e5 : hV H1 285 51 = hV H0 285 51 := (uSlot f31 285 51 (iS (show n14 = ((55 : Nat) : Int) from f30) rfl))
  have e6 : hV H1 320 = hV H0 320 := uRowNe f31 320 (iS (show n1 = ((285 : Nat) : Int) from f2) rfl)
  have e7 : hV H1 321 = hV H0 321 := uRowNe f31 321 (iS (show n1 = ((285 : Nat) : Int) from f2) rfl)
  have e10 : hV H2 285 34 = hV H0 285 34 := ((f38.1.2.1.1 285 34 kF_234_285_34)).trans (uSlot f31 285 34 (iS (show n14 = ((55 : Nat) : Int) from f30) rfl))
  have e13 : hV H2 285 35 = hV H0 285 35 := ((f38.1.2.1.1 285 35 kF_234_285_35)).trans (uSlot f31 285 35 (iS (show n14 = ((55 : Nat) : Int) from f30) rfl))
  have e16 : hV H2 285 44 = hV H0 285 44 := ((f38.1.2.1.1 285 44 kF_234_285_44)).trans (uSlot f31 285 44 (iS (show n14 = ((55 : Nat) : Int) from f30) rfl))
  have e19 : hV H2 285 55 = n13 := ((f38.1.2.1.1 285 55 kF_234_285_55)).trans (uSame f31 285 55 f2.symm f30.symm)
  have e22 : hV H2 306 = hV H0 306 := (fRow f38.1.2.1 306 kR_234_306).trans (uRowNe f31 306 (iS (show n1 = ((285 : Nat) : Int) from f2) rfl))
  have e25 : hV H2 307 = hV H0 307 := (fRow f38.1.2.1 307 kR_234_307).trans (uRowNe f31 307 (iS (show n1 = ((285 : Nat) : Int) from f2) rfl))
  have e28 : hV H2 308 = hV H0 308 := (fRow f38.1.2.1 308 kR_234_308).trans (uRowNe f31 308 (iS (show n1 = ((285 : Nat) : Int) from f2) rfl))
  have e31 : hV H2 309 = hV H0 309 := (fRow f38.1.2.1 309 kR_234_309).trans (uRowNe f31 309 (iS (show n1 = ((285 : Nat) : Int) from f2) rfl))
  have e34 : hV H2 310 = hV H0 310 := (fRow f38.1.2.1 310 kR_234_310).trans (uRowNe f31 310 (iS (show n1 = ((285 : Nat) : Int) from f2) rfl))
  have e37 : hV H2 311 = hV H0 311 := (fRow f38.1.2.1 311 kR_234_311).trans (uRowNe f31 311 (iS (show n1 = ((285 : Nat) : Int) from f2) rfl))
  have e40 : hV H2 317 = hV H0 317 := (fRow f38.1.2.1 317 kR_234_317).trans (uRowNe f31 317 (iS (show n1 = ((285 : Nat) : Int) from f2) rfl))
  have e43 : hV H2 318 = hV H0 318 := (fRow f38.1.2.1 318 kR_234_318).trans (uRowNe f31 318 (iS (show n1 = ((285 : Nat) : Int) from f2) rfl))
  have e46 : hV H2 319 = hV H0 319 := (fRow f38.1.2.1 319 kR_234_319).trans (uRowNe f31 319 (iS (show n1 = ((285 : Nat) : Int) from f2) rfl))
  have e49 : hV H2 322 = hV H0 322 := (fRow f38.1.2.1 322 kR_234_322).trans (uRowNe f31 322 (iS (show n1 = ((285 : Nat) : Int) from f2) rfl))
  have e50 : (0 : Int) ≤ hV H0 285 34 ∧ hV H0 285 34 ≤ 1 := f3.1 285 34 _ _ kW_285_34
  have e51 : (0 : Int) ≤ hV H0 285 35 ∧ hV H0 285 35 ≤ 1 := f3.1 285 35 _ _ kW_285_35
  have e52 : (0 : Int) ≤ hV H0 285 44 ∧ hV H0 285 44 ≤ 400 := f3.1 285 44 _ _ kW_285_44
  have e53 : (0 : Int) ≤ hV H0 285 51 ∧ hV H0 285 51 ≤ 1200 := f3.1 285 51 _ _ kW_285_51
  have e54 : (0 : Int) ≤ hV H0 285 55 ∧ hV H0 285 55 ≤ 64 := f3.1 285 55 _ _ kW_285_55
  have e58 : (0 : Int) ≤ hV H2 285 51 ∧ hV H2 285 51 ≤ 1200 := f38.1.2.2.2 285 51 _ _ kW_285_51
  have e59 : (0 : Int) ≤ hV H2 285 55 ∧ hV H2 285 55 ≤ 64 := f38.1.2.2.2 285 55 _ _ kW_285_55
  try simp only [RR]
  try simp only [e19] at e59
  try simp only [e10, e13, e16, e19, e22, e25, e28, e31, e34, e37, e40, e43, e46, e49]
  have p0 := f3.2.1
  have p1 := f3.2.2.1
  have p2 := f3.2.2.2.1
  have p3 := f3.2.2.2.2
  have r0_0 := f38.2.1
  have r0_1 := f38.2.2.1
  have r0_2 := f38.2.2.2
  try simp only [RR] at p0
  try simp only [e5] at r0_0
  try simp only [e5, e6] at r0_1
  try simp only [e5, e7] at r0_2
  clear f6 f9 f12 f17 f27 e5 e6 e7 e10 e13 e16 e22 e25 e28 e31 e34 e37 e40 e43 e46 e49
  clear f3 f38
  subst e0
  subst e1
  subst e2
  subst e3
  first
  | (have ix0 : n6 = hV H0 285 55 - 1 := Eq.trans f14 (w32_iv (Isu (Iat f5 f4) (IC 1)) (by decide)); subst ix0; clear f14)
  | (have ix0 : n6 = hV H0 285 55 - 1 := Eq.trans f14 (w32_id (by omega) (by omega)); subst ix0; clear f14)
  | (unfold w32 at f14; have ix0 : n6 = hV H0 285 55 - 1 := (by omega); subst ix0)
  | skip
  first
  | (have ix1 : n13 = hV H0 285 55 - 1 := Eq.trans f29 (w32_iv (Isu (Iat f5 f4) (IC 1)) (by decide)); subst ix1; clear f29)
  | (have ix1 : n13 = hV H0 285 55 - 1 := Eq.trans f29 (w32_id (by omega) (by omega)); subst ix1; clear f29)
  | (unfold w32 at f29; have ix1 : n13 = hV H0 285 55 - 1 := (by omega); subst ix1)
  | skip
  try unfold w32 at f14
  try unfold w32 at f29

  have y0 := p0
  have y1 : COp (hV H0 320) (hV H0 321) (hV H0 320) (hV H0 321) (hV H0 285 51) (hV H0 285 55 - wo (hV H0 322) (hV H0 285 55).toNat + 1) (hV H0 285 51) (hV H0 285 55 - wo (hV H0 322) (hV H0 285 55).toNat + 1) := CO_refl rfl rfl
  have wp := wo_pop (w := hV H0 322) (n := hV H0 285 55) (by omega)
  have wl := wo_le (w := hV H0 322) (hV H0 285 55 - 1).toNat
  refine ⟨⟨?_, ?_, ?_, ?_⟩, fun q hq => ?_⟩
  · first | trivial | omega
  · rw [r0_1, r0_2]
    exact RR_emit y0 (by omega) (by omega) (by omega) (by omega) (by omega) (by omega) (by omega) (by omega)
  · rw [r0_1, r0_2]
    exact CO_step y1 (by omega) (by omega) (by omega) (.inr ⟨by omega, by omega, by omega⟩)
  · first
    | omega
    | (refine ⟨?_, ?_, ?_⟩ <;> first | exact True.intro | omega)
  · exact nomatch hq
def g_235_s_21 : vG := ([(1234, [0, 17, 18], [1, 2], 0), (0, [18], [], 0), (0, [17], [], 3), (40, [7, 16], [], 0), (0, [16], [], 9), (41, [7, 15], [], 0), (0, [15], [], 8), (80, [0, 14, 13], [1, 0], 0), (0, [14], [], 55), (2, [13, 11, 12], [], 0), (0, [12], [], 1), (20, [11, 0], [0], 55), (90, [11], [], 0), (91, [11], [], 64), (41, [7, 10], [], 0), (0, [10], [], 9), (41, [7, 9], [], 0), (0, [9], [], 8), (31, [1], [], 0), (41, [7, 8], [], 0), (0, [8], [], 6), (22, [7, 3, 6], [0], 0), (90, [7], [], 0), (91, [7], [], 53), (2, [6, 4, 5], [], 0), (0, [5], [], 1), (20, [4, 0], [0], 55), (90, [4], [], 0), (91, [4], [], 64), (20, [3, 0], [0], 54), (0, [3], [], 322), (34, [2], [], 0), (20, [2, 0], [0], 55), (90, [2], [], 0), (91, [2], [], 64), (6000, [0, 1], [0], 0), (0, [0], [], 285), (90, [1], [], 0), (91, [1], [], 1)], (4000, [0, 1, 7], [2], 0))
theorem c_235_s_21 : vOkm T0 (eP e_235 L_235 A_235 mu_235 none) 2 g_235_s_21 := vOk_inI fun ρ η f0 f1 f2 f3 f4 f5 f6 f7 f8 f9 f10 f11 f12 f13 f14 f15 f16 f17 f18 f19 f20 f21 f22 f23 f24 f25 f26 f27 f28 f29 f30 f31 f32 f33 f34 f35 f36 f37 f38 => q_235_19 (n0 := ρ 1) (n1 := ρ 0) (n2 := ρ 2) (n3 := ρ 3) (n4 := ρ 4) (n5 := ρ 5) (n6 := ρ 6) (n7 := ρ 7) (n8 := ρ 8) (n9 := ρ 9) (n10 := ρ 10) (n11 := ρ 11) (n12 := ρ 12) (n13 := ρ 13) (n14 := ρ 14) (n15 := ρ 15) (n16 := ρ 16) (n17 := ρ 17) (n18 := ρ 18) (H0 := η 0) (H1 := η 1) (H2 := η 2) f38 f37 f36 f35 f34 f33 f32 f31 f30 f29 f28 f27 f26 f25 f24 f23 f22 f21 f20 f19 f18 f17 f16 f15 f14 f13 f12 f11 f10 f9 f8 f7 f6 f5 f4 f3 f2 f1 f0
theorem q_235_20 {n0 n1 n2 n3 n4 n5 n6 n7 n8 n9 n10 n11 n12 n13 n14 n15 n16 n17 : Int} {H0 H1 : gH} (f0 : n0 ≤ 1) (f1 : 0 ≤ n0) (f2 : n1 = 285) (f3 : hWt T0 H0 ∧ preb_235 n1 n0 H0) (f4 : n2 ≤ 64) (f5 : 0 ≤ n2) (f6 : n2 = hV H0 (n1).toNat 55) (f7 : 0 < n2) (f8 : n3 = 322) (f9 : n3 = hV H0 (n1).toNat 54) (f10 : n4 ≤ 64) (f11 : 0 ≤ n4) (f12 : n4 = hV H0 (n1).toNat 55) (f13 : n5 = 1) (f14 : n6 = w32 (n4 - n5)) (f15 : n7 ≤ 53) (f16 : 0 ≤ n7) (f17 : n7 = hV H0 (n3).toNat (n6).toNat) (f18 : n8 = 6) (f19 : n7 ≠ n8) (f20 : n0 ≠ 0) (f21 : n9 = 8) (f22 : n7 ≠ n9) (f23 : n10 = 9) (f24 : n7 ≠ n10) (f25 : n11 ≤ 64) (f26 : 0 ≤ n11) (f27 : n11 = hV H0 (n1).toNat 55) (f28 : n12 = 1) (f29 : n13 = w32 (n11 - n12)) (f30 : n14 = 55) (f31 : hUpd H1 H0 n1 n14 n13) (f32 : n15 = 8) (f33 : n7 = n15) (f34 : n16 = 2) (f35 : n17 = 0) : preb_234 n1 n16 n17 H1 := by
  unfold preb_235 at f3
  unfold preb_234
  have e0 : n2 = hV H0 285 55 := (by rw [f2] at f6; exact f6 : n2 = hV H0 285 55)
  have e1 : n4 = hV H0 285 55 := (by rw [f2] at f12; exact f12 : n4 = hV H0 285 55)
  have e2 : n7 = hV H0 322 (n6).toNat := (by rw [f8] at f17; exact f17 : n7 = hV H0 322 (n6).toNat)
  have e3 : n11 = hV H0 285 55 := (by rw [f2] at f27; exact f27 : n11 = hV H0 285 55)
  have e5 : hV H1 285 51 = hV H0 285 51 := (uSlot f31 285 51 (iS (show n14 = ((55 : Nat) : Int) from f30) rfl))
  have e6 : (0 : Int) ≤ hV H0 285 34 ∧ hV H0 285 34 ≤ 1 := f3.1 285 34 _ _ kW_285_34
  have e7 : (0 : Int) ≤ hV H0 285 35 ∧ hV H0 285 35 ≤ 1 := f3.1 285 35 _ _ kW_285_35
  have e8 : (0 : Int) ≤ hV H0 285 51 ∧ hV H0 285 51 ≤ 1200 := f3.1 285 51 _ _ kW_285_51
  have e9 : (0 : Int) ≤ hV H0 285 55 ∧ hV H0 285 55 ≤ 64 := f3.1 285 55 _ _ kW_285_55
  try simp only [e5]
  have p0 := f3.2.1
  have p1 := f3.2.2.1
  have p2 := f3.2.2.2.1
  have p3 := f3.2.2.2.2
  clear f6 f9 f12 f17 f27 e5
  clear f3
  subst e0
  subst e1
  subst e2
  subst e3
  first
  | (have ix0 : n6 = hV H0 285 55 - 1 := Eq.trans f14 (w32_iv (Isu (Iat f5 f4) (IC 1)) (by decide)); subst ix0; clear f14)
  | (have ix0 : n6 = hV H0 285 55 - 1 := Eq.trans f14 (w32_id (by omega) (by omega)); subst ix0; clear f14)
  | (unfold w32 at f14; have ix0 : n6 = hV H0 285 55 - 1 := (by omega); subst ix0)
  | skip
  first
  | (have ix1 : n13 = hV H0 285 55 - 1 := Eq.trans f29 (w32_iv (Isu (Iat f5 f4) (IC 1)) (by decide)); subst ix1; clear f29)
  | (have ix1 : n13 = hV H0 285 55 - 1 := Eq.trans f29 (w32_id (by omega) (by omega)); subst ix1; clear f29)
  | (unfold w32 at f29; have ix1 : n13 = hV H0 285 55 - 1 := (by omega); subst ix1)
  | skip
  try unfold w32 at f14
  try unfold w32 at f29

  have wp := wo_pop (w := hV H0 322) (n := hV H0 285 55) (by omega)
  have wl := wo_le (w := hV H0 322) (hV H0 285 55 - 1).toNat
  omega
def g_235_s_22 : vG := ([(0, [17], [], 0), (0, [16], [], 2), (40, [7, 15], [], 0), (0, [15], [], 8), (80, [0, 14, 13], [1, 0], 0), (0, [14], [], 55), (2, [13, 11, 12], [], 0), (0, [12], [], 1), (20, [11, 0], [0], 55), (90, [11], [], 0), (91, [11], [], 64), (41, [7, 10], [], 0), (0, [10], [], 9), (41, [7, 9], [], 0), (0, [9], [], 8), (31, [1], [], 0), (41, [7, 8], [], 0), (0, [8], [], 6), (22, [7, 3, 6], [0], 0), (90, [7], [], 0), (91, [7], [], 53), (2, [6, 4, 5], [], 0), (0, [5], [], 1), (20, [4, 0], [0], 55), (90, [4], [], 0), (91, [4], [], 64), (20, [3, 0], [0], 54), (0, [3], [], 322), (34, [2], [], 0), (20, [2, 0], [0], 55), (90, [2], [], 0), (91, [2], [], 64), (6000, [0, 1], [0], 0), (0, [0], [], 285), (90, [1], [], 0), (91, [1], [], 1)], (2234, [0, 16, 17], [1], 0))
theorem c_235_s_22 : vOkm T0 (eP e_235 L_235 A_235 mu_235 none) 2 g_235_s_22 := vOk_inI fun ρ η f0 f1 f2 f3 f4 f5 f6 f7 f8 f9 f10 f11 f12 f13 f14 f15 f16 f17 f18 f19 f20 f21 f22 f23 f24 f25 f26 f27 f28 f29 f30 f31 f32 f33 f34 f35 => q_235_20 (n0 := ρ 1) (n1 := ρ 0) (n2 := ρ 2) (n3 := ρ 3) (n4 := ρ 4) (n5 := ρ 5) (n6 := ρ 6) (n7 := ρ 7) (n8 := ρ 8) (n9 := ρ 9) (n10 := ρ 10) (n11 := ρ 11) (n12 := ρ 12) (n13 := ρ 13) (n14 := ρ 14) (n15 := ρ 15) (n16 := ρ 16) (n17 := ρ 17) (H0 := η 0) (H1 := η 1) f35 f34 f33 f32 f31 f30 f29 f28 f27 f26 f25 f24 f23 f22 f21 f20 f19 f18 f17 f16 f15 f14 f13 f12 f11 f10 f9 f8 f7 f6 f5 f4 f3 f2 f1 f0
theorem q_235_21 {n0 n1 n2 n3 n4 n5 n6 n7 n8 n9 n10 n11 n12 n13 n14 n15 n16 n17 : Int} {H0 H1 H2 : gH} (f0 : n0 ≤ 1) (f1 : 0 ≤ n0) (f2 : n1 = 285) (f3 : hWt T0 H0 ∧ preb_235 n1 n0 H0) (f4 : n2 ≤ 64) (f5 : 0 ≤ n2) (f6 : n2 = hV H0 (n1).toNat 55) (f7 : 0 < n2) (f8 : n3 = 322) (f9 : n3 = hV H0 (n1).toNat 54) (f10 : n4 ≤ 64) (f11 : 0 ≤ n4) (f12 : n4 = hV H0 (n1).toNat 55) (f13 : n5 = 1) (f14 : n6 = w32 (n4 - n5)) (f15 : n7 ≤ 53) (f16 : 0 ≤ n7) (f17 : n7 = hV H0 (n3).toNat (n6).toNat) (f18 : n8 = 6) (f19 : n7 ≠ n8) (f20 : n0 ≠ 0) (f21 : n9 = 8) (f22 : n7 ≠ n9) (f23 : n10 = 9) (f24 : n7 ≠ n10) (f25 : n11 ≤ 64) (f26 : 0 ≤ n11) (f27 : n11 = hV H0 (n1).toNat 55) (f28 : n12 = 1) (f29 : n13 = w32 (n11 - n12)) (f30 : n14 = 55) (f31 : hUpd H1 H0 n1 n14 n13) (f32 : n15 = 8) (f33 : n7 = n15) (f34 : n16 = 2) (f35 : n17 = 0) (f36 : (hLe T0 H1 H2 ∧ hFr s_234.2.2.2.2 H1 H2 ∧ ((0 : Int) = 0 → H2.length = H1.length) ∧ hWt T0 H2) ∧ postb_234 n1 n16 n17 H1 H2) : Ab_235_0 n1 n0 n1 n0 n7 H0 H2 ∧ ∀ q, none = some q → mub_235_0 n1 n0 n1 n0 n7 H0 H2 < q := by
  unfold preb_235 at f3
  unfold postb_234 at f36
  unfold Ab_235_0
  have e0 : n2 = hV H0 285 55 := (by rw [f2] at f6; exact f6 : n2 = hV H0 285 55)
  have e1 : n4 = hV H0 285 55 := (by rw [f2] at f12; exact f12 : n4 = hV H0 285 55)
  have e2 : n7 = hV H0 322 (n6).toNat := (by rw [f8] at f17; exact f17 : n7 = hV H0 322 (n6).toNat)
  have e3 : n11 = hV H0 285 55 := (by rw [f2] at f27; exact f27 : n11 = hV H0 285 55)
  have e5 : hV H1 285 51 = hV H0 285 51 := (uSlot f31 285 51 (iS (show n14 = ((55 : Nat) : Int) from f30) rfl))
  have e6 : hV H1 320 = hV H0 320 := uRowNe f31 320 (iS (show n1 = ((285 : Nat) : Int) from f2) rfl)
  have e7 : hV H1 321 = hV H0 321 := uRowNe f31 321 (iS (show n1 = ((285 : Nat) : Int) from f2) rfl)
  have e10 : hV H2 285 34 = hV H0 285 34 := ((f36.1.2.1.1 285 34 kF_234_285_34)).trans (uSlot f31 285 34 (iS (show n14 = ((55 : Nat) : Int) from f30) rfl))
  have e13 : hV H2 285 35 = hV H0 285 35 := ((f36.1.2.1.1 285 35 kF_234_285_35)).trans (uSlot f31 285 35 (iS (show n14 = ((55 : Nat) : Int) from f30) rfl))
  have e16 : hV H2 285 44 = hV H0 285 44 := ((f36.1.2.1.1 285 44 kF_234_285_44)).trans (uSlot f31 285 44 (iS (show n14 = ((55 : Nat) : Int) from f30) rfl))
  have e19 : hV H2 285 55 = n13 := ((f36.1.2.1.1 285 55 kF_234_285_55)).trans (uSame f31 285 55 f2.symm f30.symm)
  have e22 : hV H2 306 = hV H0 306 := (fRow f36.1.2.1 306 kR_234_306).trans (uRowNe f31 306 (iS (show n1 = ((285 : Nat) : Int) from f2) rfl))
  have e25 : hV H2 307 = hV H0 307 := (fRow f36.1.2.1 307 kR_234_307).trans (uRowNe f31 307 (iS (show n1 = ((285 : Nat) : Int) from f2) rfl))
  have e28 : hV H2 308 = hV H0 308 := (fRow f36.1.2.1 308 kR_234_308).trans (uRowNe f31 308 (iS (show n1 = ((285 : Nat) : Int) from f2) rfl))
  have e31 : hV H2 309 = hV H0 309 := (fRow f36.1.2.1 309 kR_234_309).trans (uRowNe f31 309 (iS (show n1 = ((285 : Nat) : Int) from f2) rfl))
  have e34 : hV H2 310 = hV H0 310 := (fRow f36.1.2.1 310 kR_234_310).trans (uRowNe f31 310 (iS (show n1 = ((285 : Nat) : Int) from f2) rfl))
  have e37 : hV H2 311 = hV H0 311 := (fRow f36.1.2.1 311 kR_234_311).trans (uRowNe f31 311 (iS (show n1 = ((285 : Nat) : Int) from f2) rfl))
  have e40 : hV H2 317 = hV H0 317 := (fRow f36.1.2.1 317 kR_234_317).trans (uRowNe f31 317 (iS (show n1 = ((285 : Nat) : Int) from f2) rfl))
  have e43 : hV H2 318 = hV H0 318 := (fRow f36.1.2.1 318 kR_234_318).trans (uRowNe f31 318 (iS (show n1 = ((285 : Nat) : Int) from f2) rfl))
  have e46 : hV H2 319 = hV H0 319 := (fRow f36.1.2.1 319 kR_234_319).trans (uRowNe f31 319 (iS (show n1 = ((285 : Nat) : Int) from f2) rfl))
  have e49 : hV H2 322 = hV H0 322 := (fRow f36.1.2.1 322 kR_234_322).trans (uRowNe f31 322 (iS (show n1 = ((285 : Nat) : Int) from f2) rfl))
  have e50 : (0 : Int) ≤ hV H0 285 34 ∧ hV H0 285 34 ≤ 1 := f3.1 285 34 _ _ kW_285_34
  have e51 : (0 : Int) ≤ hV H0 285 35 ∧ hV H0 285 35 ≤ 1 := f3.1 285 35 _ _ kW_285_35
  have e52 : (0 : Int) ≤ hV H0 285 44 ∧ hV H0 285 44 ≤ 400 := f3.1 285 44 _ _ kW_285_44
  have e53 : (0 : Int) ≤ hV H0 285 51 ∧ hV H0 285 51 ≤ 1200 := f3.1 285 51 _ _ kW_285_51
  have e54 : (0 : Int) ≤ hV H0 285 55 ∧ hV H0 285 55 ≤ 64 := f3.1 285 55 _ _ kW_285_55
  have e58 : (0 : Int) ≤ hV H2 285 51 ∧ hV H2 285 51 ≤ 1200 := f36.1.2.2.2 285 51 _ _ kW_285_51
  have e59 : (0 : Int) ≤ hV H2 285 55 ∧ hV H2 285 55 ≤ 64 := f36.1.2.2.2 285 55 _ _ kW_285_55
  try simp only [RR]
  try simp only [e19] at e59
  try simp only [e10, e13, e16, e19, e22, e25, e28, e31, e34, e37, e40, e43, e46, e49]
  have p0 := f3.2.1
  have p1 := f3.2.2.1
  have p2 := f3.2.2.2.1
  have p3 := f3.2.2.2.2
  have r0_0 := f36.2.1
  have r0_1 := f36.2.2.1
  have r0_2 := f36.2.2.2
  try simp only [RR] at p0
  try simp only [e5] at r0_0
  try simp only [e5, e6] at r0_1
  try simp only [e5, e7] at r0_2
  clear f6 f9 f12 f17 f27 e5 e6 e7 e10 e13 e16 e22 e25 e28 e31 e34 e37 e40 e43 e46 e49
  clear f3 f36
  subst e0
  subst e1
  subst e2
  subst e3
  first
  | (have ix0 : n6 = hV H0 285 55 - 1 := Eq.trans f14 (w32_iv (Isu (Iat f5 f4) (IC 1)) (by decide)); subst ix0; clear f14)
  | (have ix0 : n6 = hV H0 285 55 - 1 := Eq.trans f14 (w32_id (by omega) (by omega)); subst ix0; clear f14)
  | (unfold w32 at f14; have ix0 : n6 = hV H0 285 55 - 1 := (by omega); subst ix0)
  | skip
  first
  | (have ix1 : n13 = hV H0 285 55 - 1 := Eq.trans f29 (w32_iv (Isu (Iat f5 f4) (IC 1)) (by decide)); subst ix1; clear f29)
  | (have ix1 : n13 = hV H0 285 55 - 1 := Eq.trans f29 (w32_id (by omega) (by omega)); subst ix1; clear f29)
  | (unfold w32 at f29; have ix1 : n13 = hV H0 285 55 - 1 := (by omega); subst ix1)
  | skip
  try unfold w32 at f14
  try unfold w32 at f29

  have y0 := p0
  have y1 : COp (hV H0 320) (hV H0 321) (hV H0 320) (hV H0 321) (hV H0 285 51) (hV H0 285 55 - wo (hV H0 322) (hV H0 285 55).toNat + 1) (hV H0 285 51) (hV H0 285 55 - wo (hV H0 322) (hV H0 285 55).toNat + 1) := CO_refl rfl rfl
  have wp := wo_pop (w := hV H0 322) (n := hV H0 285 55) (by omega)
  have wl := wo_le (w := hV H0 322) (hV H0 285 55 - 1).toNat
  refine ⟨⟨?_, ?_, ?_, ?_⟩, fun q hq => ?_⟩
  · first | trivial | omega
  · rw [r0_1, r0_2]
    exact RR_emit y0 (by omega) (by omega) (by omega) (by omega) (by omega) (by omega) (by omega) (by omega)
  · rw [r0_1, r0_2]
    exact CO_step y1 (by omega) (by omega) (by omega) (.inr ⟨by omega, by omega, by omega⟩)
  · first
    | omega
    | (refine ⟨?_, ?_, ?_⟩ <;> first | exact True.intro | omega)
  · exact nomatch hq
def g_235_s_23 : vG := ([(1234, [0, 16, 17], [1, 2], 0), (0, [17], [], 0), (0, [16], [], 2), (40, [7, 15], [], 0), (0, [15], [], 8), (80, [0, 14, 13], [1, 0], 0), (0, [14], [], 55), (2, [13, 11, 12], [], 0), (0, [12], [], 1), (20, [11, 0], [0], 55), (90, [11], [], 0), (91, [11], [], 64), (41, [7, 10], [], 0), (0, [10], [], 9), (41, [7, 9], [], 0), (0, [9], [], 8), (31, [1], [], 0), (41, [7, 8], [], 0), (0, [8], [], 6), (22, [7, 3, 6], [0], 0), (90, [7], [], 0), (91, [7], [], 53), (2, [6, 4, 5], [], 0), (0, [5], [], 1), (20, [4, 0], [0], 55), (90, [4], [], 0), (91, [4], [], 64), (20, [3, 0], [0], 54), (0, [3], [], 322), (34, [2], [], 0), (20, [2, 0], [0], 55), (90, [2], [], 0), (91, [2], [], 64), (6000, [0, 1], [0], 0), (0, [0], [], 285), (90, [1], [], 0), (91, [1], [], 1)], (4000, [0, 1, 7], [2], 0))
theorem c_235_s_23 : vOkm T0 (eP e_235 L_235 A_235 mu_235 none) 2 g_235_s_23 := vOk_inI fun ρ η f0 f1 f2 f3 f4 f5 f6 f7 f8 f9 f10 f11 f12 f13 f14 f15 f16 f17 f18 f19 f20 f21 f22 f23 f24 f25 f26 f27 f28 f29 f30 f31 f32 f33 f34 f35 f36 => q_235_21 (n0 := ρ 1) (n1 := ρ 0) (n2 := ρ 2) (n3 := ρ 3) (n4 := ρ 4) (n5 := ρ 5) (n6 := ρ 6) (n7 := ρ 7) (n8 := ρ 8) (n9 := ρ 9) (n10 := ρ 10) (n11 := ρ 11) (n12 := ρ 12) (n13 := ρ 13) (n14 := ρ 14) (n15 := ρ 15) (n16 := ρ 16) (n17 := ρ 17) (H0 := η 0) (H1 := η 1) (H2 := η 2) f36 f35 f34 f33 f32 f31 f30 f29 f28 f27 f26 f25 f24 f23 f22 f21 f20 f19 f18 f17 f16 f15 f14 f13 f12 f11 f10 f9 f8 f7 f6 f5 f4 f3 f2 f1 f0
theorem q_235_22 {n0 n1 n2 n3 n4 n5 n6 n7 n8 n9 n10 : Int} {H0 : gH} (f0 : n0 ≤ 1) (f1 : 0 ≤ n0) (f2 : n1 = 285) (f3 : hWt T0 H0 ∧ preb_235 n1 n0 H0) (f4 : n2 ≤ 64) (f5 : 0 ≤ n2) (f6 : n2 = hV H0 (n1).toNat 55) (f7 : 0 < n2) (f8 : n3 = 322) (f9 : n3 = hV H0 (n1).toNat 54) (f10 : n4 ≤ 64) (f11 : 0 ≤ n4) (f12 : n4 = hV H0 (n1).toNat 55) (f13 : n5 = 1) (f14 : n6 = w32 (n4 - n5)) (f15 : n7 ≤ 53) (f16 : 0 ≤ n7) (f17 : n7 = hV H0 (n3).toNat (n6).toNat) (f18 : n8 = 6) (f19 : n7 ≠ n8) (f20 : n0 ≠ 0) (f21 : n9 = 8) (f22 : n7 ≠ n9) (f23 : n10 = 9) (f24 : n7 = n10) : postb_235 n1 n0 H0 H0 := by
  unfold preb_235 at f3
  unfold postb_235
  have e0 : n2 = hV H0 285 55 := (by rw [f2] at f6; exact f6 : n2 = hV H0 285 55)
  have e1 : n4 = hV H0 285 55 := (by rw [f2] at f12; exact f12 : n4 = hV H0 285 55)
  have e2 : n7 = hV H0 322 (n6).toNat := (by rw [f8] at f17; exact f17 : n7 = hV H0 322 (n6).toNat)
  have e3 : (0 : Int) ≤ hV H0 285 34 ∧ hV H0 285 34 ≤ 1 := f3.1 285 34 _ _ kW_285_34
  have e4 : (0 : Int) ≤ hV H0 285 35 ∧ hV H0 285 35 ≤ 1 := f3.1 285 35 _ _ kW_285_35
  have e5 : (0 : Int) ≤ hV H0 285 51 ∧ hV H0 285 51 ≤ 1200 := f3.1 285 51 _ _ kW_285_51
  have e6 : (0 : Int) ≤ hV H0 285 55 ∧ hV H0 285 55 ≤ 64 := f3.1 285 55 _ _ kW_285_55
  have p0 := f3.2.1
  have p1 := f3.2.2.1
  have p2 := f3.2.2.2.1
  have p3 := f3.2.2.2.2
  clear f6 f9 f12 f17
  clear f3
  subst e0
  subst e1
  subst e2
  first
  | (have ix0 : n6 = hV H0 285 55 - 1 := Eq.trans f14 (w32_iv (Isu (Iat f5 f4) (IC 1)) (by decide)); subst ix0; clear f14)
  | (have ix0 : n6 = hV H0 285 55 - 1 := Eq.trans f14 (w32_id (by omega) (by omega)); subst ix0; clear f14)
  | (unfold w32 at f14; have ix0 : n6 = hV H0 285 55 - 1 := (by omega); subst ix0)
  | skip
  try unfold w32 at f14

  have y0 := p0
  have y1 : COp (hV H0 320) (hV H0 321) (hV H0 320) (hV H0 321) (hV H0 285 51) (hV H0 285 55 - wo (hV H0 322) (hV H0 285 55).toNat + 1) (hV H0 285 51) (hV H0 285 55 - wo (hV H0 322) (hV H0 285 55).toNat + 1) := CO_refl rfl rfl
  refine ⟨y0, y1, ?_, ?_, ?_, ?_⟩ <;> first | trivial | omega
def g_235_s_24 : vG := ([(40, [7, 10], [], 0), (0, [10], [], 9), (41, [7, 9], [], 0), (0, [9], [], 8), (31, [1], [], 0), (41, [7, 8], [], 0), (0, [8], [], 6), (22, [7, 3, 6], [0], 0), (90, [7], [], 0), (91, [7], [], 53), (2, [6, 4, 5], [], 0), (0, [5], [], 1), (20, [4, 0], [0], 55), (90, [4], [], 0), (91, [4], [], 64), (20, [3, 0], [0], 54), (0, [3], [], 322), (34, [2], [], 0), (20, [2, 0], [0], 55), (90, [2], [], 0), (91, [2], [], 64), (6000, [0, 1], [0], 0), (0, [0], [], 285), (90, [1], [], 0), (91, [1], [], 1)], (3000, [], [0], 41))
theorem c_235_s_24 : vOkm T0 (eP e_235 L_235 A_235 mu_235 none) 2 g_235_s_24 := vOk_inI fun ρ η f0 f1 f2 f3 f4 f5 f6 f7 f8 f9 f10 f11 f12 f13 f14 f15 f16 f17 f18 f19 f20 f21 f22 f23 f24 => q_235_22 (n0 := ρ 1) (n1 := ρ 0) (n2 := ρ 2) (n3 := ρ 3) (n4 := ρ 4) (n5 := ρ 5) (n6 := ρ 6) (n7 := ρ 7) (n8 := ρ 8) (n9 := ρ 9) (n10 := ρ 10) (H0 := η 0) f24 f23 f22 f21 f20 f19 f18 f17 f16 f15 f14 f13 f12 f11 f10 f9 f8 f7 f6 f5 f4 f3 f2 f1 f0
def p_235_s : List vG := [g_235_s_0,
  g_235_s_1,
  g_235_s_2,
  g_235_s_3,
  g_235_s_4,
  g_235_s_5,
  g_235_s_6,
  g_235_s_7,
  g_235_s_8,
  g_235_s_9,
  g_235_s_10,
  g_235_s_11,
  g_235_s_12,
  g_235_s_13,
  g_235_s_14,
  g_235_s_15,
  g_235_s_16,
  g_235_s_17,
  g_235_s_18,
  g_235_s_19,
  g_235_s_20,
  g_235_s_21,
  g_235_s_22,
  g_235_s_23,
  g_235_s_24]
theorem r_235_s : vCovO false (eR0 e_235 L_235 cs_235 2000) p_235_s = true := by decide +kernel
theorem kR_235_322 : vFreeR s_235.2.2.2.2 322 = true := by decide +kernel
theorem kF_235_285_34 : vFree s_235.2.2.2.2 285 34 = true := by decide +kernel
theorem kF_235_285_35 : vFree s_235.2.2.2.2 285 35 = true := by decide +kernel
theorem q_235_23 {q0 : Nat} {n0 n1 n2 n3 n4 n5 : Int} {H0 H1 : gH} (f0 : n0 ≤ 2147483647) (f1 : (-2147483648) ≤ n0) (f2 : n1 ≤ 1) (f3 : 0 ≤ n1) (f4 : n2 = 285) (f5 : n3 ≤ 1) (f6 : 0 ≤ n3) (f7 : n4 = 285) (f8 : (hLe T0 H0 H1 ∧ hFr s_235.2.2.2.2 H0 H1 ∧ hWt T0 H1) ∧ (Ab_235_0 n4 n3 n2 n1 n0 H0 H1 ∧ preb_235 n4 n3 H0) ∧ some q0 = some (mub_235_0 n4 n3 n2 n1 n0 H0 H1)) (f9 : n5 ≤ 64) (f10 : 0 ≤ n5) (f11 : n5 = hV H1 (n2).toNat 55) (f12 : n5 ≤ 0) : postb_235 n4 n3 H0 H1 := by
  have g4 := f8.2.1.1
  unfold Ab_235_0 at g4
  have g3 := f8.2.1.2
  unfold preb_235 at g3
  unfold postb_235
  have e0 : n5 = hV H1 285 55 := (by rw [f4] at f11; exact f11 : n5 = hV H1 285 55)
  have e5 : hV H1 322 = hV H0 322 := fRow f8.1.2.1 322 kR_235_322
  have e6 : (0 : Int) ≤ hV H0 285 34 ∧ hV H0 285 34 ≤ 1 := bTo ((f8.1.2.1.1 285 34 kF_235_285_34)) (f8.1.2.2 285 34 _ _ kW_285_34)
  have e7 : (0 : Int) ≤ hV H0 285 35 ∧ hV H0 285 35 ≤ 1 := bTo ((f8.1.2.1.1 285 35 kF_235_285_35)) (f8.1.2.2 285 35 _ _ kW_285_35)
  have e8 : (0 : Int) ≤ hV H1 285 51 ∧ hV H1 285 51 ≤ 1200 := f8.1.2.2 285 51 _ _ kW_285_51
  have e9 : (0 : Int) ≤ hV H1 285 55 ∧ hV H1 285 55 ≤ 64 := f8.1.2.2 285 55 _ _ kW_285_55
  try simp only [e5]
  have k0 := g4.1
  have y0 := g4.2.1
  have y1 := g4.2.2.1
  have y2 := g4.2.2.2.1
  have y3 := g4.2.2.2.2.1
  have y4 := g4.2.2.2.2.2
  have p0 := g3.1
  have p1 := g3.2.1
  have p2 := g3.2.2.1
  have p3 := g3.2.2.2
  try simp only [e5] at y1
  try simp only [e5] at y4
  clear g3
  clear g4
  clear f11 e5
  clear f8
  subst e0

  refine ⟨y0, y1, ?_, ?_, ?_, ?_⟩ <;> first | trivial | omega
def g_235_0_0 : vG := ([(35, [5], [], 0), (20, [5, 2], [1], 55), (90, [5], [], 0), (91, [5], [], 64), (5000, [0, 1, 2, 3, 4], [0, 1], 0), (0, [0], [], 285), (90, [1], [], 0), (91, [1], [], 1), (0, [2], [], 285), (90, [3], [], 0), (91, [3], [], 1), (90, [4], [], -2147483648), (91, [4], [], 2147483647)], (3000, [], [1], 91))
theorem c_235_0_0 {q0 : Nat} : vOkm T0 (eP e_235 L_235 A_235 mu_235 (some q0)) 2 g_235_0_0 := vOk_inI fun ρ η f0 f1 f2 f3 f4 f5 f6 f7 f8 f9 f10 f11 f12 => q_235_23 (q0 := q0) (n0 := ρ 4) (n1 := ρ 3) (n2 := ρ 2) (n3 := ρ 1) (n4 := ρ 0) (n5 := ρ 5) (H0 := η 0) (H1 := η 1) f12 f11 f10 f9 f8 f7 f6 f5 f4 f3 f2 f1 f0
theorem q_235_24 {q0 : Nat} {n0 n1 n2 n3 n4 : Int} {H0 H1 : gH} (f0 : n0 = 285) (f1 : n1 = hV H1 (n0).toNat 55) (f2 : 0 < n1) (f3 : n2 ≤ 64) (f4 : n2 = hV H1 (n0).toNat 55) (f5 : n3 = 1) (f6 : n4 = w32 (n2 - n3)) : 0 ≤ n4 ∧ n4 < 64 := by
  have e0 : n1 = hV H1 285 55 := (by rw [f0] at f1; exact f1 : n1 = hV H1 285 55)
  have e1 : n2 = hV H1 285 55 := (by rw [f0] at f4; exact f4 : n2 = hV H1 285 55)
  clear f1 f4
  subst e0
  subst e1
  first
  | (have ix0 : n4 = hV H1 285 55 - 1 := Eq.trans f6 (w32_id (by omega) (by omega)); subst ix0; clear f6)
  | (unfold w32 at f6; have ix0 : n4 = hV H1 285 55 - 1 := (by omega); subst ix0)
  | skip
  try unfold w32 at f6
  omega
def g_235_0_1 : vG := ([(2, [9, 7, 8], [], 0), (0, [8], [], 1), (20, [7, 2], [1], 55), (91, [7], [], 64), (34, [5], [], 0), (20, [5, 2], [1], 55), (0, [2], [], 285)], (70, [9], [], 64))
theorem c_235_0_1 {q0 : Nat} : vOkm T0 (eP e_235 L_235 A_235 mu_235 (some q0)) 2 g_235_0_1 := vOk_inI fun ρ η f0 f1 f2 f3 f4 f5 f6 => q_235_24 (q0 := q0) (n0 := ρ 2) (n1 := ρ 5) (n2 := ρ 7) (n3 := ρ 8) (n4 := ρ 9) (H0 := η 0) (H1 := η 1) f6 f5 f4 f3 f2 f1 f0
theorem q_235_25 {q0 : Nat} {n0 n1 n2 n3 n4 n5 n6 n7 n8 n9 n10 n11 : Int} {H0 H1 : gH} (f0 : n0 ≤ 2147483647) (f1 : (-2147483648) ≤ n0) (f2 : n1 ≤ 1) (f3 : 0 ≤ n1) (f4 : n2 = 285) (f5 : n3 ≤ 1) (f6 : 0 ≤ n3) (f7 : n4 = 285) (f8 : (hLe T0 H0 H1 ∧ hFr s_235.2.2.2.2 H0 H1 ∧ hWt T0 H1) ∧ (Ab_235_0 n4 n3 n2 n1 n0 H0 H1 ∧ preb_235 n4 n3 H0) ∧ some q0 = some (mub_235_0 n4 n3 n2 n1 n0 H0 H1)) (f9 : n5 ≤ 64) (f10 : 0 ≤ n5) (f11 : n5 = hV H1 (n2).toNat 55) (f12 : 0 < n5) (f13 : n6 = 322) (f14 : n6 = hV H1 (n2).toNat 54) (f15 : n7 ≤ 64) (f16 : 0 ≤ n7) (f17 : n7 = hV H1 (n2).toNat 55) (f18 : n8 = 1) (f19 : n9 = w32 (n7 - n8)) (f20 : n10 ≤ 53) (f21 : 0 ≤ n10) (f22 : n10 = hV H1 (n6).toNat (n9).toNat) (f23 : n11 = 6) (f24 : n10 = n11) : postb_235 n4 n3 H0 H1 := by
  have g4 := f8.2.1.1
  unfold Ab_235_0 at g4
  have g3 := f8.2.1.2
  unfold preb_235 at g3
  unfold postb_235
  have e0 : n5 = hV H1 285 55 := (by rw [f4] at f11; exact f11 : n5 = hV H1 285 55)
  have e1 : n7 = hV H1 285 55 := (by rw [f4] at f17; exact f17 : n7 = hV H1 285 55)
  have e2 : hV H1 322 = hV H0 322 := fRow f8.1.2.1 322 kR_235_322
  have e3 : n10 = hV H0 322 (n9).toNat := (by rw [f13] at f22; exact f22 : n10 = hV H1 322 (n9).toNat).trans ((congrFun e2 _))
  have e8 : (0 : Int) ≤ hV H0 285 34 ∧ hV H0 285 34 ≤ 1 := bTo ((f8.1.2.1.1 285 34 kF_235_285_34)) (f8.1.2.2 285 34 _ _ kW_285_34)
  have e9 : (0 : Int) ≤ hV H0 285 35 ∧ hV H0 285 35 ≤ 1 := bTo ((f8.1.2.1.1 285 35 kF_235_285_35)) (f8.1.2.2 285 35 _ _ kW_285_35)
  have e10 : (0 : Int) ≤ hV H1 285 51 ∧ hV H1 285 51 ≤ 1200 := f8.1.2.2 285 51 _ _ kW_285_51
  have e11 : (0 : Int) ≤ hV H1 285 55 ∧ hV H1 285 55 ≤ 64 := f8.1.2.2 285 55 _ _ kW_285_55
  try simp only [e2]
  have k0 := g4.1
  have y0 := g4.2.1
  have y1 := g4.2.2.1
  have y2 := g4.2.2.2.1
  have y3 := g4.2.2.2.2.1
  have y4 := g4.2.2.2.2.2
  have p0 := g3.1
  have p1 := g3.2.1
  have p2 := g3.2.2.1
  have p3 := g3.2.2.2
  try simp only [e2] at y1
  try simp only [e2] at y4
  clear g3
  clear g4
  clear f11 f14 f17 f22 e2
  clear f8
  subst e0
  subst e1
  subst e3
  first
  | (have ix0 : n9 = hV H1 285 55 - 1 := Eq.trans f19 (w32_iv (Isu (Iat f10 f9) (IC 1)) (by decide)); subst ix0; clear f19)
  | (have ix0 : n9 = hV H1 285 55 - 1 := Eq.trans f19 (w32_id (by omega) (by omega)); subst ix0; clear f19)
  | (unfold w32 at f19; have ix0 : n9 = hV H1 285 55 - 1 := (by omega); subst ix0)
  | skip
  try unfold w32 at f19

  refine ⟨y0, y1, ?_, ?_, ?_, ?_⟩ <;> first | trivial | omega
def g_235_0_2 : vG := ([(40, [10, 11], [], 0), (0, [11], [], 6), (22, [10, 6, 9], [1], 0), (90, [10], [], 0), (91, [10], [], 53), (2, [9, 7, 8], [], 0), (0, [8], [], 1), (20, [7, 2], [1], 55), (90, [7], [], 0), (91, [7], [], 64), (20, [6, 2], [1], 54), (0, [6], [], 322), (34, [5], [], 0), (20, [5, 2], [1], 55), (90, [5], [], 0), (91, [5], [], 64), (5000, [0, 1, 2, 3, 4], [0, 1], 0), (0, [0], [], 285), (90, [1], [], 0), (91, [1], [], 1), (0, [2], [], 285), (90, [3], [], 0), (91, [3], [], 1), (90, [4], [], -2147483648), (91, [4], [], 2147483647)], (3000, [], [1], 41))
theorem c_235_0_2 {q0 : Nat} : vOkm T0 (eP e_235 L_235 A_235 mu_235 (some q0)) 2 g_235_0_2 := vOk_inI fun ρ η f0 f1 f2 f3 f4 f5 f6 f7 f8 f9 f10 f11 f12 f13 f14 f15 f16 f17 f18 f19 f20 f21 f22 f23 f24 => q_235_25 (q0 := q0) (n0 := ρ 4) (n1 := ρ 3) (n2 := ρ 2) (n3 := ρ 1) (n4 := ρ 0) (n5 := ρ 5) (n6 := ρ 6) (n7 := ρ 7) (n8 := ρ 8) (n9 := ρ 9) (n10 := ρ 10) (n11 := ρ 11) (H0 := η 0) (H1 := η 1) f24 f23 f22 f21 f20 f19 f18 f17 f16 f15 f14 f13 f12 f11 f10 f9 f8 f7 f6 f5 f4 f3 f2 f1 f0
theorem q_235_26 {q0 : Nat} {n0 n1 n2 n3 n4 : Int} {H0 H1 : gH} (f0 : n0 = 285) (f1 : n1 = hV H1 (n0).toNat 55) (f2 : 0 < n1) (f3 : n2 ≤ 64) (f4 : n2 = hV H1 (n0).toNat 55) (f5 : n3 = 1) (f6 : n4 = w32 (n2 - n3)) : 0 ≤ n4 := by
  have e0 : n1 = hV H1 285 55 := (by rw [f0] at f1; exact f1 : n1 = hV H1 285 55)
  have e1 : n2 = hV H1 285 55 := (by rw [f0] at f4; exact f4 : n2 = hV H1 285 55)
  clear f1 f4
  subst e0
  subst e1
  first
  | (have ix0 : n4 = hV H1 285 55 - 1 := Eq.trans f6 (w32_id (by omega) (by omega)); subst ix0; clear f6)
  | (unfold w32 at f6; have ix0 : n4 = hV H1 285 55 - 1 := (by omega); subst ix0)
  | skip
  try unfold w32 at f6
  omega
def g_235_0_3 : vG := ([(2, [14, 12, 13], [], 0), (0, [13], [], 1), (20, [12, 2], [1], 55), (91, [12], [], 64), (34, [5], [], 0), (20, [5, 2], [1], 55), (0, [2], [], 285)], (90, [14], [], 0))
theorem c_235_0_3 {q0 : Nat} : vOkm T0 (eP e_235 L_235 A_235 mu_235 (some q0)) 2 g_235_0_3 := vOk_inI fun ρ η f0 f1 f2 f3 f4 f5 f6 => q_235_26 (q0 := q0) (n0 := ρ 2) (n1 := ρ 5) (n2 := ρ 12) (n3 := ρ 13) (n4 := ρ 14) (H0 := η 0) (H1 := η 1) f6 f5 f4 f3 f2 f1 f0
theorem q_235_27 {q0 : Nat} {n0 n1 n2 : Int} {H0 : gH} (f0 : n0 ≤ 64) (f1 : 0 ≤ n0) (f2 : n1 = 1) (f3 : n2 = w32 (n0 - n1)) : n2 ≤ 64 := by
  first
  | (have ix0 : n2 = n0 - 1 := Eq.trans f3 (w32_iv (Isu (Iat f1 f0) (IC 1)) (by decide)); subst ix0; clear f3)
  | (have ix0 : n2 = n0 - 1 := Eq.trans f3 (w32_id (by omega) (by omega)); subst ix0; clear f3)
  | (unfold w32 at f3; have ix0 : n2 = n0 - 1 := (by omega); subst ix0)
  | skip
  try unfold w32 at f3
  omega
def g_235_0_4 : vG := ([(2, [14, 12, 13], [], 0), (0, [13], [], 1), (90, [12], [], 0), (91, [12], [], 64)], (91, [14], [], 64))
theorem c_235_0_4 {q0 : Nat} : vOkm T0 (eP e_235 L_235 A_235 mu_235 (some q0)) 2 g_235_0_4 := vOk_inI fun ρ η f0 f1 f2 f3 => q_235_27 (q0 := q0) (n0 := ρ 12) (n1 := ρ 13) (n2 := ρ 14) (H0 := η 0) f3 f2 f1 f0
theorem q_235_28 {q0 : Nat} {n0 n1 n2 n3 n4 n5 n6 n7 n8 n9 n10 n11 n12 n13 n14 n15 n16 n17 n18 n19 n20 : Int} {H0 H1 H2 : gH} (f0 : n0 ≤ 2147483647) (f1 : (-2147483648) ≤ n0) (f2 : n1 ≤ 1) (f3 : 0 ≤ n1) (f4 : n2 = 285) (f5 : n3 ≤ 1) (f6 : 0 ≤ n3) (f7 : n4 = 285) (f8 : (hLe T0 H0 H1 ∧ hFr s_235.2.2.2.2 H0 H1 ∧ hWt T0 H1) ∧ (Ab_235_0 n4 n3 n2 n1 n0 H0 H1 ∧ preb_235 n4 n3 H0) ∧ some q0 = some (mub_235_0 n4 n3 n2 n1 n0 H0 H1)) (f9 : n5 ≤ 64) (f10 : 0 ≤ n5) (f11 : n5 = hV H1 (n2).toNat 55) (f12 : 0 < n5) (f13 : n6 = 322) (f14 : n6 = hV H1 (n2).toNat 54) (f15 : n7 ≤ 64) (f16 : 0 ≤ n7) (f17 : n7 = hV H1 (n2).toNat 55) (f18 : n8 = 1) (f19 : n9 = w32 (n7 - n8)) (f20 : n10 ≤ 53) (f21 : 0 ≤ n10) (f22 : n10 = hV H1 (n6).toNat (n9).toNat) (f23 : n11 = 6) (f24 : n10 ≠ n11) (f25 : n1 = 0) (f26 : n12 ≤ 64) (f27 : 0 ≤ n12) (f28 : n12 = hV H1 (n2).toNat 55) (f29 : n13 = 1) (f30 : n14 = w32 (n12 - n13)) (f31 : n15 = 55) (f32 : hUpd H2 H1 n2 n15 n14) (f33 : n16 = 8) (f34 : n10 ≠ n16) (f35 : n17 = 9) (f36 : n10 ≠ n17) (f37 : n18 = 10) (f38 : n10 ≠ n18) (f39 : n19 = 5) (f40 : n20 = 0) : preb_234 n2 n19 n20 H2 := by
  have g4 := f8.2.1.1
  unfold Ab_235_0 at g4
  have g3 := f8.2.1.2
  unfold preb_235 at g3
  unfold preb_234
  have e0 : n5 = hV H1 285 55 := (by rw [f4] at f11; exact f11 : n5 = hV H1 285 55)
  have e1 : n7 = hV H1 285 55 := (by rw [f4] at f17; exact f17 : n7 = hV H1 285 55)
  have e2 : hV H1 322 = hV H0 322 := fRow f8.1.2.1 322 kR_235_322
  have e3 : n10 = hV H0 322 (n9).toNat := (by rw [f13] at f22; exact f22 : n10 = hV H1 322 (n9).toNat).trans ((congrFun e2 _))
  have e4 : n12 = hV H1 285 55 := (by rw [f4] at f28; exact f28 : n12 = hV H1 285 55)
  have e10 : hV H2 285 51 = hV H1 285 51 := (uSlot f32 285 51 (iS (show n15 = ((55 : Nat) : Int) from f31) rfl))
  have e11 : (0 : Int) ≤ hV H0 285 34 ∧ hV H0 285 34 ≤ 1 := bTo ((f8.1.2.1.1 285 34 kF_235_285_34)) (f8.1.2.2 285 34 _ _ kW_285_34)
  have e12 : (0 : Int) ≤ hV H0 285 35 ∧ hV H0 285 35 ≤ 1 := bTo ((f8.1.2.1.1 285 35 kF_235_285_35)) (f8.1.2.2 285 35 _ _ kW_285_35)
  have e13 : (0 : Int) ≤ hV H1 285 51 ∧ hV H1 285 51 ≤ 1200 := f8.1.2.2 285 51 _ _ kW_285_51
  have e14 : (0 : Int) ≤ hV H1 285 55 ∧ hV H1 285 55 ≤ 64 := f8.1.2.2 285 55 _ _ kW_285_55
  try simp only [e10]
  have k0 := g4.1
  have y0 := g4.2.1
  have y1 := g4.2.2.1
  have y2 := g4.2.2.2.1
  have y3 := g4.2.2.2.2.1
  have y4 := g4.2.2.2.2.2
  have p0 := g3.1
  have p1 := g3.2.1
  have p2 := g3.2.2.1
  have p3 := g3.2.2.2
  try simp only [e2] at y1
  try simp only [e2] at y4
  clear g3
  clear g4
  clear f11 f14 f17 f22 f28 e2 e10
  clear f8
  subst e0
  subst e1
  subst e3
  subst e4
  first
  | (have ix0 : n9 = hV H1 285 55 - 1 := Eq.trans f19 (w32_iv (Isu (Iat f10 f9) (IC 1)) (by decide)); subst ix0; clear f19)
  | (have ix0 : n9 = hV H1 285 55 - 1 := Eq.trans f19 (w32_id (by omega) (by omega)); subst ix0; clear f19)
  | (unfold w32 at f19; have ix0 : n9 = hV H1 285 55 - 1 := (by omega); subst ix0)
  | skip
  first
  | (have ix1 : n14 = hV H1 285 55 - 1 := Eq.trans f30 (w32_iv (Isu (Iat f10 f9) (IC 1)) (by decide)); subst ix1; clear f30)
  | (have ix1 : n14 = hV H1 285 55 - 1 := Eq.trans f30 (w32_id (by omega) (by omega)); subst ix1; clear f30)
  | (unfold w32 at f30; have ix1 : n14 = hV H1 285 55 - 1 := (by omega); subst ix1)
  | skip
  try unfold w32 at f19
  try unfold w32 at f30

  have wp := wo_pop (w := hV H0 322) (n := hV H1 285 55) (by omega)
  have wl := wo_le (w := hV H0 322) (hV H1 285 55 - 1).toNat
  omega
def g_235_0_5 : vG := ([(0, [20], [], 0), (0, [19], [], 5), (41, [10, 18], [], 0), (0, [18], [], 10), (41, [10, 17], [], 0), (0, [17], [], 9), (41, [10, 16], [], 0), (0, [16], [], 8), (80, [2, 15, 14], [2, 1], 0), (0, [15], [], 55), (2, [14, 12, 13], [], 0), (0, [13], [], 1), (20, [12, 2], [1], 55), (90, [12], [], 0), (91, [12], [], 64), (30, [3], [], 0), (41, [10, 11], [], 0), (0, [11], [], 6), (22, [10, 6, 9], [1], 0), (90, [10], [], 0), (91, [10], [], 53), (2, [9, 7, 8], [], 0), (0, [8], [], 1), (20, [7, 2], [1], 55), (90, [7], [], 0), (91, [7], [], 64), (20, [6, 2], [1], 54), (0, [6], [], 322), (34, [5], [], 0), (20, [5, 2], [1], 55), (90, [5], [], 0), (91, [5], [], 64), (5000, [0, 1, 2, 3, 4], [0, 1], 0), (0, [0], [], 285), (90, [1], [], 0), (91, [1], [], 1), (0, [2], [], 285), (90, [3], [], 0), (91, [3], [], 1), (90, [4], [], -2147483648), (91, [4], [], 2147483647)], (2234, [2, 19, 20], [2], 0))
theorem c_235_0_5 {q0 : Nat} : vOkm T0 (eP e_235 L_235 A_235 mu_235 (some q0)) 2 g_235_0_5 := vOk_inI fun ρ η f0 f1 f2 f3 f4 f5 f6 f7 f8 f9 f10 f11 f12 f13 f14 f15 f16 f17 f18 f19 f20 f21 f22 f23 f24 f25 f26 f27 f28 f29 f30 f31 f32 f33 f34 f35 f36 f37 f38 f39 f40 => q_235_28 (q0 := q0) (n0 := ρ 4) (n1 := ρ 3) (n2 := ρ 2) (n3 := ρ 1) (n4 := ρ 0) (n5 := ρ 5) (n6 := ρ 6) (n7 := ρ 7) (n8 := ρ 8) (n9 := ρ 9) (n10 := ρ 10) (n11 := ρ 11) (n12 := ρ 12) (n13 := ρ 13) (n14 := ρ 14) (n15 := ρ 15) (n16 := ρ 16) (n17 := ρ 17) (n18 := ρ 18) (n19 := ρ 19) (n20 := ρ 20) (H0 := η 0) (H1 := η 1) (H2 := η 2) f40 f39 f38 f37 f36 f35 f34 f33 f32 f31 f30 f29 f28 f27 f26 f25 f24 f23 f22 f21 f20 f19 f18 f17 f16 f15 f14 f13 f12 f11 f10 f9 f8 f7 f6 f5 f4 f3 f2 f1 f0
theorem kR_235_306 : vFreeR s_235.2.2.2.2 306 = true := by decide +kernel
theorem kR_235_307 : vFreeR s_235.2.2.2.2 307 = true := by decide +kernel
theorem kR_235_308 : vFreeR s_235.2.2.2.2 308 = true := by decide +kernel
theorem kR_235_309 : vFreeR s_235.2.2.2.2 309 = true := by decide +kernel
theorem kR_235_310 : vFreeR s_235.2.2.2.2 310 = true := by decide +kernel
theorem kR_235_311 : vFreeR s_235.2.2.2.2 311 = true := by decide +kernel
theorem kR_235_317 : vFreeR s_235.2.2.2.2 317 = true := by decide +kernel
theorem kR_235_318 : vFreeR s_235.2.2.2.2 318 = true := by decide +kernel
theorem kR_235_319 : vFreeR s_235.2.2.2.2 319 = true := by decide +kernel
theorem kF_235_285_44 : vFree s_235.2.2.2.2 285 44 = true := by decide +kernel
theorem q_235_29 {q0 : Nat} {n0 n1 n2 n3 n4 n5 n6 n7 n8 n9 n10 n11 n12 n13 n14 n15 n16 n17 n18 n19 n20 : Int} {H0 H1 H2 H3 : gH} (f0 : n0 ≤ 2147483647) (f1 : (-2147483648) ≤ n0) (f2 : n1 ≤ 1) (f3 : 0 ≤ n1) (f4 : n2 = 285) (f5 : n3 ≤ 1) (f6 : 0 ≤ n3) (f7 : n4 = 285) (f8 : (hLe T0 H0 H1 ∧ hFr s_235.2.2.2.2 H0 H1 ∧ hWt T0 H1) ∧ (Ab_235_0 n4 n3 n2 n1 n0 H0 H1 ∧ preb_235 n4 n3 H0) ∧ some q0 = some (mub_235_0 n4 n3 n2 n1 n0 H0 H1)) (f9 : n5 ≤ 64) (f10 : 0 ≤ n5) (f11 : n5 = hV H1 (n2).toNat 55) (f12 : 0 < n5) (f13 : n6 = 322) (f14 : n6 = hV H1 (n2).toNat 54) (f15 : n7 ≤ 64) (f16 : 0 ≤ n7) (f17 : n7 = hV H1 (n2).toNat 55) (f18 : n8 = 1) (f19 : n9 = w32 (n7 - n8)) (f20 : n10 ≤ 53) (f21 : 0 ≤ n10) (f22 : n10 = hV H1 (n6).toNat (n9).toNat) (f23 : n11 = 6) (f24 : n10 ≠ n11) (f25 : n1 = 0) (f26 : n12 ≤ 64) (f27 : 0 ≤ n12) (f28 : n12 = hV H1 (n2).toNat 55) (f29 : n13 = 1) (f30 : n14 = w32 (n12 - n13)) (f31 : n15 = 55) (f32 : hUpd H2 H1 n2 n15 n14) (f33 : n16 = 8) (f34 : n10 ≠ n16) (f35 : n17 = 9) (f36 : n10 ≠ n17) (f37 : n18 = 10) (f38 : n10 ≠ n18) (f39 : n19 = 5) (f40 : n20 = 0) (f41 : (hLe T0 H2 H3 ∧ hFr s_234.2.2.2.2 H2 H3 ∧ ((0 : Int) = 0 → H3.length = H2.length) ∧ hWt T0 H3) ∧ postb_234 n2 n19 n20 H2 H3) : Ab_235_0 n4 n3 n2 n1 n10 H0 H3 ∧ ∀ q, some q0 = some q → mub_235_0 n4 n3 n2 n1 n10 H0 H3 < q := by
  have g4 := f8.2.1.1
  unfold Ab_235_0 at g4
  have g3 := f8.2.1.2
  unfold preb_235 at g3
  have g5 := Option.some.inj f8.2.2
  unfold mub_235_0 at g5
  unfold postb_234 at f41
  unfold Ab_235_0
  unfold mub_235_0
  have e0 : n5 = hV H1 285 55 := (by rw [f4] at f11; exact f11 : n5 = hV H1 285 55)
  have e1 : n7 = hV H1 285 55 := (by rw [f4] at f17; exact f17 : n7 = hV H1 285 55)
  have e2 : hV H1 322 = hV H0 322 := fRow f8.1.2.1 322 kR_235_322
  have e3 : n10 = hV H0 322 (n9).toNat := (by rw [f13] at f22; exact f22 : n10 = hV H1 322 (n9).toNat).trans ((congrFun e2 _))
  have e4 : n12 = hV H1 285 55 := (by rw [f4] at f28; exact f28 : n12 = hV H1 285 55)
  have e6 : hV H1 285 34 = hV H0 285 34 := (f8.1.2.1.1 285 34 kF_235_285_34)
  have e8 : hV H1 285 35 = hV H0 285 35 := (f8.1.2.1.1 285 35 kF_235_285_35)
  have e10 : hV H1 285 44 = hV H0 285 44 := (f8.1.2.1.1 285 44 kF_235_285_44)
  have e11 : hV H1 306 = hV H0 306 := fRow f8.1.2.1 306 kR_235_306
  have e12 : hV H1 307 = hV H0 307 := fRow f8.1.2.1 307 kR_235_307
  have e13 : hV H1 308 = hV H0 308 := fRow f8.1.2.1 308 kR_235_308
  have e14 : hV H1 309 = hV H0 309 := fRow f8.1.2.1 309 kR_235_309
  have e15 : hV H1 310 = hV H0 310 := fRow f8.1.2.1 310 kR_235_310
  have e16 : hV H1 311 = hV H0 311 := fRow f8.1.2.1 311 kR_235_311
  have e17 : hV H1 317 = hV H0 317 := fRow f8.1.2.1 317 kR_235_317
  have e18 : hV H1 318 = hV H0 318 := fRow f8.1.2.1 318 kR_235_318
  have e19 : hV H1 319 = hV H0 319 := fRow f8.1.2.1 319 kR_235_319
  have e21 : hV H2 285 51 = hV H1 285 51 := (uSlot f32 285 51 (iS (show n15 = ((55 : Nat) : Int) from f31) rfl))
  have e22 : hV H2 320 = hV H1 320 := uRowNe f32 320 (iS (show n2 = ((285 : Nat) : Int) from f4) rfl)
  have e23 : hV H2 321 = hV H1 321 := uRowNe f32 321 (iS (show n2 = ((285 : Nat) : Int) from f4) rfl)
  have e26 : hV H3 285 34 = hV H0 285 34 := ((f41.1.2.1.1 285 34 kF_234_285_34)).trans (((uSlot f32 285 34 (iS (show n15 = ((55 : Nat) : Int) from f31) rfl))).trans (f8.1.2.1.1 285 34 kF_235_285_34))
  have e29 : hV H3 285 35 = hV H0 285 35 := ((f41.1.2.1.1 285 35 kF_234_285_35)).trans (((uSlot f32 285 35 (iS (show n15 = ((55 : Nat) : Int) from f31) rfl))).trans (f8.1.2.1.1 285 35 kF_235_285_35))
  have e32 : hV H3 285 44 = hV H0 285 44 := ((f41.1.2.1.1 285 44 kF_234_285_44)).trans (((uSlot f32 285 44 (iS (show n15 = ((55 : Nat) : Int) from f31) rfl))).trans (f8.1.2.1.1 285 44 kF_235_285_44))
  have e35 : hV H3 285 55 = n14 := ((f41.1.2.1.1 285 55 kF_234_285_55)).trans (uSame f32 285 55 f4.symm f31.symm)
  have e39 : hV H3 306 = hV H0 306 := (fRow f41.1.2.1 306 kR_234_306).trans ((uRowNe f32 306 (iS (show n2 = ((285 : Nat) : Int) from f4) rfl)).trans e11)
  have e43 : hV H3 307 = hV H0 307 := (fRow f41.1.2.1 307 kR_234_307).trans ((uRowNe f32 307 (iS (show n2 = ((285 : Nat) : Int) from f4) rfl)).trans e12)
  have e47 : hV H3 308 = hV H0 308 := (fRow f41.1.2.1 308 kR_234_308).trans ((uRowNe f32 308 (iS (show n2 = ((285 : Nat) : Int) from f4) rfl)).trans e13)
  have e51 : hV H3 309 = hV H0 309 := (fRow f41.1.2.1 309 kR_234_309).trans ((uRowNe f32 309 (iS (show n2 = ((285 : Nat) : Int) from f4) rfl)).trans e14)
  have e55 : hV H3 310 = hV H0 310 := (fRow f41.1.2.1 310 kR_234_310).trans ((uRowNe f32 310 (iS (show n2 = ((285 : Nat) : Int) from f4) rfl)).trans e15)
  have e59 : hV H3 311 = hV H0 311 := (fRow f41.1.2.1 311 kR_234_311).trans ((uRowNe f32 311 (iS (show n2 = ((285 : Nat) : Int) from f4) rfl)).trans e16)
  have e63 : hV H3 317 = hV H0 317 := (fRow f41.1.2.1 317 kR_234_317).trans ((uRowNe f32 317 (iS (show n2 = ((285 : Nat) : Int) from f4) rfl)).trans e17)
  have e67 : hV H3 318 = hV H0 318 := (fRow f41.1.2.1 318 kR_234_318).trans ((uRowNe f32 318 (iS (show n2 = ((285 : Nat) : Int) from f4) rfl)).trans e18)
  have e71 : hV H3 319 = hV H0 319 := (fRow f41.1.2.1 319 kR_234_319).trans ((uRowNe f32 319 (iS (show n2 = ((285 : Nat) : Int) from f4) rfl)).trans e19)
  have e75 : hV H3 322 = hV H0 322 := (fRow f41.1.2.1 322 kR_234_322).trans ((uRowNe f32 322 (iS (show n2 = ((285 : Nat) : Int) from f4) rfl)).trans e2)
  have e76 : (0 : Int) ≤ hV H0 285 34 ∧ hV H0 285 34 ≤ 1 := bTo e6 (f8.1.2.2 285 34 _ _ kW_285_34)
  have e77 : (0 : Int) ≤ hV H0 285 35 ∧ hV H0 285 35 ≤ 1 := bTo e8 (f8.1.2.2 285 35 _ _ kW_285_35)
  have e78 : (0 : Int) ≤ hV H0 285 44 ∧ hV H0 285 44 ≤ 400 := bTo e10 (f8.1.2.2 285 44 _ _ kW_285_44)
  have e79 : (0 : Int) ≤ hV H1 285 51 ∧ hV H1 285 51 ≤ 1200 := f8.1.2.2 285 51 _ _ kW_285_51
  have e80 : (0 : Int) ≤ hV H1 285 55 ∧ hV H1 285 55 ≤ 64 := f8.1.2.2 285 55 _ _ kW_285_55
  have e84 : (0 : Int) ≤ hV H3 285 51 ∧ hV H3 285 51 ≤ 1200 := f41.1.2.2.2 285 51 _ _ kW_285_51
  have e85 : (0 : Int) ≤ hV H3 285 55 ∧ hV H3 285 55 ≤ 64 := f41.1.2.2.2 285 55 _ _ kW_285_55
  try simp only [RR]
  try simp only [e35] at e85
  try simp only [e26, e29, e32, e35, e39, e43, e47, e51, e55, e59, e63, e67, e71, e75]
  have k0 := g4.1
  have y0 := g4.2.1
  have y1 := g4.2.2.1
  have y2 := g4.2.2.2.1
  have y3 := g4.2.2.2.2.1
  have y4 := g4.2.2.2.2.2
  have p0 := g3.1
  have p1 := g3.2.1
  have p2 := g3.2.2.1
  have p3 := g3.2.2.2
  have r0_0 := f41.2.1
  have r0_1 := f41.2.2.1
  have r0_2 := f41.2.2.2
  try simp only [RR] at y0
  try simp only [RR] at p0
  try simp only [e6, e8, e10, e11, e12, e13, e14, e15, e16, e17, e18, e19] at y0
  try simp only [e2] at y1
  try simp only [e2] at y4
  try simp only [e21] at r0_0
  try simp only [e21, e22] at r0_1
  try simp only [e21, e23] at r0_2
  clear g3
  clear g4
  clear f11 f14 f17 f22 f28 e2 e6 e8 e10 e11 e12 e13 e14 e15 e16 e17 e18 e19 e21 e22 e23 e26 e29 e32 e39 e43 e47 e51 e55 e59 e63 e67 e71 e75
  clear f8 f41
  subst e0
  subst e1
  subst e3
  subst e4
  first
  | (have ix0 : n9 = hV H1 285 55 - 1 := Eq.trans f19 (w32_iv (Isu (Iat f10 f9) (IC 1)) (by decide)); subst ix0; clear f19)
  | (have ix0 : n9 = hV H1 285 55 - 1 := Eq.trans f19 (w32_id (by omega) (by omega)); subst ix0; clear f19)
  | (unfold w32 at f19; have ix0 : n9 = hV H1 285 55 - 1 := (by omega); subst ix0)
  | skip
  first
  | (have ix1 : n14 = hV H1 285 55 - 1 := Eq.trans f30 (w32_iv (Isu (Iat f10 f9) (IC 1)) (by decide)); subst ix1; clear f30)
  | (have ix1 : n14 = hV H1 285 55 - 1 := Eq.trans f30 (w32_id (by omega) (by omega)); subst ix1; clear f30)
  | (unfold w32 at f30; have ix1 : n14 = hV H1 285 55 - 1 := (by omega); subst ix1)
  | skip
  try unfold w32 at f19
  try unfold w32 at f30

  have wp := wo_pop (w := hV H0 322) (n := hV H1 285 55) (by omega)
  have wl := wo_le (w := hV H0 322) (hV H1 285 55 - 1).toNat
  refine ⟨⟨?_, ?_, ?_, ?_⟩, fun q hq => ?_⟩
  · first | trivial | omega
  · rw [r0_1, r0_2]
    exact RR_emit y0 (by omega) (by omega) (by omega) (by omega) (by omega) (by omega) (by omega) (by omega)
  · rw [r0_1, r0_2]
    exact CO_step y1 (by omega) (by omega) (by omega) (.inr ⟨by omega, by omega, by omega⟩)
  · first
    | omega
    | (refine ⟨?_, ?_, ?_⟩ <;> first | exact True.intro | omega)
  · have g6 := Option.some.inj hq
    subst g6
    omega
def g_235_0_6 : vG := ([(1234, [2, 19, 20], [2, 3], 0), (0, [20], [], 0), (0, [19], [], 5), (41, [10, 18], [], 0), (0, [18], [], 10), (41, [10, 17], [], 0), (0, [17], [], 9), (41, [10, 16], [], 0), (0, [16], [], 8), (80, [2, 15, 14], [2, 1], 0), (0, [15], [], 55), (2, [14, 12, 13], [], 0), (0, [13], [], 1), (20, [12, 2], [1], 55), (90, [12], [], 0), (91, [12], [], 64), (30, [3], [], 0), (41, [10, 11], [], 0), (0, [11], [], 6), (22, [10, 6, 9], [1], 0), (90, [10], [], 0), (91, [10], [], 53), (2, [9, 7, 8], [], 0), (0, [8], [], 1), (20, [7, 2], [1], 55), (90, [7], [], 0), (91, [7], [], 64), (20, [6, 2], [1], 54), (0, [6], [], 322), (34, [5], [], 0), (20, [5, 2], [1], 55), (90, [5], [], 0), (91, [5], [], 64), (5000, [0, 1, 2, 3, 4], [0, 1], 0), (0, [0], [], 285), (90, [1], [], 0), (91, [1], [], 1), (0, [2], [], 285), (90, [3], [], 0), (91, [3], [], 1), (90, [4], [], -2147483648), (91, [4], [], 2147483647)], (4000, [2, 3, 10], [3], 0))
theorem c_235_0_6 {q0 : Nat} : vOkm T0 (eP e_235 L_235 A_235 mu_235 (some q0)) 2 g_235_0_6 := vOk_inI fun ρ η f0 f1 f2 f3 f4 f5 f6 f7 f8 f9 f10 f11 f12 f13 f14 f15 f16 f17 f18 f19 f20 f21 f22 f23 f24 f25 f26 f27 f28 f29 f30 f31 f32 f33 f34 f35 f36 f37 f38 f39 f40 f41 => q_235_29 (q0 := q0) (n0 := ρ 4) (n1 := ρ 3) (n2 := ρ 2) (n3 := ρ 1) (n4 := ρ 0) (n5 := ρ 5) (n6 := ρ 6) (n7 := ρ 7) (n8 := ρ 8) (n9 := ρ 9) (n10 := ρ 10) (n11 := ρ 11) (n12 := ρ 12) (n13 := ρ 13) (n14 := ρ 14) (n15 := ρ 15) (n16 := ρ 16) (n17 := ρ 17) (n18 := ρ 18) (n19 := ρ 19) (n20 := ρ 20) (H0 := η 0) (H1 := η 1) (H2 := η 2) (H3 := η 3) f41 f40 f39 f38 f37 f36 f35 f34 f33 f32 f31 f30 f29 f28 f27 f26 f25 f24 f23 f22 f21 f20 f19 f18 f17 f16 f15 f14 f13 f12 f11 f10 f9 f8 f7 f6 f5 f4 f3 f2 f1 f0
theorem q_235_30 {q0 : Nat} {n0 n1 n2 n3 n4 n5 n6 n7 n8 n9 n10 n11 n12 n13 n14 n15 n16 n17 n18 n19 n20 : Int} {H0 H1 H2 : gH} (f0 : n0 ≤ 2147483647) (f1 : (-2147483648) ≤ n0) (f2 : n1 ≤ 1) (f3 : 0 ≤ n1) (f4 : n2 = 285) (f5 : n3 ≤ 1) (f6 : 0 ≤ n3) (f7 : n4 = 285) (f8 : (hLe T0 H0 H1 ∧ hFr s_235.2.2.2.2 H0 H1 ∧ hWt T0 H1) ∧ (Ab_235_0 n4 n3 n2 n1 n0 H0 H1 ∧ preb_235 n4 n3 H0) ∧ some q0 = some (mub_235_0 n4 n3 n2 n1 n0 H0 H1)) (f9 : n5 ≤ 64) (f10 : 0 ≤ n5) (f11 : n5 = hV H1 (n2).toNat 55) (f12 : 0 < n5) (f13 : n6 = 322) (f14 : n6 = hV H1 (n2).toNat 54) (f15 : n7 ≤ 64) (f16 : 0 ≤ n7) (f17 : n7 = hV H1 (n2).toNat 55) (f18 : n8 = 1) (f19 : n9 = w32 (n7 - n8)) (f20 : n10 ≤ 53) (f21 : 0 ≤ n10) (f22 : n10 = hV H1 (n6).toNat (n9).toNat) (f23 : n11 = 6) (f24 : n10 ≠ n11) (f25 : n1 = 0) (f26 : n12 ≤ 64) (f27 : 0 ≤ n12) (f28 : n12 = hV H1 (n2).toNat 55) (f29 : n13 = 1) (f30 : n14 = w32 (n12 - n13)) (f31 : n15 = 55) (f32 : hUpd H2 H1 n2 n15 n14) (f33 : n16 = 8) (f34 : n10 ≠ n16) (f35 : n17 = 9) (f36 : n10 ≠ n17) (f37 : n18 = 10) (f38 : n10 = n18) (f39 : n19 = 4) (f40 : n20 = 0) : preb_234 n2 n19 n20 H2 := by
  have g4 := f8.2.1.1
  unfold Ab_235_0 at g4
  have g3 := f8.2.1.2
  unfold preb_235 at g3
  unfold preb_234
  have e0 : n5 = hV H1 285 55 := (by rw [f4] at f11; exact f11 : n5 = hV H1 285 55)
  have e1 : n7 = hV H1 285 55 := (by rw [f4] at f17; exact f17 : n7 = hV H1 285 55)
  have e2 : hV H1 322 = hV H0 322 := fRow f8.1.2.1 322 kR_235_322
  have e3 : n10 = hV H0 322 (n9).toNat := (by rw [f13] at f22; exact f22 : n10 = hV H1 322 (n9).toNat).trans ((congrFun e2 _))
  have e4 : n12 = hV H1 285 55 := (by rw [f4] at f28; exact f28 : n12 = hV H1 285 55)
  have e10 : hV H2 285 51 = hV H1 285 51 := (uSlot f32 285 51 (iS (show n15 = ((55 : Nat) : Int) from f31) rfl))
  have e11 : (0 : Int) ≤ hV H0 285 34 ∧ hV H0 285 34 ≤ 1 := bTo ((f8.1.2.1.1 285 34 kF_235_285_34)) (f8.1.2.2 285 34 _ _ kW_285_34)
  have e12 : (0 : Int) ≤ hV H0 285 35 ∧ hV H0 285 35 ≤ 1 := bTo ((f8.1.2.1.1 285 35 kF_235_285_35)) (f8.1.2.2 285 35 _ _ kW_285_35)
  have e13 : (0 : Int) ≤ hV H1 285 51 ∧ hV H1 285 51 ≤ 1200 := f8.1.2.2 285 51 _ _ kW_285_51
  have e14 : (0 : Int) ≤ hV H1 285 55 ∧ hV H1 285 55 ≤ 64 := f8.1.2.2 285 55 _ _ kW_285_55
  try simp only [e10]
  have k0 := g4.1
  have y0 := g4.2.1
  have y1 := g4.2.2.1
  have y2 := g4.2.2.2.1
  have y3 := g4.2.2.2.2.1
  have y4 := g4.2.2.2.2.2
  have p0 := g3.1
  have p1 := g3.2.1
  have p2 := g3.2.2.1
  have p3 := g3.2.2.2
  try simp only [e2] at y1
  try simp only [e2] at y4
  clear g3
  clear g4
  clear f11 f14 f17 f22 f28 e2 e10
  clear f8
  subst e0
  subst e1
  subst e3
  subst e4
  first
  | (have ix0 : n9 = hV H1 285 55 - 1 := Eq.trans f19 (w32_iv (Isu (Iat f10 f9) (IC 1)) (by decide)); subst ix0; clear f19)
  | (have ix0 : n9 = hV H1 285 55 - 1 := Eq.trans f19 (w32_id (by omega) (by omega)); subst ix0; clear f19)
  | (unfold w32 at f19; have ix0 : n9 = hV H1 285 55 - 1 := (by omega); subst ix0)
  | skip
  first
  | (have ix1 : n14 = hV H1 285 55 - 1 := Eq.trans f30 (w32_iv (Isu (Iat f10 f9) (IC 1)) (by decide)); subst ix1; clear f30)
  | (have ix1 : n14 = hV H1 285 55 - 1 := Eq.trans f30 (w32_id (by omega) (by omega)); subst ix1; clear f30)
  | (unfold w32 at f30; have ix1 : n14 = hV H1 285 55 - 1 := (by omega); subst ix1)
  | skip
  try unfold w32 at f19
  try unfold w32 at f30

  have wp := wo_pop (w := hV H0 322) (n := hV H1 285 55) (by omega)
  have wl := wo_le (w := hV H0 322) (hV H1 285 55 - 1).toNat
  omega
def g_235_0_7 : vG := ([(0, [20], [], 0), (0, [19], [], 4), (40, [10, 18], [], 0), (0, [18], [], 10), (41, [10, 17], [], 0), (0, [17], [], 9), (41, [10, 16], [], 0), (0, [16], [], 8), (80, [2, 15, 14], [2, 1], 0), (0, [15], [], 55), (2, [14, 12, 13], [], 0), (0, [13], [], 1), (20, [12, 2], [1], 55), (90, [12], [], 0), (91, [12], [], 64), (30, [3], [], 0), (41, [10, 11], [], 0), (0, [11], [], 6), (22, [10, 6, 9], [1], 0), (90, [10], [], 0), (91, [10], [], 53), (2, [9, 7, 8], [], 0), (0, [8], [], 1), (20, [7, 2], [1], 55), (90, [7], [], 0), (91, [7], [], 64), (20, [6, 2], [1], 54), (0, [6], [], 322), (34, [5], [], 0), (20, [5, 2], [1], 55), (90, [5], [], 0), (91, [5], [], 64), (5000, [0, 1, 2, 3, 4], [0, 1], 0), (0, [0], [], 285), (90, [1], [], 0), (91, [1], [], 1), (0, [2], [], 285), (90, [3], [], 0), (91, [3], [], 1), (90, [4], [], -2147483648), (91, [4], [], 2147483647)], (2234, [2, 19, 20], [2], 0))
theorem c_235_0_7 {q0 : Nat} : vOkm T0 (eP e_235 L_235 A_235 mu_235 (some q0)) 2 g_235_0_7 := vOk_inI fun ρ η f0 f1 f2 f3 f4 f5 f6 f7 f8 f9 f10 f11 f12 f13 f14 f15 f16 f17 f18 f19 f20 f21 f22 f23 f24 f25 f26 f27 f28 f29 f30 f31 f32 f33 f34 f35 f36 f37 f38 f39 f40 => q_235_30 (q0 := q0) (n0 := ρ 4) (n1 := ρ 3) (n2 := ρ 2) (n3 := ρ 1) (n4 := ρ 0) (n5 := ρ 5) (n6 := ρ 6) (n7 := ρ 7) (n8 := ρ 8) (n9 := ρ 9) (n10 := ρ 10) (n11 := ρ 11) (n12 := ρ 12) (n13 := ρ 13) (n14 := ρ 14) (n15 := ρ 15) (n16 := ρ 16) (n17 := ρ 17) (n18 := ρ 18) (n19 := ρ 19) (n20 := ρ 20) (H0 := η 0) (H1 := η 1) (H2 := η 2) f40 f39 f38 f37 f36 f35 f34 f33 f32 f31 f30 f29 f28 f27 f26 f25 f24 f23 f22 f21 f20 f19 f18 f17 f16 f15 f14 f13 f12 f11 f10 f9 f8 f7 f6 f5 f4 f3 f2 f1 f0
theorem q_235_31 {q0 : Nat} {n0 n1 n2 n3 n4 n5 n6 n7 n8 n9 n10 n11 n12 n13 n14 n15 n16 n17 n18 n19 n20 : Int} {H0 H1 H2 H3 : gH} (f0 : n0 ≤ 2147483647) (f1 : (-2147483648) ≤ n0) (f2 : n1 ≤ 1) (f3 : 0 ≤ n1) (f4 : n2 = 285) (f5 : n3 ≤ 1) (f6 : 0 ≤ n3) (f7 : n4 = 285) (f8 : (hLe T0 H0 H1 ∧ hFr s_235.2.2.2.2 H0 H1 ∧ hWt T0 H1) ∧ (Ab_235_0 n4 n3 n2 n1 n0 H0 H1 ∧ preb_235 n4 n3 H0) ∧ some q0 = some (mub_235_0 n4 n3 n2 n1 n0 H0 H1)) (f9 : n5 ≤ 64) (f10 : 0 ≤ n5) (f11 : n5 = hV H1 (n2).toNat 55) (f12 : 0 < n5) (f13 : n6 = 322) (f14 : n6 = hV H1 (n2).toNat 54) (f15 : n7 ≤ 64) (f16 : 0 ≤ n7) (f17 : n7 = hV H1 (n2).toNat 55) (f18 : n8 = 1) (f19 : n9 = w32 (n7 - n8)) (f20 : n10 ≤ 53) (f21 : 0 ≤ n10) (f22 : n10 = hV H1 (n6).toNat (n9).toNat) (f23 : n11 = 6) (f24 : n10 ≠ n11) (f25 : n1 = 0) (f26 : n12 ≤ 64) (f27 : 0 ≤ n12) (f28 : n12 = hV H1 (n2).toNat 55) (f29 : n13 = 1) (f30 : n14 = w32 (n12 - n13)) (f31 : n15 = 55) (f32 : hUpd H2 H1 n2 n15 n14) (f33 : n16 = 8) (f34 : n10 ≠ n16) (f35 : n17 = 9) (f36 : n10 ≠ n17) (f37 : n18 = 10) (f38 : n10 = n18) (f39 : n19 = 4) (f40 : n20 = 0) (f41 : (hLe T0 H2 H3 ∧ hFr s_234.2.2.2.2 H2 H3 ∧ ((0 : Int) = 0 → H3.length = H2.length) ∧ hWt T0 H3) ∧ postb_234 n2 n19 n20 H2 H3) : Ab_235_0 n4 n3 n2 n1 n10 H0 H3 ∧ ∀ q, some q0 = some q → mub_235_0 n4 n3 n2 n1 n10 H0 H3 < q := by
  have g4 := f8.2.1.1
  unfold Ab_235_0 at g4
  have g3 := f8.2.1.2
  unfold preb_235 at g3
  have g5 := Option.some.inj f8.2.2
  unfold mub_235_0 at g5
  unfold postb_234 at f41
  unfold Ab_235_0
  unfold mub_235_0
  have e0 : n5 = hV H1 285 55 := (by rw [f4] at f11; exact f11 : n5 = hV H1 285 55)
  have e1 : n7 = hV H1 285 55 := (by rw [f4] at f17; exact f17 : n7 = hV H1 285 55)
  have e2 : hV H1 322 = hV H0 322 := fRow f8.1.2.1 322 kR_235_322
  have e3 : n10 = hV H0 322 (n9).toNat := (by rw [f13] at f22; exact f22 : n10 = hV H1 322 (n9).toNat).trans ((congrFun e2 _))
  have e4 : n12 = hV H1 285 55 := (by rw [f4] at f28; exact f28 : n12 = hV H1 285 55)
  have e6 : hV H1 285 34 = hV H0 285 34 := (f8.1.2.1.1 285 34 kF_235_285_34)
  have e8 : hV H1 285 35 = hV H0 285 35 := (f8.1.2.1.1 285 35 kF_235_285_35)
  have e10 : hV H1 285 44 = hV H0 285 44 := (f8.1.2.1.1 285 44 kF_235_285_44)
  have e11 : hV H1 306 = hV H0 306 := fRow f8.1.2.1 306 kR_235_306
  have e12 : hV H1 307 = hV H0 307 := fRow f8.1.2.1 307 kR_235_307
  have e13 : hV H1 308 = hV H0 308 := fRow f8.1.2.1 308 kR_235_308
  have e14 : hV H1 309 = hV H0 309 := fRow f8.1.2.1 309 kR_235_309
  have e15 : hV H1 310 = hV H0 310 := fRow f8.1.2.1 310 kR_235_310
  have e16 : hV H1 311 = hV H0 311 := fRow f8.1.2.1 311 kR_235_311
  have e17 : hV H1 317 = hV H0 317 := fRow f8.1.2.1 317 kR_235_317
  have e18 : hV H1 318 = hV H0 318 := fRow f8.1.2.1 318 kR_235_318
  have e19 : hV H1 319 = hV H0 319 := fRow f8.1.2.1 319 kR_235_319
  have e21 : hV H2 285 51 = hV H1 285 51 := (uSlot f32 285 51 (iS (show n15 = ((55 : Nat) : Int) from f31) rfl))
  have e22 : hV H2 320 = hV H1 320 := uRowNe f32 320 (iS (show n2 = ((285 : Nat) : Int) from f4) rfl)
  have e23 : hV H2 321 = hV H1 321 := uRowNe f32 321 (iS (show n2 = ((285 : Nat) : Int) from f4) rfl)
  have e26 : hV H3 285 34 = hV H0 285 34 := ((f41.1.2.1.1 285 34 kF_234_285_34)).trans (((uSlot f32 285 34 (iS (show n15 = ((55 : Nat) : Int) from f31) rfl))).trans (f8.1.2.1.1 285 34 kF_235_285_34))
  have e29 : hV H3 285 35 = hV H0 285 35 := ((f41.1.2.1.1 285 35 kF_234_285_35)).trans (((uSlot f32 285 35 (iS (show n15 = ((55 : Nat) : Int) from f31) rfl))).trans (f8.1.2.1.1 285 35 kF_235_285_35))
  have e32 : hV H3 285 44 = hV H0 285 44 := ((f41.1.2.1.1 285 44 kF_234_285_44)).trans (((uSlot f32 285 44 (iS (show n15 = ((55 : Nat) : Int) from f31) rfl))).trans (f8.1.2.1.1 285 44 kF_235_285_44))
  have e35 : hV H3 285 55 = n14 := ((f41.1.2.1.1 285 55 kF_234_285_55)).trans (uSame f32 285 55 f4.symm f31.symm)
  have e39 : hV H3 306 = hV H0 306 := (fRow f41.1.2.1 306 kR_234_306).trans ((uRowNe f32 306 (iS (show n2 = ((285 : Nat) : Int) from f4) rfl)).trans e11)
  have e43 : hV H3 307 = hV H0 307 := (fRow f41.1.2.1 307 kR_234_307).trans ((uRowNe f32 307 (iS (show n2 = ((285 : Nat) : Int) from f4) rfl)).trans e12)
  have e47 : hV H3 308 = hV H0 308 := (fRow f41.1.2.1 308 kR_234_308).trans ((uRowNe f32 308 (iS (show n2 = ((285 : Nat) : Int) from f4) rfl)).trans e13)
  have e51 : hV H3 309 = hV H0 309 := (fRow f41.1.2.1 309 kR_234_309).trans ((uRowNe f32 309 (iS (show n2 = ((285 : Nat) : Int) from f4) rfl)).trans e14)
  have e55 : hV H3 310 = hV H0 310 := (fRow f41.1.2.1 310 kR_234_310).trans ((uRowNe f32 310 (iS (show n2 = ((285 : Nat) : Int) from f4) rfl)).trans e15)
  have e59 : hV H3 311 = hV H0 311 := (fRow f41.1.2.1 311 kR_234_311).trans ((uRowNe f32 311 (iS (show n2 = ((285 : Nat) : Int) from f4) rfl)).trans e16)
  have e63 : hV H3 317 = hV H0 317 := (fRow f41.1.2.1 317 kR_234_317).trans ((uRowNe f32 317 (iS (show n2 = ((285 : Nat) : Int) from f4) rfl)).trans e17)
  have e67 : hV H3 318 = hV H0 318 := (fRow f41.1.2.1 318 kR_234_318).trans ((uRowNe f32 318 (iS (show n2 = ((285 : Nat) : Int) from f4) rfl)).trans e18)
  have e71 : hV H3 319 = hV H0 319 := (fRow f41.1.2.1 319 kR_234_319).trans ((uRowNe f32 319 (iS (show n2 = ((285 : Nat) : Int) from f4) rfl)).trans e19)
  have e75 : hV H3 322 = hV H0 322 := (fRow f41.1.2.1 322 kR_234_322).trans ((uRowNe f32 322 (iS (show n2 = ((285 : Nat) : Int) from f4) rfl)).trans e2)
  have e76 : (0 : Int) ≤ hV H0 285 34 ∧ hV H0 285 34 ≤ 1 := bTo e6 (f8.1.2.2 285 34 _ _ kW_285_34)
  have e77 : (0 : Int) ≤ hV H0 285 35 ∧ hV H0 285 35 ≤ 1 := bTo e8 (f8.1.2.2 285 35 _ _ kW_285_35)
  have e78 : (0 : Int) ≤ hV H0 285 44 ∧ hV H0 285 44 ≤ 400 := bTo e10 (f8.1.2.2 285 44 _ _ kW_285_44)
  have e79 : (0 : Int) ≤ hV H1 285 51 ∧ hV H1 285 51 ≤ 1200 := f8.1.2.2 285 51 _ _ kW_285_51
  have e80 : (0 : Int) ≤ hV H1 285 55 ∧ hV H1 285 55 ≤ 64 := f8.1.2.2 285 55 _ _ kW_285_55
  have e84 : (0 : Int) ≤ hV H3 285 51 ∧ hV H3 285 51 ≤ 1200 := f41.1.2.2.2 285 51 _ _ kW_285_51
  have e85 : (0 : Int) ≤ hV H3 285 55 ∧ hV H3 285 55 ≤ 64 := f41.1.2.2.2 285 55 _ _ kW_285_55
  try simp only [RR]
  try simp only [e35] at e85
  try simp only [e26, e29, e32, e35, e39, e43, e47, e51, e55, e59, e63, e67, e71, e75]
  have k0 := g4.1
  have y0 := g4.2.1
  have y1 := g4.2.2.1
  have y2 := g4.2.2.2.1
  have y3 := g4.2.2.2.2.1
  have y4 := g4.2.2.2.2.2
  have p0 := g3.1
  have p1 := g3.2.1
  have p2 := g3.2.2.1
  have p3 := g3.2.2.2
  have r0_0 := f41.2.1
  have r0_1 := f41.2.2.1
  have r0_2 := f41.2.2.2
  try simp only [RR] at y0
  try simp only [RR] at p0
  try simp only [e6, e8, e10, e11, e12, e13, e14, e15, e16, e17, e18, e19] at y0
  try simp only [e2] at y1
  try simp only [e2] at y4
  try simp only [e21] at r0_0
  try simp only [e21, e22] at r0_1
  try simp only [e21, e23] at r0_2
  clear g3
  clear g4
  clear f11 f14 f17 f22 f28 e2 e6 e8 e10 e11 e12 e13 e14 e15 e16 e17 e18 e19 e21 e22 e23 e26 e29 e32 e39 e43 e47 e51 e55 e59 e63 e67 e71 e75
  clear f8 f41
  subst e0
  subst e1
  subst e3
  subst e4
  first
  | (have ix0 : n9 = hV H1 285 55 - 1 := Eq.trans f19 (w32_iv (Isu (Iat f10 f9) (IC 1)) (by decide)); subst ix0; clear f19)
  | (have ix0 : n9 = hV H1 285 55 - 1 := Eq.trans f19 (w32_id (by omega) (by omega)); subst ix0; clear f19)
  | (unfold w32 at f19; have ix0 : n9 = hV H1 285 55 - 1 := (by omega); subst ix0)
  | skip
  first
  | (have ix1 : n14 = hV H1 285 55 - 1 := Eq.trans f30 (w32_iv (Isu (Iat f10 f9) (IC 1)) (by decide)); subst ix1; clear f30)
  | (have ix1 : n14 = hV H1 285 55 - 1 := Eq.trans f30 (w32_id (by omega) (by omega)); subst ix1; clear f30)
  | (unfold w32 at f30; have ix1 : n14 = hV H1 285 55 - 1 := (by omega); subst ix1)
  | skip
  try unfold w32 at f19
  try unfold w32 at f30

  have wp := wo_pop (w := hV H0 322) (n := hV H1 285 55) (by omega)
  have wl := wo_le (w := hV H0 322) (hV H1 285 55 - 1).toNat
  refine ⟨⟨?_, ?_, ?_, ?_⟩, fun q hq => ?_⟩
  · first | trivial | omega
  · rw [r0_1, r0_2]
    exact RR_emit y0 (by omega) (by omega) (by omega) (by omega) (by omega) (by omega) (by omega) (by omega)
  · rw [r0_1, r0_2]
    exact CO_step y1 (by omega) (by omega) (by omega) (.inr ⟨by omega, by omega, by omega⟩)
  · first
    | omega
    | (refine ⟨?_, ?_, ?_⟩ <;> first | exact True.intro | omega)
  · have g6 := Option.some.inj hq
    subst g6
    omega
def g_235_0_8 : vG := ([(1234, [2, 19, 20], [2, 3], 0), (0, [20], [], 0), (0, [19], [], 4), (40, [10, 18], [], 0), (0, [18], [], 10), (41, [10, 17], [], 0), (0, [17], [], 9), (41, [10, 16], [], 0), (0, [16], [], 8), (80, [2, 15, 14], [2, 1], 0), (0, [15], [], 55), (2, [14, 12, 13], [], 0), (0, [13], [], 1), (20, [12, 2], [1], 55), (90, [12], [], 0), (91, [12], [], 64), (30, [3], [], 0), (41, [10, 11], [], 0), (0, [11], [], 6), (22, [10, 6, 9], [1], 0), (90, [10], [], 0), (91, [10], [], 53), (2, [9, 7, 8], [], 0), (0, [8], [], 1), (20, [7, 2], [1], 55), (90, [7], [], 0), (91, [7], [], 64), (20, [6, 2], [1], 54), (0, [6], [], 322), (34, [5], [], 0), (20, [5, 2], [1], 55), (90, [5], [], 0), (91, [5], [], 64), (5000, [0, 1, 2, 3, 4], [0, 1], 0), (0, [0], [], 285), (90, [1], [], 0), (91, [1], [], 1), (0, [2], [], 285), (90, [3], [], 0), (91, [3], [], 1), (90, [4], [], -2147483648), (91, [4], [], 2147483647)], (4000, [2, 3, 10], [3], 0))
theorem c_235_0_8 {q0 : Nat} : vOkm T0 (eP e_235 L_235 A_235 mu_235 (some q0)) 2 g_235_0_8 := vOk_inI fun ρ η f0 f1 f2 f3 f4 f5 f6 f7 f8 f9 f10 f11 f12 f13 f14 f15 f16 f17 f18 f19 f20 f21 f22 f23 f24 f25 f26 f27 f28 f29 f30 f31 f32 f33 f34 f35 f36 f37 f38 f39 f40 f41 => q_235_31 (q0 := q0) (n0 := ρ 4) (n1 := ρ 3) (n2 := ρ 2) (n3 := ρ 1) (n4 := ρ 0) (n5 := ρ 5) (n6 := ρ 6) (n7 := ρ 7) (n8 := ρ 8) (n9 := ρ 9) (n10 := ρ 10) (n11 := ρ 11) (n12 := ρ 12) (n13 := ρ 13) (n14 := ρ 14) (n15 := ρ 15) (n16 := ρ 16) (n17 := ρ 17) (n18 := ρ 18) (n19 := ρ 19) (n20 := ρ 20) (H0 := η 0) (H1 := η 1) (H2 := η 2) (H3 := η 3) f41 f40 f39 f38 f37 f36 f35 f34 f33 f32 f31 f30 f29 f28 f27 f26 f25 f24 f23 f22 f21 f20 f19 f18 f17 f16 f15 f14 f13 f12 f11 f10 f9 f8 f7 f6 f5 f4 f3 f2 f1 f0
theorem q_235_32 {q0 : Nat} {n0 n1 n2 n3 n4 n5 n6 n7 n8 n9 n10 n11 n12 n13 n14 n15 n16 n17 n18 n19 : Int} {H0 H1 H2 : gH} (f0 : n0 ≤ 2147483647) (f1 : (-2147483648) ≤ n0) (f2 : n1 ≤ 1) (f3 : 0 ≤ n1) (f4 : n2 = 285) (f5 : n3 ≤ 1) (f6 : 0 ≤ n3) (f7 : n4 = 285) (f8 : (hLe T0 H0 H1 ∧ hFr s_235.2.2.2.2 H0 H1 ∧ hWt T0 H1) ∧ (Ab_235_0 n4 n3 n2 n1 n0 H0 H1 ∧ preb_235 n4 n3 H0) ∧ some q0 = some (mub_235_0 n4 n3 n2 n1 n0 H0 H1)) (f9 : n5 ≤ 64) (f10 : 0 ≤ n5) (f11 : n5 = hV H1 (n2).toNat 55) (f12 : 0 < n5) (f13 : n6 = 322) (f14 : n6 = hV H1 (n2).toNat 54) (f15 : n7 ≤ 64) (f16 : 0 ≤ n7) (f17 : n7 = hV H1 (n2).toNat 55) (f18 : n8 = 1) (f19 : n9 = w32 (n7 - n8)) (f20 : n10 ≤ 53) (f21 : 0 ≤ n10) (f22 : n10 = hV H1 (n6).toNat (n9).toNat) (f23 : n11 = 6) (f24 : n10 ≠ n11) (f25 : n1 = 0) (f26 : n12 ≤ 64) (f27 : 0 ≤ n12) (f28 : n12 = hV H1 (n2).toNat 55) (f29 : n13 = 1) (f30 : n14 = w32 (n12 - n13)) (f31 : n15 = 55) (f32 : hUpd H2 H1 n2 n15 n14) (f33 : n16 = 8) (f34 : n10 ≠ n16) (f35 : n17 = 9) (f36 : n10 = n17) (f37 : n18 = 3) (f38 : n19 = 0) : preb_234 n2 n18 n19 H2 := by
  have g4 := f8.2.1.1
  unfold Ab_235_0 at g4
  have g3 := f8.2.1.2
  unfold preb_235 at g3
  unfold preb_234
  have e0 : n5 = hV H1 285 55 := (by rw [f4] at f11; exact f11 : n5 = hV H1 285 55)
  have e1 : n7 = hV H1 285 55 := (by rw [f4] at f17; exact f17 : n7 = hV H1 285 55)
  have e2 : hV H1 322 = hV H0 322 := fRow f8.1.2.1 322 kR_235_322
  have e3 : n10 = hV H0 322 (n9).toNat := (by rw [f13] at f22; exact f22 : n10 = hV H1 322 (n9).toNat).trans ((congrFun e2 _))
  have e4 : n12 = hV H1 285 55 := (by rw [f4] at f28; exact f28 : n12 = hV H1 285 55)
  have e10 : hV H2 285 51 = hV H1 285 51 := (uSlot f32 285 51 (iS (show n15 = ((55 : Nat) : Int) from f31) rfl))
  have e11 : (0 : Int) ≤ hV H0 285 34 ∧ hV H0 285 34 ≤ 1 := bTo ((f8.1.2.1.1 285 34 kF_235_285_34)) (f8.1.2.2 285 34 _ _ kW_285_34)
  have e12 : (0 : Int) ≤ hV H0 285 35 ∧ hV H0 285 35 ≤ 1 := bTo ((f8.1.2.1.1 285 35 kF_235_285_35)) (f8.1.2.2 285 35 _ _ kW_285_35)
  have e13 : (0 : Int) ≤ hV H1 285 51 ∧ hV H1 285 51 ≤ 1200 := f8.1.2.2 285 51 _ _ kW_285_51
  have e14 : (0 : Int) ≤ hV H1 285 55 ∧ hV H1 285 55 ≤ 64 := f8.1.2.2 285 55 _ _ kW_285_55
  try simp only [e10]
  have k0 := g4.1
  have y0 := g4.2.1
  have y1 := g4.2.2.1
  have y2 := g4.2.2.2.1
  have y3 := g4.2.2.2.2.1
  have y4 := g4.2.2.2.2.2
  have p0 := g3.1
  have p1 := g3.2.1
  have p2 := g3.2.2.1
  have p3 := g3.2.2.2
  try simp only [e2] at y1
  try simp only [e2] at y4
  clear g3
  clear g4
  clear f11 f14 f17 f22 f28 e2 e10
  clear f8
  subst e0
  subst e1
  subst e3
  subst e4
  first
  | (have ix0 : n9 = hV H1 285 55 - 1 := Eq.trans f19 (w32_iv (Isu (Iat f10 f9) (IC 1)) (by decide)); subst ix0; clear f19)
  | (have ix0 : n9 = hV H1 285 55 - 1 := Eq.trans f19 (w32_id (by omega) (by omega)); subst ix0; clear f19)
  | (unfold w32 at f19; have ix0 : n9 = hV H1 285 55 - 1 := (by omega); subst ix0)
  | skip
  first
  | (have ix1 : n14 = hV H1 285 55 - 1 := Eq.trans f30 (w32_iv (Isu (Iat f10 f9) (IC 1)) (by decide)); subst ix1; clear f30)
  | (have ix1 : n14 = hV H1 285 55 - 1 := Eq.trans f30 (w32_id (by omega) (by omega)); subst ix1; clear f30)
  | (unfold w32 at f30; have ix1 : n14 = hV H1 285 55 - 1 := (by omega); subst ix1)
  | skip
  try unfold w32 at f19
  try unfold w32 at f30

  have wp := wo_pop (w := hV H0 322) (n := hV H1 285 55) (by omega)
  have wl := wo_le (w := hV H0 322) (hV H1 285 55 - 1).toNat
  omega
def g_235_0_9 : vG := ([(0, [19], [], 0), (0, [18], [], 3), (40, [10, 17], [], 0), (0, [17], [], 9), (41, [10, 16], [], 0), (0, [16], [], 8), (80, [2, 15, 14], [2, 1], 0), (0, [15], [], 55), (2, [14, 12, 13], [], 0), (0, [13], [], 1), (20, [12, 2], [1], 55), (90, [12], [], 0), (91, [12], [], 64), (30, [3], [], 0), (41, [10, 11], [], 0), (0, [11], [], 6), (22, [10, 6, 9], [1], 0), (90, [10], [], 0), (91, [10], [], 53), (2, [9, 7, 8], [], 0), (0, [8], [], 1), (20, [7, 2], [1], 55), (90, [7], [], 0), (91, [7], [], 64), (20, [6, 2], [1], 54), (0, [6], [], 322), (34, [5], [], 0), (20, [5, 2], [1], 55), (90, [5], [], 0), (91, [5], [], 64), (5000, [0, 1, 2, 3, 4], [0, 1], 0), (0, [0], [], 285), (90, [1], [], 0), (91, [1], [], 1), (0, [2], [], 285), (90, [3], [], 0), (91, [3], [], 1), (90, [4], [], -2147483648), (91, [4], [], 2147483647)], (2234, [2, 18, 19], [2], 0))
theorem c_235_0_9 {q0 : Nat} : vOkm T0 (eP e_235 L_235 A_235 mu_235 (some q0)) 2 g_235_0_9 := vOk_inI fun ρ η f0 f1 f2 f3 f4 f5 f6 f7 f8 f9 f10 f11 f12 f13 f14 f15 f16 f17 f18 f19 f20 f21 f22 f23 f24 f25 f26 f27 f28 f29 f30 f31 f32 f33 f34 f35 f36 f37 f38 => q_235_32 (q0 := q0) (n0 := ρ 4) (n1 := ρ 3) (n2 := ρ 2) (n3 := ρ 1) (n4 := ρ 0) (n5 := ρ 5) (n6 := ρ 6) (n7 := ρ 7) (n8 := ρ 8) (n9 := ρ 9) (n10 := ρ 10) (n11 := ρ 11) (n12 := ρ 12) (n13 := ρ 13) (n14 := ρ 14) (n15 := ρ 15) (n16 := ρ 16) (n17 := ρ 17) (n18 := ρ 18) (n19 := ρ 19) (H0 := η 0) (H1 := η 1) (H2 := η 2) f38 f37 f36 f35 f34 f33 f32 f31 f30 f29 f28 f27 f26 f25 f24 f23 f22 f21 f20 f19 f18 f17 f16 f15 f14 f13 f12 f11 f10 f9 f8 f7 f6 f5 f4 f3 f2 f1 f0
theorem q_235_33 {q0 : Nat} {n0 n1 n2 n3 n4 n5 n6 n7 n8 n9 n10 n11 n12 n13 n14 n15 n16 n17 n18 n19 : Int} {H0 H1 H2 H3 : gH} (f0 : n0 ≤ 2147483647) (f1 : (-2147483648) ≤ n0) (f2 : n1 ≤ 1) (f3 : 0 ≤ n1) (f4 : n2 = 285) (f5 : n3 ≤ 1) (f6 : 0 ≤ n3) (f7 : n4 = 285) (f8 : (hLe T0 H0 H1 ∧ hFr s_235.2.2.2.2 H0 H1 ∧ hWt T0 H1) ∧ (Ab_235_0 n4 n3 n2 n1 n0 H0 H1 ∧ preb_235 n4 n3 H0) ∧ some q0 = some (mub_235_0 n4 n3 n2 n1 n0 H0 H1)) (f9 : n5 ≤ 64) (f10 : 0 ≤ n5) (f11 : n5 = hV H1 (n2).toNat 55) (f12 : 0 < n5) (f13 : n6 = 322) (f14 : n6 = hV H1 (n2).toNat 54) (f15 : n7 ≤ 64) (f16 : 0 ≤ n7) (f17 : n7 = hV H1 (n2).toNat 55) (f18 : n8 = 1) (f19 : n9 = w32 (n7 - n8)) (f20 : n10 ≤ 53) (f21 : 0 ≤ n10) (f22 : n10 = hV H1 (n6).toNat (n9).toNat) (f23 : n11 = 6) (f24 : n10 ≠ n11) (f25 : n1 = 0) (f26 : n12 ≤ 64) (f27 : 0 ≤ n12) (f28 : n12 = hV H1 (n2).toNat 55) (f29 : n13 = 1) (f30 : n14 = w32 (n12 - n13)) (f31 : n15 = 55) (f32 : hUpd H2 H1 n2 n15 n14) (f33 : n16 = 8) (f34 : n10 ≠ n16) (f35 : n17 = 9) (f36 : n10 = n17) (f37 : n18 = 3) (f38 : n19 = 0) (f39 : (hLe T0 H2 H3 ∧ hFr s_234.2.2.2.2 H2 H3 ∧ ((0 : Int) = 0 → H3.length = H2.length) ∧ hWt T0 H3) ∧ postb_234 n2 n18 n19 H2 H3) : Ab_235_0 n4 n3 n2 n1 n10 H0 H3 ∧ ∀ q, some q0 = some q → mub_235_0 n4 n3 n2 n1 n10 H0 H3 < q := by
  have g4 := f8.2.1.1
  unfold Ab_235_0 at g4
  have g3 := f8.2.1.2
  unfold preb_235 at g3
  have g5 := Option.some.inj f8.2.2
  unfold mub_235_0 at g5
  unfold postb_234 at f39
  unfold Ab_235_0
  unfold mub_235_0
  have e0 : n5 = hV H1 285 55 := (by rw [f4] at f11; exact f11 : n5 = hV H1 285 55)
  have e1 : n7 = hV H1 285 55 := (by rw [f4] at f17; exact f17 : n7 = hV H1 285 55)
  have e2 : hV H1 322 = hV H0 322 := fRow f8.1.2.1 322 kR_235_322
  have e3 : n10 = hV H0 322 (n9).toNat := (by rw [f13] at f22; exact f22 : n10 = hV H1 322 (n9).toNat).trans ((congrFun e2 _))
  have e4 : n12 = hV H1 285 55 := (by rw [f4] at f28; exact f28 : n12 = hV H1 285 55)
  have e6 : hV H1 285 34 = hV H0 285 34 := (f8.1.2.1.1 285 34 kF_235_285_34)
  have e8 : hV H1 285 35 = hV H0 285 35 := (f8.1.2.1.1 285 35 kF_235_285_35)
  have e10 : hV H1 285 44 = hV H0 285 44 := (f8.1.2.1.1 285 44 kF_235_285_44)
  have e11 : hV H1 306 = hV H0 306 := fRow f8.1.2.1 306 kR_235_306
  have e12 : hV H1 307 = hV H0 307 := fRow f8.1.2.1 307 kR_235_307
  have e13 : hV H1 308 = hV H0 308 := fRow f8.1.2.1 308 kR_235_308
  have e14 : hV H1 309 = hV H0 309 := fRow f8.1.2.1 309 kR_235_309
  have e15 : hV H1 310 = hV H0 310 := fRow f8.1.2.1 310 kR_235_310
  have e16 : hV H1 311 = hV H0 311 := fRow f8.1.2.1 311 kR_235_311
  have e17 : hV H1 317 = hV H0 317 := fRow f8.1.2.1 317 kR_235_317
  have e18 : hV H1 318 = hV H0 318 := fRow f8.1.2.1 318 kR_235_318
  have e19 : hV H1 319 = hV H0 319 := fRow f8.1.2.1 319 kR_235_319
  have e21 : hV H2 285 51 = hV H1 285 51 := (uSlot f32 285 51 (iS (show n15 = ((55 : Nat) : Int) from f31) rfl))
  have e22 : hV H2 320 = hV H1 320 := uRowNe f32 320 (iS (show n2 = ((285 : Nat) : Int) from f4) rfl)
  have e23 : hV H2 321 = hV H1 321 := uRowNe f32 321 (iS (show n2 = ((285 : Nat) : Int) from f4) rfl)
  have e26 : hV H3 285 34 = hV H0 285 34 := ((f39.1.2.1.1 285 34 kF_234_285_34)).trans (((uSlot f32 285 34 (iS (show n15 = ((55 : Nat) : Int) from f31) rfl))).trans (f8.1.2.1.1 285 34 kF_235_285_34))
  have e29 : hV H3 285 35 = hV H0 285 35 := ((f39.1.2.1.1 285 35 kF_234_285_35)).trans (((uSlot f32 285 35 (iS (show n15 = ((55 : Nat) : Int) from f31) rfl))).trans (f8.1.2.1.1 285 35 kF_235_285_35))
  have e32 : hV H3 285 44 = hV H0 285 44 := ((f39.1.2.1.1 285 44 kF_234_285_44)).trans (((uSlot f32 285 44 (iS (show n15 = ((55 : Nat) : Int) from f31) rfl))).trans (f8.1.2.1.1 285 44 kF_235_285_44))
  have e35 : hV H3 285 55 = n14 := ((f39.1.2.1.1 285 55 kF_234_285_55)).trans (uSame f32 285 55 f4.symm f31.symm)
  have e39 : hV H3 306 = hV H0 306 := (fRow f39.1.2.1 306 kR_234_306).trans ((uRowNe f32 306 (iS (show n2 = ((285 : Nat) : Int) from f4) rfl)).trans e11)
  have e43 : hV H3 307 = hV H0 307 := (fRow f39.1.2.1 307 kR_234_307).trans ((uRowNe f32 307 (iS (show n2 = ((285 : Nat) : Int) from f4) rfl)).trans e12)
  have e47 : hV H3 308 = hV H0 308 := (fRow f39.1.2.1 308 kR_234_308).trans ((uRowNe f32 308 (iS (show n2 = ((285 : Nat) : Int) from f4) rfl)).trans e13)
  have e51 : hV H3 309 = hV H0 309 := (fRow f39.1.2.1 309 kR_234_309).trans ((uRowNe f32 309 (iS (show n2 = ((285 : Nat) : Int) from f4) rfl)).trans e14)
  have e55 : hV H3 310 = hV H0 310 := (fRow f39.1.2.1 310 kR_234_310).trans ((uRowNe f32 310 (iS (show n2 = ((285 : Nat) : Int) from f4) rfl)).trans e15)
  have e59 : hV H3 311 = hV H0 311 := (fRow f39.1.2.1 311 kR_234_311).trans ((uRowNe f32 311 (iS (show n2 = ((285 : Nat) : Int) from f4) rfl)).trans e16)
  have e63 : hV H3 317 = hV H0 317 := (fRow f39.1.2.1 317 kR_234_317).trans ((uRowNe f32 317 (iS (show n2 = ((285 : Nat) : Int) from f4) rfl)).trans e17)
  have e67 : hV H3 318 = hV H0 318 := (fRow f39.1.2.1 318 kR_234_318).trans ((uRowNe f32 318 (iS (show n2 = ((285 : Nat) : Int) from f4) rfl)).trans e18)
  have e71 : hV H3 319 = hV H0 319 := (fRow f39.1.2.1 319 kR_234_319).trans ((uRowNe f32 319 (iS (show n2 = ((285 : Nat) : Int) from f4) rfl)).trans e19)
  have e75 : hV H3 322 = hV H0 322 := (fRow f39.1.2.1 322 kR_234_322).trans ((uRowNe f32 322 (iS (show n2 = ((285 : Nat) : Int) from f4) rfl)).trans e2)
  have e76 : (0 : Int) ≤ hV H0 285 34 ∧ hV H0 285 34 ≤ 1 := bTo e6 (f8.1.2.2 285 34 _ _ kW_285_34)
  have e77 : (0 : Int) ≤ hV H0 285 35 ∧ hV H0 285 35 ≤ 1 := bTo e8 (f8.1.2.2 285 35 _ _ kW_285_35)
  have e78 : (0 : Int) ≤ hV H0 285 44 ∧ hV H0 285 44 ≤ 400 := bTo e10 (f8.1.2.2 285 44 _ _ kW_285_44)
  have e79 : (0 : Int) ≤ hV H1 285 51 ∧ hV H1 285 51 ≤ 1200 := f8.1.2.2 285 51 _ _ kW_285_51
  have e80 : (0 : Int) ≤ hV H1 285 55 ∧ hV H1 285 55 ≤ 64 := f8.1.2.2 285 55 _ _ kW_285_55
  have e84 : (0 : Int) ≤ hV H3 285 51 ∧ hV H3 285 51 ≤ 1200 := f39.1.2.2.2 285 51 _ _ kW_285_51
  have e85 : (0 : Int) ≤ hV H3 285 55 ∧ hV H3 285 55 ≤ 64 := f39.1.2.2.2 285 55 _ _ kW_285_55
  try simp only [RR]
  try simp only [e35] at e85
  try simp only [e26, e29, e32, e35, e39, e43, e47, e51, e55, e59, e63, e67, e71, e75]
  have k0 := g4.1
  have y0 := g4.2.1
  have y1 := g4.2.2.1
  have y2 := g4.2.2.2.1
  have y3 := g4.2.2.2.2.1
  have y4 := g4.2.2.2.2.2
  have p0 := g3.1
  have p1 := g3.2.1
  have p2 := g3.2.2.1
  have p3 := g3.2.2.2
  have r0_0 := f39.2.1
  have r0_1 := f39.2.2.1
  have r0_2 := f39.2.2.2
  try simp only [RR] at y0
  try simp only [RR] at p0
  try simp only [e6, e8, e10, e11, e12, e13, e14, e15, e16, e17, e18, e19] at y0
  try simp only [e2] at y1
  try simp only [e2] at y4
  try simp only [e21] at r0_0
  try simp only [e21, e22] at r0_1
  try simp only [e21, e23] at r0_2
  clear g3
  clear g4
  clear f11 f14 f17 f22 f28 e2 e6 e8 e10 e11 e12 e13 e14 e15 e16 e17 e18 e19 e21 e22 e23 e26 e29 e32 e39 e43 e47 e51 e55 e59 e63 e67 e71 e75
  clear f8 f39
  subst e0
  subst e1
  subst e3
  subst e4
  first
  | (have ix0 : n9 = hV H1 285 55 - 1 := Eq.trans f19 (w32_iv (Isu (Iat f10 f9) (IC 1)) (by decide)); subst ix0; clear f19)
  | (have ix0 : n9 = hV H1 285 55 - 1 := Eq.trans f19 (w32_id (by omega) (by omega)); subst ix0; clear f19)
  | (unfold w32 at f19; have ix0 : n9 = hV H1 285 55 - 1 := (by omega); subst ix0)
  | skip
  first
  | (have ix1 : n14 = hV H1 285 55 - 1 := Eq.trans f30 (w32_iv (Isu (Iat f10 f9) (IC 1)) (by decide)); subst ix1; clear f30)
  | (have ix1 : n14 = hV H1 285 55 - 1 := Eq.trans f30 (w32_id (by omega) (by omega)); subst ix1; clear f30)
  | (unfold w32 at f30; have ix1 : n14 = hV H1 285 55 - 1 := (by omega); subst ix1)
  | skip
  try unfold w32 at f19
  try unfold w32 at f30

  have wp := wo_pop (w := hV H0 322) (n := hV H1 285 55) (by omega)
  have wl := wo_le (w := hV H0 322) (hV H1 285 55 - 1).toNat
  refine ⟨⟨?_, ?_, ?_, ?_⟩, fun q hq => ?_⟩
  · first | trivial | omega
  · rw [r0_1, r0_2]
    exact RR_emit y0 (by omega) (by omega) (by omega) (by omega) (by omega) (by omega) (by omega) (by omega)
  · rw [r0_1, r0_2]
    exact CO_step y1 (by omega) (by omega) (by omega) (.inr ⟨by omega, by omega, by omega⟩)
  · first
    | omega
    | (refine ⟨?_, ?_, ?_⟩ <;> first | exact True.intro | omega)
  · have g6 := Option.some.inj hq
    subst g6
    omega
def g_235_0_10 : vG := ([(1234, [2, 18, 19], [2, 3], 0), (0, [19], [], 0), (0, [18], [], 3), (40, [10, 17], [], 0), (0, [17], [], 9), (41, [10, 16], [], 0), (0, [16], [], 8), (80, [2, 15, 14], [2, 1], 0), (0, [15], [], 55), (2, [14, 12, 13], [], 0), (0, [13], [], 1), (20, [12, 2], [1], 55), (90, [12], [], 0), (91, [12], [], 64), (30, [3], [], 0), (41, [10, 11], [], 0), (0, [11], [], 6), (22, [10, 6, 9], [1], 0), (90, [10], [], 0), (91, [10], [], 53), (2, [9, 7, 8], [], 0), (0, [8], [], 1), (20, [7, 2], [1], 55), (90, [7], [], 0), (91, [7], [], 64), (20, [6, 2], [1], 54), (0, [6], [], 322), (34, [5], [], 0), (20, [5, 2], [1], 55), (90, [5], [], 0), (91, [5], [], 64), (5000, [0, 1, 2, 3, 4], [0, 1], 0), (0, [0], [], 285), (90, [1], [], 0), (91, [1], [], 1), (0, [2], [], 285), (90, [3], [], 0), (91, [3], [], 1), (90, [4], [], -2147483648), (91, [4], [], 2147483647)], (4000, [2, 3, 10], [3], 0))
theorem c_235_0_10 {q0 : Nat} : vOkm T0 (eP e_235 L_235 A_235 mu_235 (some q0)) 2 g_235_0_10 := vOk_inI fun ρ η f0 f1 f2 f3 f4 f5 f6 f7 f8 f9 f10 f11 f12 f13 f14 f15 f16 f17 f18 f19 f20 f21 f22 f23 f24 f25 f26 f27 f28 f29 f30 f31 f32 f33 f34 f35 f36 f37 f38 f39 => q_235_33 (q0 := q0) (n0 := ρ 4) (n1 := ρ 3) (n2 := ρ 2) (n3 := ρ 1) (n4 := ρ 0) (n5 := ρ 5) (n6 := ρ 6) (n7 := ρ 7) (n8 := ρ 8) (n9 := ρ 9) (n10 := ρ 10) (n11 := ρ 11) (n12 := ρ 12) (n13 := ρ 13) (n14 := ρ 14) (n15 := ρ 15) (n16 := ρ 16) (n17 := ρ 17) (n18 := ρ 18) (n19 := ρ 19) (H0 := η 0) (H1 := η 1) (H2 := η 2) (H3 := η 3) f39 f38 f37 f36 f35 f34 f33 f32 f31 f30 f29 f28 f27 f26 f25 f24 f23 f22 f21 f20 f19 f18 f17 f16 f15 f14 f13 f12 f11 f10 f9 f8 f7 f6 f5 f4 f3 f2 f1 f0
theorem q_235_34 {q0 : Nat} {n0 n1 n2 n3 n4 n5 n6 n7 n8 n9 n10 n11 n12 n13 n14 n15 n16 n17 n18 : Int} {H0 H1 H2 : gH} (f0 : n0 ≤ 2147483647) (f1 : (-2147483648) ≤ n0) (f2 : n1 ≤ 1) (f3 : 0 ≤ n1) (f4 : n2 = 285) (f5 : n3 ≤ 1) (f6 : 0 ≤ n3) (f7 : n4 = 285) (f8 : (hLe T0 H0 H1 ∧ hFr s_235.2.2.2.2 H0 H1 ∧ hWt T0 H1) ∧ (Ab_235_0 n4 n3 n2 n1 n0 H0 H1 ∧ preb_235 n4 n3 H0) ∧ some q0 = some (mub_235_0 n4 n3 n2 n1 n0 H0 H1)) (f9 : n5 ≤ 64) (f10 : 0 ≤ n5) (f11 : n5 = hV H1 (n2).toNat 55) (f12 : 0 < n5) (f13 : n6 = 322) (f14 : n6 = hV H1 (n2).toNat 54) (f15 : n7 ≤ 64) (f16 : 0 ≤ n7) (f17 : n7 = hV H1 (n2).toNat 55) (f18 : n8 = 1) (f19 : n9 = w32 (n7 - n8)) (f20 : n10 ≤ 53) (f21 : 0 ≤ n10) (f22 : n10 = hV H1 (n6).toNat (n9).toNat) (f23 : n11 = 6) (f24 : n10 ≠ n11) (f25 : n1 = 0) (f26 : n12 ≤ 64) (f27 : 0 ≤ n12) (f28 : n12 = hV H1 (n2).toNat 55) (f29 : n13 = 1) (f30 : n14 = w32 (n12 - n13)) (f31 : n15 = 55) (f32 : hUpd H2 H1 n2 n15 n14) (f33 : n16 = 8) (f34 : n10 = n16) (f35 : n17 = 2) (f36 : n18 = 0) : preb_234 n2 n17 n18 H2 := by
  have g4 := f8.2.1.1
  unfold Ab_235_0 at g4
  have g3 := f8.2.1.2
  unfold preb_235 at g3
  unfold preb_234
  have e0 : n5 = hV H1 285 55 := (by rw [f4] at f11; exact f11 : n5 = hV H1 285 55)
  have e1 : n7 = hV H1 285 55 := (by rw [f4] at f17; exact f17 : n7 = hV H1 285 55)
  have e2 : hV H1 322 = hV H0 322 := fRow f8.1.2.1 322 kR_235_322
  have e3 : n10 = hV H0 322 (n9).toNat := (by rw [f13] at f22; exact f22 : n10 = hV H1 322 (n9).toNat).trans ((congrFun e2 _))
  have e4 : n12 = hV H1 285 55 := (by rw [f4] at f28; exact f28 : n12 = hV H1 285 55)
  have e10 : hV H2 285 51 = hV H1 285 51 := (uSlot f32 285 51 (iS (show n15 = ((55 : Nat) : Int) from f31) rfl))
  have e11 : (0 : Int) ≤ hV H0 285 34 ∧ hV H0 285 34 ≤ 1 := bTo ((f8.1.2.1.1 285 34 kF_235_285_34)) (f8.1.2.2 285 34 _ _ kW_285_34)
  have e12 : (0 : Int) ≤ hV H0 285 35 ∧ hV H0 285 35 ≤ 1 := bTo ((f8.1.2.1.1 285 35 kF_235_285_35)) (f8.1.2.2 285 35 _ _ kW_285_35)
  have e13 : (0 : Int) ≤ hV H1 285 51 ∧ hV H1 285 51 ≤ 1200 := f8.1.2.2 285 51 _ _ kW_285_51
  have e14 : (0 : Int) ≤ hV H1 285 55 ∧ hV H1 285 55 ≤ 64 := f8.1.2.2 285 55 _ _ kW_285_55
  try simp only [e10]
  have k0 := g4.1
  have y0 := g4.2.1
  have y1 := g4.2.2.1
  have y2 := g4.2.2.2.1
  have y3 := g4.2.2.2.2.1
  have y4 := g4.2.2.2.2.2
  have p0 := g3.1
  have p1 := g3.2.1
  have p2 := g3.2.2.1
  have p3 := g3.2.2.2
  try simp only [e2] at y1
  try simp only [e2] at y4
  clear g3
  clear g4
  clear f11 f14 f17 f22 f28 e2 e10
  clear f8
  subst e0
  subst e1
  subst e3
  subst e4
  first
  | (have ix0 : n9 = hV H1 285 55 - 1 := Eq.trans f19 (w32_iv (Isu (Iat f10 f9) (IC 1)) (by decide)); subst ix0; clear f19)
  | (have ix0 : n9 = hV H1 285 55 - 1 := Eq.trans f19 (w32_id (by omega) (by omega)); subst ix0; clear f19)
  | (unfold w32 at f19; have ix0 : n9 = hV H1 285 55 - 1 := (by omega); subst ix0)
  | skip
  first
  | (have ix1 : n14 = hV H1 285 55 - 1 := Eq.trans f30 (w32_iv (Isu (Iat f10 f9) (IC 1)) (by decide)); subst ix1; clear f30)
  | (have ix1 : n14 = hV H1 285 55 - 1 := Eq.trans f30 (w32_id (by omega) (by omega)); subst ix1; clear f30)
  | (unfold w32 at f30; have ix1 : n14 = hV H1 285 55 - 1 := (by omega); subst ix1)
  | skip
  try unfold w32 at f19
  try unfold w32 at f30

  have wp := wo_pop (w := hV H0 322) (n := hV H1 285 55) (by omega)
  have wl := wo_le (w := hV H0 322) (hV H1 285 55 - 1).toNat
  omega
def g_235_0_11 : vG := ([(0, [18], [], 0), (0, [17], [], 2), (40, [10, 16], [], 0), (0, [16], [], 8), (80, [2, 15, 14], [2, 1], 0), (0, [15], [], 55), (2, [14, 12, 13], [], 0), (0, [13], [], 1), (20, [12, 2], [1], 55), (90, [12], [], 0), (91, [12], [], 64), (30, [3], [], 0), (41, [10, 11], [], 0), (0, [11], [], 6), (22, [10, 6, 9], [1], 0), (90, [10], [], 0), (91, [10], [], 53), (2, [9, 7, 8], [], 0), (0, [8], [], 1), (20, [7, 2], [1], 55), (90, [7], [], 0), (91, [7], [], 64), (20, [6, 2], [1], 54), (0, [6], [], 322), (34, [5], [], 0), (20, [5, 2], [1], 55), (90, [5], [], 0), (91, [5], [], 64), (5000, [0, 1, 2, 3, 4], [0, 1], 0), (0, [0], [], 285), (90, [1], [], 0), (91, [1], [], 1), (0, [2], [], 285), (90, [3], [], 0), (91, [3], [], 1), (90, [4], [], -2147483648), (91, [4], [], 2147483647)], (2234, [2, 17, 18], [2], 0))
theorem c_235_0_11 {q0 : Nat} : vOkm T0 (eP e_235 L_235 A_235 mu_235 (some q0)) 2 g_235_0_11 := vOk_inI fun ρ η f0 f1 f2 f3 f4 f5 f6 f7 f8 f9 f10 f11 f12 f13 f14 f15 f16 f17 f18 f19 f20 f21 f22 f23 f24 f25 f26 f27 f28 f29 f30 f31 f32 f33 f34 f35 f36 => q_235_34 (q0 := q0) (n0 := ρ 4) (n1 := ρ 3) (n2 := ρ 2) (n3 := ρ 1) (n4 := ρ 0) (n5 := ρ 5) (n6 := ρ 6) (n7 := ρ 7) (n8 := ρ 8) (n9 := ρ 9) (n10 := ρ 10) (n11 := ρ 11) (n12 := ρ 12) (n13 := ρ 13) (n14 := ρ 14) (n15 := ρ 15) (n16 := ρ 16) (n17 := ρ 17) (n18 := ρ 18) (H0 := η 0) (H1 := η 1) (H2 := η 2) f36 f35 f34 f33 f32 f31 f30 f29 f28 f27 f26 f25 f24 f23 f22 f21 f20 f19 f18 f17 f16 f15 f14 f13 f12 f11 f10 f9 f8 f7 f6 f5 f4 f3 f2 f1 f0
theorem q_235_35 {q0 : Nat} {n0 n1 n2 n3 n4 n5 n6 n7 n8 n9 n10 n11 n12 n13 n14 n15 n16 n17 n18 : Int} {H0 H1 H2 H3 : gH} (f0 : n0 ≤ 2147483647) (f1 : (-2147483648) ≤ n0) (f2 : n1 ≤ 1) (f3 : 0 ≤ n1) (f4 : n2 = 285) (f5 : n3 ≤ 1) (f6 : 0 ≤ n3) (f7 : n4 = 285) (f8 : (hLe T0 H0 H1 ∧ hFr s_235.2.2.2.2 H0 H1 ∧ hWt T0 H1) ∧ (Ab_235_0 n4 n3 n2 n1 n0 H0 H1 ∧ preb_235 n4 n3 H0) ∧ some q0 = some (mub_235_0 n4 n3 n2 n1 n0 H0 H1)) (f9 : n5 ≤ 64) (f10 : 0 ≤ n5) (f11 : n5 = hV H1 (n2).toNat 55) (f12 : 0 < n5) (f13 : n6 = 322) (f14 : n6 = hV H1 (n2).toNat 54) (f15 : n7 ≤ 64) (f16 : 0 ≤ n7) (f17 : n7 = hV H1 (n2).toNat 55) (f18 : n8 = 1) (f19 : n9 = w32 (n7 - n8)) (f20 : n10 ≤ 53) (f21 : 0 ≤ n10) (f22 : n10 = hV H1 (n6).toNat (n9).toNat) (f23 : n11 = 6) (f24 : n10 ≠ n11) (f25 : n1 = 0) (f26 : n12 ≤ 64) (f27 : 0 ≤ n12) (f28 : n12 = hV H1 (n2).toNat 55) (f29 : n13 = 1) (f30 : n14 = w32 (n12 - n13)) (f31 : n15 = 55) (f32 : hUpd H2 H1 n2 n15 n14) (f33 : n16 = 8) (f34 : n10 = n16) (f35 : n17 = 2) (f36 : n18 = 0) (f37 : (hLe T0 H2 H3 ∧ hFr s_234.2.2.2.2 H2 H3 ∧ ((0 : Int) = 0 → H3.length = H2.length) ∧ hWt T0 H3) ∧ postb_234 n2 n17 n18 H2 H3) : Ab_235_0 n4 n3 n2 n1 n10 H0 H3 ∧ ∀ q, some q0 = some q → mub_235_0 n4 n3 n2 n1 n10 H0 H3 < q := by
  have g4 := f8.2.1.1
  unfold Ab_235_0 at g4
  have g3 := f8.2.1.2
  unfold preb_235 at g3
  have g5 := Option.some.inj f8.2.2
  unfold mub_235_0 at g5
  unfold postb_234 at f37
  unfold Ab_235_0
  unfold mub_235_0
  have e0 : n5 = hV H1 285 55 := (by rw [f4] at f11; exact f11 : n5 = hV H1 285 55)
  have e1 : n7 = hV H1 285 55 := (by rw [f4] at f17; exact f17 : n7 = hV H1 285 55)
  have e2 : hV H1 322 = hV H0 322 := fRow f8.1.2.1 322 kR_235_322
  have e3 : n10 = hV H0 322 (n9).toNat := (by rw [f13] at f22; exact f22 : n10 = hV H1 322 (n9).toNat).trans ((congrFun e2 _))
  have e4 : n12 = hV H1 285 55 := (by rw [f4] at f28; exact f28 : n12 = hV H1 285 55)
  have e6 : hV H1 285 34 = hV H0 285 34 := (f8.1.2.1.1 285 34 kF_235_285_34)
  have e8 : hV H1 285 35 = hV H0 285 35 := (f8.1.2.1.1 285 35 kF_235_285_35)
  have e10 : hV H1 285 44 = hV H0 285 44 := (f8.1.2.1.1 285 44 kF_235_285_44)
  have e11 : hV H1 306 = hV H0 306 := fRow f8.1.2.1 306 kR_235_306
  have e12 : hV H1 307 = hV H0 307 := fRow f8.1.2.1 307 kR_235_307
  have e13 : hV H1 308 = hV H0 308 := fRow f8.1.2.1 308 kR_235_308
  have e14 : hV H1 309 = hV H0 309 := fRow f8.1.2.1 309 kR_235_309
  have e15 : hV H1 310 = hV H0 310 := fRow f8.1.2.1 310 kR_235_310
  have e16 : hV H1 311 = hV H0 311 := fRow f8.1.2.1 311 kR_235_311
  have e17 : hV H1 317 = hV H0 317 := fRow f8.1.2.1 317 kR_235_317
  have e18 : hV H1 318 = hV H0 318 := fRow f8.1.2.1 318 kR_235_318
  have e19 : hV H1 319 = hV H0 319 := fRow f8.1.2.1 319 kR_235_319
  have e21 : hV H2 285 51 = hV H1 285 51 := (uSlot f32 285 51 (iS (show n15 = ((55 : Nat) : Int) from f31) rfl))
  have e22 : hV H2 320 = hV H1 320 := uRowNe f32 320 (iS (show n2 = ((285 : Nat) : Int) from f4) rfl)
  have e23 : hV H2 321 = hV H1 321 := uRowNe f32 321 (iS (show n2 = ((285 : Nat) : Int) from f4) rfl)
  have e26 : hV H3 285 34 = hV H0 285 34 := ((f37.1.2.1.1 285 34 kF_234_285_34)).trans (((uSlot f32 285 34 (iS (show n15 = ((55 : Nat) : Int) from f31) rfl))).trans (f8.1.2.1.1 285 34 kF_235_285_34))
  have e29 : hV H3 285 35 = hV H0 285 35 := ((f37.1.2.1.1 285 35 kF_234_285_35)).trans (((uSlot f32 285 35 (iS (show n15 = ((55 : Nat) : Int) from f31) rfl))).trans (f8.1.2.1.1 285 35 kF_235_285_35))
  have e32 : hV H3 285 44 = hV H0 285 44 := ((f37.1.2.1.1 285 44 kF_234_285_44)).trans (((uSlot f32 285 44 (iS (show n15 = ((55 : Nat) : Int) from f31) rfl))).trans (f8.1.2.1.1 285 44 kF_235_285_44))
  have e35 : hV H3 285 55 = n14 := ((f37.1.2.1.1 285 55 kF_234_285_55)).trans (uSame f32 285 55 f4.symm f31.symm)
  have e39 : hV H3 306 = hV H0 306 := (fRow f37.1.2.1 306 kR_234_306).trans ((uRowNe f32 306 (iS (show n2 = ((285 : Nat) : Int) from f4) rfl)).trans e11)
  have e43 : hV H3 307 = hV H0 307 := (fRow f37.1.2.1 307 kR_234_307).trans ((uRowNe f32 307 (iS (show n2 = ((285 : Nat) : Int) from f4) rfl)).trans e12)
  have e47 : hV H3 308 = hV H0 308 := (fRow f37.1.2.1 308 kR_234_308).trans ((uRowNe f32 308 (iS (show n2 = ((285 : Nat) : Int) from f4) rfl)).trans e13)
  have e51 : hV H3 309 = hV H0 309 := (fRow f37.1.2.1 309 kR_234_309).trans ((uRowNe f32 309 (iS (show n2 = ((285 : Nat) : Int) from f4) rfl)).trans e14)
  have e55 : hV H3 310 = hV H0 310 := (fRow f37.1.2.1 310 kR_234_310).trans ((uRowNe f32 310 (iS (show n2 = ((285 : Nat) : Int) from f4) rfl)).trans e15)
  have e59 : hV H3 311 = hV H0 311 := (fRow f37.1.2.1 311 kR_234_311).trans ((uRowNe f32 311 (iS (show n2 = ((285 : Nat) : Int) from f4) rfl)).trans e16)
  have e63 : hV H3 317 = hV H0 317 := (fRow f37.1.2.1 317 kR_234_317).trans ((uRowNe f32 317 (iS (show n2 = ((285 : Nat) : Int) from f4) rfl)).trans e17)
  have e67 : hV H3 318 = hV H0 318 := (fRow f37.1.2.1 318 kR_234_318).trans ((uRowNe f32 318 (iS (show n2 = ((285 : Nat) : Int) from f4) rfl)).trans e18)
  have e71 : hV H3 319 = hV H0 319 := (fRow f37.1.2.1 319 kR_234_319).trans ((uRowNe f32 319 (iS (show n2 = ((285 : Nat) : Int) from f4) rfl)).trans e19)
  have e75 : hV H3 322 = hV H0 322 := (fRow f37.1.2.1 322 kR_234_322).trans ((uRowNe f32 322 (iS (show n2 = ((285 : Nat) : Int) from f4) rfl)).trans e2)
  have e76 : (0 : Int) ≤ hV H0 285 34 ∧ hV H0 285 34 ≤ 1 := bTo e6 (f8.1.2.2 285 34 _ _ kW_285_34)
  have e77 : (0 : Int) ≤ hV H0 285 35 ∧ hV H0 285 35 ≤ 1 := bTo e8 (f8.1.2.2 285 35 _ _ kW_285_35)
  have e78 : (0 : Int) ≤ hV H0 285 44 ∧ hV H0 285 44 ≤ 400 := bTo e10 (f8.1.2.2 285 44 _ _ kW_285_44)
  have e79 : (0 : Int) ≤ hV H1 285 51 ∧ hV H1 285 51 ≤ 1200 := f8.1.2.2 285 51 _ _ kW_285_51
  have e80 : (0 : Int) ≤ hV H1 285 55 ∧ hV H1 285 55 ≤ 64 := f8.1.2.2 285 55 _ _ kW_285_55
  have e84 : (0 : Int) ≤ hV H3 285 51 ∧ hV H3 285 51 ≤ 1200 := f37.1.2.2.2 285 51 _ _ kW_285_51
  have e85 : (0 : Int) ≤ hV H3 285 55 ∧ hV H3 285 55 ≤ 64 := f37.1.2.2.2 285 55 _ _ kW_285_55
  try simp only [RR]
  try simp only [e35] at e85
  try simp only [e26, e29, e32, e35, e39, e43, e47, e51, e55, e59, e63, e67, e71, e75]
  have k0 := g4.1
  have y0 := g4.2.1
  have y1 := g4.2.2.1
  have y2 := g4.2.2.2.1
  have y3 := g4.2.2.2.2.1
  have y4 := g4.2.2.2.2.2
  have p0 := g3.1
  have p1 := g3.2.1
  have p2 := g3.2.2.1
  have p3 := g3.2.2.2
  have r0_0 := f37.2.1
  have r0_1 := f37.2.2.1
  have r0_2 := f37.2.2.2
  try simp only [RR] at y0
  try simp only [RR] at p0
  try simp only [e6, e8, e10, e11, e12, e13, e14, e15, e16, e17, e18, e19] at y0
  try simp only [e2] at y1
  try simp only [e2] at y4
  try simp only [e21] at r0_0
  try simp only [e21, e22] at r0_1
  try simp only [e21, e23] at r0_2
  clear g3
  clear g4
  clear f11 f14 f17 f22 f28 e2 e6 e8 e10 e11 e12 e13 e14 e15 e16 e17 e18 e19 e21 e22 e23 e26 e29 e32 e39 e43 e47 e51 e55 e59 e63 e67 e71 e75
  clear f8 f37
  subst e0
  subst e1
  subst e3
  subst e4
  first
  | (have ix0 : n9 = hV H1 285 55 - 1 := Eq.trans f19 (w32_iv (Isu (Iat f10 f9) (IC 1)) (by decide)); subst ix0; clear f19)
  | (have ix0 : n9 = hV H1 285 55 - 1 := Eq.trans f19 (w32_id (by omega) (by omega)); subst ix0; clear f19)
  | (unfold w32 at f19; have ix0 : n9 = hV H1 285 55 - 1 := (by omega); subst ix0)
  | skip
  first
  | (have ix1 : n14 = hV H1 285 55 - 1 := Eq.trans f30 (w32_iv (Isu (Iat f10 f9) (IC 1)) (by decide)); subst ix1; clear f30)
  | (have ix1 : n14 = hV H1 285 55 - 1 := Eq.trans f30 (w32_id (by omega) (by omega)); subst ix1; clear f30)
  | (unfold w32 at f30; have ix1 : n14 = hV H1 285 55 - 1 := (by omega); subst ix1)
  | skip
  try unfold w32 at f19
  try unfold w32 at f30

  have wp := wo_pop (w := hV H0 322) (n := hV H1 285 55) (by omega)
  have wl := wo_le (w := hV H0 322) (hV H1 285 55 - 1).toNat
  refine ⟨⟨?_, ?_, ?_, ?_⟩, fun q hq => ?_⟩
  · first | trivial | omega
  · rw [r0_1, r0_2]
    exact RR_emit y0 (by omega) (by omega) (by omega) (by omega) (by omega) (by omega) (by omega) (by omega)
  · rw [r0_1, r0_2]
    exact CO_step y1 (by omega) (by omega) (by omega) (.inr ⟨by omega, by omega, by omega⟩)
  · first
    | omega
    | (refine ⟨?_, ?_, ?_⟩ <;> first | exact True.intro | omega)
  · have g6 := Option.some.inj hq
    subst g6
    omega
def g_235_0_12 : vG := ([(1234, [2, 17, 18], [2, 3], 0), (0, [18], [], 0), (0, [17], [], 2), (40, [10, 16], [], 0), (0, [16], [], 8), (80, [2, 15, 14], [2, 1], 0), (0, [15], [], 55), (2, [14, 12, 13], [], 0), (0, [13], [], 1), (20, [12, 2], [1], 55), (90, [12], [], 0), (91, [12], [], 64), (30, [3], [], 0), (41, [10, 11], [], 0), (0, [11], [], 6), (22, [10, 6, 9], [1], 0), (90, [10], [], 0), (91, [10], [], 53), (2, [9, 7, 8], [], 0), (0, [8], [], 1), (20, [7, 2], [1], 55), (90, [7], [], 0), (91, [7], [], 64), (20, [6, 2], [1], 54), (0, [6], [], 322), (34, [5], [], 0), (20, [5, 2], [1], 55), (90, [5], [], 0), (91, [5], [], 64), (5000, [0, 1, 2, 3, 4], [0, 1], 0), (0, [0], [], 285), (90, [1], [], 0), (91, [1], [], 1), (0, [2], [], 285), (90, [3], [], 0), (91, [3], [], 1), (90, [4], [], -2147483648), (91, [4], [], 2147483647)], (4000, [2, 3, 10], [3], 0))
theorem c_235_0_12 {q0 : Nat} : vOkm T0 (eP e_235 L_235 A_235 mu_235 (some q0)) 2 g_235_0_12 := vOk_inI fun ρ η f0 f1 f2 f3 f4 f5 f6 f7 f8 f9 f10 f11 f12 f13 f14 f15 f16 f17 f18 f19 f20 f21 f22 f23 f24 f25 f26 f27 f28 f29 f30 f31 f32 f33 f34 f35 f36 f37 => q_235_35 (q0 := q0) (n0 := ρ 4) (n1 := ρ 3) (n2 := ρ 2) (n3 := ρ 1) (n4 := ρ 0) (n5 := ρ 5) (n6 := ρ 6) (n7 := ρ 7) (n8 := ρ 8) (n9 := ρ 9) (n10 := ρ 10) (n11 := ρ 11) (n12 := ρ 12) (n13 := ρ 13) (n14 := ρ 14) (n15 := ρ 15) (n16 := ρ 16) (n17 := ρ 17) (n18 := ρ 18) (H0 := η 0) (H1 := η 1) (H2 := η 2) (H3 := η 3) f37 f36 f35 f34 f33 f32 f31 f30 f29 f28 f27 f26 f25 f24 f23 f22 f21 f20 f19 f18 f17 f16 f15 f14 f13 f12 f11 f10 f9 f8 f7 f6 f5 f4 f3 f2 f1 f0
theorem q_235_36 {q0 : Nat} {n0 n1 n2 n3 n4 n5 n6 n7 n8 n9 n10 n11 n12 : Int} {H0 H1 : gH} (f0 : n0 ≤ 2147483647) (f1 : (-2147483648) ≤ n0) (f2 : n1 ≤ 1) (f3 : 0 ≤ n1) (f4 : n2 = 285) (f5 : n3 ≤ 1) (f6 : 0 ≤ n3) (f7 : n4 = 285) (f8 : (hLe T0 H0 H1 ∧ hFr s_235.2.2.2.2 H0 H1 ∧ hWt T0 H1) ∧ (Ab_235_0 n4 n3 n2 n1 n0 H0 H1 ∧ preb_235 n4 n3 H0) ∧ some q0 = some (mub_235_0 n4 n3 n2 n1 n0 H0 H1)) (f9 : n5 ≤ 64) (f10 : 0 ≤ n5) (f11 : n5 = hV H1 (n2).toNat 55) (f12 : 0 < n5) (f13 : n6 = 322) (f14 : n6 = hV H1 (n2).toNat 54) (f15 : n7 ≤ 64) (f16 : 0 ≤ n7) (f17 : n7 = hV H1 (n2).toNat 55) (f18 : n8 = 1) (f19 : n9 = w32 (n7 - n8)) (f20 : n10 ≤ 53) (f21 : 0 ≤ n10) (f22 : n10 = hV H1 (n6).toNat (n9).toNat) (f23 : n11 = 6) (f24 : n10 ≠ n11) (f25 : n1 ≠ 0) (f26 : n12 = 8) (f27 : n10 = n12) : postb_235 n4 n3 H0 H1 := by
  have g4 := f8.2.1.1
  unfold Ab_235_0 at g4
  have g3 := f8.2.1.2
  unfold preb_235 at g3
  unfold postb_235
  have e0 : n5 = hV H1 285 55 := (by rw [f4] at f11; exact f11 : n5 = hV H1 285 55)
  have e1 : n7 = hV H1 285 55 := (by rw [f4] at f17; exact f17 : n7 = hV H1 285 55)
  have e2 : hV H1 322 = hV H0 322 := fRow f8.1.2.1 322 kR_235_322
  have e3 : n10 = hV H0 322 (n9).toNat := (by rw [f13] at f22; exact f22 : n10 = hV H1 322 (n9).toNat).trans ((congrFun e2 _))
  have e8 : (0 : Int) ≤ hV H0 285 34 ∧ hV H0 285 34 ≤ 1 := bTo ((f8.1.2.1.1 285 34 kF_235_285_34)) (f8.1.2.2 285 34 _ _ kW_285_34)
  have e9 : (0 : Int) ≤ hV H0 285 35 ∧ hV H0 285 35 ≤ 1 := bTo ((f8.1.2.1.1 285 35 kF_235_285_35)) (f8.1.2.2 285 35 _ _ kW_285_35)
  have e10 : (0 : Int) ≤ hV H1 285 51 ∧ hV H1 285 51 ≤ 1200 := f8.1.2.2 285 51 _ _ kW_285_51
  have e11 : (0 : Int) ≤ hV H1 285 55 ∧ hV H1 285 55 ≤ 64 := f8.1.2.2 285 55 _ _ kW_285_55
  try simp only [e2]
  have k0 := g4.1
  have y0 := g4.2.1
  have y1 := g4.2.2.1
  have y2 := g4.2.2.2.1
  have y3 := g4.2.2.2.2.1
  have y4 := g4.2.2.2.2.2
  have p0 := g3.1
  have p1 := g3.2.1
  have p2 := g3.2.2.1
  have p3 := g3.2.2.2
  try simp only [e2] at y1
  try simp only [e2] at y4
  clear g3
  clear g4
  clear f11 f14 f17 f22 e2
  clear f8
  subst e0
  subst e1
  subst e3
  first
  | (have ix0 : n9 = hV H1 285 55 - 1 := Eq.trans f19 (w32_iv (Isu (Iat f10 f9) (IC 1)) (by decide)); subst ix0; clear f19)
  | (have ix0 : n9 = hV H1 285 55 - 1 := Eq.trans f19 (w32_id (by omega) (by omega)); subst ix0; clear f19)
  | (unfold w32 at f19; have ix0 : n9 = hV H1 285 55 - 1 := (by omega); subst ix0)
  | skip
  try unfold w32 at f19

  refine ⟨y0, y1, ?_, ?_, ?_, ?_⟩ <;> first | trivial | omega
def g_235_0_13 : vG := ([(40, [10, 12], [], 0), (0, [12], [], 8), (31, [3], [], 0), (41, [10, 11], [], 0), (0, [11], [], 6), (22, [10, 6, 9], [1], 0), (90, [10], [], 0), (91, [10], [], 53), (2, [9, 7, 8], [], 0), (0, [8], [], 1), (20, [7, 2], [1], 55), (90, [7], [], 0), (91, [7], [], 64), (20, [6, 2], [1], 54), (0, [6], [], 322), (34, [5], [], 0), (20, [5, 2], [1], 55), (90, [5], [], 0), (91, [5], [], 64), (5000, [0, 1, 2, 3, 4], [0, 1], 0), (0, [0], [], 285), (90, [1], [], 0), (91, [1], [], 1), (0, [2], [], 285), (90, [3], [], 0), (91, [3], [], 1), (90, [4], [], -2147483648), (91, [4], [], 2147483647)], (3000, [], [1], 41))
theorem c_235_0_13 {q0 : Nat} : vOkm T0 (eP e_235 L_235 A_235 mu_235 (some q0)) 2 g_235_0_13 := vOk_inI fun ρ η f0 f1 f2 f3 f4 f5 f6 f7 f8 f9 f10 f11 f12 f13 f14 f15 f16 f17 f18 f19 f20 f21 f22 f23 f24 f25 f26 f27 => q_235_36 (q0 := q0) (n0 := ρ 4) (n1 := ρ 3) (n2 := ρ 2) (n3 := ρ 1) (n4 := ρ 0) (n5 := ρ 5) (n6 := ρ 6) (n7 := ρ 7) (n8 := ρ 8) (n9 := ρ 9) (n10 := ρ 10) (n11 := ρ 11) (n12 := ρ 12) (H0 := η 0) (H1 := η 1) f27 f26 f25 f24 f23 f22 f21 f20 f19 f18 f17 f16 f15 f14 f13 f12 f11 f10 f9 f8 f7 f6 f5 f4 f3 f2 f1 f0
def g_235_0_14 : vG := ([(2, [16, 14, 15], [], 0), (0, [15], [], 1), (20, [14, 2], [1], 55), (91, [14], [], 64), (34, [5], [], 0), (20, [5, 2], [1], 55), (0, [2], [], 285)], (90, [16], [], 0))
theorem c_235_0_14 {q0 : Nat} : vOkm T0 (eP e_235 L_235 A_235 mu_235 (some q0)) 2 g_235_0_14 := vOk_inI fun ρ η f0 f1 f2 f3 f4 f5 f6 => q_235_26 (q0 := q0) (n0 := ρ 2) (n1 := ρ 5) (n2 := ρ 14) (n3 := ρ 15) (n4 := ρ 16) (H0 := η 0) (H1 := η 1) f6 f5 f4 f3 f2 f1 f0
def g_235_0_15 : vG := ([(2, [16, 14, 15], [], 0), (0, [15], [], 1), (90, [14], [], 0), (91, [14], [], 64)], (91, [16], [], 64))
theorem c_235_0_15 {q0 : Nat} : vOkm T0 (eP e_235 L_235 A_235 mu_235 (some q0)) 2 g_235_0_15 := vOk_inI fun ρ η f0 f1 f2 f3 => q_235_27 (q0 := q0) (n0 := ρ 14) (n1 := ρ 15) (n2 := ρ 16) (H0 := η 0) f3 f2 f1 f0
theorem q_235_37 {q0 : Nat} {n0 n1 n2 n3 n4 n5 n6 n7 n8 n9 n10 n11 n12 n13 n14 n15 n16 n17 n18 n19 n20 n21 n22 : Int} {H0 H1 H2 : gH} (f0 : n0 ≤ 2147483647) (f1 : (-2147483648) ≤ n0) (f2 : n1 ≤ 1) (f3 : 0 ≤ n1) (f4 : n2 = 285) (f5 : n3 ≤ 1) (f6 : 0 ≤ n3) (f7 : n4 = 285) (f8 : (hLe T0 H0 H1 ∧ hFr s_235.2.2.2.2 H0 H1 ∧ hWt T0 H1) ∧ (Ab_235_0 n4 n3 n2 n1 n0 H0 H1 ∧ preb_235 n4 n3 H0) ∧ some q0 = some (mub_235_0 n4 n3 n2 n1 n0 H0 H1)) (f9 : n5 ≤ 64) (f10 : 0 ≤ n5) (f11 : n5 = hV H1 (n2).toNat 55) (f12 : 0 < n5) (f13 : n6 = 322) (f14 : n6 = hV H1 (n2).toNat 54) (f15 : n7 ≤ 64) (f16 : 0 ≤ n7) (f17 : n7 = hV H1 (n2).toNat 55) (f18 : n8 = 1) (f19 : n9 = w32 (n7 - n8)) (f20 : n10 ≤ 53) (f21 : 0 ≤ n10) (f22 : n10 = hV H1 (n6).toNat (n9).toNat) (f23 : n11 = 6) (f24 : n10 ≠ n11) (f25 : n1 ≠ 0) (f26 : n12 = 8) (f27 : n10 ≠ n12) (f28 : n13 = 9) (f29 : n10 ≠ n13) (f30 : n14 ≤ 64) (f31 : 0 ≤ n14) (f32 : n14 = hV H1 (n2).toNat 55) (f33 : n15 = 1) (f34 : n16 = w32 (n14 - n15)) (f35 : n17 = 55) (f36 : hUpd H2 H1 n2 n17 n16) (f37 : n18 = 8) (f38 : n10 ≠ n18) (f39 : n19 = 9) (f40 : n10 ≠ n19) (f41 : n20 = 10) (f42 : n10 ≠ n20) (f43 : n21 = 5) (f44 : n22 = 0) : preb_234 n2 n21 n22 H2 := by
  have g4 := f8.2.1.1
  unfold Ab_235_0 at g4
  have g3 := f8.2.1.2
  unfold preb_235 at g3
  unfold preb_234
  have e0 : n5 = hV H1 285 55 := (by rw [f4] at f11; exact f11 : n5 = hV H1 285 55)
  have e1 : n7 = hV H1 285 55 := (by rw [f4] at f17; exact f17 : n7 = hV H1 285 55)
  have e2 : hV H1 322 = hV H0 322 := fRow f8.1.2.1 322 kR_235_322
  have e3 : n10 = hV H0 322 (n9).toNat := (by rw [f13] at f22; exact f22 : n10 = hV H1 322 (n9).toNat).trans ((congrFun e2 _))
  have e4 : n14 = hV H1 285 55 := (by rw [f4] at f32; exact f32 : n14 = hV H1 285 55)
  have e10 : hV H2 285 51 = hV H1 285 51 := (uSlot f36 285 51 (iS (show n17 = ((55 : Nat) : Int) from f35) rfl))
  have e11 : (0 : Int) ≤ hV H0 285 34 ∧ hV H0 285 34 ≤ 1 := bTo ((f8.1.2.1.1 285 34 kF_235_285_34)) (f8.1.2.2 285 34 _ _ kW_285_34)
  have e12 : (0 : Int) ≤ hV H0 285 35 ∧ hV H0 285 35 ≤ 1 := bTo ((f8.1.2.1.1 285 35 kF_235_285_35)) (f8.1.2.2 285 35 _ _ kW_285_35)
  have e13 : (0 : Int) ≤ hV H1 285 51 ∧ hV H1 285 51 ≤ 1200 := f8.1.2.2 285 51 _ _ kW_285_51
  have e14 : (0 : Int) ≤ hV H1 285 55 ∧ hV H1 285 55 ≤ 64 := f8.1.2.2 285 55 _ _ kW_285_55
  try simp only [e10]
  have k0 := g4.1
  have y0 := g4.2.1
  have y1 := g4.2.2.1
  have y2 := g4.2.2.2.1
  have y3 := g4.2.2.2.2.1
  have y4 := g4.2.2.2.2.2
  have p0 := g3.1
  have p1 := g3.2.1
  have p2 := g3.2.2.1
  have p3 := g3.2.2.2
  try simp only [e2] at y1
  try simp only [e2] at y4
  clear g3
  clear g4
  clear f11 f14 f17 f22 f32 e2 e10
  clear f8
  subst e0
  subst e1
  subst e3
  subst e4
  first
  | (have ix0 : n9 = hV H1 285 55 - 1 := Eq.trans f19 (w32_iv (Isu (Iat f10 f9) (IC 1)) (by decide)); subst ix0; clear f19)
  | (have ix0 : n9 = hV H1 285 55 - 1 := Eq.trans f19 (w32_id (by omega) (by omega)); subst ix0; clear f19)
  | (unfold w32 at f19; have ix0 : n9 = hV H1 285 55 - 1 := (by omega); subst ix0)
  | skip
  first
  | (have ix1 : n16 = hV H1 285 55 - 1 := Eq.trans f34 (w32_iv (Isu (Iat f10 f9) (IC 1)) (by decide)); subst ix1; clear f34)
  | (have ix1 : n16 = hV H1 285 55 - 1 := Eq.trans f34 (w32_id (by omega) (by omega)); subst ix1; clear f34)
  | (unfold w32 at f34; have ix1 : n16 = hV H1 285 55 - 1 := (by omega); subst ix1)
  | skip
  try unfold w32 at f19
  try unfold w32 at f34

  have wp := wo_pop (w := hV H0 322) (n := hV H1 285 55) (by omega)
  have wl := wo_le (w := hV H0 322) (hV H1 285 55 - 1).toNat
  omega
def g_235_0_16 : vG := ([(0, [22], [], 0), (0, [21], [], 5), (41, [10, 20], [], 0), (0, [20], [], 10), (41, [10, 19], [], 0), (0, [19], [], 9), (41, [10, 18], [], 0), (0, [18], [], 8), (80, [2, 17, 16], [2, 1], 0), (0, [17], [], 55), (2, [16, 14, 15], [], 0), (0, [15], [], 1), (20, [14, 2], [1], 55), (90, [14], [], 0), (91, [14], [], 64), (41, [10, 13], [], 0), (0, [13], [], 9), (41, [10, 12], [], 0), (0, [12], [], 8), (31, [3], [], 0), (41, [10, 11], [], 0), (0, [11], [], 6), (22, [10, 6, 9], [1], 0), (90, [10], [], 0), (91, [10], [], 53), (2, [9, 7, 8], [], 0), (0, [8], [], 1), (20, [7, 2], [1], 55), (90, [7], [], 0), (91, [7], [], 64), (20, [6, 2], [1], 54), (0, [6], [], 322), (34, [5], [], 0), (20, [5, 2], [1], 55), (90, [5], [], 0), (91, [5], [], 64), (5000, [0, 1, 2, 3, 4], [0, 1], 0), (0, [0], [], 285), (90, [1], [], 0), (91, [1], [], 1), (0, [2], [], 285), (90, [3], [], 0), (91, [3], [], 1), (90, [4], [], -2147483648), (91, [4], [], 2147483647)], (2234, [2, 21, 22], [2], 0))
theorem c_235_0_16 {q0 : Nat} : vOkm T0 (eP e_235 L_235 A_235 mu_235 (some q0)) 2 g_235_0_16 := vOk_inI fun ρ η f0 f1 f2 f3 f4 f5 f6 f7 f8 f9 f10 f11 f12 f13 f14 f15 f16 f17 f18 f19 f20 f21 f22 f23 f24 f25 f26 f27 f28 f29 f30 f31 f32 f33 f34 f35 f36 f37 f38 f39 f40 f41 f42 f43 f44 => q_235_37 (q0 := q0) (n0 := ρ 4) (n1 := ρ 3) (n2 := ρ 2) (n3 := ρ 1) (n4 := ρ 0) (n5 := ρ 5) (n6 := ρ 6) (n7 := ρ 7) (n8 := ρ 8) (n9 := ρ 9) (n10 := ρ 10) (n11 := ρ 11) (n12 := ρ 12) (n13 := ρ 13) (n14 := ρ 14) (n15 := ρ 15) (n16 := ρ 16) (n17 := ρ 17) (n18 := ρ 18) (n19 := ρ 19) (n20 := ρ 20) (n21 := ρ 21) (n22 := ρ 22) (H0 := η 0) (H1 := η 1) (H2 := η 2) f44 f43 f42 f41 f40 f39 f38 f37 f36 f35 f34 f33 f32 f31 f30 f29 f28 f27 f26 f25 f24 f23 f22 f21 f20 f19 f18 f17 f16 f15 f14 f13 f12 f11 f10 f9 f8 f7 f6 f5 f4 f3 f2 f1 f0
theorem q_235_38 {q0 : Nat} {n0 n1 n2 n3 n4 n5 n6 n7 n8 n9 n10 n11 n12 n13 n14 n15 n16 n17 n18 n19 n20 n21 n22 : Int} {H0 H1 H2 H3 : gH} (f0 : n0 ≤ 2147483647) (f1 : (-2147483648) ≤ n0) (f2 : n1 ≤ 1) (f3 : 0 ≤ n1) (f4 : n2 = 285) (f5 : n3 ≤ 1) (f6 : 0 ≤ n3) (f7 : n4 = 285) (f8 : (hLe T0 H0 H1 ∧ hFr s_235.2.2.2.2 H0 H1 ∧ hWt T0 H1) ∧ (Ab_235_0 n4 n3 n2 n1 n0 H0 H1 ∧ preb_235 n4 n3 H0) ∧ some q0 = some (mub_235_0 n4 n3 n2 n1 n0 H0 H1)) (f9 : n5 ≤ 64) (f10 : 0 ≤ n5) (f11 : n5 = hV H1 (n2).toNat 55) (f12 : 0 < n5) (f13 : n6 = 322) (f14 : n6 = hV H1 (n2).toNat 54) (f15 : n7 ≤ 64) (f16 : 0 ≤ n7) (f17 : n7 = hV H1 (n2).toNat 55) (f18 : n8 = 1) (f19 : n9 = w32 (n7 - n8)) (f20 : n10 ≤ 53) (f21 : 0 ≤ n10) (f22 : n10 = hV H1 (n6).toNat (n9).toNat) (f23 : n11 = 6) (f24 : n10 ≠ n11) (f25 : n1 ≠ 0) (f26 : n12 = 8) (f27 : n10 ≠ n12) (f28 : n13 = 9) (f29 : n10 ≠ n13) (f30 : n14 ≤ 64) (f31 : 0 ≤ n14) (f32 : n14 = hV H1 (n2).toNat 55) (f33 : n15 = 1) (f34 : n16 = w32 (n14 - n15)) (f35 : n17 = 55) (f36 : hUpd H2 H1 n2 n17 n16) (f37 : n18 = 8) (f38 : n10 ≠ n18) (f39 : n19 = 9) (f40 : n10 ≠ n19) (f41 : n20 = 10) (f42 : n10 ≠ n20) (f43 : n21 = 5) (f44 : n22 = 0) (f45 : (hLe T0 H2 H3 ∧ hFr s_234.2.2.2.2 H2 H3 ∧ ((0 : Int) = 0 → H3.length = H2.length) ∧ hWt T0 H3) ∧ postb_234 n2 n21 n22 H2 H3) : Ab_235_0 n4 n3 n2 n1 n10 H0 H3 ∧ ∀ q, some q0 = some q → mub_235_0 n4 n3 n2 n1 n10 H0 H3 < q := by
  have g4 := f8.2.1.1
  unfold Ab_235_0 at g4
  have g3 := f8.2.1.2
  unfold preb_235 at g3
  have g5 := Option.some.inj f8.2.2
  unfold mub_235_0 at g5
  unfold postb_234 at f45
  unfold Ab_235_0
  unfold mub_235_0
  have e0 : n5 = hV H1 285 55 := (by rw [f4] at f11; exact f11 : n5 = hV H1 285 55)
  have e1 : n7 = hV H1 285 55 := (by rw [f4] at f17; exact f17 : n7 = hV H1 285 55)
  have e2 : hV H1 322 = hV H0 322 := fRow f8.1.2.1 322 kR_235_322
  have e3 : n10 = hV H0 322 (n9).toNat := (by rw [f13] at f22; exact f22 : n10 = hV H1 322 (n9).toNat).trans ((congrFun e2 _))
  have e4 : n14 = hV H1 285 55 := (by rw [f4] at f32; exact f32 : n14 = hV H1 285 55)
  have e6 : hV H1 285 34 = hV H0 285 34 := (f8.1.2.1.1 285 34 kF_235_285_34)
  have e8 : hV H1 285 35 = hV H0 285 35 := (f8.1.2.1.1 285 35 kF_235_285_35)
  have e10 : hV H1 285 44 = hV H0 285 44 := (f8.1.2.1.1 285 44 kF_235_285_44)
  have e11 : hV H1 306 = hV H0 306 := fRow f8.1.2.1 306 kR_235_306
  have e12 : hV H1 307 = hV H0 307 := fRow f8.1.2.1 307 kR_235_307
  have e13 : hV H1 308 = hV H0 308 := fRow f8.1.2.1 308 kR_235_308
  have e14 : hV H1 309 = hV H0 309 := fRow f8.1.2.1 309 kR_235_309
  have e15 : hV H1 310 = hV H0 310 := fRow f8.1.2.1 310 kR_235_310
  have e16 : hV H1 311 = hV H0 311 := fRow f8.1.2.1 311 kR_235_311
  have e17 : hV H1 317 = hV H0 317 := fRow f8.1.2.1 317 kR_235_317
  have e18 : hV H1 318 = hV H0 318 := fRow f8.1.2.1 318 kR_235_318
  have e19 : hV H1 319 = hV H0 319 := fRow f8.1.2.1 319 kR_235_319
  have e21 : hV H2 285 51 = hV H1 285 51 := (uSlot f36 285 51 (iS (show n17 = ((55 : Nat) : Int) from f35) rfl))
  have e22 : hV H2 320 = hV H1 320 := uRowNe f36 320 (iS (show n2 = ((285 : Nat) : Int) from f4) rfl)
  have e23 : hV H2 321 = hV H1 321 := uRowNe f36 321 (iS (show n2 = ((285 : Nat) : Int) from f4) rfl)
  have e26 : hV H3 285 34 = hV H0 285 34 := ((f45.1.2.1.1 285 34 kF_234_285_34)).trans (((uSlot f36 285 34 (iS (show n17 = ((55 : Nat) : Int) from f35) rfl))).trans (f8.1.2.1.1 285 34 kF_235_285_34))
  have e29 : hV H3 285 35 = hV H0 285 35 := ((f45.1.2.1.1 285 35 kF_234_285_35)).trans (((uSlot f36 285 35 (iS (show n17 = ((55 : Nat) : Int) from f35) rfl))).trans (f8.1.2.1.1 285 35 kF_235_285_35))
  have e32 : hV H3 285 44 = hV H0 285 44 := ((f45.1.2.1.1 285 44 kF_234_285_44)).trans (((uSlot f36 285 44 (iS (show n17 = ((55 : Nat) : Int) from f35) rfl))).trans (f8.1.2.1.1 285 44 kF_235_285_44))
  have e35 : hV H3 285 55 = n16 := ((f45.1.2.1.1 285 55 kF_234_285_55)).trans (uSame f36 285 55 f4.symm f35.symm)
  have e39 : hV H3 306 = hV H0 306 := (fRow f45.1.2.1 306 kR_234_306).trans ((uRowNe f36 306 (iS (show n2 = ((285 : Nat) : Int) from f4) rfl)).trans e11)
  have e43 : hV H3 307 = hV H0 307 := (fRow f45.1.2.1 307 kR_234_307).trans ((uRowNe f36 307 (iS (show n2 = ((285 : Nat) : Int) from f4) rfl)).trans e12)
  have e47 : hV H3 308 = hV H0 308 := (fRow f45.1.2.1 308 kR_234_308).trans ((uRowNe f36 308 (iS (show n2 = ((285 : Nat) : Int) from f4) rfl)).trans e13)
  have e51 : hV H3 309 = hV H0 309 := (fRow f45.1.2.1 309 kR_234_309).trans ((uRowNe f36 309 (iS (show n2 = ((285 : Nat) : Int) from f4) rfl)).trans e14)
  have e55 : hV H3 310 = hV H0 310 := (fRow f45.1.2.1 310 kR_234_310).trans ((uRowNe f36 310 (iS (show n2 = ((285 : Nat) : Int) from f4) rfl)).trans e15)
  have e59 : hV H3 311 = hV H0 311 := (fRow f45.1.2.1 311 kR_234_311).trans ((uRowNe f36 311 (iS (show n2 = ((285 : Nat) : Int) from f4) rfl)).trans e16)
  have e63 : hV H3 317 = hV H0 317 := (fRow f45.1.2.1 317 kR_234_317).trans ((uRowNe f36 317 (iS (show n2 = ((285 : Nat) : Int) from f4) rfl)).trans e17)
  have e67 : hV H3 318 = hV H0 318 := (fRow f45.1.2.1 318 kR_234_318).trans ((uRowNe f36 318 (iS (show n2 = ((285 : Nat) : Int) from f4) rfl)).trans e18)
  have e71 : hV H3 319 = hV H0 319 := (fRow f45.1.2.1 319 kR_234_319).trans ((uRowNe f36 319 (iS (show n2 = ((285 : Nat) : Int) from f4) rfl)).trans e19)
  have e75 : hV H3 322 = hV H0 322 := (fRow f45.1.2.1 322 kR_234_322).trans ((uRowNe f36 322 (iS (show n2 = ((285 : Nat) : Int) from f4) rfl)).trans e2)
  have e76 : (0 : Int) ≤ hV H0 285 34 ∧ hV H0 285 34 ≤ 1 := bTo e6 (f8.1.2.2 285 34 _ _ kW_285_34)
  have e77 : (0 : Int) ≤ hV H0 285 35 ∧ hV H0 285 35 ≤ 1 := bTo e8 (f8.1.2.2 285 35 _ _ kW_285_35)
  have e78 : (0 : Int) ≤ hV H0 285 44 ∧ hV H0 285 44 ≤ 400 := bTo e10 (f8.1.2.2 285 44 _ _ kW_285_44)
  have e79 : (0 : Int) ≤ hV H1 285 51 ∧ hV H1 285 51 ≤ 1200 := f8.1.2.2 285 51 _ _ kW_285_51
  have e80 : (0 : Int) ≤ hV H1 285 55 ∧ hV H1 285 55 ≤ 64 := f8.1.2.2 285 55 _ _ kW_285_55
  have e84 : (0 : Int) ≤ hV H3 285 51 ∧ hV H3 285 51 ≤ 1200 := f45.1.2.2.2 285 51 _ _ kW_285_51
  have e85 : (0 : Int) ≤ hV H3 285 55 ∧ hV H3 285 55 ≤ 64 := f45.1.2.2.2 285 55 _ _ kW_285_55
  try simp only [RR]
  try simp only [e35] at e85
  try simp only [e26, e29, e32, e35, e39, e43, e47, e51, e55, e59, e63, e67, e71, e75]
  have k0 := g4.1
  have y0 := g4.2.1
  have y1 := g4.2.2.1
  have y2 := g4.2.2.2.1
  have y3 := g4.2.2.2.2.1
  have y4 := g4.2.2.2.2.2
  have p0 := g3.1
  have p1 := g3.2.1
  have p2 := g3.2.2.1
  have p3 := g3.2.2.2
  have r0_0 := f45.2.1
  have r0_1 := f45.2.2.1
  have r0_2 := f45.2.2.2
  try simp only [RR] at y0
  try simp only [RR] at p0
  try simp only [e6, e8, e10, e11, e12, e13, e14, e15, e16, e17, e18, e19] at y0
  try simp only [e2] at y1
  try simp only [e2] at y4
  try simp only [e21] at r0_0
  try simp only [e21, e22] at r0_1
  try simp only [e21, e23] at r0_2
  clear g3
  clear g4
  clear f11 f14 f17 f22 f32 e2 e6 e8 e10 e11 e12 e13 e14 e15 e16 e17 e18 e19 e21 e22 e23 e26 e29 e32 e39 e43 e47 e51 e55 e59 e63 e67 e71 e75
  clear f8 f45
  subst e0
  subst e1
  subst e3
  subst e4
  first
  | (have ix0 : n9 = hV H1 285 55 - 1 := Eq.trans f19 (w32_iv (Isu (Iat f10 f9) (IC 1)) (by decide)); subst ix0; clear f19)
  | (have ix0 : n9 = hV H1 285 55 - 1 := Eq.trans f19 (w32_id (by omega) (by omega)); subst ix0; clear f19)
  | (unfold w32 at f19; have ix0 : n9 = hV H1 285 55 - 1 := (by omega); subst ix0)
  | skip
  first
  | (have ix1 : n16 = hV H1 285 55 - 1 := Eq.trans f34 (w32_iv (Isu (Iat f10 f9) (IC 1)) (by decide)); subst ix1; clear f34)
  | (have ix1 : n16 = hV H1 285 55 - 1 := Eq.trans f34 (w32_id (by omega) (by omega)); subst ix1; clear f34)
  | (unfold w32 at f34; have ix1 : n16 = hV H1 285 55 - 1 := (by omega); subst ix1)
  | skip
  try unfold w32 at f19
  try unfold w32 at f34

  have wp := wo_pop (w := hV H0 322) (n := hV H1 285 55) (by omega)
  have wl := wo_le (w := hV H0 322) (hV H1 285 55 - 1).toNat
  refine ⟨⟨?_, ?_, ?_, ?_⟩, fun q hq => ?_⟩
  · first | trivial | omega
  · rw [r0_1, r0_2]
    exact RR_emit y0 (by omega) (by omega) (by omega) (by omega) (by omega) (by omega) (by omega) (by omega)
  · rw [r0_1, r0_2]
    exact CO_step y1 (by omega) (by omega) (by omega) (.inr ⟨by omega, by omega, by omega⟩)
  · first
    | omega
    | (refine ⟨?_, ?_, ?_⟩ <;> first | exact True.intro | omega)
  · have g6 := Option.some.inj hq
    subst g6
    omega
def g_235_0_17 : vG := ([(1234, [2, 21, 22], [2, 3], 0), (0, [22], [], 0), (0, [21], [], 5), (41, [10, 20], [], 0), (0, [20], [], 10), (41, [10, 19], [], 0), (0, [19], [], 9), (41, [10, 18], [], 0), (0, [18], [], 8), (80, [2, 17, 16], [2, 1], 0), (0, [17], [], 55), (2, [16, 14, 15], [], 0), (0, [15], [], 1), (20, [14, 2], [1], 55), (90, [14], [], 0), (91, [14], [], 64), (41, [10, 13], [], 0), (0, [13], [], 9), (41, [10, 12], [], 0), (0, [12], [], 8), (31, [3], [], 0), (41, [10, 11], [], 0), (0, [11], [], 6), (22, [10, 6, 9], [1], 0), (90, [10], [], 0), (91, [10], [], 53), (2, [9, 7, 8], [], 0), (0, [8], [], 1), (20, [7, 2], [1], 55), (90, [7], [], 0), (91, [7], [], 64), (20, [6, 2], [1], 54), (0, [6], [], 322), (34, [5], [], 0), (20, [5, 2], [1], 55), (90, [5], [], 0), (91, [5], [], 64), (5000, [0, 1, 2, 3, 4], [0, 1], 0), (0, [0], [], 285), (90, [1], [], 0), (91, [1], [], 1), (0, [2], [], 285), (90, [3], [], 0), (91, [3], [], 1), (90, [4], [], -2147483648), (91, [4], [], 2147483647)], (4000, [2, 3, 10], [3], 0))
theorem c_235_0_17 {q0 : Nat} : vOkm T0 (eP e_235 L_235 A_235 mu_235 (some q0)) 2 g_235_0_17 := vOk_inI fun ρ η f0 f1 f2 f3 f4 f5 f6 f7 f8 f9 f10 f11 f12 f13 f14 f15 f16 f17 f18 f19 f20 f21 f22 f23 f24 f25 f26 f27 f28 f29 f30 f31 f32 f33 f34 f35 f36 f37 f38 f39 f40 f41 f42 f43 f44 f45 => q_235_38 (q0 := q0) (n0 := ρ 4) (n1 := ρ 3) (n2 := ρ 2) (n3 := ρ 1) (n4 := ρ 0) (n5 := ρ 5) (n6 := ρ 6) (n7 := ρ 7) (n8 := ρ 8) (n9 := ρ 9) (n10 := ρ 10) (n11 := ρ 11) (n12 := ρ 12) (n13 := ρ 13) (n14 := ρ 14) (n15 := ρ 15) (n16 := ρ 16) (n17 := ρ 17) (n18 := ρ 18) (n19 := ρ 19) (n20 := ρ 20) (n21 := ρ 21) (n22 := ρ 22) (H0 := η 0) (H1 := η 1) (H2 := η 2) (H3 := η 3) f45 f44 f43 f42 f41 f40 f39 f38 f37 f36 f35 f34 f33 f32 f31 f30 f29 f28 f27 f26 f25 f24 f23 f22 f21 f20 f19 f18 f17 f16 f15 f14 f13 f12 f11 f10 f9 f8 f7 f6 f5 f4 f3 f2 f1 f0
theorem q_235_39 {q0 : Nat} {n0 n1 n2 n3 n4 n5 n6 n7 n8 n9 n10 n11 n12 n13 n14 n15 n16 n17 n18 n19 n20 n21 n22 : Int} {H0 H1 H2 : gH} (f0 : n0 ≤ 2147483647) (f1 : (-2147483648) ≤ n0) (f2 : n1 ≤ 1) (f3 : 0 ≤ n1) (f4 : n2 = 285) (f5 : n3 ≤ 1) (f6 : 0 ≤ n3) (f7 : n4 = 285) (f8 : (hLe T0 H0 H1 ∧ hFr s_235.2.2.2.2 H0 H1 ∧ hWt T0 H1) ∧ (Ab_235_0 n4 n3 n2 n1 n0 H0 H1 ∧ preb_235 n4 n3 H0) ∧ some q0 = some (mub_235_0 n4 n3 n2 n1 n0 H0 H1)) (f9 : n5 ≤ 64) (f10 : 0 ≤ n5) (f11 : n5 = hV H1 (n2).toNat 55) (f12 : 0 < n5) (f13 : n6 = 322) (f14 : n6 = hV H1 (n2).toNat 54) (f15 : n7 ≤ 64) (f16 : 0 ≤ n7) (f17 : n7 = hV H1 (n2).toNat 55) (f18 : n8 = 1) (f19 : n9 = w32 (n7 - n8)) (f20 : n10 ≤ 53) (f21 : 0 ≤ n10) (f22 : n10 = hV H1 (n6).toNat (n9).toNat) (f23 : n11 = 6) (f24 : n10 ≠ n11) (f25 : n1 ≠ 0) (f26 : n12 = 8) (f27 : n10 ≠ n12) (f28 : n13 = 9) (f29 : n10 ≠ n13) (f30 : n14 ≤ 64) (f31 : 0 ≤ n14) (f32 : n14 = hV H1 (n2).toNat 55) (f33 : n15 = 1) (f34 : n16 = w32 (n14 - n15)) (f35 : n17 = 55) (f36 : hUpd H2 H1 n2 n17 n16) (f37 : n18 = 8) (f38 : n10 ≠ n18) (f39 : n19 = 9) (f40 : n10 ≠ n19) (f41 : n20 = 10) (f42 : n10 = n20) (f43 : n21 = 4) (f44 : n22 = 0) : preb_234 n2 n21 n22 H2 := by
  have g4 := f8.2.1.1
  unfold Ab_235_0 at g4
  have g3 := f8.2.1.2
  unfold preb_235 at g3
  unfold preb_234
  have e0 : n5 = hV H1 285 55 := (by rw [f4] at f11; exact f11 : n5 = hV H1 285 55)
  have e1 : n7 = hV H1 285 55 := (by rw [f4] at f17; exact f17 : n7 = hV H1 285 55)
  have e2 : hV H1 322 = hV H0 322 := fRow f8.1.2.1 322 kR_235_322
  have e3 : n10 = hV H0 322 (n9).toNat := (by rw [f13] at f22; exact f22 : n10 = hV H1 322 (n9).toNat).trans ((congrFun e2 _))
  have e4 : n14 = hV H1 285 55 := (by rw [f4] at f32; exact f32 : n14 = hV H1 285 55)
  have e10 : hV H2 285 51 = hV H1 285 51 := (uSlot f36 285 51 (iS (show n17 = ((55 : Nat) : Int) from f35) rfl))
  have e11 : (0 : Int) ≤ hV H0 285 34 ∧ hV H0 285 34 ≤ 1 := bTo ((f8.1.2.1.1 285 34 kF_235_285_34)) (f8.1.2.2 285 34 _ _ kW_285_34)
  have e12 : (0 : Int) ≤ hV H0 285 35 ∧ hV H0 285 35 ≤ 1 := bTo ((f8.1.2.1.1 285 35 kF_235_285_35)) (f8.1.2.2 285 35 _ _ kW_285_35)
  have e13 : (0 : Int) ≤ hV H1 285 51 ∧ hV H1 285 51 ≤ 1200 := f8.1.2.2 285 51 _ _ kW_285_51
  have e14 : (0 : Int) ≤ hV H1 285 55 ∧ hV H1 285 55 ≤ 64 := f8.1.2.2 285 55 _ _ kW_285_55
  try simp only [e10]
  have k0 := g4.1
  have y0 := g4.2.1
  have y1 := g4.2.2.1
  have y2 := g4.2.2.2.1
  have y3 := g4.2.2.2.2.1
  have y4 := g4.2.2.2.2.2
  have p0 := g3.1
  have p1 := g3.2.1
  have p2 := g3.2.2.1
  have p3 := g3.2.2.2
  try simp only [e2] at y1
  try simp only [e2] at y4
  clear g3
  clear g4
  clear f11 f14 f17 f22 f32 e2 e10
  clear f8
  subst e0
  subst e1
  subst e3
  subst e4
  first
  | (have ix0 : n9 = hV H1 285 55 - 1 := Eq.trans f19 (w32_iv (Isu (Iat f10 f9) (IC 1)) (by decide)); subst ix0; clear f19)
  | (have ix0 : n9 = hV H1 285 55 - 1 := Eq.trans f19 (w32_id (by omega) (by omega)); subst ix0; clear f19)
  | (unfold w32 at f19; have ix0 : n9 = hV H1 285 55 - 1 := (by omega); subst ix0)
  | skip
  first
  | (have ix1 : n16 = hV H1 285 55 - 1 := Eq.trans f34 (w32_iv (Isu (Iat f10 f9) (IC 1)) (by decide)); subst ix1; clear f34)
  | (have ix1 : n16 = hV H1 285 55 - 1 := Eq.trans f34 (w32_id (by omega) (by omega)); subst ix1; clear f34)
  | (unfold w32 at f34; have ix1 : n16 = hV H1 285 55 - 1 := (by omega); subst ix1)
  | skip
  try unfold w32 at f19
  try unfold w32 at f34

  have wp := wo_pop (w := hV H0 322) (n := hV H1 285 55) (by omega)
  have wl := wo_le (w := hV H0 322) (hV H1 285 55 - 1).toNat
  omega
def g_235_0_18 : vG := ([(0, [22], [], 0), (0, [21], [], 4), (40, [10, 20], [], 0), (0, [20], [], 10), (41, [10, 19], [], 0), (0, [19], [], 9), (41, [10, 18], [], 0), (0, [18], [], 8), (80, [2, 17, 16], [2, 1], 0), (0, [17], [], 55), (2, [16, 14, 15], [], 0), (0, [15], [], 1), (20, [14, 2], [1], 55), (90, [14], [], 0), (91, [14], [], 64), (41, [10, 13], [], 0), (0, [13], [], 9), (41, [10, 12], [], 0), (0, [12], [], 8), (31, [3], [], 0), (41, [10, 11], [], 0), (0, [11], [], 6), (22, [10, 6, 9], [1], 0), (90, [10], [], 0), (91, [10], [], 53), (2, [9, 7, 8], [], 0), (0, [8], [], 1), (20, [7, 2], [1], 55), (90, [7], [], 0), (91, [7], [], 64), (20, [6, 2], [1], 54), (0, [6], [], 322), (34, [5], [], 0), (20, [5, 2], [1], 55), (90, [5], [], 0), (91, [5], [], 64), (5000, [0, 1, 2, 3, 4], [0, 1], 0), (0, [0], [], 285), (90, [1], [], 0), (91, [1], [], 1), (0, [2], [], 285), (90, [3], [], 0), (91, [3], [], 1), (90, [4], [], -2147483648), (91, [4], [], 2147483647)], (2234, [2, 21, 22], [2], 0))
theorem c_235_0_18 {q0 : Nat} : vOkm T0 (eP e_235 L_235 A_235 mu_235 (some q0)) 2 g_235_0_18 := vOk_inI fun ρ η f0 f1 f2 f3 f4 f5 f6 f7 f8 f9 f10 f11 f12 f13 f14 f15 f16 f17 f18 f19 f20 f21 f22 f23 f24 f25 f26 f27 f28 f29 f30 f31 f32 f33 f34 f35 f36 f37 f38 f39 f40 f41 f42 f43 f44 => q_235_39 (q0 := q0) (n0 := ρ 4) (n1 := ρ 3) (n2 := ρ 2) (n3 := ρ 1) (n4 := ρ 0) (n5 := ρ 5) (n6 := ρ 6) (n7 := ρ 7) (n8 := ρ 8) (n9 := ρ 9) (n10 := ρ 10) (n11 := ρ 11) (n12 := ρ 12) (n13 := ρ 13) (n14 := ρ 14) (n15 := ρ 15) (n16 := ρ 16) (n17 := ρ 17) (n18 := ρ 18) (n19 := ρ 19) (n20 := ρ 20) (n21 := ρ 21) (n22 := ρ 22) (H0 := η 0) (H1 := η 1) (H2 := η 2) f44 f43 f42 f41 f40 f39 f38 f37 f36 f35 f34 f33 f32 f31 f30 f29 f28 f27 f26 f25 f24 f23 f22 f21 f20 f19 f18 f17 f16 f15 f14 f13 f12 f11 f10 f9 f8 f7 f6 f5 f4 f3 f2 f1 f0
theorem q_235_40 {q0 : Nat} {n0 n1 n2 n3 n4 n5 n6 n7 n8 n9 n10 n11 n12 n13 n14 n15 n16 n17 n18 n19 n20 n21 n22 : Int} {H0 H1 H2 H3 : gH} (f0 : n0 ≤ 2147483647) (f1 : (-2147483648) ≤ n0) (f2 : n1 ≤ 1) (f3 : 0 ≤ n1) (f4 : n2 = 285) (f5 : n3 ≤ 1) (f6 : 0 ≤ n3) (f7 : n4 = 285) (f8 : (hLe T0 H0 H1 ∧ hFr s_235.2.2.2.2 H0 H1 ∧ hWt T0 H1) ∧ (Ab_235_0 n4 n3 n2 n1 n0 H0 H1 ∧ preb_235 n4 n3 H0) ∧ some q0 = some (mub_235_0 n4 n3 n2 n1 n0 H0 H1)) (f9 : n5 ≤ 64) (f10 : 0 ≤ n5) (f11 : n5 = hV H1 (n2).toNat 55) (f12 : 0 < n5) (f13 : n6 = 322) (f14 : n6 = hV H1 (n2).toNat 54) (f15 : n7 ≤ 64) (f16 : 0 ≤ n7) (f17 : n7 = hV H1 (n2).toNat 55) (f18 : n8 = 1) (f19 : n9 = w32 (n7 - n8)) (f20 : n10 ≤ 53) (f21 : 0 ≤ n10) (f22 : n10 = hV H1 (n6).toNat (n9).toNat) (f23 : n11 = 6) (f24 : n10 ≠ n11) (f25 : n1 ≠ 0) (f26 : n12 = 8) (f27 : n10 ≠ n12) (f28 : n13 = 9) (f29 : n10 ≠ n13) (f30 : n14 ≤ 64) (f31 : 0 ≤ n14) (f32 : n14 = hV H1 (n2).toNat 55) (f33 : n15 = 1) (f34 : n16 = w32 (n14 - n15)) (f35 : n17 = 55) (f36 : hUpd H2 H1 n2 n17 n16) (f37 : n18 = 8) (f38 : n10 ≠ n18) (f39 : n19 = 9) (f40 : n10 ≠ n19) (f41 : n20 = 10) (f42 : n10 = n20) (f43 : n21 = 4) (f44 : n22 = 0) (f45 : (hLe T0 H2 H3 ∧ hFr s_234.2.2.2.2 H2 H3 ∧ ((0 : Int) = 0 → H3.length = H2.length) ∧ hWt T0 H3) ∧ postb_234 n2 n21 n22 H2 H3) : Ab_235_0 n4 n3 n2 n1 n10 H0 H3 ∧ ∀ q, some q0 = some q → mub_235_0 n4 n3 n2 n1 n10 H0 H3 < q := by
  have g4 := f8.2.1.1
  unfold Ab_235_0 at g4
  have g3 := f8.2.1.2
  unfold preb_235 at g3
  have g5 := Option.some.inj f8.2.2
  unfold mub_235_0 at g5
  unfold postb_234 at f45
  unfold Ab_235_0
  unfold mub_235_0
  have e0 : n5 = hV H1 285 55 := (by rw [f4] at f11; exact f11 : n5 = hV H1 285 55)
  have e1 : n7 = hV H1 285 55 := (by rw [f4] at f17; exact f17 : n7 = hV H1 285 55)
  have e2 : hV H1 322 = hV H0 322 := fRow f8.1.2.1 322 kR_235_322
  have e3 : n10 = hV H0 322 (n9).toNat := (by rw [f13] at f22; exact f22 : n10 = hV H1 322 (n9).toNat).trans ((congrFun e2 _))
  have e4 : n14 = hV H1 285 55 := (by rw [f4] at f32; exact f32 : n14 = hV H1 285 55)
  have e6 : hV H1 285 34 = hV H0 285 34 := (f8.1.2.1.1 285 34 kF_235_285_34)
  have e8 : hV H1 285 35 = hV H0 285 35 := (f8.1.2.1.1 285 35 kF_235_285_35)
  have e10 : hV H1 285 44 = hV H0 285 44 := (f8.1.2.1.1 285 44 kF_235_285_44)
  have e11 : hV H1 306 = hV H0 306 := fRow f8.1.2.1 306 kR_235_306
  have e12 : hV H1 307 = hV H0 307 := fRow f8.1.2.1 307 kR_235_307
  have e13 : hV H1 308 = hV H0 308 := fRow f8.1.2.1 308 kR_235_308
  have e14 : hV H1 309 = hV H0 309 := fRow f8.1.2.1 309 kR_235_309
  have e15 : hV H1 310 = hV H0 310 := fRow f8.1.2.1 310 kR_235_310
  have e16 : hV H1 311 = hV H0 311 := fRow f8.1.2.1 311 kR_235_311
  have e17 : hV H1 317 = hV H0 317 := fRow f8.1.2.1 317 kR_235_317
  have e18 : hV H1 318 = hV H0 318 := fRow f8.1.2.1 318 kR_235_318
  have e19 : hV H1 319 = hV H0 319 := fRow f8.1.2.1 319 kR_235_319
  have e21 : hV H2 285 51 = hV H1 285 51 := (uSlot f36 285 51 (iS (show n17 = ((55 : Nat) : Int) from f35) rfl))
  have e22 : hV H2 320 = hV H1 320 := uRowNe f36 320 (iS (show n2 = ((285 : Nat) : Int) from f4) rfl)
  have e23 : hV H2 321 = hV H1 321 := uRowNe f36 321 (iS (show n2 = ((285 : Nat) : Int) from f4) rfl)
  have e26 : hV H3 285 34 = hV H0 285 34 := ((f45.1.2.1.1 285 34 kF_234_285_34)).trans (((uSlot f36 285 34 (iS (show n17 = ((55 : Nat) : Int) from f35) rfl))).trans (f8.1.2.1.1 285 34 kF_235_285_34))
  have e29 : hV H3 285 35 = hV H0 285 35 := ((f45.1.2.1.1 285 35 kF_234_285_35)).trans (((uSlot f36 285 35 (iS (show n17 = ((55 : Nat) : Int) from f35) rfl))).trans (f8.1.2.1.1 285 35 kF_235_285_35))
  have e32 : hV H3 285 44 = hV H0 285 44 := ((f45.1.2.1.1 285 44 kF_234_285_44)).trans (((uSlot f36 285 44 (iS (show n17 = ((55 : Nat) : Int) from f35) rfl))).trans (f8.1.2.1.1 285 44 kF_235_285_44))
  have e35 : hV H3 285 55 = n16 := ((f45.1.2.1.1 285 55 kF_234_285_55)).trans (uSame f36 285 55 f4.symm f35.symm)
  have e39 : hV H3 306 = hV H0 306 := (fRow f45.1.2.1 306 kR_234_306).trans ((uRowNe f36 306 (iS (show n2 = ((285 : Nat) : Int) from f4) rfl)).trans e11)
  have e43 : hV H3 307 = hV H0 307 := (fRow f45.1.2.1 307 kR_234_307).trans ((uRowNe f36 307 (iS (show n2 = ((285 : Nat) : Int) from f4) rfl)).trans e12)
  have e47 : hV H3 308 = hV H0 308 := (fRow f45.1.2.1 308 kR_234_308).trans ((uRowNe f36 308 (iS (show n2 = ((285 : Nat) : Int) from f4) rfl)).trans e13)
  have e51 : hV H3 309 = hV H0 309 := (fRow f45.1.2.1 309 kR_234_309).trans ((uRowNe f36 309 (iS (show n2 = ((285 : Nat) : Int) from f4) rfl)).trans e14)
  have e55 : hV H3 310 = hV H0 310 := (fRow f45.1.2.1 310 kR_234_310).trans ((uRowNe f36 310 (iS (show n2 = ((285 : Nat) : Int) from f4) rfl)).trans e15)
  have e59 : hV H3 311 = hV H0 311 := (fRow f45.1.2.1 311 kR_234_311).trans ((uRowNe f36 311 (iS (show n2 = ((285 : Nat) : Int) from f4) rfl)).trans e16)
  have e63 : hV H3 317 = hV H0 317 := (fRow f45.1.2.1 317 kR_234_317).trans ((uRowNe f36 317 (iS (show n2 = ((285 : Nat) : Int) from f4) rfl)).trans e17)
  have e67 : hV H3 318 = hV H0 318 := (fRow f45.1.2.1 318 kR_234_318).trans ((uRowNe f36 318 (iS (show n2 = ((285 : Nat) : Int) from f4) rfl)).trans e18)
  have e71 : hV H3 319 = hV H0 319 := (fRow f45.1.2.1 319 kR_234_319).trans ((uRowNe f36 319 (iS (show n2 = ((285 : Nat) : Int) from f4) rfl)).trans e19)
  have e75 : hV H3 322 = hV H0 322 := (fRow f45.1.2.1 322 kR_234_322).trans ((uRowNe f36 322 (iS (show n2 = ((285 : Nat) : Int) from f4) rfl)).trans e2)
  have e76 : (0 : Int) ≤ hV H0 285 34 ∧ hV H0 285 34 ≤ 1 := bTo e6 (f8.1.2.2 285 34 _ _ kW_285_34)
  have e77 : (0 : Int) ≤ hV H0 285 35 ∧ hV H0 285 35 ≤ 1 := bTo e8 (f8.1.2.2 285 35 _ _ kW_285_35)
  have e78 : (0 : Int) ≤ hV H0 285 44 ∧ hV H0 285 44 ≤ 400 := bTo e10 (f8.1.2.2 285 44 _ _ kW_285_44)
  have e79 : (0 : Int) ≤ hV H1 285 51 ∧ hV H1 285 51 ≤ 1200 := f8.1.2.2 285 51 _ _ kW_285_51
  have e80 : (0 : Int) ≤ hV H1 285 55 ∧ hV H1 285 55 ≤ 64 := f8.1.2.2 285 55 _ _ kW_285_55
  have e84 : (0 : Int) ≤ hV H3 285 51 ∧ hV H3 285 51 ≤ 1200 := f45.1.2.2.2 285 51 _ _ kW_285_51
  have e85 : (0 : Int) ≤ hV H3 285 55 ∧ hV H3 285 55 ≤ 64 := f45.1.2.2.2 285 55 _ _ kW_285_55
  try simp only [RR]
  try simp only [e35] at e85
  try simp only [e26, e29, e32, e35, e39, e43, e47, e51, e55, e59, e63, e67, e71, e75]
  have k0 := g4.1
  have y0 := g4.2.1
  have y1 := g4.2.2.1
  have y2 := g4.2.2.2.1
  have y3 := g4.2.2.2.2.1
  have y4 := g4.2.2.2.2.2
  have p0 := g3.1
  have p1 := g3.2.1
  have p2 := g3.2.2.1
  have p3 := g3.2.2.2
  have r0_0 := f45.2.1
  have r0_1 := f45.2.2.1
  have r0_2 := f45.2.2.2
  try simp only [RR] at y0
  try simp only [RR] at p0
  try simp only [e6, e8, e10, e11, e12, e13, e14, e15, e16, e17, e18, e19] at y0
  try simp only [e2] at y1
  try simp only [e2] at y4
  try simp only [e21] at r0_0
  try simp only [e21, e22] at r0_1
  try simp only [e21, e23] at r0_2
  clear g3
  clear g4
  clear f11 f14 f17 f22 f32 e2 e6 e8 e10 e11 e12 e13 e14 e15 e16 e17 e18 e19 e21 e22 e23 e26 e29 e32 e39 e43 e47 e51 e55 e59 e63 e67 e71 e75
  clear f8 f45
  subst e0
  subst e1
  subst e3
  subst e4
  first
  | (have ix0 : n9 = hV H1 285 55 - 1 := Eq.trans f19 (w32_iv (Isu (Iat f10 f9) (IC 1)) (by decide)); subst ix0; clear f19)
  | (have ix0 : n9 = hV H1 285 55 - 1 := Eq.trans f19 (w32_id (by omega) (by omega)); subst ix0; clear f19)
  | (unfold w32 at f19; have ix0 : n9 = hV H1 285 55 - 1 := (by omega); subst ix0)
  | skip
  first
  | (have ix1 : n16 = hV H1 285 55 - 1 := Eq.trans f34 (w32_iv (Isu (Iat f10 f9) (IC 1)) (by decide)); subst ix1; clear f34)
  | (have ix1 : n16 = hV H1 285 55 - 1 := Eq.trans f34 (w32_id (by omega) (by omega)); subst ix1; clear f34)
  | (unfold w32 at f34; have ix1 : n16 = hV H1 285 55 - 1 := (by omega); subst ix1)
  | skip
  try unfold w32 at f19
  try unfold w32 at f34

  have wp := wo_pop (w := hV H0 322) (n := hV H1 285 55) (by omega)
  have wl := wo_le (w := hV H0 322) (hV H1 285 55 - 1).toNat
  refine ⟨⟨?_, ?_, ?_, ?_⟩, fun q hq => ?_⟩
  · first | trivial | omega
  · rw [r0_1, r0_2]
    exact RR_emit y0 (by omega) (by omega) (by omega) (by omega) (by omega) (by omega) (by omega) (by omega)
  · rw [r0_1, r0_2]
    exact CO_step y1 (by omega) (by omega) (by omega) (.inr ⟨by omega, by omega, by omega⟩)
  · first
    | omega
    | (refine ⟨?_, ?_, ?_⟩ <;> first | exact True.intro | omega)
  · have g6 := Option.some.inj hq
    subst g6
    omega
def g_235_0_19 : vG := ([(1234, [2, 21, 22], [2, 3], 0), (0, [22], [], 0), (0, [21], [], 4), (40, [10, 20], [], 0), (0, [20], [], 10), (41, [10, 19], [], 0), (0, [19], [], 9), (41, [10, 18], [], 0), (0, [18], [], 8), (80, [2, 17, 16], [2, 1], 0), (0, [17], [], 55), (2, [16, 14, 15], [], 0), (0, [15], [], 1), (20, [14, 2], [1], 55), (90, [14], [], 0), (91, [14], [], 64), (41, [10, 13], [], 0), (0, [13], [], 9), (41, [10, 12], [], 0), (0, [12], [], 8), (31, [3], [], 0), (41, [10, 11], [], 0), (0, [11], [], 6), (22, [10, 6, 9], [1], 0), (90, [10], [], 0), (91, [10], [], 53), (2, [9, 7, 8], [], 0), (0, [8], [], 1), (20, [7, 2], [1], 55), (90, [7], [], 0), (91, [7], [], 64), (20, [6, 2], [1], 54), (0, [6], [], 322), (34, [5], [], 0), (20, [5, 2], [1], 55), (90, [5], [], 0), (91, [5], [], 64), (5000, [0, 1, 2, 3, 4], [0, 1], 0), (0, [0], [], 285), (90, [1], [], 0), (91, [1], [], 1), (0, [2], [], 285), (90, [3], [], 0), (91, [3], [], 1), (90, [4], [], -2147483648), (91, [4], [], 2147483647)], (4000, [2, 3, 10], [3], 0))
theorem c_235_0_19 {q0 : Nat} : vOkm T0 (eP e_235 L_235 A_235 mu_235 (some q0)) 2 g_235_0_19 := vOk_inI fun ρ η f0 f1 f2 f3 f4 f5 f6 f7 f8 f9 f10 f11 f12 f13 f14 f15 f16 f17 f18 f19 f20 f21 f22 f23 f24 f25 f26 f27 f28 f29 f30 f31 f32 f33 f34 f35 f36 f37 f38 f39 f40 f41 f42 f43 f44 f45 => q_235_40 (q0 := q0) (n0 := ρ 4) (n1 := ρ 3) (n2 := ρ 2) (n3 := ρ 1) (n4 := ρ 0) (n5 := ρ 5) (n6 := ρ 6) (n7 := ρ 7) (n8 := ρ 8) (n9 := ρ 9) (n10 := ρ 10) (n11 := ρ 11) (n12 := ρ 12) (n13 := ρ 13) (n14 := ρ 14) (n15 := ρ 15) (n16 := ρ 16) (n17 := ρ 17) (n18 := ρ 18) (n19 := ρ 19) (n20 := ρ 20) (n21 := ρ 21) (n22 := ρ 22) (H0 := η 0) (H1 := η 1) (H2 := η 2) (H3 := η 3) f45 f44 f43 f42 f41 f40 f39 f38 f37 f36 f35 f34 f33 f32 f31 f30 f29 f28 f27 f26 f25 f24 f23 f22 f21 f20 f19 f18 f17 f16 f15 f14 f13 f12 f11 f10 f9 f8 f7 f6 f5 f4 f3 f2 f1 f0
theorem q_235_41 {q0 : Nat} {n0 n1 n2 n3 n4 n5 n6 n7 n8 n9 n10 n11 n12 n13 n14 n15 n16 n17 n18 n19 n20 n21 : Int} {H0 H1 H2 : gH} (f0 : n0 ≤ 2147483647) (f1 : (-2147483648) ≤ n0) (f2 : n1 ≤ 1) (f3 : 0 ≤ n1) (f4 : n2 = 285) (f5 : n3 ≤ 1) (f6 : 0 ≤ n3) (f7 : n4 = 285) (f8 : (hLe T0 H0 H1 ∧ hFr s_235.2.2.2.2 H0 H1 ∧ hWt T0 H1) ∧ (Ab_235_0 n4 n3 n2 n1 n0 H0 H1 ∧ preb_235 n4 n3 H0) ∧ some q0 = some (mub_235_0 n4 n3 n2 n1 n0 H0 H1)) (f9 : n5 ≤ 64) (f10 : 0 ≤ n5) (f11 : n5 = hV H1 (n2).toNat 55) (f12 : 0 < n5) (f13 : n6 = 322) (f14 : n6 = hV H1 (n2).toNat 54) (f15 : n7 ≤ 64) (f16 : 0 ≤ n7) (f17 : n7 = hV H1 (n2).toNat 55) (f18 : n8 = 1) (f19 : n9 = w32 (n7 - n8)) (f20 : n10 ≤ 53) (f21 : 0 ≤ n10) (f22 : n10 = hV H1 (n6).toNat (n9).toNat) (f23 : n11 = 6) (f24 : n10 ≠ n11) (f25 : n1 ≠ 0) (f26 : n12 = 8) (f27 : n10 ≠ n12) (f28 : n13 = 9) (f29 : n10 ≠ n13) (f30 : n14 ≤ 64) (f31 : 0 ≤ n14) (f32 : n14 = hV H1 (n2).toNat 55) (f33 : n15 = 1) (f34 : n16 = w32 (n14 - n15)) (f35 : n17 = 55) (f36 : hUpd H2 H1 n2 n17 n16) (f37 : n18 = 8) (f38 : n10 ≠ n18) (f39 : n19 = 9) (f40 : n10 = n19) (f41 : n20 = 3) (f42 : n21 = 0) : preb_234 n2 n20 n21 H2 := by
  have g4 := f8.2.1.1
  unfold Ab_235_0 at g4
  have g3 := f8.2.1.2
  unfold preb_235 at g3
  unfold preb_234
  have e0 : n5 = hV H1 285 55 := (by rw [f4] at f11; exact f11 : n5 = hV H1 285 55)
  have e1 : n7 = hV H1 285 55 := (by rw [f4] at f17; exact f17 : n7 = hV H1 285 55)
  have e2 : hV H1 322 = hV H0 322 := fRow f8.1.2.1 322 kR_235_322
  have e3 : n10 = hV H0 322 (n9).toNat := (by rw [f13] at f22; exact f22 : n10 = hV H1 322 (n9).toNat).trans ((congrFun e2 _))
  have e4 : n14 = hV H1 285 55 := (by rw [f4] at f32; exact f32 : n14 = hV H1 285 55)
  have e10 : hV H2 285 51 = hV H1 285 51 := (uSlot f36 285 51 (iS (show n17 = ((55 : Nat) : Int) from f35) rfl))
  have e11 : (0 : Int) ≤ hV H0 285 34 ∧ hV H0 285 34 ≤ 1 := bTo ((f8.1.2.1.1 285 34 kF_235_285_34)) (f8.1.2.2 285 34 _ _ kW_285_34)
  have e12 : (0 : Int) ≤ hV H0 285 35 ∧ hV H0 285 35 ≤ 1 := bTo ((f8.1.2.1.1 285 35 kF_235_285_35)) (f8.1.2.2 285 35 _ _ kW_285_35)
  have e13 : (0 : Int) ≤ hV H1 285 51 ∧ hV H1 285 51 ≤ 1200 := f8.1.2.2 285 51 _ _ kW_285_51
  have e14 : (0 : Int) ≤ hV H1 285 55 ∧ hV H1 285 55 ≤ 64 := f8.1.2.2 285 55 _ _ kW_285_55
  try simp only [e10]
  have k0 := g4.1
  have y0 := g4.2.1
  have y1 := g4.2.2.1
  have y2 := g4.2.2.2.1
  have y3 := g4.2.2.2.2.1
  have y4 := g4.2.2.2.2.2
  have p0 := g3.1
  have p1 := g3.2.1
  have p2 := g3.2.2.1
  have p3 := g3.2.2.2
  try simp only [e2] at y1
  try simp only [e2] at y4
  clear g3
  clear g4
  clear f11 f14 f17 f22 f32 e2 e10
  clear f8
  subst e0
  subst e1
  subst e3
  subst e4
  first
  | (have ix0 : n9 = hV H1 285 55 - 1 := Eq.trans f19 (w32_iv (Isu (Iat f10 f9) (IC 1)) (by decide)); subst ix0; clear f19)
  | (have ix0 : n9 = hV H1 285 55 - 1 := Eq.trans f19 (w32_id (by omega) (by omega)); subst ix0; clear f19)
  | (unfold w32 at f19; have ix0 : n9 = hV H1 285 55 - 1 := (by omega); subst ix0)
  | skip
  first
  | (have ix1 : n16 = hV H1 285 55 - 1 := Eq.trans f34 (w32_iv (Isu (Iat f10 f9) (IC 1)) (by decide)); subst ix1; clear f34)
  | (have ix1 : n16 = hV H1 285 55 - 1 := Eq.trans f34 (w32_id (by omega) (by omega)); subst ix1; clear f34)
  | (unfold w32 at f34; have ix1 : n16 = hV H1 285 55 - 1 := (by omega); subst ix1)
  | skip
  try unfold w32 at f19
  try unfold w32 at f34

  have wp := wo_pop (w := hV H0 322) (n := hV H1 285 55) (by omega)
  have wl := wo_le (w := hV H0 322) (hV H1 285 55 - 1).toNat
  omega
def g_235_0_20 : vG := ([(0, [21], [], 0), (0, [20], [], 3), (40, [10, 19], [], 0), (0, [19], [], 9), (41, [10, 18], [], 0), (0, [18], [], 8), (80, [2, 17, 16], [2, 1], 0), (0, [17], [], 55), (2, [16, 14, 15], [], 0), (0, [15], [], 1), (20, [14, 2], [1], 55), (90, [14], [], 0), (91, [14], [], 64), (41, [10, 13], [], 0), (0, [13], [], 9), (41, [10, 12], [], 0), (0, [12], [], 8), (31, [3], [], 0), (41, [10, 11], [], 0), (0, [11], [], 6), (22, [10, 6, 9], [1], 0), (90, [10], [], 0), (91, [10], [], 53), (2, [9, 7, 8], [], 0), (0, [8], [], 1), (20, [7, 2], [1], 55), (90, [7], [], 0), (91, [7], [], 64), (20, [6, 2], [1], 54), (0, [6], [], 322), (34, [5], [], 0), (20, [5, 2], [1], 55), (90, [5], [], 0), (91, [5], [], 64), (5000, [0, 1, 2, 3, 4], [0, 1], 0), (0, [0], [], 285), (90, [1], [], 0), (91, [1], [], 1), (0, [2], [], 285), (90, [3], [], 0), (91, [3], [], 1), (90, [4], [], -2147483648), (91, [4], [], 2147483647)], (2234, [2, 20, 21], [2], 0))
theorem c_235_0_20 {q0 : Nat} : vOkm T0 (eP e_235 L_235 A_235 mu_235 (some q0)) 2 g_235_0_20 := vOk_inI fun ρ η f0 f1 f2 f3 f4 f5 f6 f7 f8 f9 f10 f11 f12 f13 f14 f15 f16 f17 f18 f19 f20 f21 f22 f23 f24 f25 f26 f27 f28 f29 f30 f31 f32 f33 f34 f35 f36 f37 f38 f39 f40 f41 f42 => q_235_41 (q0 := q0) (n0 := ρ 4) (n1 := ρ 3) (n2 := ρ 2) (n3 := ρ 1) (n4 := ρ 0) (n5 := ρ 5) (n6 := ρ 6) (n7 := ρ 7) (n8 := ρ 8) (n9 := ρ 9) (n10 := ρ 10) (n11 := ρ 11) (n12 := ρ 12) (n13 := ρ 13) (n14 := ρ 14) (n15 := ρ 15) (n16 := ρ 16) (n17 := ρ 17) (n18 := ρ 18) (n19 := ρ 19) (n20 := ρ 20) (n21 := ρ 21) (H0 := η 0) (H1 := η 1) (H2 := η 2) f42 f41 f40 f39 f38 f37 f36 f35 f34 f33 f32 f31 f30 f29 f28 f27 f26 f25 f24 f23 f22 f21 f20 f19 f18 f17 f16 f15 f14 f13 f12 f11 f10 f9 f8 f7 f6 f5 f4 f3 f2 f1 f0
theorem q_235_42 {q0 : Nat} {n0 n1 n2 n3 n4 n5 n6 n7 n8 n9 n10 n11 n12 n13 n14 n15 n16 n17 n18 n19 n20 n21 : Int} {H0 H1 H2 H3 : gH} (f0 : n0 ≤ 2147483647) (f1 : (-2147483648) ≤ n0) (f2 : n1 ≤ 1) (f3 : 0 ≤ n1) (f4 : n2 = 285) (f5 : n3 ≤ 1) (f6 : 0 ≤ n3) (f7 : n4 = 285) (f8 : (hLe T0 H0 H1 ∧ hFr s_235.2.2.2.2 H0 H1 ∧ hWt T0 H1) ∧ (Ab_235_0 n4 n3 n2 n1 n0 H0 H1 ∧ preb_235 n4 n3 H0) ∧ some q0 = some (mub_235_0 n4 n3 n2 n1 n0 H0 H1)) (f9 : n5 ≤ 64) (f10 : 0 ≤ n5) (f11 : n5 = hV H1 (n2).toNat 55) (f12 : 0 < n5) (f13 : n6 = 322) (f14 : n6 = hV H1 (n2).toNat 54) (f15 : n7 ≤ 64) (f16 : 0 ≤ n7) (f17 : n7 = hV H1 (n2).toNat 55) (f18 : n8 = 1) (f19 : n9 = w32 (n7 - n8)) (f20 : n10 ≤ 53) (f21 : 0 ≤ n10) (f22 : n10 = hV H1 (n6).toNat (n9).toNat) (f23 : n11 = 6) (f24 : n10 ≠ n11) (f25 : n1 ≠ 0) (f26 : n12 = 8) (f27 : n10 ≠ n12) (f28 : n13 = 9) (f29 : n10 ≠ n13) (f30 : n14 ≤ 64) (f31 : 0 ≤ n14) (f32 : n14 = hV H1 (n2).toNat 55) (f33 : n15 = 1) (f34 : n16 = w32 (n14 - n15)) (f35 : n17 = 55) (f36 : hUpd H2 H1 n2 n17 n16) (f37 : n18 = 8) (f38 : n10 ≠ n18) (f39 : n19 = 9) (f40 : n10 = n19) (f41 : n20 = 3) (f42 : n21 = 0) (f43 : (hLe T0 H2 H3 ∧ hFr s_234.2.2.2.2 H2 H3 ∧ ((0 : Int) = 0 → H3.length = H2.length) ∧ hWt T0 H3) ∧ postb_234 n2 n20 n21 H2 H3) : Ab_235_0 n4 n3 n2 n1 n10 H0 H3 ∧ ∀ q, some q0 = some q → mub_235_0 n4 n3 n2 n1 n10 H0 H3 < q := by
  have g4 := f8.2.1.1
  unfold Ab_235_0 at g4
  have g3 := f8.2.1.2
  unfold preb_235 at g3
  have g5 := Option.some.inj f8.2.2
  unfold mub_235_0 at g5
  unfold postb_234 at f43
  unfold Ab_235_0
  unfold mub_235_0
  have e0 : n5 = hV H1 285 55 := (by rw [f4] at f11; exact f11 : n5 = hV H1 285 55)
  have e1 : n7 = hV H1 285 55 := (by rw [f4] at f17; exact f17 : n7 = hV H1 285 55)
  have e2 : hV H1 322 = hV H0 322 := fRow f8.1.2.1 322 kR_235_322
  have e3 : n10 = hV H0 322 (n9).toNat := (by rw [f13] at f22; exact f22 : n10 = hV H1 322 (n9).toNat).trans ((congrFun e2 _))
  have e4 : n14 = hV H1 285 55 := (by rw [f4] at f32; exact f32 : n14 = hV H1 285 55)
  have e6 : hV H1 285 34 = hV H0 285 34 := (f8.1.2.1.1 285 34 kF_235_285_34)
  have e8 : hV H1 285 35 = hV H0 285 35 := (f8.1.2.1.1 285 35 kF_235_285_35)
  have e10 : hV H1 285 44 = hV H0 285 44 := (f8.1.2.1.1 285 44 kF_235_285_44)
  have e11 : hV H1 306 = hV H0 306 := fRow f8.1.2.1 306 kR_235_306
  have e12 : hV H1 307 = hV H0 307 := fRow f8.1.2.1 307 kR_235_307
  have e13 : hV H1 308 = hV H0 308 := fRow f8.1.2.1 308 kR_235_308
  have e14 : hV H1 309 = hV H0 309 := fRow f8.1.2.1 309 kR_235_309
  have e15 : hV H1 310 = hV H0 310 := fRow f8.1.2.1 310 kR_235_310
  have e16 : hV H1 311 = hV H0 311 := fRow f8.1.2.1 311 kR_235_311
  have e17 : hV H1 317 = hV H0 317 := fRow f8.1.2.1 317 kR_235_317
  have e18 : hV H1 318 = hV H0 318 := fRow f8.1.2.1 318 kR_235_318
  have e19 : hV H1 319 = hV H0 319 := fRow f8.1.2.1 319 kR_235_319
  have e21 : hV H2 285 51 = hV H1 285 51 := (uSlot f36 285 51 (iS (show n17 = ((55 : Nat) : Int) from f35) rfl))
  have e22 : hV H2 320 = hV H1 320 := uRowNe f36 320 (iS (show n2 = ((285 : Nat) : Int) from f4) rfl)
  have e23 : hV H2 321 = hV H1 321 := uRowNe f36 321 (iS (show n2 = ((285 : Nat) : Int) from f4) rfl)
  have e26 : hV H3 285 34 = hV H0 285 34 := ((f43.1.2.1.1 285 34 kF_234_285_34)).trans (((uSlot f36 285 34 (iS (show n17 = ((55 : Nat) : Int) from f35) rfl))).trans (f8.1.2.1.1 285 34 kF_235_285_34))
  have e29 : hV H3 285 35 = hV H0 285 35 := ((f43.1.2.1.1 285 35 kF_234_285_35)).trans (((uSlot f36 285 35 (iS (show n17 = ((55 : Nat) : Int) from f35) rfl))).trans (f8.1.2.1.1 285 35 kF_235_285_35))
  have e32 : hV H3 285 44 = hV H0 285 44 := ((f43.1.2.1.1 285 44 kF_234_285_44)).trans (((uSlot f36 285 44 (iS (show n17 = ((55 : Nat) : Int) from f35) rfl))).trans (f8.1.2.1.1 285 44 kF_235_285_44))
  have e35 : hV H3 285 55 = n16 := ((f43.1.2.1.1 285 55 kF_234_285_55)).trans (uSame f36 285 55 f4.symm f35.symm)
  have e39 : hV H3 306 = hV H0 306 := (fRow f43.1.2.1 306 kR_234_306).trans ((uRowNe f36 306 (iS (show n2 = ((285 : Nat) : Int) from f4) rfl)).trans e11)
  have e43 : hV H3 307 = hV H0 307 := (fRow f43.1.2.1 307 kR_234_307).trans ((uRowNe f36 307 (iS (show n2 = ((285 : Nat) : Int) from f4) rfl)).trans e12)
  have e47 : hV H3 308 = hV H0 308 := (fRow f43.1.2.1 308 kR_234_308).trans ((uRowNe f36 308 (iS (show n2 = ((285 : Nat) : Int) from f4) rfl)).trans e13)
  have e51 : hV H3 309 = hV H0 309 := (fRow f43.1.2.1 309 kR_234_309).trans ((uRowNe f36 309 (iS (show n2 = ((285 : Nat) : Int) from f4) rfl)).trans e14)
  have e55 : hV H3 310 = hV H0 310 := (fRow f43.1.2.1 310 kR_234_310).trans ((uRowNe f36 310 (iS (show n2 = ((285 : Nat) : Int) from f4) rfl)).trans e15)
  have e59 : hV H3 311 = hV H0 311 := (fRow f43.1.2.1 311 kR_234_311).trans ((uRowNe f36 311 (iS (show n2 = ((285 : Nat) : Int) from f4) rfl)).trans e16)
  have e63 : hV H3 317 = hV H0 317 := (fRow f43.1.2.1 317 kR_234_317).trans ((uRowNe f36 317 (iS (show n2 = ((285 : Nat) : Int) from f4) rfl)).trans e17)
  have e67 : hV H3 318 = hV H0 318 := (fRow f43.1.2.1 318 kR_234_318).trans ((uRowNe f36 318 (iS (show n2 = ((285 : Nat) : Int) from f4) rfl)).trans e18)
  have e71 : hV H3 319 = hV H0 319 := (fRow f43.1.2.1 319 kR_234_319).trans ((uRowNe f36 319 (iS (show n2 = ((285 : Nat) : Int) from f4) rfl)).trans e19)
  have e75 : hV H3 322 = hV H0 322 := (fRow f43.1.2.1 322 kR_234_322).trans ((uRowNe f36 322 (iS (show n2 = ((285 : Nat) : Int) from f4) rfl)).trans e2)
  have e76 : (0 : Int) ≤ hV H0 285 34 ∧ hV H0 285 34 ≤ 1 := bTo e6 (f8.1.2.2 285 34 _ _ kW_285_34)
  have e77 : (0 : Int) ≤ hV H0 285 35 ∧ hV H0 285 35 ≤ 1 := bTo e8 (f8.1.2.2 285 35 _ _ kW_285_35)
  have e78 : (0 : Int) ≤ hV H0 285 44 ∧ hV H0 285 44 ≤ 400 := bTo e10 (f8.1.2.2 285 44 _ _ kW_285_44)
  have e79 : (0 : Int) ≤ hV H1 285 51 ∧ hV H1 285 51 ≤ 1200 := f8.1.2.2 285 51 _ _ kW_285_51
  have e80 : (0 : Int) ≤ hV H1 285 55 ∧ hV H1 285 55 ≤ 64 := f8.1.2.2 285 55 _ _ kW_285_55
  have e84 : (0 : Int) ≤ hV H3 285 51 ∧ hV H3 285 51 ≤ 1200 := f43.1.2.2.2 285 51 _ _ kW_285_51
  have e85 : (0 : Int) ≤ hV H3 285 55 ∧ hV H3 285 55 ≤ 64 := f43.1.2.2.2 285 55 _ _ kW_285_55
  try simp only [RR]
  try simp only [e35] at e85
  try simp only [e26, e29, e32, e35, e39, e43, e47, e51, e55, e59, e63, e67, e71, e75]
  have k0 := g4.1
  have y0 := g4.2.1
  have y1 := g4.2.2.1
  have y2 := g4.2.2.2.1
  have y3 := g4.2.2.2.2.1
  have y4 := g4.2.2.2.2.2
  have p0 := g3.1
  have p1 := g3.2.1
  have p2 := g3.2.2.1
  have p3 := g3.2.2.2
  have r0_0 := f43.2.1
  have r0_1 := f43.2.2.1
  have r0_2 := f43.2.2.2
  try simp only [RR] at y0
  try simp only [RR] at p0
  try simp only [e6, e8, e10, e11, e12, e13, e14, e15, e16, e17, e18, e19] at y0
  try simp only [e2] at y1
  try simp only [e2] at y4
  try simp only [e21] at r0_0
  try simp only [e21, e22] at r0_1
  try simp only [e21, e23] at r0_2
  clear g3
  clear g4
  clear f11 f14 f17 f22 f32 e2 e6 e8 e10 e11 e12 e13 e14 e15 e16 e17 e18 e19 e21 e22 e23 e26 e29 e32 e39 e43 e47 e51 e55 e59 e63 e67 e71 e75
  clear f8 f43
  subst e0
  subst e1
  subst e3
  subst e4
  first
  | (have ix0 : n9 = hV H1 285 55 - 1 := Eq.trans f19 (w32_iv (Isu (Iat f10 f9) (IC 1)) (by decide)); subst ix0; clear f19)
  | (have ix0 : n9 = hV H1 285 55 - 1 := Eq.trans f19 (w32_id (by omega) (by omega)); subst ix0; clear f19)
  | (unfold w32 at f19; have ix0 : n9 = hV H1 285 55 - 1 := (by omega); subst ix0)
  | skip
  first
  | (have ix1 : n16 = hV H1 285 55 - 1 := Eq.trans f34 (w32_iv (Isu (Iat f10 f9) (IC 1)) (by decide)); subst ix1; clear f34)
  | (have ix1 : n16 = hV H1 285 55 - 1 := Eq.trans f34 (w32_id (by omega) (by omega)); subst ix1; clear f34)
  | (unfold w32 at f34; have ix1 : n16 = hV H1 285 55 - 1 := (by omega); subst ix1)
  | skip
  try unfold w32 at f19
  try unfold w32 at f34

  have wp := wo_pop (w := hV H0 322) (n := hV H1 285 55) (by omega)
  have wl := wo_le (w := hV H0 322) (hV H1 285 55 - 1).toNat
  refine ⟨⟨?_, ?_, ?_, ?_⟩, fun q hq => ?_⟩
  · first | trivial | omega
  · rw [r0_1, r0_2]
    exact RR_emit y0 (by omega) (by omega) (by omega) (by omega) (by omega) (by omega) (by omega) (by omega)
  · rw [r0_1, r0_2]
    exact CO_step y1 (by omega) (by omega) (by omega) (.inr ⟨by omega, by omega, by omega⟩)
  · first
    | omega
    | (refine ⟨?_, ?_, ?_⟩ <;> first | exact True.intro | omega)
  · have g6 := Option.some.inj hq
    subst g6
    omega
def g_235_0_21 : vG := ([(1234, [2, 20, 21], [2, 3], 0), (0, [21], [], 0), (0, [20], [], 3), (40, [10, 19], [], 0), (0, [19], [], 9), (41, [10, 18], [], 0), (0, [18], [], 8), (80, [2, 17, 16], [2, 1], 0), (0, [17], [], 55), (2, [16, 14, 15], [], 0), (0, [15], [], 1), (20, [14, 2], [1], 55), (90, [14], [], 0), (91, [14], [], 64), (41, [10, 13], [], 0), (0, [13], [], 9), (41, [10, 12], [], 0), (0, [12], [], 8), (31, [3], [], 0), (41, [10, 11], [], 0), (0, [11], [], 6), (22, [10, 6, 9], [1], 0), (90, [10], [], 0), (91, [10], [], 53), (2, [9, 7, 8], [], 0), (0, [8], [], 1), (20, [7, 2], [1], 55), (90, [7], [], 0), (91, [7], [], 64), (20, [6, 2], [1], 54), (0, [6], [], 322), (34, [5], [], 0), (20, [5, 2], [1], 55), (90, [5], [], 0), (91, [5], [], 64), (5000, [0, 1, 2, 3, 4], [0, 1], 0), (0, [0], [], 285), (90, [1], [], 0), (91, [1], [], 1), (0, [2], [], 285), (90, [3], [], 0), (91, [3], [], 1), (90, [4], [], -2147483648), (91, [4], [], 2147483647)], (4000, [2, 3, 10], [3], 0))
theorem c_235_0_21 {q0 : Nat} : vOkm T0 (eP e_235 L_235 A_235 mu_235 (some q0)) 2 g_235_0_21 := vOk_inI fun ρ η f0 f1 f2 f3 f4 f5 f6 f7 f8 f9 f10 f11 f12 f13 f14 f15 f16 f17 f18 f19 f20 f21 f22 f23 f24 f25 f26 f27 f28 f29 f30 f31 f32 f33 f34 f35 f36 f37 f38 f39 f40 f41 f42 f43 => q_235_42 (q0 := q0) (n0 := ρ 4) (n1 := ρ 3) (n2 := ρ 2) (n3 := ρ 1) (n4 := ρ 0) (n5 := ρ 5) (n6 := ρ 6) (n7 := ρ 7) (n8 := ρ 8) (n9 := ρ 9) (n10 := ρ 10) (n11 := ρ 11) (n12 := ρ 12) (n13 := ρ 13) (n14 := ρ 14) (n15 := ρ 15) (n16 := ρ 16) (n17 := ρ 17) (n18 := ρ 18) (n19 := ρ 19) (n20 := ρ 20) (n21 := ρ 21) (H0 := η 0) (H1 := η 1) (H2 := η 2) (H3 := η 3) f43 f42 f41 f40 f39 f38 f37 f36 f35 f34 f33 f32 f31 f30 f29 f28 f27 f26 f25 f24 f23 f22 f21 f20 f19 f18 f17 f16 f15 f14 f13 f12 f11 f10 f9 f8 f7 f6 f5 f4 f3 f2 f1 f0
theorem q_235_43 {q0 : Nat} {n0 n1 n2 n3 n4 n5 n6 n7 n8 n9 n10 n11 n12 n13 n14 n15 n16 n17 n18 n19 n20 : Int} {H0 H1 H2 : gH} (f0 : n0 ≤ 2147483647) (f1 : (-2147483648) ≤ n0) (f2 : n1 ≤ 1) (f3 : 0 ≤ n1) (f4 : n2 = 285) (f5 : n3 ≤ 1) (f6 : 0 ≤ n3) (f7 : n4 = 285) (f8 : (hLe T0 H0 H1 ∧ hFr s_235.2.2.2.2 H0 H1 ∧ hWt T0 H1) ∧ (Ab_235_0 n4 n3 n2 n1 n0 H0 H1 ∧ preb_235 n4 n3 H0) ∧ some q0 = some (mub_235_0 n4 n3 n2 n1 n0 H0 H1)) (f9 : n5 ≤ 64) (f10 : 0 ≤ n5) (f11 : n5 = hV H1 (n2).toNat 55) (f12 : 0 < n5) (f13 : n6 = 322) (f14 : n6 = hV H1 (n2).toNat 54) (f15 : n7 ≤ 64) (f16 : 0 ≤ n7) (f17 : n7 = hV H1 (n2).toNat 55) (f18 : n8 = 1) (f19 : n9 = w32 (n7 - n8)) (f20 : n10 ≤ 53) (f21 : 0 ≤ n10) (f22 : n10 = hV H1 (n6).toNat (n9).toNat) (f23 : n11 = 6) (f24 : n10 ≠ n11) (f25 : n1 ≠ 0) (f26 : n12 = 8) (f27 : n10 ≠ n12) (f28 : n13 = 9) (f29 : n10 ≠ n13) (f30 : n14 ≤ 64) (f31 : 0 ≤ n14) (f32 : n14 = hV H1 (n2).toNat 55) (f33 : n15 = 1) (f34 : n16 = w32 (n14 - n15)) (f35 : n17 = 55) (f36 : hUpd H2 H1 n2 n17 n16) (f37 : n18 = 8) (f38 : n10 = n18) (f39 : n19 = 2) (f40 : n20 = 0) : preb_234 n2 n19 n20 H2 := by
  have g4 := f8.2.1.1
  unfold Ab_235_0 at g4
  have g3 := f8.2.1.2
  unfold preb_235 at g3
  unfold preb_234
  have e0 : n5 = hV H1 285 55 := (by rw [f4] at f11; exact f11 : n5 = hV H1 285 55)
  have e1 : n7 = hV H1 285 55 := (by rw [f4] at f17; exact f17 : n7 = hV H1 285 55)
  have e2 : hV H1 322 = hV H0 322 := fRow f8.1.2.1 322 kR_235_322
  have e3 : n10 = hV H0 322 (n9).toNat := (by rw [f13] at f22; exact f22 : n10 = hV H1 322 (n9).toNat).trans ((congrFun e2 _))
  have e4 : n14 = hV H1 285 55 := (by rw [f4] at f32; exact f32 : n14 = hV H1 285 55)
  have e10 : hV H2 285 51 = hV H1 285 51 := (uSlot f36 285 51 (iS (show n17 = ((55 : Nat) : Int) from f35) rfl))
  have e11 : (0 : Int) ≤ hV H0 285 34 ∧ hV H0 285 34 ≤ 1 := bTo ((f8.1.2.1.1 285 34 kF_235_285_34)) (f8.1.2.2 285 34 _ _ kW_285_34)
  have e12 : (0 : Int) ≤ hV H0 285 35 ∧ hV H0 285 35 ≤ 1 := bTo ((f8.1.2.1.1 285 35 kF_235_285_35)) (f8.1.2.2 285 35 _ _ kW_285_35)
  have e13 : (0 : Int) ≤ hV H1 285 51 ∧ hV H1 285 51 ≤ 1200 := f8.1.2.2 285 51 _ _ kW_285_51
  have e14 : (0 : Int) ≤ hV H1 285 55 ∧ hV H1 285 55 ≤ 64 := f8.1.2.2 285 55 _ _ kW_285_55
  try simp only [e10]
  have k0 := g4.1
  have y0 := g4.2.1
  have y1 := g4.2.2.1
  have y2 := g4.2.2.2.1
  have y3 := g4.2.2.2.2.1
  have y4 := g4.2.2.2.2.2
  have p0 := g3.1
  have p1 := g3.2.1
  have p2 := g3.2.2.1
  have p3 := g3.2.2.2
  try simp only [e2] at y1
  try simp only [e2] at y4
  clear g3
  clear g4
  clear f11 f14 f17 f22 f32 e2 e10
  clear f8
  subst e0
  subst e1
  subst e3
  subst e4
  first
  | (have ix0 : n9 = hV H1 285 55 - 1 := Eq.trans f19 (w32_iv (Isu (Iat f10 f9) (IC 1)) (by decide)); subst ix0; clear f19)
  | (have ix0 : n9 = hV H1 285 55 - 1 := Eq.trans f19 (w32_id (by omega) (by omega)); subst ix0; clear f19)
  | (unfold w32 at f19; have ix0 : n9 = hV H1 285 55 - 1 := (by omega); subst ix0)
  | skip
  first
  | (have ix1 : n16 = hV H1 285 55 - 1 := Eq.trans f34 (w32_iv (Isu (Iat f10 f9) (IC 1)) (by decide)); subst ix1; clear f34)
  | (have ix1 : n16 = hV H1 285 55 - 1 := Eq.trans f34 (w32_id (by omega) (by omega)); subst ix1; clear f34)
  | (unfold w32 at f34; have ix1 : n16 = hV H1 285 55 - 1 := (by omega); subst ix1)
  | skip
  try unfold w32 at f19
  try unfold w32 at f34

  have wp := wo_pop (w := hV H0 322) (n := hV H1 285 55) (by omega)
  have wl := wo_le (w := hV H0 322) (hV H1 285 55 - 1).toNat
  omega
def g_235_0_22 : vG := ([(0, [20], [], 0), (0, [19], [], 2), (40, [10, 18], [], 0), (0, [18], [], 8), (80, [2, 17, 16], [2, 1], 0), (0, [17], [], 55), (2, [16, 14, 15], [], 0), (0, [15], [], 1), (20, [14, 2], [1], 55), (90, [14], [], 0), (91, [14], [], 64), (41, [10, 13], [], 0), (0, [13], [], 9), (41, [10, 12], [], 0), (0, [12], [], 8), (31, [3], [], 0), (41, [10, 11], [], 0), (0, [11], [], 6), (22, [10, 6, 9], [1], 0), (90, [10], [], 0), (91, [10], [], 53), (2, [9, 7, 8], [], 0), (0, [8], [], 1), (20, [7, 2], [1], 55), (90, [7], [], 0), (91, [7], [], 64), (20, [6, 2], [1], 54), (0, [6], [], 322), (34, [5], [], 0), (20, [5, 2], [1], 55), (90, [5], [], 0), (91, [5], [], 64), (5000, [0, 1, 2, 3, 4], [0, 1], 0), (0, [0], [], 285), (90, [1], [], 0), (91, [1], [], 1), (0, [2], [], 285), (90, [3], [], 0), (91, [3], [], 1), (90, [4], [], -2147483648), (91, [4], [], 2147483647)], (2234, [2, 19, 20], [2], 0))
theorem c_235_0_22 {q0 : Nat} : vOkm T0 (eP e_235 L_235 A_235 mu_235 (some q0)) 2 g_235_0_22 := vOk_inI fun ρ η f0 f1 f2 f3 f4 f5 f6 f7 f8 f9 f10 f11 f12 f13 f14 f15 f16 f17 f18 f19 f20 f21 f22 f23 f24 f25 f26 f27 f28 f29 f30 f31 f32 f33 f34 f35 f36 f37 f38 f39 f40 => q_235_43 (q0 := q0) (n0 := ρ 4) (n1 := ρ 3) (n2 := ρ 2) (n3 := ρ 1) (n4 := ρ 0) (n5 := ρ 5) (n6 := ρ 6) (n7 := ρ 7) (n8 := ρ 8) (n9 := ρ 9) (n10 := ρ 10) (n11 := ρ 11) (n12 := ρ 12) (n13 := ρ 13) (n14 := ρ 14) (n15 := ρ 15) (n16 := ρ 16) (n17 := ρ 17) (n18 := ρ 18) (n19 := ρ 19) (n20 := ρ 20) (H0 := η 0) (H1 := η 1) (H2 := η 2) f40 f39 f38 f37 f36 f35 f34 f33 f32 f31 f30 f29 f28 f27 f26 f25 f24 f23 f22 f21 f20 f19 f18 f17 f16 f15 f14 f13 f12 f11 f10 f9 f8 f7 f6 f5 f4 f3 f2 f1 f0
theorem q_235_44 {q0 : Nat} {n0 n1 n2 n3 n4 n5 n6 n7 n8 n9 n10 n11 n12 n13 n14 n15 n16 n17 n18 n19 n20 : Int} {H0 H1 H2 H3 : gH} (f0 : n0 ≤ 2147483647) (f1 : (-2147483648) ≤ n0) (f2 : n1 ≤ 1) (f3 : 0 ≤ n1) (f4 : n2 = 285) (f5 : n3 ≤ 1) (f6 : 0 ≤ n3) (f7 : n4 = 285) (f8 : (hLe T0 H0 H1 ∧ hFr s_235.2.2.2.2 H0 H1 ∧ hWt T0 H1) ∧ (Ab_235_0 n4 n3 n2 n1 n0 H0 H1 ∧ preb_235 n4 n3 H0) ∧ some q0 = some (mub_235_0 n4 n3 n2 n1 n0 H0 H1)) (f9 : n5 ≤ 64) (f10 : 0 ≤ n5) (f11 : n5 = hV H1 (n2).toNat 55) (f12 : 0 < n5) (f13 : n6 = 322) (f14 : n6 = hV H1 (n2).toNat 54) (f15 : n7 ≤ 64) (f16 : 0 ≤ n7) (f17 : n7 = hV H1 (n2).toNat 55) (f18 : n8 = 1) (f19 : n9 = w32 (n7 - n8)) (f20 : n10 ≤ 53) (f21 : 0 ≤ n10) (f22 : n10 = hV H1 (n6).toNat (n9).toNat) (f23 : n11 = 6) (f24 : n10 ≠ n11) (f25 : n1 ≠ 0) (f26 : n12 = 8) (f27 : n10 ≠ n12) (f28 : n13 = 9) (f29 : n10 ≠ n13) (f30 : n14 ≤ 64) (f31 : 0 ≤ n14) (f32 : n14 = hV H1 (n2).toNat 55) (f33 : n15 = 1) (f34 : n16 = w32 (n14 - n15)) (f35 : n17 = 55) (f36 : hUpd H2 H1 n2 n17 n16) (f37 : n18 = 8) (f38 : n10 = n18) (f39 : n19 = 2) (f40 : n20 = 0) (f41 : (hLe T0 H2 H3 ∧ hFr s_234.2.2.2.2 H2 H3 ∧ ((0 : Int) = 0 → H3.length = H2.length) ∧ hWt T0 H3) ∧ postb_234 n2 n19 n20 H2 H3) : Ab_235_0 n4 n3 n2 n1 n10 H0 H3 ∧ ∀ q, some q0 = some q → mub_235_0 n4 n3 n2 n1 n10 H0 H3 < q := by
  have g4 := f8.2.1.1
  unfold Ab_235_0 at g4
  have g3 := f8.2.1.2
  unfold preb_235 at g3
  have g5 := Option.some.inj f8.2.2
  unfold mub_235_0 at g5
  unfold postb_234 at f41
  unfold Ab_235_0
  unfold mub_235_0
  have e0 : n5 = hV H1 285 55 := (by rw [f4] at f11; exact f11 : n5 = hV H1 285 55)
  have e1 : n7 = hV H1 285 55 := (by rw [f4] at f17; exact f17 : n7 = hV H1 285 55)
  have e2 : hV H1 322 = hV H0 322 := fRow f8.1.2.1 322 kR_235_322
  have e3 : n10 = hV H0 322 (n9).toNat := (by rw [f13] at f22; exact f22 : n10 = hV H1 322 (n9).toNat).trans ((congrFun e2 _))
  have e4 : n14 = hV H1 285 55 := (by rw [f4] at f32; exact f32 : n14 = hV H1 285 55)
  have e6 : hV H1 285 34 = hV H0 285 34 := (f8.1.2.1.1 285 34 kF_235_285_34)
  have e8 : hV H1 285 35 = hV H0 285 35 := (f8.1.2.1.1 285 35 kF_235_285_35)
  have e10 : hV H1 285 44 = hV H0 285 44 := (f8.1.2.1.1 285 44 kF_235_285_44)
  have e11 : hV H1 306 = hV H0 306 := fRow f8.1.2.1 306 kR_235_306
  have e12 : hV H1 307 = hV H0 307 := fRow f8.1.2.1 307 kR_235_307
  have e13 : hV H1 308 = hV H0 308 := fRow f8.1.2.1 308 kR_235_308
  have e14 : hV H1 309 = hV H0 309 := fRow f8.1.2.1 309 kR_235_309
  have e15 : hV H1 310 = hV H0 310 := fRow f8.1.2.1 310 kR_235_310
  have e16 : hV H1 311 = hV H0 311 := fRow f8.1.2.1 311 kR_235_311
  have e17 : hV H1 317 = hV H0 317 := fRow f8.1.2.1 317 kR_235_317
  have e18 : hV H1 318 = hV H0 318 := fRow f8.1.2.1 318 kR_235_318
  have e19 : hV H1 319 = hV H0 319 := fRow f8.1.2.1 319 kR_235_319
  have e21 : hV H2 285 51 = hV H1 285 51 := (uSlot f36 285 51 (iS (show n17 = ((55 : Nat) : Int) from f35) rfl))
  have e22 : hV H2 320 = hV H1 320 := uRowNe f36 320 (iS (show n2 = ((285 : Nat) : Int) from f4) rfl)
  have e23 : hV H2 321 = hV H1 321 := uRowNe f36 321 (iS (show n2 = ((285 : Nat) : Int) from f4) rfl)
  have e26 : hV H3 285 34 = hV H0 285 34 := ((f41.1.2.1.1 285 34 kF_234_285_34)).trans (((uSlot f36 285 34 (iS (show n17 = ((55 : Nat) : Int) from f35) rfl))).trans (f8.1.2.1.1 285 34 kF_235_285_34))
  have e29 : hV H3 285 35 = hV H0 285 35 := ((f41.1.2.1.1 285 35 kF_234_285_35)).trans (((uSlot f36 285 35 (iS (show n17 = ((55 : Nat) : Int) from f35) rfl))).trans (f8.1.2.1.1 285 35 kF_235_285_35))
  have e32 : hV H3 285 44 = hV H0 285 44 := ((f41.1.2.1.1 285 44 kF_234_285_44)).trans (((uSlot f36 285 44 (iS (show n17 = ((55 : Nat) : Int) from f35) rfl))).trans (f8.1.2.1.1 285 44 kF_235_285_44))
  have e35 : hV H3 285 55 = n16 := ((f41.1.2.1.1 285 55 kF_234_285_55)).trans (uSame f36 285 55 f4.symm f35.symm)
  have e39 : hV H3 306 = hV H0 306 := (fRow f41.1.2.1 306 kR_234_306).trans ((uRowNe f36 306 (iS (show n2 = ((285 : Nat) : Int) from f4) rfl)).trans e11)
  have e43 : hV H3 307 = hV H0 307 := (fRow f41.1.2.1 307 kR_234_307).trans ((uRowNe f36 307 (iS (show n2 = ((285 : Nat) : Int) from f4) rfl)).trans e12)
  have e47 : hV H3 308 = hV H0 308 := (fRow f41.1.2.1 308 kR_234_308).trans ((uRowNe f36 308 (iS (show n2 = ((285 : Nat) : Int) from f4) rfl)).trans e13)
  have e51 : hV H3 309 = hV H0 309 := (fRow f41.1.2.1 309 kR_234_309).trans ((uRowNe f36 309 (iS (show n2 = ((285 : Nat) : Int) from f4) rfl)).trans e14)
  have e55 : hV H3 310 = hV H0 310 := (fRow f41.1.2.1 310 kR_234_310).trans ((uRowNe f36 310 (iS (show n2 = ((285 : Nat) : Int) from f4) rfl)).trans e15)
  have e59 : hV H3 311 = hV H0 311 := (fRow f41.1.2.1 311 kR_234_311).trans ((uRowNe f36 311 (iS (show n2 = ((285 : Nat) : Int) from f4) rfl)).trans e16)
  have e63 : hV H3 317 = hV H0 317 := (fRow f41.1.2.1 317 kR_234_317).trans ((uRowNe f36 317 (iS (show n2 = ((285 : Nat) : Int) from f4) rfl)).trans e17)
  have e67 : hV H3 318 = hV H0 318 := (fRow f41.1.2.1 318 kR_234_318).trans ((uRowNe f36 318 (iS (show n2 = ((285 : Nat) : Int) from f4) rfl)).trans e18)
  have e71 : hV H3 319 = hV H0 319 := (fRow f41.1.2.1 319 kR_234_319).trans ((uRowNe f36 319 (iS (show n2 = ((285 : Nat) : Int) from f4) rfl)).trans e19)
  have e75 : hV H3 322 = hV H0 322 := (fRow f41.1.2.1 322 kR_234_322).trans ((uRowNe f36 322 (iS (show n2 = ((285 : Nat) : Int) from f4) rfl)).trans e2)
  have e76 : (0 : Int) ≤ hV H0 285 34 ∧ hV H0 285 34 ≤ 1 := bTo e6 (f8.1.2.2 285 34 _ _ kW_285_34)
  have e77 : (0 : Int) ≤ hV H0 285 35 ∧ hV H0 285 35 ≤ 1 := bTo e8 (f8.1.2.2 285 35 _ _ kW_285_35)
  have e78 : (0 : Int) ≤ hV H0 285 44 ∧ hV H0 285 44 ≤ 400 := bTo e10 (f8.1.2.2 285 44 _ _ kW_285_44)
  have e79 : (0 : Int) ≤ hV H1 285 51 ∧ hV H1 285 51 ≤ 1200 := f8.1.2.2 285 51 _ _ kW_285_51
  have e80 : (0 : Int) ≤ hV H1 285 55 ∧ hV H1 285 55 ≤ 64 := f8.1.2.2 285 55 _ _ kW_285_55
  have e84 : (0 : Int) ≤ hV H3 285 51 ∧ hV H3 285 51 ≤ 1200 := f41.1.2.2.2 285 51 _ _ kW_285_51
  have e85 : (0 : Int) ≤ hV H3 285 55 ∧ hV H3 285 55 ≤ 64 := f41.1.2.2.2 285 55 _ _ kW_285_55
  try simp only [RR]
  try simp only [e35] at e85
  try simp only [e26, e29, e32, e35, e39, e43, e47, e51, e55, e59, e63, e67, e71, e75]
  have k0 := g4.1
  have y0 := g4.2.1
  have y1 := g4.2.2.1
  have y2 := g4.2.2.2.1
  have y3 := g4.2.2.2.2.1
  have y4 := g4.2.2.2.2.2
  have p0 := g3.1
  have p1 := g3.2.1
  have p2 := g3.2.2.1
  have p3 := g3.2.2.2
  have r0_0 := f41.2.1
  have r0_1 := f41.2.2.1
  have r0_2 := f41.2.2.2
  try simp only [RR] at y0
  try simp only [RR] at p0
  try simp only [e6, e8, e10, e11, e12, e13, e14, e15, e16, e17, e18, e19] at y0
  try simp only [e2] at y1
  try simp only [e2] at y4
  try simp only [e21] at r0_0
  try simp only [e21, e22] at r0_1
  try simp only [e21, e23] at r0_2
  clear g3
  clear g4
  clear f11 f14 f17 f22 f32 e2 e6 e8 e10 e11 e12 e13 e14 e15 e16 e17 e18 e19 e21 e22 e23 e26 e29 e32 e39 e43 e47 e51 e55 e59 e63 e67 e71 e75
  clear f8 f41
  subst e0
  subst e1
  subst e3
  subst e4
  first
  | (have ix0 : n9 = hV H1 285 55 - 1 := Eq.trans f19 (w32_iv (Isu (Iat f10 f9) (IC 1)) (by decide)); subst ix0; clear f19)
  | (have ix0 : n9 = hV H1 285 55 - 1 := Eq.trans f19 (w32_id (by omega) (by omega)); subst ix0; clear f19)
  | (unfold w32 at f19; have ix0 : n9 = hV H1 285 55 - 1 := (by omega); subst ix0)
  | skip
  first
  | (have ix1 : n16 = hV H1 285 55 - 1 := Eq.trans f34 (w32_iv (Isu (Iat f10 f9) (IC 1)) (by decide)); subst ix1; clear f34)
  | (have ix1 : n16 = hV H1 285 55 - 1 := Eq.trans f34 (w32_id (by omega) (by omega)); subst ix1; clear f34)
  | (unfold w32 at f34; have ix1 : n16 = hV H1 285 55 - 1 := (by omega); subst ix1)
  | skip
  try unfold w32 at f19
  try unfold w32 at f34

  have wp := wo_pop (w := hV H0 322) (n := hV H1 285 55) (by omega)
  have wl := wo_le (w := hV H0 322) (hV H1 285 55 - 1).toNat
  refine ⟨⟨?_, ?_, ?_, ?_⟩, fun q hq => ?_⟩
  · first | trivial | omega
  · rw [r0_1, r0_2]
    exact RR_emit y0 (by omega) (by omega) (by omega) (by omega) (by omega) (by omega) (by omega) (by omega)
  · rw [r0_1, r0_2]
    exact CO_step y1 (by omega) (by omega) (by omega) (.inr ⟨by omega, by omega, by omega⟩)
  · first
    | omega
    | (refine ⟨?_, ?_, ?_⟩ <;> first | exact True.intro | omega)
  · have g6 := Option.some.inj hq
    subst g6
    omega
def g_235_0_23 : vG := ([(1234, [2, 19, 20], [2, 3], 0), (0, [20], [], 0), (0, [19], [], 2), (40, [10, 18], [], 0), (0, [18], [], 8), (80, [2, 17, 16], [2, 1], 0), (0, [17], [], 55), (2, [16, 14, 15], [], 0), (0, [15], [], 1), (20, [14, 2], [1], 55), (90, [14], [], 0), (91, [14], [], 64), (41, [10, 13], [], 0), (0, [13], [], 9), (41, [10, 12], [], 0), (0, [12], [], 8), (31, [3], [], 0), (41, [10, 11], [], 0), (0, [11], [], 6), (22, [10, 6, 9], [1], 0), (90, [10], [], 0), (91, [10], [], 53), (2, [9, 7, 8], [], 0), (0, [8], [], 1), (20, [7, 2], [1], 55), (90, [7], [], 0), (91, [7], [], 64), (20, [6, 2], [1], 54), (0, [6], [], 322), (34, [5], [], 0), (20, [5, 2], [1], 55), (90, [5], [], 0), (91, [5], [], 64), (5000, [0, 1, 2, 3, 4], [0, 1], 0), (0, [0], [], 285), (90, [1], [], 0), (91, [1], [], 1), (0, [2], [], 285), (90, [3], [], 0), (91, [3], [], 1), (90, [4], [], -2147483648), (91, [4], [], 2147483647)], (4000, [2, 3, 10], [3], 0))
theorem c_235_0_23 {q0 : Nat} : vOkm T0 (eP e_235 L_235 A_235 mu_235 (some q0)) 2 g_235_0_23 := vOk_inI fun ρ η f0 f1 f2 f3 f4 f5 f6 f7 f8 f9 f10 f11 f12 f13 f14 f15 f16 f17 f18 f19 f20 f21 f22 f23 f24 f25 f26 f27 f28 f29 f30 f31 f32 f33 f34 f35 f36 f37 f38 f39 f40 f41 => q_235_44 (q0 := q0) (n0 := ρ 4) (n1 := ρ 3) (n2 := ρ 2) (n3 := ρ 1) (n4 := ρ 0) (n5 := ρ 5) (n6 := ρ 6) (n7 := ρ 7) (n8 := ρ 8) (n9 := ρ 9) (n10 := ρ 10) (n11 := ρ 11) (n12 := ρ 12) (n13 := ρ 13) (n14 := ρ 14) (n15 := ρ 15) (n16 := ρ 16) (n17 := ρ 17) (n18 := ρ 18) (n19 := ρ 19) (n20 := ρ 20) (H0 := η 0) (H1 := η 1) (H2 := η 2) (H3 := η 3) f41 f40 f39 f38 f37 f36 f35 f34 f33 f32 f31 f30 f29 f28 f27 f26 f25 f24 f23 f22 f21 f20 f19 f18 f17 f16 f15 f14 f13 f12 f11 f10 f9 f8 f7 f6 f5 f4 f3 f2 f1 f0
theorem q_235_45 {q0 : Nat} {n0 n1 n2 n3 n4 n5 n6 n7 n8 n9 n10 n11 n12 n13 : Int} {H0 H1 : gH} (f0 : n0 ≤ 2147483647) (f1 : (-2147483648) ≤ n0) (f2 : n1 ≤ 1) (f3 : 0 ≤ n1) (f4 : n2 = 285) (f5 : n3 ≤ 1) (f6 : 0 ≤ n3) (f7 : n4 = 285) (f8 : (hLe T0 H0 H1 ∧ hFr s_235.2.2.2.2 H0 H1 ∧ hWt T0 H1) ∧ (Ab_235_0 n4 n3 n2 n1 n0 H0 H1 ∧ preb_235 n4 n3 H0) ∧ some q0 = some (mub_235_0 n4 n3 n2 n1 n0 H0 H1)) (f9 : n5 ≤ 64) (f10 : 0 ≤ n5) (f11 : n5 = hV H1 (n2).toNat 55) (f12 : 0 < n5) (f13 : n6 = 322) (f14 : n6 = hV H1 (n2).toNat 54) (f15 : n7 ≤ 64) (f16 : 0 ≤ n7) (f17 : n7 = hV H1 (n2).toNat 55) (f18 : n8 = 1) (f19 : n9 = w32 (n7 - n8)) (f20 : n10 ≤ 53) (f21 : 0 ≤ n10) (f22 : n10 = hV H1 (n6).toNat (n9).toNat) (f23 : n11 = 6) (f24 : n10 ≠ n11) (f25 : n1 ≠ 0) (f26 : n12 = 8) (f27 : n10 ≠ n12) (f28 : n13 = 9) (f29 : n10 = n13) : postb_235 n4 n3 H0 H1 := by
  have g4 := f8.2.1.1
  unfold Ab_235_0 at g4
  have g3 := f8.2.1.2
  unfold preb_235 at g3
  unfold postb_235
  have e0 : n5 = hV H1 285 55 := (by rw [f4] at f11; exact f11 : n5 = hV H1 285 55)
  have e1 : n7 = hV H1 285 55 := (by rw [f4] at f17; exact f17 : n7 = hV H1 285 55)
  have e2 : hV H1 322 = hV H0 322 := fRow f8.1.2.1 322 kR_235_322
  have e3 : n10 = hV H0 322 (n9).toNat := (by rw [f13] at f22; exact f22 : n10 = hV H1 322 (n9).toNat).trans ((congrFun e2 _))
  have e8 : (0 : Int) ≤ hV H0 285 34 ∧ hV H0 285 34 ≤ 1 := bTo ((f8.1.2.1.1 285 34 kF_235_285_34)) (f8.1.2.2 285 34 _ _ kW_285_34)
  have e9 : (0 : Int) ≤ hV H0 285 35 ∧ hV H0 285 35 ≤ 1 := bTo ((f8.1.2.1.1 285 35 kF_235_285_35)) (f8.1.2.2 285 35 _ _ kW_285_35)
  have e10 : (0 : Int) ≤ hV H1 285 51 ∧ hV H1 285 51 ≤ 1200 := f8.1.2.2 285 51 _ _ kW_285_51
  have e11 : (0 : Int) ≤ hV H1 285 55 ∧ hV H1 285 55 ≤ 64 := f8.1.2.2 285 55 _ _ kW_285_55
  try simp only [e2]
  have k0 := g4.1
  have y0 := g4.2.1
  have y1 := g4.2.2.1
  have y2 := g4.2.2.2.1
  have y3 := g4.2.2.2.2.1
  have y4 := g4.2.2.2.2.2
  have p0 := g3.1
  have p1 := g3.2.1
  have p2 := g3.2.2.1
  have p3 := g3.2.2.2
  try simp only [e2] at y1
  try simp only [e2] at y4
  clear g3
  clear g4
  clear f11 f14 f17 f22 e2
  clear f8
  subst e0
  subst e1
  subst e3
  first
  | (have ix0 : n9 = hV H1 285 55 - 1 := Eq.trans f19 (w32_iv (Isu (Iat f10 f9) (IC 1)) (by decide)); subst ix0; clear f19)
  | (have ix0 : n9 = hV H1 285 55 - 1 := Eq.trans f19 (w32_id (by omega) (by omega)); subst ix0; clear f19)
  | (unfold w32 at f19; have ix0 : n9 = hV H1 285 55 - 1 := (by omega); subst ix0)
  | skip
  try unfold w32 at f19

  refine ⟨y0, y1, ?_, ?_, ?_, ?_⟩ <;> first | trivial | omega
def g_235_0_24 : vG := ([(40, [10, 13], [], 0), (0, [13], [], 9), (41, [10, 12], [], 0), (0, [12], [], 8), (31, [3], [], 0), (41, [10, 11], [], 0), (0, [11], [], 6), (22, [10, 6, 9], [1], 0), (90, [10], [], 0), (91, [10], [], 53), (2, [9, 7, 8], [], 0), (0, [8], [], 1), (20, [7, 2], [1], 55), (90, [7], [], 0), (91, [7], [], 64), (20, [6, 2], [1], 54), (0, [6], [], 322), (34, [5], [], 0), (20, [5, 2], [1], 55), (90, [5], [], 0), (91, [5], [], 64), (5000, [0, 1, 2, 3, 4], [0, 1], 0), (0, [0], [], 285), (90, [1], [], 0), (91, [1], [], 1), (0, [2], [], 285), (90, [3], [], 0), (91, [3], [], 1), (90, [4], [], -2147483648), (91, [4], [], 2147483647)], (3000, [], [1], 41))
theorem c_235_0_24 {q0 : Nat} : vOkm T0 (eP e_235 L_235 A_235 mu_235 (some q0)) 2 g_235_0_24 := vOk_inI fun ρ η f0 f1 f2 f3 f4 f5 f6 f7 f8 f9 f10 f11 f12 f13 f14 f15 f16 f17 f18 f19 f20 f21 f22 f23 f24 f25 f26 f27 f28 f29 => q_235_45 (q0 := q0) (n0 := ρ 4) (n1 := ρ 3) (n2 := ρ 2) (n3 := ρ 1) (n4 := ρ 0) (n5 := ρ 5) (n6 := ρ 6) (n7 := ρ 7) (n8 := ρ 8) (n9 := ρ 9) (n10 := ρ 10) (n11 := ρ 11) (n12 := ρ 12) (n13 := ρ 13) (H0 := η 0) (H1 := η 1) f29 f28 f27 f26 f25 f24 f23 f22 f21 f20 f19 f18 f17 f16 f15 f14 f13 f12 f11 f10 f9 f8 f7 f6 f5 f4 f3 f2 f1 f0
def p_235_0 : List vG := [g_235_0_0,
  g_235_0_1,
  g_235_0_2,
  g_235_0_3,
  g_235_0_4,
  g_235_0_5,
  g_235_0_6,
  g_235_0_7,
  g_235_0_8,
  g_235_0_9,
  g_235_0_10,
  g_235_0_11,
  g_235_0_12,
  g_235_0_13,
  g_235_0_14,
  g_235_0_15,
  g_235_0_16,
  g_235_0_17,
  g_235_0_18,
  g_235_0_19,
  g_235_0_20,
  g_235_0_21,
  g_235_0_22,
  g_235_0_23,
  g_235_0_24]
theorem r_235_0 : vCovO false (eRc e_235 L_235 cs_235 2000 (0, [(0, (3, 12, 285, 0)), (1, (0, 0, 1, 0)), (2, (0, -2147483648, 2147483647, 0))])) p_235_0 = true := by decide +kernel
theorem m_235 (d : Nat) : eC e_235 (d + 2) := eC_ok (e := e_235) (L := L_235) (cs := cs_235) (n := 2000) (d := d + 1) (A := A_235) (μ := mu_235) (tp := false) (p0 := p_235_s) rfl ⟨m_234 d, trivial⟩ rfl (.inl rfl) (by decide +kernel) (fun z => nomatch z) r_235_s (allC c_235_s_0 (allC c_235_s_1 (allC c_235_s_2 (allC c_235_s_3 (allC c_235_s_4 (allC c_235_s_5 (allC c_235_s_6 (allC c_235_s_7 (allC c_235_s_8 (allC c_235_s_9 (allC c_235_s_10 (allC c_235_s_11 (allC c_235_s_12 (allC c_235_s_13 (allC c_235_s_14 (allC c_235_s_15 (allC c_235_s_16 (allC c_235_s_17 (allC c_235_s_18 (allC c_235_s_19 (allC c_235_s_20 (allC c_235_s_21 (allC c_235_s_22 (allC c_235_s_23 (allC c_235_s_24 allN))))))))))))))))))))))))) (allC (.inl ⟨p_235_0, r_235_0, fun q0 => (allC c_235_0_0 (allC c_235_0_1 (allC c_235_0_2 (allC c_235_0_3 (allC c_235_0_4 (allC c_235_0_5 (allC c_235_0_6 (allC c_235_0_7 (allC c_235_0_8 (allC c_235_0_9 (allC c_235_0_10 (allC c_235_0_11 (allC c_235_0_12 (allC c_235_0_13 (allC c_235_0_14 (allC c_235_0_15 (allC c_235_0_16 (allC c_235_0_17 (allC c_235_0_18 (allC c_235_0_19 (allC c_235_0_20 (allC c_235_0_21 (allC c_235_0_22 (allC c_235_0_23 (allC c_235_0_24 allN)))))))))))))))))))))))))⟩) allN)
