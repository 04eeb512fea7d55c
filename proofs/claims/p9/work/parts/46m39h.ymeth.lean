/-! CONTRACTS of methods (printed by wip/gen/emit.py). -/
/- MixStageModel.is (I)Z -/
noncomputable def s_216 : vM := ([(3, 12, 285, 0), (0, -2147483648, 2147483647, 0)], (0, 0, 1, 0), 0, 0, [])
def postb_216 (r a0 a1 : Int) (h0 h : gH) : Prop := hV h 285 13 + 2 * r ≤ 2 ∧ ((r = 1 ∧ hV h 285 13 = 0 ∧ hV h 288 ((hV h 285 11).toNat) = a1) ∨ (r = 0 ∧ (0 < hV h 285 13 ∨ ¬ hV h 288 ((hV h 285 11).toNat) = a1)))
def post_216 : List Int → gH → gH → Prop := fun xs h0 h => match xs with
  | [r, a0, a1] => postb_216 r a0 a1 h0 h
  | _ => True
noncomputable def e_216 : vE := (216, s_216, pre0, post_216)
noncomputable def L_216 : List vE := []
def cs_216 : List vC := []
def A_216 : Int → List Int → gH → gH → Prop := fun c xs h0 h => True
def mu_216 : Int → List Int → gH → gH → Nat := fun c xs h0 h => 0
theorem q_216_0 {n0 n1 n2 n3 : Int} {H0 : gH} (f0 : n0 = 285) (f1 : n1 ≤ 2) (f2 : 0 ≤ n1) (f3 : n1 = hV H0 (n0).toNat 13) (f4 : n1 ≠ 0) (f5 : n2 = 0) : postb_216 n2 n0 n3 H0 H0 := by
  unfold postb_216
  have e0 : n1 = hV H0 285 13 := (by rw [f0] at f3; exact f3 : n1 = hV H0 285 13)
  clear f3
  subst e0
  refine ⟨?_, ?_⟩ <;> first | assumption | omega | trivial
def g_216_s_0 : vG := ([(0, [3], [], 0), (31, [2], [], 0), (20, [2, 0], [0], 13), (90, [2], [], 0), (91, [2], [], 2), (0, [0], [], 285)], (3000, [3], [0], 25))
theorem c_216_s_0 : vOkm T0 (eP e_216 L_216 A_216 mu_216 none) 2 g_216_s_0 := vOk_inI fun ρ η f0 f1 f2 f3 f4 f5 => q_216_0 (n0 := ρ 0) (n1 := ρ 2) (n2 := ρ 3) (n3 := ρ 1) (H0 := η 0) f5 f4 f3 f2 f1 f0
theorem q_216_1 {n0 n1 n2 n3 n4 n5 n6 : Int} {H0 : gH} (f0 : n0 = 285) (f1 : n1 = hV H0 (n0).toNat 13) (f2 : n1 = 0) (f3 : n2 = 288) (f4 : n3 = hV H0 (n0).toNat 11) (f5 : n4 = hV H0 (n2).toNat (n3).toNat) (f6 : n4 ≠ n5) (f7 : n6 = 0) : postb_216 n6 n0 n5 H0 H0 := by
  unfold postb_216
  have e0 : n1 = hV H0 285 13 := (by rw [f0] at f1; exact f1 : n1 = hV H0 285 13)
  have e1 : n3 = hV H0 285 11 := (by rw [f0] at f4; exact f4 : n3 = hV H0 285 11)
  have e2 : n4 = hV H0 288 (n3).toNat := (by rw [f3] at f5; exact f5 : n4 = hV H0 288 (n3).toNat)
  clear f1 f4 f5
  subst e0
  subst e1
  subst e2
  refine ⟨?_, ?_⟩ <;> first | assumption | omega | trivial
def g_216_s_1 : vG := ([(0, [6], [], 0), (41, [5, 1], [], 0), (22, [5, 3, 4], [0], 0), (20, [4, 0], [0], 11), (0, [3], [], 288), (30, [2], [], 0), (20, [2, 0], [0], 13), (0, [0], [], 285)], (3000, [6], [0], 25))
theorem c_216_s_1 : vOkm T0 (eP e_216 L_216 A_216 mu_216 none) 2 g_216_s_1 := vOk_inI fun ρ η f0 f1 f2 f3 f4 f5 f6 f7 => q_216_1 (n0 := ρ 0) (n1 := ρ 2) (n2 := ρ 3) (n3 := ρ 4) (n4 := ρ 5) (n5 := ρ 1) (n6 := ρ 6) (H0 := η 0) f7 f6 f5 f4 f3 f2 f1 f0
theorem q_216_2 {n0 n1 n2 n3 n4 n5 n6 : Int} {H0 : gH} (f0 : n0 = 285) (f1 : n1 = hV H0 (n0).toNat 13) (f2 : n1 = 0) (f3 : n2 = 288) (f4 : n3 = hV H0 (n0).toNat 11) (f5 : n4 = hV H0 (n2).toNat (n3).toNat) (f6 : n4 = n5) (f7 : n6 = 1) : postb_216 n6 n0 n5 H0 H0 := by
  unfold postb_216
  have e0 : n1 = hV H0 285 13 := (by rw [f0] at f1; exact f1 : n1 = hV H0 285 13)
  have e1 : n3 = hV H0 285 11 := (by rw [f0] at f4; exact f4 : n3 = hV H0 285 11)
  have e2 : n4 = hV H0 288 (n3).toNat := (by rw [f3] at f5; exact f5 : n4 = hV H0 288 (n3).toNat)
  clear f1 f4 f5
  subst e0
  subst e1
  subst e2
  refine ⟨?_, ?_⟩ <;> first | assumption | omega | trivial
def g_216_s_2 : vG := ([(0, [6], [], 1), (40, [5, 1], [], 0), (22, [5, 3, 4], [0], 0), (20, [4, 0], [0], 11), (0, [3], [], 288), (30, [2], [], 0), (20, [2, 0], [0], 13), (0, [0], [], 285)], (3000, [6], [0], 25))
theorem c_216_s_2 : vOkm T0 (eP e_216 L_216 A_216 mu_216 none) 2 g_216_s_2 := vOk_inI fun ρ η f0 f1 f2 f3 f4 f5 f6 f7 => q_216_2 (n0 := ρ 0) (n1 := ρ 2) (n2 := ρ 3) (n3 := ρ 4) (n4 := ρ 5) (n5 := ρ 1) (n6 := ρ 6) (H0 := η 0) f7 f6 f5 f4 f3 f2 f1 f0
def p_216_s : List vG := [g_216_s_0,
  g_216_s_1,
  g_216_s_2]
theorem r_216_s : vCovO false (eR0 e_216 L_216 cs_216 2000) p_216_s = true := by decide +kernel
theorem m_216 (d : Nat) : eC e_216 (d + 1) := eC_ok (e := e_216) (L := L_216) (cs := cs_216) (n := 2000) (d := d + 0) (A := A_216) (μ := mu_216) (tp := false) (p0 := p_216_s) rfl trivial rfl (.inr pre0_ok) (by decide +kernel) (fun z => nomatch z) r_216_s (allC c_216_s_0 (allC c_216_s_1 (allC c_216_s_2 allN))) allN
/- MixStageModel.fail (I)V -/
noncomputable def s_217 : vM := ([(3, 12, 285, 0), (0, 1, 2, 0)], (9, 0, 0, 0), 0, 0, [(12, 13), (12, 14)])
def postb_217 (a0 a1 : Int) (h0 h : gH) : Prop := hV h0 285 13 ≤ hV h 285 13 ∧ 1 ≤ hV h 285 13
def post_217 : List Int → gH → gH → Prop := fun xs h0 h => match xs with
  | [a0, a1] => postb_217 a0 a1 h0 h
  | _ => True
noncomputable def e_217 : vE := (217, s_217, pre0, post_217)
noncomputable def L_217 : List vE := []
def cs_217 : List vC := []
def A_217 : Int → List Int → gH → gH → Prop := fun c xs h0 h => True
def mu_217 : Int → List Int → gH → gH → Nat := fun c xs h0 h => 0
theorem q_217_0 {n0 n1 n2 n3 n4 n5 : Int} {H0 H1 H2 : gH} (f0 : 1 ≤ n0) (f1 : n1 = 285) (f2 : n2 = hV H0 (n1).toNat 13) (f3 : n2 ≤ 0) (f4 : n3 = 13) (f5 : hUpd H1 H0 n1 n3 n0) (f6 : n4 = 14) (f7 : hUpd H2 H1 n1 n4 n5) : postb_217 n1 n0 H0 H2 := by
  unfold postb_217
  have e0 : n2 = hV H0 285 13 := (by rw [f1] at f2; exact f2 : n2 = hV H0 285 13)
  have e3 : hV H2 285 13 = n0 := ((uSlot f7 285 13 (iS (show n4 = ((14 : Nat) : Int) from f6) rfl))).trans (uSame f5 285 13 f1.symm f4.symm)
  try simp only [e3]
  clear f2
  subst e0
  refine ⟨?_, ?_⟩ <;> first | assumption | omega | trivial
def g_217_s_0 : vG := ([(80, [0, 7, 6], [2, 1], 0), (0, [7], [], 14), (80, [0, 3, 1], [1, 0], 0), (0, [3], [], 13), (35, [2], [], 0), (20, [2, 0], [0], 13), (0, [0], [], 285), (90, [1], [], 1)], (3000, [], [2], 26))
theorem c_217_s_0 : vOkm T0 (eP e_217 L_217 A_217 mu_217 none) 2 g_217_s_0 := vOk_inI fun ρ η f0 f1 f2 f3 f4 f5 f6 f7 => q_217_0 (n0 := ρ 1) (n1 := ρ 0) (n2 := ρ 2) (n3 := ρ 3) (n4 := ρ 7) (n5 := ρ 6) (H0 := η 0) (H1 := η 1) (H2 := η 2) f7 f6 f5 f4 f3 f2 f1 f0
theorem q_217_1 {n0 n1 n2 : Int} {H0 : gH} (f0 : n0 = 285) (f1 : n1 = hV H0 (n0).toNat 13) (f2 : 0 < n1) : postb_217 n0 n2 H0 H0 := by
  unfold postb_217
  have e0 : n1 = hV H0 285 13 := (by rw [f0] at f1; exact f1 : n1 = hV H0 285 13)
  clear f1
  subst e0
  refine ⟨?_, ?_⟩ <;> first | assumption | omega | trivial
def g_217_s_1 : vG := ([(34, [2], [], 0), (20, [2, 0], [0], 13), (0, [0], [], 285)], (3000, [], [0], 7))
theorem c_217_s_1 : vOkm T0 (eP e_217 L_217 A_217 mu_217 none) 2 g_217_s_1 := vOk_inI fun ρ η f0 f1 f2 => q_217_1 (n0 := ρ 0) (n1 := ρ 2) (n2 := ρ 1) (H0 := η 0) f2 f1 f0
def p_217_s : List vG := [g_217_s_0,
  g_217_s_1]
theorem r_217_s : vCovO false (eR0 e_217 L_217 cs_217 2000) p_217_s = true := by decide +kernel
theorem m_217 (d : Nat) : eC e_217 (d + 1) := eC_ok (e := e_217) (L := L_217) (cs := cs_217) (n := 2000) (d := d + 0) (A := A_217) (μ := mu_217) (tp := false) (p0 := p_217_s) rfl trivial rfl (.inr pre0_ok) (by decide +kernel) (fun z => nomatch z) r_217_s (allC c_217_s_0 (allC c_217_s_1 allN)) allN
/- MixStageModel.wrong (II)V -/
noncomputable def s_218 : vM := ([(3, 12, 285, 0), (0, 1, 6, 0), (0, 0, 502, 0)], (9, 0, 0, 0), 0, 0, [(12, 15), (12, 16)])
def postb_218 (a0 a1 a2 : Int) (h0 h : gH) : Prop := hV h0 285 15 ≤ 6 * hV h 285 15 ∧ 1 ≤ hV h 285 13 + hV h 285 15
def post_218 : List Int → gH → gH → Prop := fun xs h0 h => match xs with
  | [a0, a1, a2] => postb_218 a0 a1 a2 h0 h
  | _ => True
noncomputable def e_218 : vE := (218, s_218, pre0, post_218)
noncomputable def L_218 : List vE := []
def cs_218 : List vC := []
def A_218 : Int → List Int → gH → gH → Prop := fun c xs h0 h => True
def mu_218 : Int → List Int → gH → gH → Nat := fun c xs h0 h => 0
theorem kW_285_13 : vRg T0 285 13 (0) (2) = true := by decide +kernel
theorem kW_285_15 : vRg T0 285 15 (0) (6) = true := by decide +kernel
theorem q_218_0 {n0 n1 n2 n3 : Int} {H0 : gH} (f0 : n0 = 285) (f1 : hWt T0 H0 ∧ True) (f2 : n3 = hV H0 (n0).toNat 13) (f3 : 0 < n3) : postb_218 n0 n1 n2 H0 H0 := by
  unfold postb_218
  have e0 : n3 = hV H0 285 13 := (by rw [f0] at f2; exact f2 : n3 = hV H0 285 13)
  have e1 : (0 : Int) ≤ hV H0 285 13 ∧ hV H0 285 13 ≤ 2 := f1.1 285 13 _ _ kW_285_13
  have e2 : (0 : Int) ≤ hV H0 285 15 ∧ hV H0 285 15 ≤ 6 := f1.1 285 15 _ _ kW_285_15
  clear f2
  clear f1
  subst e0
  refine ⟨?_, ?_⟩ <;> first | assumption | omega | trivial
def g_218_s_0 : vG := ([(34, [5], [], 0), (20, [5, 0], [0], 13), (6000, [0, 1, 2], [0], 0), (0, [0], [], 285)], (3000, [], [0], 45))
theorem c_218_s_0 : vOkm T0 (eP e_218 L_218 A_218 mu_218 none) 3 g_218_s_0 := vOk_inI fun ρ η f0 f1 f2 f3 => q_218_0 (n0 := ρ 0) (n1 := ρ 1) (n2 := ρ 2) (n3 := ρ 5) (H0 := η 0) f3 f2 f1 f0
theorem q_218_1 {n0 n1 n2 n3 n4 n5 n6 n7 : Int} {H0 H1 H2 : gH} (f0 : 1 ≤ n0) (f1 : n1 = 285) (f2 : 0 ≤ n2) (f3 : n2 = hV H0 (n1).toNat 13) (f4 : n3 = hV H0 (n1).toNat 15) (f5 : n3 = 0) (f6 : n4 = 15) (f7 : hUpd H1 H0 n1 n4 n0) (f8 : n5 = 16) (f9 : hUpd H2 H1 n1 n5 n6) : postb_218 n1 n0 n7 H0 H2 := by
  unfold postb_218
  have e0 : n2 = hV H0 285 13 := (by rw [f1] at f3; exact f3 : n2 = hV H0 285 13)
  have e1 : n3 = hV H0 285 15 := (by rw [f1] at f4; exact f4 : n3 = hV H0 285 15)
  have e4 : hV H2 285 13 = hV H0 285 13 := ((uSlot f9 285 13 (iS (show n5 = ((16 : Nat) : Int) from f8) rfl))).trans (uSlot f7 285 13 (iS (show n4 = ((15 : Nat) : Int) from f6) rfl))
  have e7 : hV H2 285 15 = n0 := ((uSlot f9 285 15 (iS (show n5 = ((16 : Nat) : Int) from f8) rfl))).trans (uSame f7 285 15 f1.symm f6.symm)
  try simp only [e4, e7]
  clear f3 f4 e4
  subst e0
  subst e1
  refine ⟨?_, ?_⟩ <;> first | assumption | omega | trivial
def g_218_s_1 : vG := ([(80, [0, 8, 4], [2, 1], 0), (0, [8], [], 16), (80, [0, 7, 1], [1, 0], 0), (0, [7], [], 15), (30, [6], [], 0), (20, [6, 0], [0], 15), (20, [5, 0], [0], 13), (90, [5], [], 0), (0, [0], [], 285), (90, [1], [], 1)], (3000, [], [2], 56))
theorem c_218_s_1 : vOkm T0 (eP e_218 L_218 A_218 mu_218 none) 3 g_218_s_1 := vOk_inI fun ρ η f0 f1 f2 f3 f4 f5 f6 f7 f8 f9 => q_218_1 (n0 := ρ 1) (n1 := ρ 0) (n2 := ρ 5) (n3 := ρ 6) (n4 := ρ 7) (n5 := ρ 8) (n6 := ρ 4) (n7 := ρ 2) (H0 := η 0) (H1 := η 1) (H2 := η 2) f9 f8 f7 f6 f5 f4 f3 f2 f1 f0
theorem q_218_2 {n0 n1 n2 n3 n4 : Int} {H0 : gH} (f0 : n0 = 285) (f1 : 0 ≤ n1) (f2 : n1 = hV H0 (n0).toNat 13) (f3 : 0 ≤ n2) (f4 : n2 = hV H0 (n0).toNat 15) (f5 : n2 ≠ 0) : postb_218 n0 n3 n4 H0 H0 := by
  unfold postb_218
  have e0 : n1 = hV H0 285 13 := (by rw [f0] at f2; exact f2 : n1 = hV H0 285 13)
  have e1 : n2 = hV H0 285 15 := (by rw [f0] at f4; exact f4 : n2 = hV H0 285 15)
  clear f2 f4
  subst e0
  subst e1
  refine ⟨?_, ?_⟩ <;> first | assumption | omega | trivial
def g_218_s_2 : vG := ([(31, [6], [], 0), (20, [6, 0], [0], 15), (90, [6], [], 0), (20, [5, 0], [0], 13), (90, [5], [], 0), (0, [0], [], 285)], (3000, [], [0], 45))
theorem c_218_s_2 : vOkm T0 (eP e_218 L_218 A_218 mu_218 none) 3 g_218_s_2 := vOk_inI fun ρ η f0 f1 f2 f3 f4 f5 => q_218_2 (n0 := ρ 0) (n1 := ρ 5) (n2 := ρ 6) (n3 := ρ 1) (n4 := ρ 2) (H0 := η 0) f5 f4 f3 f2 f1 f0
theorem q_218_3 {n0 n1 n2 n3 n4 n5 n6 n7 : Int} {H0 H1 H2 : gH} (f0 : 1 ≤ n0) (f1 : n1 = 285) (f2 : 0 ≤ n2) (f3 : n2 = hV H0 (n1).toNat 13) (f4 : n3 ≤ 6) (f5 : n3 = hV H0 (n1).toNat 15) (f6 : n4 = 15) (f7 : hUpd H1 H0 n1 n4 n0) (f8 : n5 = 16) (f9 : hUpd H2 H1 n1 n5 n6) : postb_218 n1 n0 n7 H0 H2 := by
  unfold postb_218
  have e0 : n2 = hV H0 285 13 := (by rw [f1] at f3; exact f3 : n2 = hV H0 285 13)
  have e1 : n3 = hV H0 285 15 := (by rw [f1] at f5; exact f5 : n3 = hV H0 285 15)
  have e4 : hV H2 285 13 = hV H0 285 13 := ((uSlot f9 285 13 (iS (show n5 = ((16 : Nat) : Int) from f8) rfl))).trans (uSlot f7 285 13 (iS (show n4 = ((15 : Nat) : Int) from f6) rfl))
  have e7 : hV H2 285 15 = n0 := ((uSlot f9 285 15 (iS (show n5 = ((16 : Nat) : Int) from f8) rfl))).trans (uSame f7 285 15 f1.symm f6.symm)
  try simp only [e4, e7]
  clear f3 f5 e4
  subst e0
  subst e1
  refine ⟨?_, ?_⟩ <;> first | assumption | omega | trivial
def g_218_s_3 : vG := ([(80, [0, 10, 4], [2, 1], 0), (0, [10], [], 16), (80, [0, 9, 1], [1, 0], 0), (0, [9], [], 15), (20, [6, 0], [0], 15), (91, [6], [], 6), (20, [5, 0], [0], 13), (90, [5], [], 0), (0, [0], [], 285), (90, [1], [], 1)], (3000, [], [2], 56))
theorem c_218_s_3 : vOkm T0 (eP e_218 L_218 A_218 mu_218 none) 3 g_218_s_3 := vOk_inI fun ρ η f0 f1 f2 f3 f4 f5 f6 f7 f8 f9 => q_218_3 (n0 := ρ 1) (n1 := ρ 0) (n2 := ρ 5) (n3 := ρ 6) (n4 := ρ 9) (n5 := ρ 10) (n6 := ρ 4) (n7 := ρ 2) (H0 := η 0) (H1 := η 1) (H2 := η 2) f9 f8 f7 f6 f5 f4 f3 f2 f1 f0
def g_218_s_4 : vG := ([(80, [0, 11, 4], [2, 1], 0), (0, [11], [], 16), (80, [0, 10, 1], [1, 0], 0), (0, [10], [], 15), (20, [9, 0], [0], 15), (91, [9], [], 6), (20, [5, 0], [0], 13), (90, [5], [], 0), (0, [0], [], 285), (90, [1], [], 1)], (3000, [], [2], 56))
theorem c_218_s_4 : vOkm T0 (eP e_218 L_218 A_218 mu_218 none) 3 g_218_s_4 := vOk_inI fun ρ η f0 f1 f2 f3 f4 f5 f6 f7 f8 f9 => q_218_3 (n0 := ρ 1) (n1 := ρ 0) (n2 := ρ 5) (n3 := ρ 9) (n4 := ρ 10) (n5 := ρ 11) (n6 := ρ 4) (n7 := ρ 2) (H0 := η 0) (H1 := η 1) (H2 := η 2) f9 f8 f7 f6 f5 f4 f3 f2 f1 f0
def g_218_s_5 : vG := ([(31, [6], [], 0), (20, [6, 0], [0], 15), (90, [6], [], 0), (20, [5, 0], [0], 13), (90, [5], [], 0), (0, [0], [], 285)], (3000, [], [0], 45))
theorem c_218_s_5 : vOkm T0 (eP e_218 L_218 A_218 mu_218 none) 3 g_218_s_5 := vOk_inI fun ρ η f0 f1 f2 f3 f4 f5 => q_218_2 (n0 := ρ 0) (n1 := ρ 5) (n2 := ρ 6) (n3 := ρ 1) (n4 := ρ 2) (H0 := η 0) f5 f4 f3 f2 f1 f0
def p_218_s : List vG := [g_218_s_0,
  g_218_s_1,
  g_218_s_2,
  g_218_s_3,
  g_218_s_4,
  g_218_s_5]
theorem r_218_s : vCovO false (eR0 e_218 L_218 cs_218 2000) p_218_s = true := by decide +kernel
theorem m_218 (d : Nat) : eC e_218 (d + 1) := eC_ok (e := e_218) (L := L_218) (cs := cs_218) (n := 2000) (d := d + 0) (A := A_218) (μ := mu_218) (tp := false) (p0 := p_218_s) rfl trivial rfl (.inr pre0_ok) (by decide +kernel) (fun z => nomatch z) r_218_s (allC c_218_s_0 (allC c_218_s_1 (allC c_218_s_2 (allC c_218_s_3 (allC c_218_s_4 (allC c_218_s_5 allN)))))) allN
/- MixStageModel.next ()V -/
noncomputable def s_219 : vM := ([(3, 12, 285, 0)], (9, 0, 0, 0), 0, 0, [(12, 11), (12, 13), (12, 14)])
def postb_219 (a0 : Int) (h0 h : gH) : Prop := hV h0 285 11 ≤ hV h 285 11 ∧ hV h 285 11 ≤ hV h0 285 11 + 1 ∧ hV h0 285 13 ≤ hV h 285 13 ∧ hV h0 285 11 + 1 ≤ hV h 285 11 + hV h 285 13
def post_219 : List Int → gH → gH → Prop := fun xs h0 h => match xs with
  | [a0] => postb_219 a0 h0 h
  | _ => True
noncomputable def e_219 : vE := (219, s_219, pre0, post_219)
noncomputable def L_219 : List vE := [e_217]
def cs_219 : List vC := []
def A_219 : Int → List Int → gH → gH → Prop := fun c xs h0 h => True
def mu_219 : Int → List Int → gH → gH → Nat := fun c xs h0 h => 0
theorem q_219_0 {n0 n1 n2 : Int} {H0 : gH} (f0 : n0 ≤ 500) (f1 : 0 ≤ n0) (f2 : n1 = 1) (f3 : n2 = w32 (n0 + n1)) : 0 ≤ n2 := by
  first
  | (have ix0 : n2 = n0 + 1 := Eq.trans f3 (w32_iv (Iad (Iat f1 f0) (IC 1)) (by decide)); subst ix0; clear f3)
  | (have ix0 : n2 = n0 + 1 := Eq.trans f3 (w32_id (by omega) (by omega)); subst ix0; clear f3)
  | (unfold w32 at f3; have ix0 : n2 = n0 + 1 := (by omega); subst ix0)
  | skip
  try unfold w32 at f3
  omega
def g_219_s_0 : vG := ([(1, [5, 3, 4], [], 0), (0, [4], [], 1), (90, [3], [], 0), (91, [3], [], 500)], (90, [5], [], 0))
theorem c_219_s_0 : vOkm T0 (eP e_219 L_219 A_219 mu_219 none) 1 g_219_s_0 := vOk_inI fun ρ η f0 f1 f2 f3 => q_219_0 (n0 := ρ 3) (n1 := ρ 4) (n2 := ρ 5) (H0 := η 0) f3 f2 f1 f0
theorem q_219_1 {n0 n1 n2 n3 n4 n5 : Int} {H0 : gH} (f0 : n0 = 285) (f1 : n1 = hV H0 (n0).toNat 11) (f2 : n2 = 500) (f3 : n1 ≠ n2) (f4 : n3 ≤ 500) (f5 : 0 ≤ n3) (f6 : n3 = hV H0 (n0).toNat 11) (f7 : n4 = 1) (f8 : n5 = w32 (n3 + n4)) : n5 ≤ 500 := by
  have e0 : n1 = hV H0 285 11 := (by rw [f0] at f1; exact f1 : n1 = hV H0 285 11)
  have e1 : n3 = hV H0 285 11 := (by rw [f0] at f6; exact f6 : n3 = hV H0 285 11)
  clear f1 f6
  subst e0
  subst e1
  first
  | (have ix0 : n5 = hV H0 285 11 + 1 := Eq.trans f8 (w32_iv (Iad (Iat f5 f4) (IC 1)) (by decide)); subst ix0; clear f8)
  | (have ix0 : n5 = hV H0 285 11 + 1 := Eq.trans f8 (w32_id (by omega) (by omega)); subst ix0; clear f8)
  | (unfold w32 at f8; have ix0 : n5 = hV H0 285 11 + 1 := (by omega); subst ix0)
  | skip
  try unfold w32 at f8
  omega
def g_219_s_1 : vG := ([(1, [5, 3, 4], [], 0), (0, [4], [], 1), (20, [3, 0], [0], 11), (90, [3], [], 0), (91, [3], [], 500), (41, [1, 2], [], 0), (0, [2], [], 500), (20, [1, 0], [0], 11), (0, [0], [], 285)], (91, [5], [], 500))
theorem c_219_s_1 : vOkm T0 (eP e_219 L_219 A_219 mu_219 none) 1 g_219_s_1 := vOk_inI fun ρ η f0 f1 f2 f3 f4 f5 f6 f7 f8 => q_219_1 (n0 := ρ 0) (n1 := ρ 1) (n2 := ρ 2) (n3 := ρ 3) (n4 := ρ 4) (n5 := ρ 5) (H0 := η 0) f8 f7 f6 f5 f4 f3 f2 f1 f0
theorem kW_285_11 : vRg T0 285 11 (0) (500) = true := by decide +kernel
theorem q_219_2 {n0 n1 n2 n3 n4 : Int} {H0 H1 : gH} (f0 : n0 = 285) (f1 : hWt T0 H0 ∧ True) (f2 : n1 = hV H0 (n0).toNat 11) (f3 : n2 = 1) (f4 : n3 = w32 (n1 + n2)) (f5 : n4 = 11) (f6 : hUpd H1 H0 n0 n4 n3) : postb_219 n0 H0 H1 := by
  unfold postb_219
  have e0 : n1 = hV H0 285 11 := (by rw [f0] at f2; exact f2 : n1 = hV H0 285 11)
  have e2 : hV H1 285 11 = n3 := (uSame f6 285 11 f0.symm f5.symm)
  have e4 : hV H1 285 13 = hV H0 285 13 := (uSlot f6 285 13 (iS (show n4 = ((11 : Nat) : Int) from f5) rfl))
  have e5 : (0 : Int) ≤ hV H0 285 11 ∧ hV H0 285 11 ≤ 500 := f1.1 285 11 _ _ kW_285_11
  have e6 : (0 : Int) ≤ hV H0 285 13 ∧ hV H0 285 13 ≤ 2 := f1.1 285 13 _ _ kW_285_13
  try simp only [e2, e4]
  clear f2 e4
  clear f1
  subst e0
  first
  | (have ix0 : n3 = hV H0 285 11 + 1 := Eq.trans f4 (w32_iv (Iad (Iat e5.1 e5.2) (IC 1)) (by decide)); subst ix0; clear f4)
  | (have ix0 : n3 = hV H0 285 11 + 1 := Eq.trans f4 (w32_id (by omega) (by omega)); subst ix0; clear f4)
  | (unfold w32 at f4; have ix0 : n3 = hV H0 285 11 + 1 := (by omega); subst ix0)
  | skip
  try unfold w32 at f4
  refine ⟨?_, ?_, ?_, ?_⟩ <;> first | assumption | omega | trivial
def g_219_s_2 : vG := ([(80, [0, 6, 5], [1, 0], 0), (0, [6], [], 11), (1, [5, 3, 4], [], 0), (0, [4], [], 1), (20, [3, 0], [0], 11), (6000, [0], [0], 0), (0, [0], [], 285)], (3000, [], [1], 28))
theorem c_219_s_2 : vOkm T0 (eP e_219 L_219 A_219 mu_219 none) 1 g_219_s_2 := vOk_inI fun ρ η f0 f1 f2 f3 f4 f5 f6 => q_219_2 (n0 := ρ 0) (n1 := ρ 3) (n2 := ρ 4) (n3 := ρ 5) (n4 := ρ 6) (H0 := η 0) (H1 := η 1) f6 f5 f4 f3 f2 f1 f0
theorem kF_217_285_11 : vFree s_217.2.2.2.2 285 11 = true := by decide +kernel
theorem q_219_3 {n0 n1 : Int} {H0 H1 : gH} (f0 : n0 = 285) (f1 : n1 = 2) (f2 : (hLe T0 H0 H1 ∧ hFr s_217.2.2.2.2 H0 H1 ∧ ((0 : Int) = 0 → H1.length = H0.length) ∧ hWt T0 H1) ∧ postb_217 n0 n1 H0 H1) : postb_219 n0 H0 H1 := by
  unfold postb_217 at f2
  unfold postb_219
  have e1 : hV H1 285 11 = hV H0 285 11 := (f2.1.2.1.1 285 11 kF_217_285_11)
  have e2 : (0 : Int) ≤ hV H0 285 11 ∧ hV H0 285 11 ≤ 500 := bTo e1 (f2.1.2.2.2 285 11 _ _ kW_285_11)
  have e3 : (0 : Int) ≤ hV H1 285 13 ∧ hV H1 285 13 ≤ 2 := f2.1.2.2.2 285 13 _ _ kW_285_13
  try simp only [e1]
  have r0_0 := f2.2.1
  have r0_1 := f2.2.2
  clear e1
  clear f2
  refine ⟨?_, ?_, ?_, ?_⟩ <;> first | assumption | omega | trivial
def g_219_s_3 : vG := ([(1217, [0, 3], [0, 1], 0), (0, [3], [], 2), (0, [0], [], 285)], (3000, [], [1], 28))
theorem c_219_s_3 : vOkm T0 (eP e_219 L_219 A_219 mu_219 none) 1 g_219_s_3 := vOk_inI fun ρ η f0 f1 f2 => q_219_3 (n0 := ρ 0) (n1 := ρ 3) (H0 := η 0) (H1 := η 1) f2 f1 f0
def p_219_s : List vG := [g_219_s_0,
  g_219_s_1,
  g_219_s_2,
  g_219_s_3]
theorem r_219_s : vCovO false (eR0 e_219 L_219 cs_219 2000) p_219_s = true := by decide +kernel
theorem m_219 (d : Nat) : eC e_219 (d + 2) := eC_ok (e := e_219) (L := L_219) (cs := cs_219) (n := 2000) (d := d + 1) (A := A_219) (μ := mu_219) (tp := false) (p0 := p_219_s) rfl ⟨m_217 d, trivial⟩ rfl (.inr pre0_ok) (by decide +kernel) (fun z => nomatch z) r_219_s (allC c_219_s_0 (allC c_219_s_1 (allC c_219_s_2 (allC c_219_s_3 allN)))) allN
/- MixStageModel.must (I)V -/
noncomputable def s_220 : vM := ([(3, 12, 285, 0), (0, -2147483648, 2147483647, 0)], (9, 0, 0, 0), 0, 0, [(12, 11), (12, 13), (12, 14)])
def postb_220 (a0 a1 : Int) (h0 h : gH) : Prop := hV h0 285 11 ≤ hV h 285 11 ∧ hV h 285 11 ≤ hV h0 285 11 + 1 ∧ hV h0 285 13 ≤ hV h 285 13 ∧ hV h0 285 11 + 1 ≤ hV h 285 11 + hV h 285 13 ∧ (hV h 285 13 = 0 → hV h 288 ((hV h0 285 11).toNat) = a1)
def post_220 : List Int → gH → gH → Prop := fun xs h0 h => match xs with
  | [a0, a1] => postb_220 a0 a1 h0 h
  | _ => True
noncomputable def e_220 : vE := (220, s_220, pre0, post_220)
noncomputable def L_220 : List vE := [e_216, e_217, e_219]
def cs_220 : List vC := []
def A_220 : Int → List Int → gH → gH → Prop := fun c xs h0 h => True
def mu_220 : Int → List Int → gH → gH → Nat := fun c xs h0 h => 0
theorem kR_216_288 : vFreeR s_216.2.2.2.2 288 = true := by decide +kernel
theorem kR_217_288 : vFreeR s_217.2.2.2.2 288 = true := by decide +kernel
theorem kF_216_285_11 : vFree s_216.2.2.2.2 285 11 = true := by decide +kernel
theorem kF_216_285_13 : vFree s_216.2.2.2.2 285 13 = true := by decide +kernel
theorem q_220_0 {n0 n1 n2 n3 : Int} {H0 H1 H2 : gH} (f0 : n0 = 285) (f1 : (hLe T0 H0 H1 ∧ hFr s_216.2.2.2.2 H0 H1 ∧ ((0 : Int) = 0 → H1.length = H0.length) ∧ hWt T0 H1) ∧ postb_216 n1 n0 n2 H0 H1) (f2 : n3 = 1) (f3 : (hLe T0 H1 H2 ∧ hFr s_217.2.2.2.2 H1 H2 ∧ ((0 : Int) = 0 → H2.length = H1.length) ∧ hWt T0 H2) ∧ postb_217 n0 n3 H1 H2) : postb_220 n0 n2 H0 H2 := by
  unfold postb_216 at f1
  unfold postb_217 at f3
  unfold postb_220
  have e1 : hV H1 285 11 = hV H0 285 11 := (f1.1.2.1.1 285 11 kF_216_285_11)
  have e3 : hV H1 285 13 = hV H0 285 13 := (f1.1.2.1.1 285 13 kF_216_285_13)
  have e4 : hV H1 288 = hV H0 288 := fRow f1.1.2.1 288 kR_216_288
  have e6 : hV H2 285 11 = hV H0 285 11 := ((f3.1.2.1.1 285 11 kF_217_285_11)).trans (f1.1.2.1.1 285 11 kF_216_285_11)
  have e8 : hV H2 288 = hV H0 288 := (fRow f3.1.2.1 288 kR_217_288).trans e4
  have e9 : (0 : Int) ≤ hV H0 285 11 ∧ hV H0 285 11 ≤ 500 := bTo e1 (f1.1.2.2.2 285 11 _ _ kW_285_11)
  have e10 : (0 : Int) ≤ hV H0 285 13 ∧ hV H0 285 13 ≤ 2 := bTo e3 (f1.1.2.2.2 285 13 _ _ kW_285_13)
  have e12 : (0 : Int) ≤ hV H2 285 13 ∧ hV H2 285 13 ≤ 2 := f3.1.2.2.2 285 13 _ _ kW_285_13
  try simp only [e6, e8]
  have r0_0 := f1.2.1
  have r0_1 := f1.2.2
  have r1_0 := f3.2.1
  have r1_1 := f3.2.2
  try simp only [e3] at r0_0
  try simp only [e1, e3, e4] at r0_1
  try simp only [e3] at r1_0
  clear e1 e3 e4 e6 e8
  clear f1 f3
  refine ⟨?_, ?_, ?_, ?_, ?_⟩ <;> first | assumption | omega | trivial
def g_220_s_0 : vG := ([(1217, [0, 3], [1, 2], 0), (0, [3], [], 1), (1216, [2, 0, 1], [0, 1], 0), (0, [0], [], 285)], (3000, [], [2], 20))
theorem c_220_s_0 : vOkm T0 (eP e_220 L_220 A_220 mu_220 none) 2 g_220_s_0 := vOk_inI fun ρ η f0 f1 f2 f3 => q_220_0 (n0 := ρ 0) (n1 := ρ 2) (n2 := ρ 1) (n3 := ρ 3) (H0 := η 0) (H1 := η 1) (H2 := η 2) f3 f2 f1 f0
theorem kR_219_288 : vFreeR s_219.2.2.2.2 288 = true := by decide +kernel
theorem q_220_1 {n0 n1 n2 : Int} {H0 H1 H2 : gH} (f0 : n0 = 285) (f1 : (hLe T0 H0 H1 ∧ hFr s_216.2.2.2.2 H0 H1 ∧ ((0 : Int) = 0 → H1.length = H0.length) ∧ hWt T0 H1) ∧ postb_216 n1 n0 n2 H0 H1) (f2 : n1 ≠ 0) (f3 : (hLe T0 H1 H2 ∧ hFr s_219.2.2.2.2 H1 H2 ∧ ((0 : Int) = 0 → H2.length = H1.length) ∧ hWt T0 H2) ∧ postb_219 n0 H1 H2) : postb_220 n0 n2 H0 H2 := by
  unfold postb_216 at f1
  unfold postb_219 at f3
  unfold postb_220
  have e1 : hV H1 285 11 = hV H0 285 11 := (f1.1.2.1.1 285 11 kF_216_285_11)
  have e3 : hV H1 285 13 = hV H0 285 13 := (f1.1.2.1.1 285 13 kF_216_285_13)
  have e4 : hV H1 288 = hV H0 288 := fRow f1.1.2.1 288 kR_216_288
  have e6 : hV H2 288 = hV H0 288 := (fRow f3.1.2.1 288 kR_219_288).trans e4
  have e7 : (0 : Int) ≤ hV H0 285 11 ∧ hV H0 285 11 ≤ 500 := bTo e1 (f1.1.2.2.2 285 11 _ _ kW_285_11)
  have e8 : (0 : Int) ≤ hV H0 285 13 ∧ hV H0 285 13 ≤ 2 := bTo e3 (f1.1.2.2.2 285 13 _ _ kW_285_13)
  have e9 : (0 : Int) ≤ hV H2 285 11 ∧ hV H2 285 11 ≤ 500 := f3.1.2.2.2 285 11 _ _ kW_285_11
  have e10 : (0 : Int) ≤ hV H2 285 13 ∧ hV H2 285 13 ≤ 2 := f3.1.2.2.2 285 13 _ _ kW_285_13
  try simp only [e6]
  have r0_0 := f1.2.1
  have r0_1 := f1.2.2
  have r1_0 := f3.2.1
  have r1_1 := f3.2.2.1
  have r1_2 := f3.2.2.2.1
  have r1_3 := f3.2.2.2.2
  try simp only [e3] at r0_0
  try simp only [e1, e3, e4] at r0_1
  try simp only [e1] at r1_0
  try simp only [e1] at r1_1
  try simp only [e3] at r1_2
  try simp only [e1] at r1_3
  clear e1 e3 e4 e6
  clear f1 f3
  refine ⟨?_, ?_, ?_, ?_, ?_⟩ <;> first | assumption | omega | trivial
def g_220_s_1 : vG := ([(1219, [0], [1, 2], 0), (31, [2], [], 0), (1216, [2, 0, 1], [0, 1], 0), (0, [0], [], 285)], (3000, [], [2], 20))
theorem c_220_s_1 : vOkm T0 (eP e_220 L_220 A_220 mu_220 none) 2 g_220_s_1 := vOk_inI fun ρ η f0 f1 f2 f3 => q_220_1 (n0 := ρ 0) (n1 := ρ 2) (n2 := ρ 1) (H0 := η 0) (H1 := η 1) (H2 := η 2) f3 f2 f1 f0
def p_220_s : List vG := [g_220_s_0,
  g_220_s_1]
theorem r_220_s : vCovO false (eR0 e_220 L_220 cs_220 2000) p_220_s = true := by decide +kernel
theorem m_220 (d : Nat) : eC e_220 (d + 3) := eC_ok (e := e_220) (L := L_220) (cs := cs_220) (n := 2000) (d := d + 2) (A := A_220) (μ := mu_220) (tp := false) (p0 := p_220_s) rfl ⟨m_216 (d + 1), ⟨m_217 (d + 1), ⟨m_219 d, trivial⟩⟩⟩ rfl (.inr pre0_ok) (by decide +kernel) (fun z => nomatch z) r_220_s (allC c_220_s_0 (allC c_220_s_1 allN)) allN
/- MixStageModel.number (II)I -/
noncomputable def s_223 : vM := ([(3, 12, 285, 0), (0, 0, 9999, 0), (0, 0, 9999, 0)], (0, 0, 9999, 0), 0, 0, [(12, 11), (12, 13), (12, 14), (12, 15), (12, 16)])
def postb_223 (r a0 a1 a2 : Int) (h0 h : gH) : Prop := hV h0 285 11 ≤ hV h 285 11 ∧ hV h 285 11 ≤ hV h0 285 11 + 1 ∧ hV h0 285 13 ≤ hV h 285 13 ∧ hV h0 285 11 + 1 ≤ hV h 285 11 + hV h 285 13 ∧ hV h0 285 15 ≤ 6 * hV h 285 15 ∧ a1 - 9999 * (hV h 285 13 + hV h 285 15) ≤ r ∧ r ≤ a2 + 9999 * (hV h 285 13 + hV h 285 15) ∧ (hV h 285 13 = 0 → hV h 288 ((hV h0 285 11).toNat) = 2)
def post_223 : List Int → gH → gH → Prop := fun xs h0 h => match xs with
  | [r, a0, a1, a2] => postb_223 r a0 a1 a2 h0 h
  | _ => True
noncomputable def e_223 : vE := (223, s_223, pre0, post_223)
noncomputable def L_223 : List vE := [e_216, e_218, e_220]
def cs_223 : List vC := []
def A_223 : Int → List Int → gH → gH → Prop := fun c xs h0 h => True
def mu_223 : Int → List Int → gH → gH → Nat := fun c xs h0 h => 0
theorem kR_220_288 : vFreeR s_220.2.2.2.2 288 = true := by decide +kernel
theorem kF_220_285_15 : vFree s_220.2.2.2.2 285 15 = true := by decide +kernel
theorem kF_216_285_15 : vFree s_216.2.2.2.2 285 15 = true := by decide +kernel
theorem q_223_0 {n0 n1 n2 n3 n4 n5 n6 : Int} {H0 H1 H2 : gH} (f0 : 0 ≤ n0) (f1 : n1 ≤ 9999) (f2 : n2 = 285) (f3 : hWt T0 H0 ∧ True) (f4 : n3 = 2) (f5 : (hLe T0 H0 H1 ∧ hFr s_216.2.2.2.2 H0 H1 ∧ ((0 : Int) = 0 → H1.length = H0.length) ∧ hWt T0 H1) ∧ postb_216 n4 n2 n3 H0 H1) (f6 : n4 = 0) (f7 : n5 = 0) (f8 : n6 = 2) (f9 : (hLe T0 H1 H2 ∧ hFr s_220.2.2.2.2 H1 H2 ∧ ((0 : Int) = 0 → H2.length = H1.length) ∧ hWt T0 H2) ∧ postb_220 n2 n6 H1 H2) : postb_223 n5 n2 n1 n0 H0 H2 := by
  unfold postb_216 at f5
  unfold postb_220 at f9
  unfold postb_223
  have e1 : hV H1 285 11 = hV H0 285 11 := (f5.1.2.1.1 285 11 kF_216_285_11)
  have e3 : hV H1 285 13 = hV H0 285 13 := (f5.1.2.1.1 285 13 kF_216_285_13)
  have e4 : hV H1 288 = hV H0 288 := fRow f5.1.2.1 288 kR_216_288
  have e7 : hV H2 285 15 = hV H0 285 15 := ((f9.1.2.1.1 285 15 kF_220_285_15)).trans (f5.1.2.1.1 285 15 kF_216_285_15)
  have e9 : hV H2 288 = hV H0 288 := (fRow f9.1.2.1 288 kR_220_288).trans e4
  have e10 : (0 : Int) ≤ hV H0 285 11 ∧ hV H0 285 11 ≤ 500 := f3.1 285 11 _ _ kW_285_11
  have e11 : (0 : Int) ≤ hV H0 285 13 ∧ hV H0 285 13 ≤ 2 := f3.1 285 13 _ _ kW_285_13
  have e12 : (0 : Int) ≤ hV H0 285 15 ∧ hV H0 285 15 ≤ 6 := f3.1 285 15 _ _ kW_285_15
  have e15 : (0 : Int) ≤ hV H2 285 11 ∧ hV H2 285 11 ≤ 500 := f9.1.2.2.2 285 11 _ _ kW_285_11
  have e16 : (0 : Int) ≤ hV H2 285 13 ∧ hV H2 285 13 ≤ 2 := f9.1.2.2.2 285 13 _ _ kW_285_13
  try simp only [e7, e9]
  have r0_0 := f5.2.1
  have r0_1 := f5.2.2
  have r1_0 := f9.2.1
  have r1_1 := f9.2.2.1
  have r1_2 := f9.2.2.2.1
  have r1_3 := f9.2.2.2.2.1
  have r1_4 := f9.2.2.2.2.2
  try simp only [e3] at r0_0
  try simp only [e1, e3, e4] at r0_1
  try simp only [e1] at r1_0
  try simp only [e1] at r1_1
  try simp only [e3] at r1_2
  try simp only [e1] at r1_3
  try simp only [e1, e9] at r1_4
  clear e1 e3 e4 e7 e9
  clear f3 f5 f9
  refine ⟨?_, ?_, ?_, ?_, ?_, ?_, ?_, ?_⟩ <;> first | assumption | omega | trivial
def g_223_s_0 : vG := ([(1220, [0, 7], [1, 2], 0), (0, [7], [], 2), (0, [6], [], 0), (30, [5], [], 0), (1216, [5, 0, 4], [0, 1], 0), (0, [4], [], 2), (6000, [0, 1, 2], [0], 0), (0, [0], [], 285), (91, [1], [], 9999), (90, [2], [], 0)], (3000, [6], [2], 60))
theorem c_223_s_0 : vOkm T0 (eP e_223 L_223 A_223 mu_223 none) 3 g_223_s_0 := vOk_inI fun ρ η f0 f1 f2 f3 f4 f5 f6 f7 f8 f9 => q_223_0 (n0 := ρ 2) (n1 := ρ 1) (n2 := ρ 0) (n3 := ρ 4) (n4 := ρ 5) (n5 := ρ 6) (n6 := ρ 7) (H0 := η 0) (H1 := η 1) (H2 := η 2) f9 f8 f7 f6 f5 f4 f3 f2 f1 f0
theorem q_223_1 {n0 n1 n2 n3 n4 n5 n6 n7 : Int} {H0 H1 H2 H3 : gH} (f0 : n0 = 285) (f1 : n1 = 2) (f2 : (hLe T0 H0 H1 ∧ hFr s_216.2.2.2.2 H0 H1 ∧ ((0 : Int) = 0 → H1.length = H0.length) ∧ hWt T0 H1) ∧ postb_216 n2 n0 n1 H0 H1) (f3 : n2 = 0) (f4 : n3 = 0) (f5 : n4 = 2) (f6 : (hLe T0 H1 H2 ∧ hFr s_220.2.2.2.2 H1 H2 ∧ ((0 : Int) = 0 → H2.length = H1.length) ∧ hWt T0 H2) ∧ postb_220 n0 n4 H1 H2) (f7 : n5 = hV H2 (n0).toNat 13) (f8 : n5 = 0) : postb_223 n3 n0 n6 n7 H0 H3 := by
  unfold postb_216 at f2
  unfold postb_220 at f6
  unfold postb_223
  have e0 : n5 = hV H2 285 13 := (by rw [f0] at f7; exact f7 : n5 = hV H2 285 13)
  have e2 : hV H1 285 11 = hV H0 285 11 := (f2.1.2.1.1 285 11 kF_216_285_11)
  have e4 : hV H1 285 13 = hV H0 285 13 := (f2.1.2.1.1 285 13 kF_216_285_13)
  have e5 : hV H1 288 = hV H0 288 := fRow f2.1.2.1 288 kR_216_288
  have e7 : hV H2 288 = hV H0 288 := (fRow f6.1.2.1 288 kR_220_288).trans e5
  have e8 : (0 : Int) ≤ hV H0 285 11 ∧ hV H0 285 11 ≤ 500 := bTo e2 (f2.1.2.2.2 285 11 _ _ kW_285_11)
  have e9 : (0 : Int) ≤ hV H0 285 13 ∧ hV H0 285 13 ≤ 2 := bTo e4 (f2.1.2.2.2 285 13 _ _ kW_285_13)
  have e10 : (0 : Int) ≤ hV H2 285 11 ∧ hV H2 285 11 ≤ 500 := f6.1.2.2.2 285 11 _ _ kW_285_11
  have e11 : (0 : Int) ≤ hV H2 285 13 ∧ hV H2 285 13 ≤ 2 := f6.1.2.2.2 285 13 _ _ kW_285_13
  have r0_0 := f2.2.1
  have r0_1 := f2.2.2
  have r1_0 := f6.2.1
  have r1_1 := f6.2.2.1
  have r1_2 := f6.2.2.2.1
  have r1_3 := f6.2.2.2.2.1
  have r1_4 := f6.2.2.2.2.2
  try simp only [e4] at r0_0
  try simp only [e2, e4, e5] at r0_1
  try simp only [e2] at r1_0
  try simp only [e2] at r1_1
  try simp only [e4] at r1_2
  try simp only [e2] at r1_3
  try simp only [e2, e7] at r1_4
  clear f7 e2 e4 e5 e7
  clear f2 f6
  subst e0
  refine ⟨?_, ?_, ?_, ?_, ?_, ?_, ?_, ?_⟩ <;> first | assumption | omega | trivial
def g_223_s_1 : vG := ([(30, [8], [], 0), (20, [8, 0], [2], 13), (1220, [0, 7], [1, 2], 0), (0, [7], [], 2), (0, [6], [], 0), (30, [5], [], 0), (1216, [5, 0, 4], [0, 1], 0), (0, [4], [], 2), (0, [0], [], 285)], (3000, [6], [3], 60))
theorem c_223_s_1 : vOkm T0 (eP e_223 L_223 A_223 mu_223 none) 3 g_223_s_1 := vOk_inI fun ρ η f0 f1 f2 f3 f4 f5 f6 f7 f8 => q_223_1 (n0 := ρ 0) (n1 := ρ 4) (n2 := ρ 5) (n3 := ρ 6) (n4 := ρ 7) (n5 := ρ 8) (n6 := ρ 1) (n7 := ρ 2) (H0 := η 0) (H1 := η 1) (H2 := η 2) (H3 := η 3) f8 f7 f6 f5 f4 f3 f2 f1 f0
theorem q_223_2 {n0 n1 n2 n3 n4 n5 n6 n7 : Int} {H0 H1 H2 : gH} (f0 : n0 = 285) (f1 : n1 = 2) (f2 : (hLe T0 H0 H1 ∧ hFr s_216.2.2.2.2 H0 H1 ∧ ((0 : Int) = 0 → H1.length = H0.length) ∧ hWt T0 H1) ∧ postb_216 n2 n0 n1 H0 H1) (f3 : n2 = 0) (f4 : n3 = 0) (f5 : n4 = 2) (f6 : (hLe T0 H1 H2 ∧ hFr s_220.2.2.2.2 H1 H2 ∧ ((0 : Int) = 0 → H2.length = H1.length) ∧ hWt T0 H2) ∧ postb_220 n0 n4 H1 H2) (f7 : n5 = hV H2 (n0).toNat 13) (f8 : n5 = 0) : postb_223 n3 n0 n6 n7 H0 H2 := by
  unfold postb_216 at f2
  unfold postb_220 at f6
  unfold postb_223
  have e0 : n5 = hV H2 285 13 := (by rw [f0] at f7; exact f7 : n5 = hV H2 285 13)
  have e2 : hV H1 285 11 = hV H0 285 11 := (f2.1.2.1.1 285 11 kF_216_285_11)
  have e4 : hV H1 285 13 = hV H0 285 13 := (f2.1.2.1.1 285 13 kF_216_285_13)
  have e5 : hV H1 288 = hV H0 288 := fRow f2.1.2.1 288 kR_216_288
  have e8 : hV H2 285 15 = hV H0 285 15 := ((f6.1.2.1.1 285 15 kF_220_285_15)).trans (f2.1.2.1.1 285 15 kF_216_285_15)
  have e10 : hV H2 288 = hV H0 288 := (fRow f6.1.2.1 288 kR_220_288).trans e5
  have e11 : (0 : Int) ≤ hV H0 285 11 ∧ hV H0 285 11 ≤ 500 := bTo e2 (f2.1.2.2.2 285 11 _ _ kW_285_11)
  have e12 : (0 : Int) ≤ hV H0 285 13 ∧ hV H0 285 13 ≤ 2 := bTo e4 (f2.1.2.2.2 285 13 _ _ kW_285_13)
  have e13 : (0 : Int) ≤ hV H2 285 11 ∧ hV H2 285 11 ≤ 500 := f6.1.2.2.2 285 11 _ _ kW_285_11
  have e14 : (0 : Int) ≤ hV H2 285 13 ∧ hV H2 285 13 ≤ 2 := f6.1.2.2.2 285 13 _ _ kW_285_13
  have e15 : (0 : Int) ≤ hV H0 285 15 ∧ hV H0 285 15 ≤ 6 := bTo e8 (f6.1.2.2.2 285 15 _ _ kW_285_15)
  try simp only [e8, e10]
  have r0_0 := f2.2.1
  have r0_1 := f2.2.2
  have r1_0 := f6.2.1
  have r1_1 := f6.2.2.1
  have r1_2 := f6.2.2.2.1
  have r1_3 := f6.2.2.2.2.1
  have r1_4 := f6.2.2.2.2.2
  try simp only [e4] at r0_0
  try simp only [e2, e4, e5] at r0_1
  try simp only [e2] at r1_0
  try simp only [e2] at r1_1
  try simp only [e4] at r1_2
  try simp only [e2] at r1_3
  try simp only [e2, e10] at r1_4
  clear f7 e2 e4 e5 e8 e10
  clear f2 f6
  subst e0
  refine ⟨?_, ?_, ?_, ?_, ?_, ?_, ?_, ?_⟩ <;> first | assumption | omega | trivial
def g_223_s_2 : vG := ([(30, [8], [], 0), (20, [8, 0], [2], 13), (1220, [0, 7], [1, 2], 0), (0, [7], [], 2), (0, [6], [], 0), (30, [5], [], 0), (1216, [5, 0, 4], [0, 1], 0), (0, [4], [], 2), (0, [0], [], 285)], (3000, [6], [2], 60))
theorem c_223_s_2 : vOkm T0 (eP e_223 L_223 A_223 mu_223 none) 3 g_223_s_2 := vOk_inI fun ρ η f0 f1 f2 f3 f4 f5 f6 f7 f8 => q_223_2 (n0 := ρ 0) (n1 := ρ 4) (n2 := ρ 5) (n3 := ρ 6) (n4 := ρ 7) (n5 := ρ 8) (n6 := ρ 1) (n7 := ρ 2) (H0 := η 0) (H1 := η 1) (H2 := η 2) f8 f7 f6 f5 f4 f3 f2 f1 f0
theorem q_223_3 {n0 n1 n2 n3 : Int} {H0 H1 : gH} (f0 : 0 ≤ n0) (f1 : n1 = 0) (f2 : n0 < n1) : postb_223 n1 n2 n3 n0 H0 H1 := by
  unfold postb_223
  refine ⟨?_, ?_, ?_, ?_, ?_, ?_, ?_, ?_⟩ <;> first | assumption | omega | trivial
def g_223_s_3 : vG := ([(44, [6, 2], [], 0), (0, [6], [], 0), (90, [2], [], 0)], (3000, [6], [3], 60))
theorem c_223_s_3 : vOkm T0 (eP e_223 L_223 A_223 mu_223 none) 3 g_223_s_3 := vOk_inI fun ρ η f0 f1 f2 => q_223_3 (n0 := ρ 2) (n1 := ρ 6) (n2 := ρ 0) (n3 := ρ 1) (H0 := η 0) (H1 := η 3) f2 f1 f0
theorem q_223_4 {n0 n1 n2 n3 n4 n5 n6 n7 : Int} {H0 H1 H2 : gH} (f0 : 0 ≤ n0) (f1 : n1 ≤ 9999) (f2 : n2 = 285) (f3 : hWt T0 H0 ∧ True) (f4 : n3 = 2) (f5 : (hLe T0 H0 H1 ∧ hFr s_216.2.2.2.2 H0 H1 ∧ ((0 : Int) = 0 → H1.length = H0.length) ∧ hWt T0 H1) ∧ postb_216 n4 n2 n3 H0 H1) (f6 : n5 ≤ 9999) (f7 : 0 ≤ n5) (f8 : n6 = 2) (f9 : (hLe T0 H1 H2 ∧ hFr s_220.2.2.2.2 H1 H2 ∧ ((0 : Int) = 0 → H2.length = H1.length) ∧ hWt T0 H2) ∧ postb_220 n2 n6 H1 H2) (f10 : n7 = hV H2 (n2).toNat 13) (f11 : n7 ≠ 0) : postb_223 n5 n2 n1 n0 H0 H2 := by
  unfold postb_216 at f5
  unfold postb_220 at f9
  unfold postb_223
  have e0 : n7 = hV H2 285 13 := (by rw [f2] at f10; exact f10 : n7 = hV H2 285 13)
  have e2 : hV H1 285 11 = hV H0 285 11 := (f5.1.2.1.1 285 11 kF_216_285_11)
  have e4 : hV H1 285 13 = hV H0 285 13 := (f5.1.2.1.1 285 13 kF_216_285_13)
  have e5 : hV H1 288 = hV H0 288 := fRow f5.1.2.1 288 kR_216_288
  have e8 : hV H2 285 15 = hV H0 285 15 := ((f9.1.2.1.1 285 15 kF_220_285_15)).trans (f5.1.2.1.1 285 15 kF_216_285_15)
  have e10 : hV H2 288 = hV H0 288 := (fRow f9.1.2.1 288 kR_220_288).trans e5
  have e11 : (0 : Int) ≤ hV H0 285 11 ∧ hV H0 285 11 ≤ 500 := f3.1 285 11 _ _ kW_285_11
  have e12 : (0 : Int) ≤ hV H0 285 13 ∧ hV H0 285 13 ≤ 2 := f3.1 285 13 _ _ kW_285_13
  have e13 : (0 : Int) ≤ hV H0 285 15 ∧ hV H0 285 15 ≤ 6 := f3.1 285 15 _ _ kW_285_15
  have e16 : (0 : Int) ≤ hV H2 285 11 ∧ hV H2 285 11 ≤ 500 := f9.1.2.2.2 285 11 _ _ kW_285_11
  have e17 : (0 : Int) ≤ hV H2 285 13 ∧ hV H2 285 13 ≤ 2 := f9.1.2.2.2 285 13 _ _ kW_285_13
  try simp only [e8, e10]
  have r0_0 := f5.2.1
  have r0_1 := f5.2.2
  have r1_0 := f9.2.1
  have r1_1 := f9.2.2.1
  have r1_2 := f9.2.2.2.1
  have r1_3 := f9.2.2.2.2.1
  have r1_4 := f9.2.2.2.2.2
  try simp only [e4] at r0_0
  try simp only [e2, e4, e5] at r0_1
  try simp only [e2] at r1_0
  try simp only [e2] at r1_1
  try simp only [e4] at r1_2
  try simp only [e2] at r1_3
  try simp only [e2, e10] at r1_4
  clear f10 e2 e4 e5 e8 e10
  clear f3 f5 f9
  subst e0
  refine ⟨?_, ?_, ?_, ?_, ?_, ?_, ?_, ?_⟩ <;> first | assumption | omega | trivial
def g_223_s_4 : vG := ([(31, [10], [], 0), (20, [10, 0], [2], 13), (1220, [0, 9], [1, 2], 0), (0, [9], [], 2), (90, [8], [], 0), (91, [8], [], 9999), (1216, [5, 0, 4], [0, 1], 0), (0, [4], [], 2), (6000, [0, 1, 2], [0], 0), (0, [0], [], 285), (91, [1], [], 9999), (90, [2], [], 0)], (3000, [8], [2], 60))
theorem c_223_s_4 : vOkm T0 (eP e_223 L_223 A_223 mu_223 none) 3 g_223_s_4 := vOk_inI fun ρ η f0 f1 f2 f3 f4 f5 f6 f7 f8 f9 f10 f11 => q_223_4 (n0 := ρ 2) (n1 := ρ 1) (n2 := ρ 0) (n3 := ρ 4) (n4 := ρ 5) (n5 := ρ 8) (n6 := ρ 9) (n7 := ρ 10) (H0 := η 0) (H1 := η 1) (H2 := η 2) f11 f10 f9 f8 f7 f6 f5 f4 f3 f2 f1 f0
theorem kR_218_288 : vFreeR s_218.2.2.2.2 288 = true := by decide +kernel
theorem kF_218_285_11 : vFree s_218.2.2.2.2 285 11 = true := by decide +kernel
theorem kF_218_285_13 : vFree s_218.2.2.2.2 285 13 = true := by decide +kernel
theorem q_223_5 {n0 n1 n2 n3 n4 n5 n6 n7 n8 : Int} {H0 H1 H2 H3 : gH} (f0 : 0 ≤ n0) (f1 : n1 ≤ 9999) (f2 : n2 = 285) (f3 : n3 = 2) (f4 : (hLe T0 H0 H1 ∧ hFr s_216.2.2.2.2 H0 H1 ∧ ((0 : Int) = 0 → H1.length = H0.length) ∧ hWt T0 H1) ∧ postb_216 n4 n2 n3 H0 H1) (f5 : 0 ≤ n5) (f6 : n6 = 2) (f7 : (hLe T0 H1 H2 ∧ hFr s_220.2.2.2.2 H1 H2 ∧ ((0 : Int) = 0 → H2.length = H1.length) ∧ hWt T0 H2) ∧ postb_220 n2 n6 H1 H2) (f8 : n5 < n1) (f9 : n7 = 5) (f10 : (hLe T0 H2 H3 ∧ hFr s_218.2.2.2.2 H2 H3 ∧ ((0 : Int) = 0 → H3.length = H2.length) ∧ hWt T0 H3) ∧ postb_218 n2 n7 n8 H2 H3) : postb_223 n5 n2 n1 n0 H0 H3 := by
  unfold postb_216 at f4
  unfold postb_220 at f7
  unfold postb_218 at f10
  unfold postb_223
  have e1 : hV H1 285 11 = hV H0 285 11 := (f4.1.2.1.1 285 11 kF_216_285_11)
  have e3 : hV H1 285 13 = hV H0 285 13 := (f4.1.2.1.1 285 13 kF_216_285_13)
  have e4 : hV H1 288 = hV H0 288 := fRow f4.1.2.1 288 kR_216_288
  have e7 : hV H2 285 15 = hV H0 285 15 := ((f7.1.2.1.1 285 15 kF_220_285_15)).trans (f4.1.2.1.1 285 15 kF_216_285_15)
  have e9 : hV H2 288 = hV H0 288 := (fRow f7.1.2.1 288 kR_220_288).trans e4
  have e11 : hV H3 285 11 = hV H2 285 11 := (f10.1.2.1.1 285 11 kF_218_285_11)
  have e13 : hV H3 285 13 = hV H2 285 13 := (f10.1.2.1.1 285 13 kF_218_285_13)
  have e15 : hV H3 288 = hV H0 288 := (fRow f10.1.2.1 288 kR_218_288).trans e9
  have e16 : (0 : Int) ≤ hV H0 285 11 ∧ hV H0 285 11 ≤ 500 := bTo e1 (f4.1.2.2.2 285 11 _ _ kW_285_11)
  have e17 : (0 : Int) ≤ hV H0 285 13 ∧ hV H0 285 13 ≤ 2 := bTo e3 (f4.1.2.2.2 285 13 _ _ kW_285_13)
  have e18 : (0 : Int) ≤ hV H2 285 11 ∧ hV H2 285 11 ≤ 500 := f7.1.2.2.2 285 11 _ _ kW_285_11
  have e19 : (0 : Int) ≤ hV H2 285 13 ∧ hV H2 285 13 ≤ 2 := f7.1.2.2.2 285 13 _ _ kW_285_13
  have e20 : (0 : Int) ≤ hV H0 285 15 ∧ hV H0 285 15 ≤ 6 := bTo e7 (f7.1.2.2.2 285 15 _ _ kW_285_15)
  have e23 : (0 : Int) ≤ hV H3 285 15 ∧ hV H3 285 15 ≤ 6 := f10.1.2.2.2 285 15 _ _ kW_285_15
  try simp only [e11, e13, e15]
  have r0_0 := f4.2.1
  have r0_1 := f4.2.2
  have r1_0 := f7.2.1
  have r1_1 := f7.2.2.1
  have r1_2 := f7.2.2.2.1
  have r1_3 := f7.2.2.2.2.1
  have r1_4 := f7.2.2.2.2.2
  have r2_0 := f10.2.1
  have r2_1 := f10.2.2
  try simp only [e3] at r0_0
  try simp only [e1, e3, e4] at r0_1
  try simp only [e1] at r1_0
  try simp only [e1] at r1_1
  try simp only [e3] at r1_2
  try simp only [e1] at r1_3
  try simp only [e1, e9] at r1_4
  try simp only [e7] at r2_0
  try simp only [e13] at r2_1
  clear e1 e3 e4 e7 e9 e11 e13 e15
  clear f4 f7 f10
  refine ⟨?_, ?_, ?_, ?_, ?_, ?_, ?_, ?_⟩ <;> first | assumption | omega | trivial
def g_223_s_5 : vG := ([(1218, [0, 11, 3], [2, 3], 0), (0, [11], [], 5), (42, [8, 1], [], 0), (1220, [0, 9], [1, 2], 0), (0, [9], [], 2), (90, [8], [], 0), (1216, [5, 0, 4], [0, 1], 0), (0, [4], [], 2), (0, [0], [], 285), (91, [1], [], 9999), (90, [2], [], 0)], (3000, [8], [3], 60))
theorem c_223_s_5 : vOkm T0 (eP e_223 L_223 A_223 mu_223 none) 3 g_223_s_5 := vOk_inI fun ρ η f0 f1 f2 f3 f4 f5 f6 f7 f8 f9 f10 => q_223_5 (n0 := ρ 2) (n1 := ρ 1) (n2 := ρ 0) (n3 := ρ 4) (n4 := ρ 5) (n5 := ρ 8) (n6 := ρ 9) (n7 := ρ 11) (n8 := ρ 3) (H0 := η 0) (H1 := η 1) (H2 := η 2) (H3 := η 3) f10 f9 f8 f7 f6 f5 f4 f3 f2 f1 f0
theorem q_223_6 {n0 n1 n2 n3 n4 n5 n6 : Int} {H0 H1 H2 : gH} (f0 : n0 = 285) (f1 : hWt T0 H0 ∧ True) (f2 : n3 = 2) (f3 : (hLe T0 H0 H1 ∧ hFr s_216.2.2.2.2 H0 H1 ∧ ((0 : Int) = 0 → H1.length = H0.length) ∧ hWt T0 H1) ∧ postb_216 n4 n0 n3 H0 H1) (f4 : n5 = 2) (f5 : (hLe T0 H1 H2 ∧ hFr s_220.2.2.2.2 H1 H2 ∧ ((0 : Int) = 0 → H2.length = H1.length) ∧ hWt T0 H2) ∧ postb_220 n0 n5 H1 H2) (f6 : n1 ≤ n6) (f7 : n6 ≤ n2) : postb_223 n6 n0 n1 n2 H0 H2 := by
  unfold postb_216 at f3
  unfold postb_220 at f5
  unfold postb_223
  have e1 : hV H1 285 11 = hV H0 285 11 := (f3.1.2.1.1 285 11 kF_216_285_11)
  have e3 : hV H1 285 13 = hV H0 285 13 := (f3.1.2.1.1 285 13 kF_216_285_13)
  have e4 : hV H1 288 = hV H0 288 := fRow f3.1.2.1 288 kR_216_288
  have e7 : hV H2 285 15 = hV H0 285 15 := ((f5.1.2.1.1 285 15 kF_220_285_15)).trans (f3.1.2.1.1 285 15 kF_216_285_15)
  have e9 : hV H2 288 = hV H0 288 := (fRow f5.1.2.1 288 kR_220_288).trans e4
  have e10 : (0 : Int) ≤ hV H0 285 11 ∧ hV H0 285 11 ≤ 500 := f1.1 285 11 _ _ kW_285_11
  have e11 : (0 : Int) ≤ hV H0 285 13 ∧ hV H0 285 13 ≤ 2 := f1.1 285 13 _ _ kW_285_13
  have e12 : (0 : Int) ≤ hV H0 285 15 ∧ hV H0 285 15 ≤ 6 := f1.1 285 15 _ _ kW_285_15
  have e15 : (0 : Int) ≤ hV H2 285 11 ∧ hV H2 285 11 ≤ 500 := f5.1.2.2.2 285 11 _ _ kW_285_11
  have e16 : (0 : Int) ≤ hV H2 285 13 ∧ hV H2 285 13 ≤ 2 := f5.1.2.2.2 285 13 _ _ kW_285_13
  try simp only [e7, e9]
  have r0_0 := f3.2.1
  have r0_1 := f3.2.2
  have r1_0 := f5.2.1
  have r1_1 := f5.2.2.1
  have r1_2 := f5.2.2.2.1
  have r1_3 := f5.2.2.2.2.1
  have r1_4 := f5.2.2.2.2.2
  try simp only [e3] at r0_0
  try simp only [e1, e3, e4] at r0_1
  try simp only [e1] at r1_0
  try simp only [e1] at r1_1
  try simp only [e3] at r1_2
  try simp only [e1] at r1_3
  try simp only [e1, e9] at r1_4
  clear e1 e3 e4 e7 e9
  clear f1 f3 f5
  refine ⟨?_, ?_, ?_, ?_, ?_, ?_, ?_, ?_⟩ <;> first | assumption | omega | trivial
def g_223_s_6 : vG := ([(45, [8, 2], [], 0), (43, [8, 1], [], 0), (1220, [0, 9], [1, 2], 0), (0, [9], [], 2), (1216, [5, 0, 4], [0, 1], 0), (0, [4], [], 2), (6000, [0, 1, 2], [0], 0), (0, [0], [], 285)], (3000, [8], [2], 60))
theorem c_223_s_6 : vOkm T0 (eP e_223 L_223 A_223 mu_223 none) 3 g_223_s_6 := vOk_inI fun ρ η f0 f1 f2 f3 f4 f5 f6 f7 => q_223_6 (n0 := ρ 0) (n1 := ρ 1) (n2 := ρ 2) (n3 := ρ 4) (n4 := ρ 5) (n5 := ρ 9) (n6 := ρ 8) (H0 := η 0) (H1 := η 1) (H2 := η 2) f7 f6 f5 f4 f3 f2 f1 f0
theorem q_223_7 {n0 n1 n2 n3 n4 n5 n6 n7 n8 : Int} {H0 H1 H2 H3 : gH} (f0 : 0 ≤ n0) (f1 : n1 = 285) (f2 : n2 = 2) (f3 : (hLe T0 H0 H1 ∧ hFr s_216.2.2.2.2 H0 H1 ∧ ((0 : Int) = 0 → H1.length = H0.length) ∧ hWt T0 H1) ∧ postb_216 n3 n1 n2 H0 H1) (f4 : n4 ≤ 9999) (f5 : n5 = 2) (f6 : (hLe T0 H1 H2 ∧ hFr s_220.2.2.2.2 H1 H2 ∧ ((0 : Int) = 0 → H2.length = H1.length) ∧ hWt T0 H2) ∧ postb_220 n1 n5 H1 H2) (f7 : n6 ≤ n4) (f8 : n7 = 5) (f9 : (hLe T0 H2 H3 ∧ hFr s_218.2.2.2.2 H2 H3 ∧ ((0 : Int) = 0 → H3.length = H2.length) ∧ hWt T0 H3) ∧ postb_218 n1 n7 n8 H2 H3) : postb_223 n4 n1 n6 n0 H0 H3 := by
  unfold postb_216 at f3
  unfold postb_220 at f6
  unfold postb_218 at f9
  unfold postb_223
  have e1 : hV H1 285 11 = hV H0 285 11 := (f3.1.2.1.1 285 11 kF_216_285_11)
  have e3 : hV H1 285 13 = hV H0 285 13 := (f3.1.2.1.1 285 13 kF_216_285_13)
  have e4 : hV H1 288 = hV H0 288 := fRow f3.1.2.1 288 kR_216_288
  have e7 : hV H2 285 15 = hV H0 285 15 := ((f6.1.2.1.1 285 15 kF_220_285_15)).trans (f3.1.2.1.1 285 15 kF_216_285_15)
  have e9 : hV H2 288 = hV H0 288 := (fRow f6.1.2.1 288 kR_220_288).trans e4
  have e11 : hV H3 285 11 = hV H2 285 11 := (f9.1.2.1.1 285 11 kF_218_285_11)
  have e13 : hV H3 285 13 = hV H2 285 13 := (f9.1.2.1.1 285 13 kF_218_285_13)
  have e15 : hV H3 288 = hV H0 288 := (fRow f9.1.2.1 288 kR_218_288).trans e9
  have e16 : (0 : Int) ≤ hV H0 285 11 ∧ hV H0 285 11 ≤ 500 := bTo e1 (f3.1.2.2.2 285 11 _ _ kW_285_11)
  have e17 : (0 : Int) ≤ hV H0 285 13 ∧ hV H0 285 13 ≤ 2 := bTo e3 (f3.1.2.2.2 285 13 _ _ kW_285_13)
  have e18 : (0 : Int) ≤ hV H2 285 11 ∧ hV H2 285 11 ≤ 500 := f6.1.2.2.2 285 11 _ _ kW_285_11
  have e19 : (0 : Int) ≤ hV H2 285 13 ∧ hV H2 285 13 ≤ 2 := f6.1.2.2.2 285 13 _ _ kW_285_13
  have e20 : (0 : Int) ≤ hV H0 285 15 ∧ hV H0 285 15 ≤ 6 := bTo e7 (f6.1.2.2.2 285 15 _ _ kW_285_15)
  have e23 : (0 : Int) ≤ hV H3 285 15 ∧ hV H3 285 15 ≤ 6 := f9.1.2.2.2 285 15 _ _ kW_285_15
  try simp only [e11, e13, e15]
  have r0_0 := f3.2.1
  have r0_1 := f3.2.2
  have r1_0 := f6.2.1
  have r1_1 := f6.2.2.1
  have r1_2 := f6.2.2.2.1
  have r1_3 := f6.2.2.2.2.1
  have r1_4 := f6.2.2.2.2.2
  have r2_0 := f9.2.1
  have r2_1 := f9.2.2
  try simp only [e3] at r0_0
  try simp only [e1, e3, e4] at r0_1
  try simp only [e1] at r1_0
  try simp only [e1] at r1_1
  try simp only [e3] at r1_2
  try simp only [e1] at r1_3
  try simp only [e1, e9] at r1_4
  try simp only [e7] at r2_0
  try simp only [e13] at r2_1
  clear e1 e3 e4 e7 e9 e11 e13 e15
  clear f3 f6 f9
  refine ⟨?_, ?_, ?_, ?_, ?_, ?_, ?_, ?_⟩ <;> first | assumption | omega | trivial
def g_223_s_7 : vG := ([(1218, [0, 11, 3], [2, 3], 0), (0, [11], [], 5), (43, [8, 1], [], 0), (1220, [0, 9], [1, 2], 0), (0, [9], [], 2), (91, [8], [], 9999), (1216, [5, 0, 4], [0, 1], 0), (0, [4], [], 2), (0, [0], [], 285), (90, [2], [], 0)], (3000, [8], [3], 60))
theorem c_223_s_7 : vOkm T0 (eP e_223 L_223 A_223 mu_223 none) 3 g_223_s_7 := vOk_inI fun ρ η f0 f1 f2 f3 f4 f5 f6 f7 f8 f9 => q_223_7 (n0 := ρ 2) (n1 := ρ 0) (n2 := ρ 4) (n3 := ρ 5) (n4 := ρ 8) (n5 := ρ 9) (n6 := ρ 1) (n7 := ρ 11) (n8 := ρ 3) (H0 := η 0) (H1 := η 1) (H2 := η 2) (H3 := η 3) f9 f8 f7 f6 f5 f4 f3 f2 f1 f0
def p_223_s : List vG := [g_223_s_0,
  g_223_s_1,
  g_223_s_2,
  g_223_s_3,
  g_223_s_4,
  g_223_s_5,
  g_223_s_6,
  g_223_s_7]
theorem r_223_s : vCovO false (eR0 e_223 L_223 cs_223 2000) p_223_s = true := by decide +kernel
theorem m_223 (d : Nat) : eC e_223 (d + 4) := eC_ok (e := e_223) (L := L_223) (cs := cs_223) (n := 2000) (d := d + 3) (A := A_223) (μ := mu_223) (tp := false) (p0 := p_223_s) rfl ⟨m_216 (d + 2), ⟨m_218 (d + 2), ⟨m_220 d, trivial⟩⟩⟩ rfl (.inr pre0_ok) (by decide +kernel) (fun z => nomatch z) r_223_s (allC c_223_s_0 (allC c_223_s_1 (allC c_223_s_2 (allC c_223_s_3 (allC c_223_s_4 (allC c_223_s_5 (allC c_223_s_6 (allC c_223_s_7 allN)))))))) allN
