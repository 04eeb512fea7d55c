/-! CONTRACTS of methods told more fully. -/
/- MixStage.sheetAt (I)LMixStage$Sheet; -/
noncomputable def s_194y : vM := ([(3, 11, 7, 0), (0, -2147483648, 2147483647, 0)], (2, 6, -1, 0), 0, 0, [])
def postb_194y (r a0 a1 : Int) (h0 h : gH) : Prop := K79 h0 → (0 ≤ a1 → a1 < hV h0 7 4 → r = hV h0 9 (a1).toNat) ∧ (¬ (0 ≤ a1 ∧ a1 < hV h0 7 4) → r = -1)
def post_194y : List Int → gH → gH → Prop := fun xs h0 h => match xs with
  | [r, a0, a1] => postb_194y r a0 a1 h0 h
  | _ => True
noncomputable def e_194y : vE := (194, s_194y, pre0, post_194y)
noncomputable def L_194y : List vE := []
def cs_194y : List vC := []
def A_194y : Int → List Int → gH → gH → Prop := fun c xs h0 h => True
def mu_194y : Int → List Int → gH → gH → Nat := fun c xs h0 h => 0
theorem q_194y_0 {n0 n1 n2 : Int} {H0 : gH} (f0 : n0 ≤ 2147483647) (f1 : (-2147483648) ≤ n0) (f2 : n1 = 7) (f3 : hWt T0 H0 ∧ True) (f4 : n0 < 0) (f5 : n2 = -1) : postb_194y n2 n1 n0 H0 H0 := by
  unfold postb_194y
  intro k79
  exact ⟨fun p q => by omega, fun w => by omega⟩
theorem c_194y_s_0 : vOkm T0 (eP e_194y L_194y A_194y mu_194y none) 2 ([(50, [2], [], 0), (32, [1], [], 0), (6000, [0, 1], [0], 0), (0, [0], [], 7), (90, [1], [], -2147483648), (91, [1], [], 2147483647)], (3000, [2], [0], 31)) := vOk_in fun ρ η h => by
  obtain ⟨f0, f1, f2, f3, f4, f5, _⟩ := h
  exact q_194y_0 (n0 := ρ 1) (n1 := ρ 0) (n2 := ρ 2) (H0 := η 0) f5 f4 f3 f2 f1 f0
theorem q_194y_1 {n0 n1 n2 n3 : Int} {H0 : gH} (f0 : n0 ≤ 2147483647) (f1 : (-2147483648) ≤ n0) (f2 : n1 = 7) (f3 : hWt T0 H0 ∧ True) (f4 : 0 ≤ n0) (f5 : n2 ≤ 8) (f6 : 0 ≤ n2) (f7 : n2 = hV H0 (n1).toNat 4) (f8 : n2 ≤ n0) (f9 : n3 = -1) : postb_194y n3 n1 n0 H0 H0 := by
  have r7 := f7
  rw [f2] at r7
  replace r7 : n2 = hV H0 7 4 := r7
  unfold postb_194y
  intro k79
  exact ⟨fun p q => by omega, fun w => by omega⟩
theorem c_194y_s_1 : vOkm T0 (eP e_194y L_194y A_194y mu_194y none) 2 ([(50, [3], [], 0), (43, [1, 2], [], 0), (20, [2, 0], [0], 4), (90, [2], [], 0), (91, [2], [], 8), (33, [1], [], 0), (6000, [0, 1], [0], 0), (0, [0], [], 7), (90, [1], [], -2147483648), (91, [1], [], 2147483647)], (3000, [3], [0], 31)) := vOk_in fun ρ η h => by
  obtain ⟨f0, f1, f2, f3, f4, f5, f6, f7, f8, f9, _⟩ := h
  exact q_194y_1 (n0 := ρ 1) (n1 := ρ 0) (n2 := ρ 2) (n3 := ρ 3) (H0 := η 0) f9 f8 f7 f6 f5 f4 f3 f2 f1 f0
theorem q_194y_2 {n0 n1 n2 n3 n4 n5 : Int} {H0 : gH} (f0 : n0 ≤ 2147483647) (f1 : (-2147483648) ≤ n0) (f2 : n1 = 7) (f3 : hWt T0 H0 ∧ True) (f4 : 0 ≤ n0) (f5 : n2 ≤ 8) (f6 : 0 ≤ n2) (f7 : n2 = hV H0 (n1).toNat 4) (f8 : n0 < n2) (f9 : n3 = 9) (f10 : n3 = hV H0 (n1).toNat 3) (f11 : n4 = (hN H0 (n3).toNat : Int)) (f12 : n4 = 8) (f13 : n0 < n4) (f14 : n5 = 9) (f15 : n5 = hV H0 (n1).toNat 3) : 0 ≤ n0 ∧ n0 < 8 := by
  have e0 : n2 = hV H0 7 4 := (by rw [f2] at f7; exact f7 : n2 = hV H0 7 4)
  subst e0
  omega
theorem c_194y_s_2 : vOkm T0 (eP e_194y L_194y A_194y mu_194y none) 2 ([(20, [5, 0], [0], 3), (0, [5], [], 9), (42, [1, 4], [], 0), (0, [4], [], 8), (21, [4, 3], [0], 0), (20, [3, 0], [0], 3), (0, [3], [], 9), (42, [1, 2], [], 0), (20, [2, 0], [0], 4), (90, [2], [], 0), (91, [2], [], 8), (33, [1], [], 0), (6000, [0, 1], [0], 0), (0, [0], [], 7), (90, [1], [], -2147483648), (91, [1], [], 2147483647)], (70, [1], [], 8)) := vOk_in fun ρ η h => by
  obtain ⟨f0, f1, f2, f3, f4, f5, f6, f7, f8, f9, f10, f11, f12, f13, f14, f15, _⟩ := h
  exact q_194y_2 (n0 := ρ 1) (n1 := ρ 0) (n2 := ρ 2) (n3 := ρ 3) (n4 := ρ 4) (n5 := ρ 5) (H0 := η 0) f15 f14 f13 f12 f11 f10 f9 f8 f7 f6 f5 f4 f3 f2 f1 f0
theorem q_194y_3 {n0 n1 n2 n3 n4 n5 n6 : Int} {H0 : gH} (f0 : n0 ≤ 2147483647) (f1 : (-2147483648) ≤ n0) (f2 : n1 = 7) (f3 : hWt T0 H0 ∧ True) (f4 : 0 ≤ n0) (f5 : n2 ≤ 8) (f6 : 0 ≤ n2) (f7 : n2 = hV H0 (n1).toNat 4) (f8 : n0 < n2) (f9 : n3 = 9) (f10 : n3 = hV H0 (n1).toNat 3) (f11 : n4 = (hN H0 (n3).toNat : Int)) (f12 : n4 = 8) (f13 : n0 < n4) (f14 : n5 = 9) (f15 : n5 = hV H0 (n1).toNat 3) (f16 : n6 = hV H0 (n5).toNat (n0).toNat) : postb_194y n6 n1 n0 H0 H0 := by
  have r7 := f7
  rw [f2] at r7
  replace r7 : n2 = hV H0 7 4 := r7
  have r10 := f10
  rw [f2] at r10
  replace r10 : n3 = hV H0 7 3 := r10
  have r15 := f15
  rw [f2] at r15
  replace r15 : n5 = hV H0 7 3 := r15
  have r16 := f16
  rw [f14] at r16
  replace r16 : n6 = hV H0 9 (n0).toNat := r16
  unfold postb_194y
  intro k79
  exact ⟨fun p q => by omega, fun w => by omega⟩
theorem c_194y_s_3 : vOkm T0 (eP e_194y L_194y A_194y mu_194y none) 2 ([(22, [6, 5, 1], [0], 0), (20, [5, 0], [0], 3), (0, [5], [], 9), (42, [1, 4], [], 0), (0, [4], [], 8), (21, [4, 3], [0], 0), (20, [3, 0], [0], 3), (0, [3], [], 9), (42, [1, 2], [], 0), (20, [2, 0], [0], 4), (90, [2], [], 0), (91, [2], [], 8), (33, [1], [], 0), (6000, [0, 1], [0], 0), (0, [0], [], 7), (90, [1], [], -2147483648), (91, [1], [], 2147483647)], (3000, [6], [0], 31)) := vOk_in fun ρ η h => by
  obtain ⟨f0, f1, f2, f3, f4, f5, f6, f7, f8, f9, f10, f11, f12, f13, f14, f15, f16, _⟩ := h
  exact q_194y_3 (n0 := ρ 1) (n1 := ρ 0) (n2 := ρ 2) (n3 := ρ 3) (n4 := ρ 4) (n5 := ρ 5) (n6 := ρ 6) (H0 := η 0) f16 f15 f14 f13 f12 f11 f10 f9 f8 f7 f6 f5 f4 f3 f2 f1 f0
theorem q_194y_4 {n0 n1 n2 n3 n4 n5 : Int} {H0 : gH} (f0 : n0 ≤ 2147483647) (f1 : (-2147483648) ≤ n0) (f2 : n1 = 7) (f3 : hWt T0 H0 ∧ True) (f4 : 0 ≤ n0) (f5 : n2 ≤ 8) (f6 : 0 ≤ n2) (f7 : n2 = hV H0 (n1).toNat 4) (f8 : n0 < n2) (f9 : n3 = 9) (f10 : n3 = hV H0 (n1).toNat 3) (f11 : n4 = (hN H0 (n3).toNat : Int)) (f12 : n4 = 8) (f13 : n4 ≤ n0) (f14 : n5 = -1) : postb_194y n5 n1 n0 H0 H0 := by
  exfalso
  clear f0 f1 f2 f3 f4 f6 f7 f9 f10 f11 f14
  omega
theorem c_194y_s_4 : vOkm T0 (eP e_194y L_194y A_194y mu_194y none) 2 ([(50, [5], [], 0), (43, [1, 4], [], 0), (0, [4], [], 8), (21, [4, 3], [0], 0), (20, [3, 0], [0], 3), (0, [3], [], 9), (42, [1, 2], [], 0), (20, [2, 0], [0], 4), (90, [2], [], 0), (91, [2], [], 8), (33, [1], [], 0), (6000, [0, 1], [0], 0), (0, [0], [], 7), (90, [1], [], -2147483648), (91, [1], [], 2147483647)], (3000, [5], [0], 31)) := vOk_in fun ρ η h => by
  obtain ⟨f0, f1, f2, f3, f4, f5, f6, f7, f8, f9, f10, f11, f12, f13, f14, _⟩ := h
  exact q_194y_4 (n0 := ρ 1) (n1 := ρ 0) (n2 := ρ 2) (n3 := ρ 3) (n4 := ρ 4) (n5 := ρ 5) (H0 := η 0) f14 f13 f12 f11 f10 f9 f8 f7 f6 f5 f4 f3 f2 f1 f0
def p_194y_s : List vG := [([(50, [2], [], 0), (32, [1], [], 0), (6000, [0, 1], [0], 0), (0, [0], [], 7), (90, [1], [], -2147483648), (91, [1], [], 2147483647)], (3000, [2], [0], 31)),
  ([(50, [3], [], 0), (43, [1, 2], [], 0), (20, [2, 0], [0], 4), (90, [2], [], 0), (91, [2], [], 8), (33, [1], [], 0), (6000, [0, 1], [0], 0), (0, [0], [], 7), (90, [1], [], -2147483648), (91, [1], [], 2147483647)], (3000, [3], [0], 31)),
  ([(20, [5, 0], [0], 3), (0, [5], [], 9), (42, [1, 4], [], 0), (0, [4], [], 8), (21, [4, 3], [0], 0), (20, [3, 0], [0], 3), (0, [3], [], 9), (42, [1, 2], [], 0), (20, [2, 0], [0], 4), (90, [2], [], 0), (91, [2], [], 8), (33, [1], [], 0), (6000, [0, 1], [0], 0), (0, [0], [], 7), (90, [1], [], -2147483648), (91, [1], [], 2147483647)], (70, [1], [], 8)),
  ([(22, [6, 5, 1], [0], 0), (20, [5, 0], [0], 3), (0, [5], [], 9), (42, [1, 4], [], 0), (0, [4], [], 8), (21, [4, 3], [0], 0), (20, [3, 0], [0], 3), (0, [3], [], 9), (42, [1, 2], [], 0), (20, [2, 0], [0], 4), (90, [2], [], 0), (91, [2], [], 8), (33, [1], [], 0), (6000, [0, 1], [0], 0), (0, [0], [], 7), (90, [1], [], -2147483648), (91, [1], [], 2147483647)], (3000, [6], [0], 31)),
  ([(50, [5], [], 0), (43, [1, 4], [], 0), (0, [4], [], 8), (21, [4, 3], [0], 0), (20, [3, 0], [0], 3), (0, [3], [], 9), (42, [1, 2], [], 0), (20, [2, 0], [0], 4), (90, [2], [], 0), (91, [2], [], 8), (33, [1], [], 0), (6000, [0, 1], [0], 0), (0, [0], [], 7), (90, [1], [], -2147483648), (91, [1], [], 2147483647)], (3000, [5], [0], 31))]
theorem r_194y_s : vCovO false (eR0 e_194y L_194y cs_194y 2000) p_194y_s = true := by decide +kernel
theorem m_194y (d : Nat) : eC e_194y (d + 1) := eC_ok (e := e_194y) (L := L_194y) (cs := cs_194y) (n := 2000) (d := d + 0) (A := A_194y) (μ := mu_194y) (tp := false) (p0 := p_194y_s) rfl trivial rfl (.inr pre0_ok) (by decide +kernel) (fun z => nomatch z) r_194y_s (allC c_194y_s_0 (allC c_194y_s_1 (allC c_194y_s_2 (allC c_194y_s_3 (allC c_194y_s_4 allN))))) allN
/- Sheet.cueAt (I)LMixStage$Cue; -/
noncomputable def s_115y : vM := ([(3, 6, -1, 0), (0, -2147483648, 2147483647, 0)], (2, 1, -1, 0), 0, 0, [])
def postb_115y (r a0 a1 : Int) (h0 h : gH) : Prop := (0 ≤ a1 → a1 < hV h0 (a0).toNat 2 → a1 < 40 → r = hV h0 (hV h0 (a0).toNat 1).toNat (a1).toNat) ∧ (¬ (0 ≤ a1 ∧ a1 < hV h0 (a0).toNat 2) → r = -1)
def post_115y : List Int → gH → gH → Prop := fun xs h0 h => match xs with
  | [r, a0, a1] => postb_115y r a0 a1 h0 h
  | _ => True
noncomputable def e_115y : vE := (115, s_115y, pre0, post_115y)
noncomputable def L_115y : List vE := []
def cs_115y : List vC := []
def A_115y : Int → List Int → gH → gH → Prop := fun c xs h0 h => True
def mu_115y : Int → List Int → gH → gH → Nat := fun c xs h0 h => 0
theorem q_115y_0 {n0 n1 n2 : Int} {H0 : gH} (f0 : n0 ≤ 2147483647) (f1 : (-2147483648) ≤ n0) (f2 : 0 ≤ n1) (f3 : hWt T0 H0 ∧ True) (f4 : n0 < 0) (f5 : n2 = -1) : postb_115y n2 n1 n0 H0 H0 := by
  unfold postb_115y
  exact ⟨fun p q s => by omega, fun w => by omega⟩
theorem c_115y_s_0 : vOkm T0 (eP e_115y L_115y A_115y mu_115y none) 2 ([(50, [2], [], 0), (32, [1], [], 0), (6000, [0, 1], [0], 0), (51, [0], [], 0), (90, [1], [], -2147483648), (91, [1], [], 2147483647)], (3000, [2], [0], 31)) := vOk_in fun ρ η h => by
  obtain ⟨f0, f1, f2, f3, f4, f5, _⟩ := h
  exact q_115y_0 (n0 := ρ 1) (n1 := ρ 0) (n2 := ρ 2) (H0 := η 0) f5 f4 f3 f2 f1 f0
theorem q_115y_1 {n0 n1 n2 n3 : Int} {H0 : gH} (f0 : n0 ≤ 2147483647) (f1 : (-2147483648) ≤ n0) (f2 : 0 ≤ n1) (f3 : hWt T0 H0 ∧ True) (f4 : 0 ≤ n0) (f5 : n2 ≤ 40) (f6 : 0 ≤ n2) (f7 : hK H0 (n1).toNat = 6) (f8 : n2 = hV H0 (n1).toNat 2) (f9 : n2 ≤ n0) (f10 : n3 = -1) : postb_115y n3 n1 n0 H0 H0 := by
  unfold postb_115y
  exact ⟨fun p q s => by omega, fun w => by omega⟩
theorem c_115y_s_1 : vOkm T0 (eP e_115y L_115y A_115y mu_115y none) 2 ([(50, [3], [], 0), (43, [1, 2], [], 0), (20, [2, 0], [0], 2), (23, [0], [0], 6), (90, [2], [], 0), (91, [2], [], 40), (33, [1], [], 0), (6000, [0, 1], [0], 0), (51, [0], [], 0), (90, [1], [], -2147483648), (91, [1], [], 2147483647)], (3000, [3], [0], 31)) := vOk_in fun ρ η h => by
  obtain ⟨f0, f1, f2, f3, f4, f5, f6, f7, f8, f9, f10, _⟩ := h
  exact q_115y_1 (n0 := ρ 1) (n1 := ρ 0) (n2 := ρ 2) (n3 := ρ 3) (H0 := η 0) f10 f9 f8 f7 f6 f5 f4 f3 f2 f1 f0
theorem q_115y_2 {n0 n1 n2 n3 n4 n5 : Int} {H0 : gH} (f0 : n0 ≤ 2147483647) (f1 : (-2147483648) ≤ n0) (f2 : 0 ≤ n1) (f3 : hWt T0 H0 ∧ True) (f4 : 0 ≤ n0) (f5 : n2 ≤ 40) (f6 : 0 ≤ n2) (f7 : hK H0 (n1).toNat = 6) (f8 : n2 = hV H0 (n1).toNat 2) (f9 : n0 < n2) (f10 : 0 ≤ n3) (f11 : hK H0 (n1).toNat = 6) (f12 : n3 = hV H0 (n1).toNat 1) (f13 : n4 = (hN H0 (n3).toNat : Int)) (f14 : n4 = 40) (f15 : n0 < n4) (f16 : 0 ≤ n5) (f17 : hK H0 (n1).toNat = 6) (f18 : n5 = hV H0 (n1).toNat 1) : 0 ≤ n0 ∧ n0 < 40 := by
  have e0 : n2 = hV H0 (n1).toNat 2 := f8
  have e1 : n3 = hV H0 (n1).toNat 1 := f12
  have e2 : n5 = hV H0 (n1).toNat 1 := f18
  omega
theorem c_115y_s_2 : vOkm T0 (eP e_115y L_115y A_115y mu_115y none) 2 ([(20, [5, 0], [0], 1), (23, [0], [0], 6), (51, [5], [], 0), (42, [1, 4], [], 0), (0, [4], [], 40), (21, [4, 3], [0], 0), (20, [3, 0], [0], 1), (23, [0], [0], 6), (51, [3], [], 0), (42, [1, 2], [], 0), (20, [2, 0], [0], 2), (23, [0], [0], 6), (90, [2], [], 0), (91, [2], [], 40), (33, [1], [], 0), (6000, [0, 1], [0], 0), (51, [0], [], 0), (90, [1], [], -2147483648), (91, [1], [], 2147483647)], (70, [1], [], 40)) := vOk_in fun ρ η h => by
  obtain ⟨f0, f1, f2, f3, f4, f5, f6, f7, f8, f9, f10, f11, f12, f13, f14, f15, f16, f17, f18, _⟩ := h
  exact q_115y_2 (n0 := ρ 1) (n1 := ρ 0) (n2 := ρ 2) (n3 := ρ 3) (n4 := ρ 4) (n5 := ρ 5) (H0 := η 0) f18 f17 f16 f15 f14 f13 f12 f11 f10 f9 f8 f7 f6 f5 f4 f3 f2 f1 f0
theorem q_115y_3 {n0 n1 n2 n3 n4 n5 n6 : Int} {H0 : gH} (f0 : n0 ≤ 2147483647) (f1 : (-2147483648) ≤ n0) (f2 : 0 ≤ n1) (f3 : hWt T0 H0 ∧ True) (f4 : 0 ≤ n0) (f5 : n2 ≤ 40) (f6 : 0 ≤ n2) (f7 : hK H0 (n1).toNat = 6) (f8 : n2 = hV H0 (n1).toNat 2) (f9 : n0 < n2) (f10 : 0 ≤ n3) (f11 : hK H0 (n1).toNat = 6) (f12 : n3 = hV H0 (n1).toNat 1) (f13 : n4 = (hN H0 (n3).toNat : Int)) (f14 : n4 = 40) (f15 : n0 < n4) (f16 : 0 ≤ n5) (f17 : hK H0 (n1).toNat = 6) (f18 : n5 = hV H0 (n1).toNat 1) (f19 : n6 = hV H0 (n5).toNat (n0).toNat) : postb_115y n6 n1 n0 H0 H0 := by
  unfold postb_115y
  exact ⟨fun _ _ _ => by rw [← f18]; exact f19, fun w => by omega⟩
theorem c_115y_s_3 : vOkm T0 (eP e_115y L_115y A_115y mu_115y none) 2 ([(22, [6, 5, 1], [0], 0), (20, [5, 0], [0], 1), (23, [0], [0], 6), (51, [5], [], 0), (42, [1, 4], [], 0), (0, [4], [], 40), (21, [4, 3], [0], 0), (20, [3, 0], [0], 1), (23, [0], [0], 6), (51, [3], [], 0), (42, [1, 2], [], 0), (20, [2, 0], [0], 2), (23, [0], [0], 6), (90, [2], [], 0), (91, [2], [], 40), (33, [1], [], 0), (6000, [0, 1], [0], 0), (51, [0], [], 0), (90, [1], [], -2147483648), (91, [1], [], 2147483647)], (3000, [6], [0], 31)) := vOk_in fun ρ η h => by
  obtain ⟨f0, f1, f2, f3, f4, f5, f6, f7, f8, f9, f10, f11, f12, f13, f14, f15, f16, f17, f18, f19, _⟩ := h
  exact q_115y_3 (n0 := ρ 1) (n1 := ρ 0) (n2 := ρ 2) (n3 := ρ 3) (n4 := ρ 4) (n5 := ρ 5) (n6 := ρ 6) (H0 := η 0) f19 f18 f17 f16 f15 f14 f13 f12 f11 f10 f9 f8 f7 f6 f5 f4 f3 f2 f1 f0
theorem q_115y_4 {n0 n1 n2 n3 n4 n5 : Int} {H0 : gH} (f0 : n0 ≤ 2147483647) (f1 : (-2147483648) ≤ n0) (f2 : 0 ≤ n1) (f3 : hWt T0 H0 ∧ True) (f4 : 0 ≤ n0) (f5 : n2 ≤ 40) (f6 : 0 ≤ n2) (f7 : hK H0 (n1).toNat = 6) (f8 : n2 = hV H0 (n1).toNat 2) (f9 : n0 < n2) (f10 : 0 ≤ n3) (f11 : hK H0 (n1).toNat = 6) (f12 : n3 = hV H0 (n1).toNat 1) (f13 : n4 = (hN H0 (n3).toNat : Int)) (f14 : n4 = 40) (f15 : n4 ≤ n0) (f16 : n5 = -1) : postb_115y n5 n1 n0 H0 H0 := by
  unfold postb_115y
  exact ⟨fun p q s => by omega, fun w => by omega⟩
theorem c_115y_s_4 : vOkm T0 (eP e_115y L_115y A_115y mu_115y none) 2 ([(50, [5], [], 0), (43, [1, 4], [], 0), (0, [4], [], 40), (21, [4, 3], [0], 0), (20, [3, 0], [0], 1), (23, [0], [0], 6), (51, [3], [], 0), (42, [1, 2], [], 0), (20, [2, 0], [0], 2), (23, [0], [0], 6), (90, [2], [], 0), (91, [2], [], 40), (33, [1], [], 0), (6000, [0, 1], [0], 0), (51, [0], [], 0), (90, [1], [], -2147483648), (91, [1], [], 2147483647)], (3000, [5], [0], 31)) := vOk_in fun ρ η h => by
  obtain ⟨f0, f1, f2, f3, f4, f5, f6, f7, f8, f9, f10, f11, f12, f13, f14, f15, f16, _⟩ := h
  exact q_115y_4 (n0 := ρ 1) (n1 := ρ 0) (n2 := ρ 2) (n3 := ρ 3) (n4 := ρ 4) (n5 := ρ 5) (H0 := η 0) f16 f15 f14 f13 f12 f11 f10 f9 f8 f7 f6 f5 f4 f3 f2 f1 f0
def p_115y_s : List vG := [([(50, [2], [], 0), (32, [1], [], 0), (6000, [0, 1], [0], 0), (51, [0], [], 0), (90, [1], [], -2147483648), (91, [1], [], 2147483647)], (3000, [2], [0], 31)),
  ([(50, [3], [], 0), (43, [1, 2], [], 0), (20, [2, 0], [0], 2), (23, [0], [0], 6), (90, [2], [], 0), (91, [2], [], 40), (33, [1], [], 0), (6000, [0, 1], [0], 0), (51, [0], [], 0), (90, [1], [], -2147483648), (91, [1], [], 2147483647)], (3000, [3], [0], 31)),
  ([(20, [5, 0], [0], 1), (23, [0], [0], 6), (51, [5], [], 0), (42, [1, 4], [], 0), (0, [4], [], 40), (21, [4, 3], [0], 0), (20, [3, 0], [0], 1), (23, [0], [0], 6), (51, [3], [], 0), (42, [1, 2], [], 0), (20, [2, 0], [0], 2), (23, [0], [0], 6), (90, [2], [], 0), (91, [2], [], 40), (33, [1], [], 0), (6000, [0, 1], [0], 0), (51, [0], [], 0), (90, [1], [], -2147483648), (91, [1], [], 2147483647)], (70, [1], [], 40)),
  ([(22, [6, 5, 1], [0], 0), (20, [5, 0], [0], 1), (23, [0], [0], 6), (51, [5], [], 0), (42, [1, 4], [], 0), (0, [4], [], 40), (21, [4, 3], [0], 0), (20, [3, 0], [0], 1), (23, [0], [0], 6), (51, [3], [], 0), (42, [1, 2], [], 0), (20, [2, 0], [0], 2), (23, [0], [0], 6), (90, [2], [], 0), (91, [2], [], 40), (33, [1], [], 0), (6000, [0, 1], [0], 0), (51, [0], [], 0), (90, [1], [], -2147483648), (91, [1], [], 2147483647)], (3000, [6], [0], 31)),
  ([(50, [5], [], 0), (43, [1, 4], [], 0), (0, [4], [], 40), (21, [4, 3], [0], 0), (20, [3, 0], [0], 1), (23, [0], [0], 6), (51, [3], [], 0), (42, [1, 2], [], 0), (20, [2, 0], [0], 2), (23, [0], [0], 6), (90, [2], [], 0), (91, [2], [], 40), (33, [1], [], 0), (6000, [0, 1], [0], 0), (51, [0], [], 0), (90, [1], [], -2147483648), (91, [1], [], 2147483647)], (3000, [5], [0], 31))]
theorem r_115y_s : vCovO false (eR0 e_115y L_115y cs_115y 2000) p_115y_s = true := by decide +kernel
theorem m_115y (d : Nat) : eC e_115y (d + 1) := eC_ok (e := e_115y) (L := L_115y) (cs := cs_115y) (n := 2000) (d := d + 0) (A := A_115y) (μ := mu_115y) (tp := false) (p0 := p_115y_s) rfl trivial rfl (.inr pre0_ok) (by decide +kernel) (fun z => nomatch z) r_115y_s (allC c_115y_s_0 (allC c_115y_s_1 (allC c_115y_s_2 (allC c_115y_s_3 (allC c_115y_s_4 allN))))) allN
/- MixStage.cueOf (LMixStage$Sheet;I)LMixStage$Cue; -/
noncomputable def s_195y : vM := ([(2, 6, -1, 0), (0, -2147483648, 2147483647, 0)], (2, 1, -1, 0), 0, 0, [])
def postb_195y (r a0 a1 : Int) (h0 h : gH) : Prop := (a0 = -1 → r = -1) ∧ (¬ a0 = -1 → (0 ≤ a1 → a1 < hV h0 (a0).toNat 2 → a1 < 40 → r = hV h0 (hV h0 (a0).toNat 1).toNat (a1).toNat) ∧ (¬ (0 ≤ a1 ∧ a1 < hV h0 (a0).toNat 2) → r = -1))
def post_195y : List Int → gH → gH → Prop := fun xs h0 h => match xs with
  | [r, a0, a1] => postb_195y r a0 a1 h0 h
  | _ => True
noncomputable def e_195y : vE := (195, s_195y, pre0, post_195y)
noncomputable def L_195y : List vE := [e_115y]
def cs_195y : List vC := []
def A_195y : Int → List Int → gH → gH → Prop := fun c xs h0 h => True
def mu_195y : Int → List Int → gH → gH → Nat := fun c xs h0 h => 0
theorem q_195y_0 {n0 n1 n2 : Int} {H0 : gH} (f0 : n0 ≤ 2147483647) (f1 : (-2147483648) ≤ n0) (f2 : hWt T0 H0 ∧ True) (f3 : n1 = -1) (f4 : n2 = -1) : postb_195y n2 n1 n0 H0 H0 := by
  unfold postb_195y
  exact ⟨fun _ => by omega, fun w => by omega⟩
theorem c_195y_s_0 : vOkm T0 (eP e_195y L_195y A_195y mu_195y none) 2 ([(50, [2], [], 0), (50, [0], [], 0), (6000, [0, 1], [0], 0), (90, [1], [], -2147483648), (91, [1], [], 2147483647)], (3000, [2], [0], 13)) := vOk_in fun ρ η h => by
  obtain ⟨f0, f1, f2, f3, f4, _⟩ := h
  exact q_195y_0 (n0 := ρ 1) (n1 := ρ 0) (n2 := ρ 2) (H0 := η 0) f4 f3 f2 f1 f0
theorem q_195y_1 {n0 n1 n2 : Int} {H0 H1 : gH} (f0 : n0 ≤ 2147483647) (f1 : (-2147483648) ≤ n0) (f2 : hWt T0 H0 ∧ True) (f3 : 0 ≤ n1) (f4 : (hLe T0 H0 H1 ∧ hFr s_115y.2.2.2.2 H0 H1 ∧ ((0 : Int) = 0 → H1.length = H0.length) ∧ hWt T0 H1) ∧ postb_115y n2 n1 n0 H0 H1) : postb_195y n2 n1 n0 H0 H1 := by
  unfold postb_195y
  have q := f4.2
  unfold postb_115y at q
  exact ⟨fun w => by omega, fun _ => q⟩
theorem c_195y_s_1 : vOkm T0 (eP e_195y L_195y A_195y mu_195y none) 2 ([(1115, [2, 0, 1], [0, 1], 0), (51, [0], [], 0), (6000, [0, 1], [0], 0), (90, [1], [], -2147483648), (91, [1], [], 2147483647)], (3000, [2], [1], 13)) := vOk_in fun ρ η h => by
  obtain ⟨f0, f1, f2, f3, f4, _⟩ := h
  exact q_195y_1 (n0 := ρ 1) (n1 := ρ 0) (n2 := ρ 2) (H0 := η 0) (H1 := η 1) f4 f3 f2 f1 f0
def p_195y_s : List vG := [([(50, [2], [], 0), (50, [0], [], 0), (6000, [0, 1], [0], 0), (90, [1], [], -2147483648), (91, [1], [], 2147483647)], (3000, [2], [0], 13)),
  ([(1115, [2, 0, 1], [0, 1], 0), (51, [0], [], 0), (6000, [0, 1], [0], 0), (90, [1], [], -2147483648), (91, [1], [], 2147483647)], (3000, [2], [1], 13))]
theorem r_195y_s : vCovO false (eR0 e_195y L_195y cs_195y 2000) p_195y_s = true := by decide +kernel
theorem m_195y (d : Nat) : eC e_195y (d + 2) := eC_ok (e := e_195y) (L := L_195y) (cs := cs_195y) (n := 2000) (d := d + 1) (A := A_195y) (μ := mu_195y) (tp := false) (p0 := p_195y_s) rfl ⟨m_115y d, trivial⟩ rfl (.inr pre0_ok) (by decide +kernel) (fun z => nomatch z) r_195y_s (allC c_195y_s_0 (allC c_195y_s_1 allN)) allN
/- MixStage.cues (I)I -/
noncomputable def s_180y : vM := ([(3, 11, 7, 0), (0, -2147483648, 2147483647, 0)], (0, -2147483648, 2147483647, 0), 0, 0, [])
def postb_180y (r a0 a1 : Int) (h0 h : gH) : Prop := K79 h0 → (¬ (0 ≤ a1 ∧ a1 < hV h0 7 4) → r = -1) ∧ (0 ≤ a1 → a1 < hV h0 7 4 → 0 ≤ hV h0 9 (a1).toNat → r = hV h0 (hV h0 9 (a1).toNat).toNat 2)
def post_180y : List Int → gH → gH → Prop := fun xs h0 h => match xs with
  | [r, a0, a1] => postb_180y r a0 a1 h0 h
  | _ => True
noncomputable def e_180y : vE := (180, s_180y, pre0, post_180y)
noncomputable def L_180y : List vE := [e_194y]
def cs_180y : List vC := []
def A_180y : Int → List Int → gH → gH → Prop := fun c xs h0 h => True
def mu_180y : Int → List Int → gH → gH → Nat := fun c xs h0 h => 0
theorem q_180y_0 {n0 n1 n2 n3 : Int} {H0 H1 : gH} (f0 : n0 ≤ 2147483647) (f1 : (-2147483648) ≤ n0) (f2 : n1 = 7) (f3 : hWt T0 H0 ∧ True) (f4 : (hLe T0 H0 H1 ∧ hFr s_194y.2.2.2.2 H0 H1 ∧ ((0 : Int) = 0 → H1.length = H0.length) ∧ hWt T0 H1) ∧ postb_194y n2 n1 n0 H0 H1) (f5 : n2 = -1) (f6 : n3 = (-1)) : postb_180y n3 n1 n0 H0 H1 := by
  unfold postb_180y
  intro k79
  have q := f4.2
  unfold postb_194y at q
  obtain ⟨q1, q2⟩ := q k79
  exact ⟨fun _ => by omega, fun p q z => by have := q1 p q; omega⟩
theorem c_180y_s_0 : vOkm T0 (eP e_180y L_180y A_180y mu_180y none) 2 ([(0, [3], [], -1), (50, [2], [], 0), (1194, [2, 0, 1], [0, 1], 0), (6000, [0, 1], [0], 0), (0, [0], [], 7), (90, [1], [], -2147483648), (91, [1], [], 2147483647)], (3000, [3], [1], 18)) := vOk_in fun ρ η h => by
  obtain ⟨f0, f1, f2, f3, f4, f5, f6, _⟩ := h
  exact q_180y_0 (n0 := ρ 1) (n1 := ρ 0) (n2 := ρ 2) (n3 := ρ 3) (H0 := η 0) (H1 := η 1) f6 f5 f4 f3 f2 f1 f0
theorem q_180y_1 {n0 n1 n2 n3 : Int} {H0 H1 : gH} (f0 : n0 ≤ 2147483647) (f1 : (-2147483648) ≤ n0) (f2 : n1 = 7) (f3 : hWt T0 H0 ∧ True) (f4 : (hLe T0 H0 H1 ∧ hFr s_194y.2.2.2.2 H0 H1 ∧ ((0 : Int) = 0 → H1.length = H0.length) ∧ hWt T0 H1) ∧ postb_194y n2 n1 n0 H0 H1) (f5 : 0 ≤ n2) (f6 : n3 ≤ 40) (f7 : 0 ≤ n3) (f8 : hK H1 (n2).toNat = 6) (f9 : n3 = hV H1 (n2).toNat 2) : postb_180y n3 n1 n0 H0 H1 := by
  unfold postb_180y
  intro k79
  have q := f4.2
  unfold postb_194y at q
  obtain ⟨q1, q2⟩ := q k79
  refine ⟨fun w => by have := q2 w; omega, fun p q z => ?_⟩
  have e := q1 p q
  rw [← e]
  exact f9.trans (congrFun (SAM f4.1.1 f4.1.2.1 (f4.1.2.2.1 rfl) f8 (by decide +kernel)) 2)
theorem c_180y_s_1 : vOkm T0 (eP e_180y L_180y A_180y mu_180y none) 2 ([(20, [3, 2], [1], 2), (23, [2], [1], 6), (90, [3], [], 0), (91, [3], [], 40), (51, [2], [], 0), (1194, [2, 0, 1], [0, 1], 0), (6000, [0, 1], [0], 0), (0, [0], [], 7), (90, [1], [], -2147483648), (91, [1], [], 2147483647)], (3000, [3], [1], 18)) := vOk_in fun ρ η h => by
  obtain ⟨f0, f1, f2, f3, f4, f5, f6, f7, f8, f9, _⟩ := h
  exact q_180y_1 (n0 := ρ 1) (n1 := ρ 0) (n2 := ρ 2) (n3 := ρ 3) (H0 := η 0) (H1 := η 1) f9 f8 f7 f6 f5 f4 f3 f2 f1 f0
def p_180y_s : List vG := [([(0, [3], [], -1), (50, [2], [], 0), (1194, [2, 0, 1], [0, 1], 0), (6000, [0, 1], [0], 0), (0, [0], [], 7), (90, [1], [], -2147483648), (91, [1], [], 2147483647)], (3000, [3], [1], 18)),
  ([(20, [3, 2], [1], 2), (23, [2], [1], 6), (90, [3], [], 0), (91, [3], [], 40), (51, [2], [], 0), (1194, [2, 0, 1], [0, 1], 0), (6000, [0, 1], [0], 0), (0, [0], [], 7), (90, [1], [], -2147483648), (91, [1], [], 2147483647)], (3000, [3], [1], 18))]
theorem r_180y_s : vCovO false (eR0 e_180y L_180y cs_180y 2000) p_180y_s = true := by decide +kernel
theorem m_180y (d : Nat) : eC e_180y (d + 2) := eC_ok (e := e_180y) (L := L_180y) (cs := cs_180y) (n := 2000) (d := d + 1) (A := A_180y) (μ := mu_180y) (tp := false) (p0 := p_180y_s) rfl ⟨m_194y d, trivial⟩ rfl (.inr pre0_ok) (by decide +kernel) (fun z => nomatch z) r_180y_s (allC c_180y_s_0 (allC c_180y_s_1 allN)) allN
/- MixStage.at ([II)I -/
noncomputable def s_199vk708 : vM := ([(2, 708, -1, 0), (0, -2147483648, 2147483647, 0)], (0, -2147483648, 2147483647, 0), 0, 0, [])
def postb_199vk708 (r a0 a1 : Int) (h0 h : gH) : Prop := r = atQ h0 a0 a1
def post_199vk708 : List Int → gH → gH → Prop := fun xs h0 h => match xs with
  | [r, a0, a1] => postb_199vk708 r a0 a1 h0 h
  | _ => True
noncomputable def e_199vk708 : vE := (199, s_199vk708, pre0, post_199vk708)
noncomputable def L_199vk708 : List vE := []
def cs_199vk708 : List vC := []
def A_199vk708 : Int → List Int → gH → gH → Prop := fun c xs h0 h => True
def mu_199vk708 : Int → List Int → gH → gH → Nat := fun c xs h0 h => 0
theorem q_199vk708_0 {n0 n1 n2 : Int} {H0 : gH} (f0 : n0 ≤ 2147483647) (f1 : (-2147483648) ≤ n0) (f2 : hWt T0 H0 ∧ True) (f3 : n1 = -1) (f4 : n2 = 0) : postb_199vk708 n2 n1 n0 H0 H0 := by
  unfold postb_199vk708

  unfold atQ
  first
  | (rw [if_neg (by omega)] <;> omega)
  | (rw [if_pos (by omega)] <;> omega)
theorem c_199vk708_s_0 : vOkm T0 (eP e_199vk708 L_199vk708 A_199vk708 mu_199vk708 none) 2 ([(0, [2], [], 0), (50, [0], [], 0), (6000, [0, 1], [0], 0), (90, [1], [], -2147483648), (91, [1], [], 2147483647)], (3000, [2], [0], 21)) := vOk_in fun ρ η h => by
  obtain ⟨f0, f1, f2, f3, f4, _⟩ := h
  exact q_199vk708_0 (n0 := ρ 1) (n1 := ρ 0) (n2 := ρ 2) (H0 := η 0) f4 f3 f2 f1 f0
theorem q_199vk708_1 {n0 n1 n2 : Int} {H0 : gH} (f0 : n0 ≤ 2147483647) (f1 : (-2147483648) ≤ n0) (f2 : hWt T0 H0 ∧ True) (f3 : 0 ≤ n1) (f4 : n0 < 0) (f5 : n2 = 0) : postb_199vk708 n2 n1 n0 H0 H0 := by
  unfold postb_199vk708

  unfold atQ
  first
  | (rw [if_neg (by omega)] <;> omega)
  | (rw [if_pos (by omega)] <;> omega)
theorem c_199vk708_s_1 : vOkm T0 (eP e_199vk708 L_199vk708 A_199vk708 mu_199vk708 none) 2 ([(0, [2], [], 0), (32, [1], [], 0), (51, [0], [], 0), (6000, [0, 1], [0], 0), (90, [1], [], -2147483648), (91, [1], [], 2147483647)], (3000, [2], [0], 21)) := vOk_in fun ρ η h => by
  obtain ⟨f0, f1, f2, f3, f4, f5, _⟩ := h
  exact q_199vk708_1 (n0 := ρ 1) (n1 := ρ 0) (n2 := ρ 2) (H0 := η 0) f5 f4 f3 f2 f1 f0
theorem q_199vk708_2 {n0 n1 n2 n3 : Int} {H0 : gH} (f0 : n0 ≤ 2147483647) (f1 : (-2147483648) ≤ n0) (f2 : hWt T0 H0 ∧ True) (f3 : 0 ≤ n1) (f4 : 0 ≤ n0) (f5 : n2 = (hN H0 (n1).toNat : Int)) (f6 : n0 < n2) (f7 : n3 ≤ 2147483647) (f8 : (-2147483648) ≤ n3) (f9 : n3 = hV H0 (n1).toNat (n0).toNat) : postb_199vk708 n3 n1 n0 H0 H0 := by
  unfold postb_199vk708

  unfold atQ
  first
  | (rw [if_neg (by omega)] <;> omega)
  | (rw [if_pos (by omega)] <;> omega)
theorem c_199vk708_s_2 : vOkm T0 (eP e_199vk708 L_199vk708 A_199vk708 mu_199vk708 none) 2 ([(22, [3, 0, 1], [0], 0), (90, [3], [], -2147483648), (91, [3], [], 2147483647), (42, [1, 2], [], 0), (21, [2, 0], [0], 0), (33, [1], [], 0), (51, [0], [], 0), (6000, [0, 1], [0], 0), (90, [1], [], -2147483648), (91, [1], [], 2147483647)], (3000, [3], [0], 21)) := vOk_in fun ρ η h => by
  obtain ⟨f0, f1, f2, f3, f4, f5, f6, f7, f8, f9, _⟩ := h
  exact q_199vk708_2 (n0 := ρ 1) (n1 := ρ 0) (n2 := ρ 2) (n3 := ρ 3) (H0 := η 0) f9 f8 f7 f6 f5 f4 f3 f2 f1 f0
theorem q_199vk708_3 {n0 n1 n2 n3 : Int} {H0 : gH} (f0 : n0 ≤ 2147483647) (f1 : (-2147483648) ≤ n0) (f2 : hWt T0 H0 ∧ True) (f3 : 0 ≤ n1) (f4 : 0 ≤ n0) (f5 : n2 = (hN H0 (n1).toNat : Int)) (f6 : n2 ≤ n0) (f7 : n3 = 0) : postb_199vk708 n3 n1 n0 H0 H0 := by
  unfold postb_199vk708

  unfold atQ
  first
  | (rw [if_neg (by omega)] <;> omega)
  | (rw [if_pos (by omega)] <;> omega)
theorem c_199vk708_s_3 : vOkm T0 (eP e_199vk708 L_199vk708 A_199vk708 mu_199vk708 none) 2 ([(0, [3], [], 0), (43, [1, 2], [], 0), (21, [2, 0], [0], 0), (33, [1], [], 0), (51, [0], [], 0), (6000, [0, 1], [0], 0), (90, [1], [], -2147483648), (91, [1], [], 2147483647)], (3000, [3], [0], 21)) := vOk_in fun ρ η h => by
  obtain ⟨f0, f1, f2, f3, f4, f5, f6, f7, _⟩ := h
  exact q_199vk708_3 (n0 := ρ 1) (n1 := ρ 0) (n2 := ρ 2) (n3 := ρ 3) (H0 := η 0) f7 f6 f5 f4 f3 f2 f1 f0
def p_199vk708_s : List vG := [([(0, [2], [], 0), (50, [0], [], 0), (6000, [0, 1], [0], 0), (90, [1], [], -2147483648), (91, [1], [], 2147483647)], (3000, [2], [0], 21)),
  ([(0, [2], [], 0), (32, [1], [], 0), (51, [0], [], 0), (6000, [0, 1], [0], 0), (90, [1], [], -2147483648), (91, [1], [], 2147483647)], (3000, [2], [0], 21)),
  ([(22, [3, 0, 1], [0], 0), (90, [3], [], -2147483648), (91, [3], [], 2147483647), (42, [1, 2], [], 0), (21, [2, 0], [0], 0), (33, [1], [], 0), (51, [0], [], 0), (6000, [0, 1], [0], 0), (90, [1], [], -2147483648), (91, [1], [], 2147483647)], (3000, [3], [0], 21)),
  ([(0, [3], [], 0), (43, [1, 2], [], 0), (21, [2, 0], [0], 0), (33, [1], [], 0), (51, [0], [], 0), (6000, [0, 1], [0], 0), (90, [1], [], -2147483648), (91, [1], [], 2147483647)], (3000, [3], [0], 21))]
theorem r_199vk708_s : vCovO false (eR0 e_199vk708 L_199vk708 cs_199vk708 2000) p_199vk708_s = true := by decide +kernel
theorem m_199vk708 (d : Nat) : eC e_199vk708 (d + 1) := eC_ok (e := e_199vk708) (L := L_199vk708) (cs := cs_199vk708) (n := 2000) (d := d + 0) (A := A_199vk708) (μ := mu_199vk708) (tp := false) (p0 := p_199vk708_s) rfl trivial rfl (.inr pre0_ok) (by decide +kernel) (fun z => nomatch z) r_199vk708_s (allC c_199vk708_s_0 (allC c_199vk708_s_1 (allC c_199vk708_s_2 (allC c_199vk708_s_3 allN)))) allN
/- MixStage.put ([III)V -/
noncomputable def s_201vk708 : vM := ([(2, 708, -1, 0), (0, -2147483648, 2147483647, 0), (0, -2147483648, 2147483647, 0)], (9, 0, 0, 0), 0, 0, [(708, 0)])
def postb_201vk708 (a0 a1 a2 : Int) (h0 h : gH) : Prop := putQ a0 a1 a2 h0 h
def post_201vk708 : List Int → gH → gH → Prop := fun xs h0 h => match xs with
  | [a0, a1, a2] => postb_201vk708 a0 a1 a2 h0 h
  | _ => True
noncomputable def e_201vk708 : vE := (201, s_201vk708, pre0, post_201vk708)
noncomputable def L_201vk708 : List vE := []
def cs_201vk708 : List vC := []
def A_201vk708 : Int → List Int → gH → gH → Prop := fun c xs h0 h => True
def mu_201vk708 : Int → List Int → gH → gH → Nat := fun c xs h0 h => 0
theorem q_201vk708_0 {n0 n1 n2 : Int} {H0 : gH} (f0 : n0 ≤ 2147483647) (f1 : (-2147483648) ≤ n0) (f2 : n1 ≤ 2147483647) (f3 : (-2147483648) ≤ n1) (f4 : hWt T0 H0 ∧ True) (f5 : n2 = -1) : postb_201vk708 n2 n1 n0 H0 H0 := by
  unfold postb_201vk708

  exact putQ_same (by omega)
theorem c_201vk708_s_0 : vOkm T0 (eP e_201vk708 L_201vk708 A_201vk708 mu_201vk708 none) 3 ([(50, [0], [], 0), (6000, [0, 1, 2], [0], 0), (90, [1], [], -2147483648), (91, [1], [], 2147483647), (90, [2], [], -2147483648), (91, [2], [], 2147483647)], (3000, [], [0], 18)) := vOk_in fun ρ η h => by
  obtain ⟨f0, f1, f2, f3, f4, f5, _⟩ := h
  exact q_201vk708_0 (n0 := ρ 2) (n1 := ρ 1) (n2 := ρ 0) (H0 := η 0) f5 f4 f3 f2 f1 f0
theorem q_201vk708_1 {n0 n1 n2 : Int} {H0 : gH} (f0 : n0 ≤ 2147483647) (f1 : (-2147483648) ≤ n0) (f2 : n1 ≤ 2147483647) (f3 : (-2147483648) ≤ n1) (f4 : hWt T0 H0 ∧ True) (f5 : 0 ≤ n2) (f6 : n1 < 0) : postb_201vk708 n2 n1 n0 H0 H0 := by
  unfold postb_201vk708

  exact putQ_same (by omega)
theorem c_201vk708_s_1 : vOkm T0 (eP e_201vk708 L_201vk708 A_201vk708 mu_201vk708 none) 3 ([(32, [1], [], 0), (51, [0], [], 0), (6000, [0, 1, 2], [0], 0), (90, [1], [], -2147483648), (91, [1], [], 2147483647), (90, [2], [], -2147483648), (91, [2], [], 2147483647)], (3000, [], [0], 18)) := vOk_in fun ρ η h => by
  obtain ⟨f0, f1, f2, f3, f4, f5, f6, _⟩ := h
  exact q_201vk708_1 (n0 := ρ 2) (n1 := ρ 1) (n2 := ρ 0) (H0 := η 0) f6 f5 f4 f3 f2 f1 f0
theorem q_201vk708_2 {n0 n1 n2 n3 : Int} {H0 : gH} (f0 : n0 ≤ 2147483647) (f1 : (-2147483648) ≤ n0) (f2 : n1 ≤ 2147483647) (f3 : (-2147483648) ≤ n1) (f4 : hWt T0 H0 ∧ True) (f5 : 0 ≤ n2) (f6 : 0 ≤ n1) (f7 : n3 = (hN H0 (n2).toNat : Int)) (f8 : n3 ≤ n1) : postb_201vk708 n2 n1 n0 H0 H0 := by
  unfold postb_201vk708

  exact putQ_same (by omega)
theorem c_201vk708_s_2 : vOkm T0 (eP e_201vk708 L_201vk708 A_201vk708 mu_201vk708 none) 3 ([(43, [1, 3], [], 0), (21, [3, 0], [0], 0), (33, [1], [], 0), (51, [0], [], 0), (6000, [0, 1, 2], [0], 0), (90, [1], [], -2147483648), (91, [1], [], 2147483647), (90, [2], [], -2147483648), (91, [2], [], 2147483647)], (3000, [], [0], 18)) := vOk_in fun ρ η h => by
  obtain ⟨f0, f1, f2, f3, f4, f5, f6, f7, f8, _⟩ := h
  exact q_201vk708_2 (n0 := ρ 2) (n1 := ρ 1) (n2 := ρ 0) (n3 := ρ 3) (H0 := η 0) f8 f7 f6 f5 f4 f3 f2 f1 f0
theorem q_201vk708_3 {n0 n1 n2 n3 : Int} {H0 H1 : gH} (f0 : n0 ≤ 2147483647) (f1 : (-2147483648) ≤ n0) (f2 : n1 ≤ 2147483647) (f3 : (-2147483648) ≤ n1) (f4 : hWt T0 H0 ∧ True) (f5 : 0 ≤ n2) (f6 : 0 ≤ n1) (f7 : n3 = (hN H0 (n2).toNat : Int)) (f8 : n1 < n3) (f9 : hK H0 (n2).toNat = 708) (f10 : hUpd H1 H0 n2 n1 n0) : postb_201vk708 n2 n1 n0 H0 H1 := by
  unfold postb_201vk708

  exact putQ_upd f10 (by omega)
theorem c_201vk708_s_3 : vOkm T0 (eP e_201vk708 L_201vk708 A_201vk708 mu_201vk708 none) 3 ([(80, [0, 1, 2], [1, 0], 0), (23, [0], [0], 708), (42, [1, 3], [], 0), (21, [3, 0], [0], 0), (33, [1], [], 0), (51, [0], [], 0), (6000, [0, 1, 2], [0], 0), (90, [1], [], -2147483648), (91, [1], [], 2147483647), (90, [2], [], -2147483648), (91, [2], [], 2147483647)], (3000, [], [1], 18)) := vOk_in fun ρ η h => by
  obtain ⟨f0, f1, f2, f3, f4, f5, f6, f7, f8, f9, f10, _⟩ := h
  exact q_201vk708_3 (n0 := ρ 2) (n1 := ρ 1) (n2 := ρ 0) (n3 := ρ 3) (H0 := η 0) (H1 := η 1) f10 f9 f8 f7 f6 f5 f4 f3 f2 f1 f0
def p_201vk708_s : List vG := [([(50, [0], [], 0), (6000, [0, 1, 2], [0], 0), (90, [1], [], -2147483648), (91, [1], [], 2147483647), (90, [2], [], -2147483648), (91, [2], [], 2147483647)], (3000, [], [0], 18)),
  ([(32, [1], [], 0), (51, [0], [], 0), (6000, [0, 1, 2], [0], 0), (90, [1], [], -2147483648), (91, [1], [], 2147483647), (90, [2], [], -2147483648), (91, [2], [], 2147483647)], (3000, [], [0], 18)),
  ([(43, [1, 3], [], 0), (21, [3, 0], [0], 0), (33, [1], [], 0), (51, [0], [], 0), (6000, [0, 1, 2], [0], 0), (90, [1], [], -2147483648), (91, [1], [], 2147483647), (90, [2], [], -2147483648), (91, [2], [], 2147483647)], (3000, [], [0], 18)),
  ([(80, [0, 1, 2], [1, 0], 0), (23, [0], [0], 708), (42, [1, 3], [], 0), (21, [3, 0], [0], 0), (33, [1], [], 0), (51, [0], [], 0), (6000, [0, 1, 2], [0], 0), (90, [1], [], -2147483648), (91, [1], [], 2147483647), (90, [2], [], -2147483648), (91, [2], [], 2147483647)], (3000, [], [1], 18))]
theorem r_201vk708_s : vCovO false (eR0 e_201vk708 L_201vk708 cs_201vk708 2000) p_201vk708_s = true := by decide +kernel
theorem m_201vk708 (d : Nat) : eC e_201vk708 (d + 1) := eC_ok (e := e_201vk708) (L := L_201vk708) (cs := cs_201vk708) (n := 2000) (d := d + 0) (A := A_201vk708) (μ := mu_201vk708) (tp := false) (p0 := p_201vk708_s) rfl trivial rfl (.inr pre0_ok) (by decide +kernel) (fun z => nomatch z) r_201vk708_s (allC c_201vk708_s_0 (allC c_201vk708_s_1 (allC c_201vk708_s_2 (allC c_201vk708_s_3 allN)))) allN
/- Bank.setMark (II)V -/
noncomputable def s_6y : vM := ([(3, 0, 23, 0), (0, -2147483648, 2147483647, 0), (0, -2147483648, 2147483647, 0)], (9, 0, 0, 0), 0, 0, [(0, 2), (708, 0)])
def postb_6y (a0 a1 a2 : Int) (h0 h : gH) : Prop := K25 h0 → 0 ≤ a1 → a1 < 8 → hV h 25 = uF (hV h0 25) a1 a2
def post_6y : List Int → gH → gH → Prop := fun xs h0 h => match xs with
  | [a0, a1, a2] => postb_6y a0 a1 a2 h0 h
  | _ => True
noncomputable def e_6y : vE := (6, s_6y, pre0, post_6y)
noncomputable def L_6y : List vE := [e_5, e_201vk708]
def cs_6y : List vC := []
def A_6y : Int → List Int → gH → gH → Prop := fun c xs h0 h => True
def mu_6y : Int → List Int → gH → gH → Nat := fun c xs h0 h => 0
theorem q_6y_0 {n0 n1 n2 n3 n4 n5 : Int} {H0 H1 H2 H3 : gH} (f0 : n0 ≤ 2147483647) (f1 : (-2147483648) ≤ n0) (f2 : n1 ≤ 2147483647) (f3 : (-2147483648) ≤ n1) (f4 : n2 = 23) (f5 : hWt T0 H0 ∧ True) (f6 : n3 = 25) (f7 : n3 = hV H0 (n2).toNat 3) (f8 : (hLe T0 H0 H1 ∧ hFr s_201vk708.2.2.2.2 H0 H1 ∧ ((0 : Int) = 0 → H1.length = H0.length) ∧ hWt T0 H1) ∧ postb_201vk708 n3 n1 n0 H0 H1) (f9 : n4 = 26) (f10 : n4 = hV H1 (n2).toNat 4) (f11 : n5 ≤ 2147483647) (f12 : (-2147483648) ≤ n5) (f13 : (hLe T0 H1 H2 ∧ hFr s_5.2.2.2.2 H1 H2 ∧ ((0 : Int) = 0 → H2.length = H1.length) ∧ hWt T0 H2) ∧ True) (f14 : (hLe T0 H2 H3 ∧ hFr s_201vk708.2.2.2.2 H2 H3 ∧ ((0 : Int) = 0 → H3.length = H2.length) ∧ hWt T0 H3) ∧ postb_201vk708 n4 n1 n5 H2 H3) : postb_6y n2 n1 n0 H0 H3 := by
  unfold postb_6y
  intro k25 p0 p8
  have q := f8.2
  unfold postb_201vk708 at q
  have q2 := f14.2
  unfold postb_201vk708 at q2
  rw [f9] at q2
  exact (putQ_o (q := 26) q2 (by decide)).trans ((fRow f13.1.2.1 25 (by decide +kernel)).trans (putQ_r (q := 25) (n := 8) q f6 k25.2 p8))
theorem c_6y_s_0 : vOkm T0 (eP e_6y L_6y A_6y mu_6y none) 3 ([(1201, [4, 1, 5], [2, 3], 0), (1005, [5, 0], [1, 2], 0), (90, [5], [], -2147483648), (91, [5], [], 2147483647), (20, [4, 0], [1], 4), (0, [4], [], 26), (1201, [3, 1, 2], [0, 1], 0), (20, [3, 0], [0], 3), (0, [3], [], 25), (6000, [0, 1, 2], [0], 0), (0, [0], [], 23), (90, [1], [], -2147483648), (91, [1], [], 2147483647), (90, [2], [], -2147483648), (91, [2], [], 2147483647)], (3000, [], [3], 21)) := vOk_in fun ρ η h => by
  obtain ⟨f0, f1, f2, f3, f4, f5, f6, f7, f8, f9, f10, f11, f12, f13, f14, _⟩ := h
  exact q_6y_0 (n0 := ρ 2) (n1 := ρ 1) (n2 := ρ 0) (n3 := ρ 3) (n4 := ρ 4) (n5 := ρ 5) (H0 := η 0) (H1 := η 1) (H2 := η 2) (H3 := η 3) f14 f13 f12 f11 f10 f9 f8 f7 f6 f5 f4 f3 f2 f1 f0
def p_6y_s : List vG := [([(1201, [4, 1, 5], [2, 3], 0), (1005, [5, 0], [1, 2], 0), (90, [5], [], -2147483648), (91, [5], [], 2147483647), (20, [4, 0], [1], 4), (0, [4], [], 26), (1201, [3, 1, 2], [0, 1], 0), (20, [3, 0], [0], 3), (0, [3], [], 25), (6000, [0, 1, 2], [0], 0), (0, [0], [], 23), (90, [1], [], -2147483648), (91, [1], [], 2147483647), (90, [2], [], -2147483648), (91, [2], [], 2147483647)], (3000, [], [3], 21))]
theorem r_6y_s : vCovO false (eR0 e_6y L_6y cs_6y 2000) p_6y_s = true := by decide +kernel
theorem m_6y (d : Nat) : eC e_6y (d + 2) := eC_ok (e := e_6y) (L := L_6y) (cs := cs_6y) (n := 2000) (d := d + 1) (A := A_6y) (μ := mu_6y) (tp := false) (p0 := p_6y_s) rfl ⟨m_5 d, ⟨m_201vk708 d, trivial⟩⟩ rfl (.inr pre0_ok) (by decide +kernel) (fun z => nomatch z) r_6y_s (allC c_6y_s_0 allN) allN
/- MixStage.mark (II)Z -/
noncomputable def s_172y : vM := ([(3, 11, 7, 0), (0, -2147483648, 2147483647, 0), (0, -2147483648, 2147483647, 0)], (0, 0, 1, 0), 0, 0, [(0, 2), (708, 0)])
def postb_172y (r a0 a1 a2 : Int) (h0 h : gH) : Prop := K25 h0 → (0 ≤ a1 ∧ a1 ≤ 7 ∧ 0 ≤ a2 ∧ a2 ≤ 60 → r = 1 ∧ hV h 25 = uF (hV h0 25) a1 a2) ∧ (¬ (0 ≤ a1 ∧ a1 ≤ 7 ∧ 0 ≤ a2 ∧ a2 ≤ 60) → r = 0 ∧ hV h 25 = hV h0 25)
def post_172y : List Int → gH → gH → Prop := fun xs h0 h => match xs with
  | [r, a0, a1, a2] => postb_172y r a0 a1 a2 h0 h
  | _ => True
noncomputable def e_172y : vE := (172, s_172y, pre0, post_172y)
noncomputable def L_172y : List vE := [e_6y]
def cs_172y : List vC := []
def A_172y : Int → List Int → gH → gH → Prop := fun c xs h0 h => True
def mu_172y : Int → List Int → gH → gH → Nat := fun c xs h0 h => 0
theorem q_172y_0 {n0 n1 n2 n3 : Int} {H0 : gH} (f0 : n0 ≤ 2147483647) (f1 : (-2147483648) ≤ n0) (f2 : n1 ≤ 2147483647) (f3 : (-2147483648) ≤ n1) (f4 : n2 = 7) (f5 : hWt T0 H0 ∧ True) (f6 : n1 < 0) (f7 : n3 = 0) : postb_172y n3 n2 n1 n0 H0 H0 := by
  unfold postb_172y
  intro k25
  exact ⟨fun w => by exfalso; omega, fun w => ⟨by omega, rfl⟩⟩
theorem c_172y_s_0 : vOkm T0 (eP e_172y L_172y A_172y mu_172y none) 3 ([(0, [3], [], 0), (32, [1], [], 0), (6000, [0, 1, 2], [0], 0), (0, [0], [], 7), (90, [1], [], -2147483648), (91, [1], [], 2147483647), (90, [2], [], -2147483648), (91, [2], [], 2147483647)], (3000, [3], [0], 21)) := vOk_in fun ρ η h => by
  obtain ⟨f0, f1, f2, f3, f4, f5, f6, f7, _⟩ := h
  exact q_172y_0 (n0 := ρ 2) (n1 := ρ 1) (n2 := ρ 0) (n3 := ρ 3) (H0 := η 0) f7 f6 f5 f4 f3 f2 f1 f0
theorem q_172y_1 {n0 n1 n2 n3 n4 : Int} {H0 : gH} (f0 : n0 ≤ 2147483647) (f1 : (-2147483648) ≤ n0) (f2 : n1 ≤ 2147483647) (f3 : (-2147483648) ≤ n1) (f4 : n2 = 7) (f5 : hWt T0 H0 ∧ True) (f6 : 0 ≤ n1) (f7 : n3 = 8) (f8 : n3 ≤ n1) (f9 : n4 = 0) : postb_172y n4 n2 n1 n0 H0 H0 := by
  unfold postb_172y
  intro k25
  exact ⟨fun w => by exfalso; omega, fun w => ⟨by omega, rfl⟩⟩
theorem c_172y_s_1 : vOkm T0 (eP e_172y L_172y A_172y mu_172y none) 3 ([(0, [4], [], 0), (43, [1, 3], [], 0), (0, [3], [], 8), (33, [1], [], 0), (6000, [0, 1, 2], [0], 0), (0, [0], [], 7), (90, [1], [], -2147483648), (91, [1], [], 2147483647), (90, [2], [], -2147483648), (91, [2], [], 2147483647)], (3000, [4], [0], 21)) := vOk_in fun ρ η h => by
  obtain ⟨f0, f1, f2, f3, f4, f5, f6, f7, f8, f9, _⟩ := h
  exact q_172y_1 (n0 := ρ 2) (n1 := ρ 1) (n2 := ρ 0) (n3 := ρ 3) (n4 := ρ 4) (H0 := η 0) f9 f8 f7 f6 f5 f4 f3 f2 f1 f0
theorem q_172y_2 {n0 n1 n2 n3 n4 : Int} {H0 : gH} (f0 : n0 ≤ 2147483647) (f1 : (-2147483648) ≤ n0) (f2 : n1 ≤ 2147483647) (f3 : (-2147483648) ≤ n1) (f4 : n2 = 7) (f5 : hWt T0 H0 ∧ True) (f6 : 0 ≤ n1) (f7 : n3 = 8) (f8 : n1 < n3) (f9 : n0 < 0) (f10 : n4 = 0) : postb_172y n4 n2 n1 n0 H0 H0 := by
  unfold postb_172y
  intro k25
  exact ⟨fun w => by exfalso; omega, fun w => ⟨by omega, rfl⟩⟩
theorem c_172y_s_2 : vOkm T0 (eP e_172y L_172y A_172y mu_172y none) 3 ([(0, [4], [], 0), (32, [2], [], 0), (42, [1, 3], [], 0), (0, [3], [], 8), (33, [1], [], 0), (6000, [0, 1, 2], [0], 0), (0, [0], [], 7), (90, [1], [], -2147483648), (91, [1], [], 2147483647), (90, [2], [], -2147483648), (91, [2], [], 2147483647)], (3000, [4], [0], 21)) := vOk_in fun ρ η h => by
  obtain ⟨f0, f1, f2, f3, f4, f5, f6, f7, f8, f9, f10, _⟩ := h
  exact q_172y_2 (n0 := ρ 2) (n1 := ρ 1) (n2 := ρ 0) (n3 := ρ 3) (n4 := ρ 4) (H0 := η 0) f10 f9 f8 f7 f6 f5 f4 f3 f2 f1 f0
theorem q_172y_3 {n0 n1 n2 n3 n4 n5 n6 : Int} {H0 H1 : gH} (f0 : n0 ≤ 2147483647) (f1 : (-2147483648) ≤ n0) (f2 : n1 ≤ 2147483647) (f3 : (-2147483648) ≤ n1) (f4 : n2 = 7) (f5 : hWt T0 H0 ∧ True) (f6 : 0 ≤ n1) (f7 : n3 = 8) (f8 : n1 < n3) (f9 : 0 ≤ n0) (f10 : n4 = 60) (f11 : n0 ≤ n4) (f12 : n5 = 23) (f13 : n5 = hV H0 (n2).toNat 7) (f14 : (hLe T0 H0 H1 ∧ hFr s_6y.2.2.2.2 H0 H1 ∧ ((0 : Int) = 0 → H1.length = H0.length) ∧ hWt T0 H1) ∧ postb_6y n5 n1 n0 H0 H1) (f15 : n6 = 1) : postb_172y n6 n2 n1 n0 H0 H1 := by
  unfold postb_172y
  intro k25
  have q := f14.2
  unfold postb_6y at q
  exact ⟨fun w => ⟨by omega, q k25 (by omega) (by omega)⟩, fun w => by exfalso; omega⟩
theorem c_172y_s_3 : vOkm T0 (eP e_172y L_172y A_172y mu_172y none) 3 ([(0, [6], [], 1), (1006, [5, 1, 2], [0, 1], 0), (20, [5, 0], [0], 7), (0, [5], [], 23), (45, [2, 4], [], 0), (0, [4], [], 60), (33, [2], [], 0), (42, [1, 3], [], 0), (0, [3], [], 8), (33, [1], [], 0), (6000, [0, 1, 2], [0], 0), (0, [0], [], 7), (90, [1], [], -2147483648), (91, [1], [], 2147483647), (90, [2], [], -2147483648), (91, [2], [], 2147483647)], (3000, [6], [1], 32)) := vOk_in fun ρ η h => by
  obtain ⟨f0, f1, f2, f3, f4, f5, f6, f7, f8, f9, f10, f11, f12, f13, f14, f15, _⟩ := h
  exact q_172y_3 (n0 := ρ 2) (n1 := ρ 1) (n2 := ρ 0) (n3 := ρ 3) (n4 := ρ 4) (n5 := ρ 5) (n6 := ρ 6) (H0 := η 0) (H1 := η 1) f15 f14 f13 f12 f11 f10 f9 f8 f7 f6 f5 f4 f3 f2 f1 f0
theorem q_172y_4 {n0 n1 n2 n3 n4 n5 : Int} {H0 : gH} (f0 : n0 ≤ 2147483647) (f1 : (-2147483648) ≤ n0) (f2 : n1 ≤ 2147483647) (f3 : (-2147483648) ≤ n1) (f4 : n2 = 7) (f5 : hWt T0 H0 ∧ True) (f6 : 0 ≤ n1) (f7 : n3 = 8) (f8 : n1 < n3) (f9 : 0 ≤ n0) (f10 : n4 = 60) (f11 : n4 < n0) (f12 : n5 = 0) : postb_172y n5 n2 n1 n0 H0 H0 := by
  unfold postb_172y
  intro k25
  exact ⟨fun w => by exfalso; omega, fun w => ⟨by omega, rfl⟩⟩
theorem c_172y_s_4 : vOkm T0 (eP e_172y L_172y A_172y mu_172y none) 3 ([(0, [5], [], 0), (44, [2, 4], [], 0), (0, [4], [], 60), (33, [2], [], 0), (42, [1, 3], [], 0), (0, [3], [], 8), (33, [1], [], 0), (6000, [0, 1, 2], [0], 0), (0, [0], [], 7), (90, [1], [], -2147483648), (91, [1], [], 2147483647), (90, [2], [], -2147483648), (91, [2], [], 2147483647)], (3000, [5], [0], 21)) := vOk_in fun ρ η h => by
  obtain ⟨f0, f1, f2, f3, f4, f5, f6, f7, f8, f9, f10, f11, f12, _⟩ := h
  exact q_172y_4 (n0 := ρ 2) (n1 := ρ 1) (n2 := ρ 0) (n3 := ρ 3) (n4 := ρ 4) (n5 := ρ 5) (H0 := η 0) f12 f11 f10 f9 f8 f7 f6 f5 f4 f3 f2 f1 f0
def p_172y_s : List vG := [([(0, [3], [], 0), (32, [1], [], 0), (6000, [0, 1, 2], [0], 0), (0, [0], [], 7), (90, [1], [], -2147483648), (91, [1], [], 2147483647), (90, [2], [], -2147483648), (91, [2], [], 2147483647)], (3000, [3], [0], 21)),
  ([(0, [4], [], 0), (43, [1, 3], [], 0), (0, [3], [], 8), (33, [1], [], 0), (6000, [0, 1, 2], [0], 0), (0, [0], [], 7), (90, [1], [], -2147483648), (91, [1], [], 2147483647), (90, [2], [], -2147483648), (91, [2], [], 2147483647)], (3000, [4], [0], 21)),
  ([(0, [4], [], 0), (32, [2], [], 0), (42, [1, 3], [], 0), (0, [3], [], 8), (33, [1], [], 0), (6000, [0, 1, 2], [0], 0), (0, [0], [], 7), (90, [1], [], -2147483648), (91, [1], [], 2147483647), (90, [2], [], -2147483648), (91, [2], [], 2147483647)], (3000, [4], [0], 21)),
  ([(0, [6], [], 1), (1006, [5, 1, 2], [0, 1], 0), (20, [5, 0], [0], 7), (0, [5], [], 23), (45, [2, 4], [], 0), (0, [4], [], 60), (33, [2], [], 0), (42, [1, 3], [], 0), (0, [3], [], 8), (33, [1], [], 0), (6000, [0, 1, 2], [0], 0), (0, [0], [], 7), (90, [1], [], -2147483648), (91, [1], [], 2147483647), (90, [2], [], -2147483648), (91, [2], [], 2147483647)], (3000, [6], [1], 32)),
  ([(0, [5], [], 0), (44, [2, 4], [], 0), (0, [4], [], 60), (33, [2], [], 0), (42, [1, 3], [], 0), (0, [3], [], 8), (33, [1], [], 0), (6000, [0, 1, 2], [0], 0), (0, [0], [], 7), (90, [1], [], -2147483648), (91, [1], [], 2147483647), (90, [2], [], -2147483648), (91, [2], [], 2147483647)], (3000, [5], [0], 21))]
theorem r_172y_s : vCovO false (eR0 e_172y L_172y cs_172y 2000) p_172y_s = true := by decide +kernel
theorem m_172y (d : Nat) : eC e_172y (d + 3) := eC_ok (e := e_172y) (L := L_172y) (cs := cs_172y) (n := 2000) (d := d + 2) (A := A_172y) (μ := mu_172y) (tp := false) (p0 := p_172y_s) rfl ⟨m_6y d, trivial⟩ rfl (.inr pre0_ok) (by decide +kernel) (fun z => nomatch z) r_172y_s (allC c_172y_s_0 (allC c_172y_s_1 (allC c_172y_s_2 (allC c_172y_s_3 (allC c_172y_s_4 allN))))) allN
/- Bank.frameNow (II)I -/
noncomputable def s_8y : vM := ([(3, 0, 23, 0), (0, -2147483648, 2147483647, 0), (0, -2147483648, 2147483647, 0)], (0, -2147483648, 2147483647, 0), 0, 0, [])
def postb_8y (r a0 a1 a2 : Int) (h0 h : gH) : Prop := K25 h0 → r = nwW (hV h0 25) a1 a2
def post_8y : List Int → gH → gH → Prop := fun xs h0 h => match xs with
  | [r, a0, a1, a2] => postb_8y r a0 a1 a2 h0 h
  | _ => True
noncomputable def e_8y : vE := (8, s_8y, pre0, post_8y)
noncomputable def L_8y : List vE := [e_199vk708]
def cs_8y : List vC := []
def A_8y : Int → List Int → gH → gH → Prop := fun c xs h0 h => True
def mu_8y : Int → List Int → gH → gH → Nat := fun c xs h0 h => 0
theorem q_8y_0 {n0 n1 n2 n3 n4 n5 n6 : Int} {H0 H1 : gH} (f0 : n0 ≤ 2147483647) (f1 : (-2147483648) ≤ n0) (f2 : n1 ≤ 2147483647) (f3 : (-2147483648) ≤ n1) (f4 : n2 = 23) (f5 : hWt T0 H0 ∧ True) (f6 : n3 = (-1)) (f7 : n1 ≠ n3) (f8 : n4 = 25) (f9 : n4 = hV H0 (n2).toNat 3) (f10 : n5 ≤ 2147483647) (f11 : (-2147483648) ≤ n5) (f12 : (hLe T0 H0 H1 ∧ hFr s_199vk708.2.2.2.2 H0 H1 ∧ ((0 : Int) = 0 → H1.length = H0.length) ∧ hWt T0 H1) ∧ postb_199vk708 n5 n4 n1 H0 H1) (f13 : n6 = w32 (n5 + n0)) : postb_8y n6 n2 n1 n0 H0 H1 := by
  unfold postb_8y nwW
  intro k25
  have q := f12.2
  unfold postb_199vk708 at q
  have q := atQ_r (q := 25) (n := 8) q f8 k25.2
  rw [if_neg (by omega), f13, q]
  all_goals rfl
theorem c_8y_s_0 : vOkm T0 (eP e_8y L_8y A_8y mu_8y none) 3 ([(1, [6, 5, 2], [], 0), (1199, [5, 4, 1], [0, 1], 0), (90, [5], [], -2147483648), (91, [5], [], 2147483647), (20, [4, 0], [0], 3), (0, [4], [], 25), (41, [1, 3], [], 0), (0, [3], [], -1), (6000, [0, 1, 2], [0], 0), (0, [0], [], 23), (90, [1], [], -2147483648), (91, [1], [], 2147483647), (90, [2], [], -2147483648), (91, [2], [], 2147483647)], (3000, [6], [1], 19)) := vOk_in fun ρ η h => by
  obtain ⟨f0, f1, f2, f3, f4, f5, f6, f7, f8, f9, f10, f11, f12, f13, _⟩ := h
  exact q_8y_0 (n0 := ρ 2) (n1 := ρ 1) (n2 := ρ 0) (n3 := ρ 3) (n4 := ρ 4) (n5 := ρ 5) (n6 := ρ 6) (H0 := η 0) (H1 := η 1) f13 f12 f11 f10 f9 f8 f7 f6 f5 f4 f3 f2 f1 f0
theorem q_8y_1 {n0 n1 n2 n3 : Int} {H0 : gH} (f0 : n0 ≤ 2147483647) (f1 : (-2147483648) ≤ n0) (f2 : n1 ≤ 2147483647) (f3 : (-2147483648) ≤ n1) (f4 : n2 = 23) (f5 : hWt T0 H0 ∧ True) (f6 : n3 = (-1)) (f7 : n1 = n3) : postb_8y n0 n2 n1 n0 H0 H0 := by
  unfold postb_8y nwW
  intro k25
  exact (if_pos (by omega)).symm
theorem c_8y_s_1 : vOkm T0 (eP e_8y L_8y A_8y mu_8y none) 3 ([(40, [1, 3], [], 0), (0, [3], [], -1), (6000, [0, 1, 2], [0], 0), (0, [0], [], 23), (90, [1], [], -2147483648), (91, [1], [], 2147483647), (90, [2], [], -2147483648), (91, [2], [], 2147483647)], (3000, [2], [0], 19)) := vOk_in fun ρ η h => by
  obtain ⟨f0, f1, f2, f3, f4, f5, f6, f7, _⟩ := h
  exact q_8y_1 (n0 := ρ 2) (n1 := ρ 1) (n2 := ρ 0) (n3 := ρ 3) (H0 := η 0) f7 f6 f5 f4 f3 f2 f1 f0
def p_8y_s : List vG := [([(1, [6, 5, 2], [], 0), (1199, [5, 4, 1], [0, 1], 0), (90, [5], [], -2147483648), (91, [5], [], 2147483647), (20, [4, 0], [0], 3), (0, [4], [], 25), (41, [1, 3], [], 0), (0, [3], [], -1), (6000, [0, 1, 2], [0], 0), (0, [0], [], 23), (90, [1], [], -2147483648), (91, [1], [], 2147483647), (90, [2], [], -2147483648), (91, [2], [], 2147483647)], (3000, [6], [1], 19)),
  ([(40, [1, 3], [], 0), (0, [3], [], -1), (6000, [0, 1, 2], [0], 0), (0, [0], [], 23), (90, [1], [], -2147483648), (91, [1], [], 2147483647), (90, [2], [], -2147483648), (91, [2], [], 2147483647)], (3000, [2], [0], 19))]
theorem r_8y_s : vCovO false (eR0 e_8y L_8y cs_8y 2000) p_8y_s = true := by decide +kernel
theorem m_8y (d : Nat) : eC e_8y (d + 2) := eC_ok (e := e_8y) (L := L_8y) (cs := cs_8y) (n := 2000) (d := d + 1) (A := A_8y) (μ := mu_8y) (tp := false) (p0 := p_8y_s) rfl ⟨m_199vk708 d, trivial⟩ rfl (.inr pre0_ok) (by decide +kernel) (fun z => nomatch z) r_8y_s (allC c_8y_s_0 (allC c_8y_s_1 allN)) allN
/- Cue.hasTime ()Z -/
noncomputable def s_23y : vM := ([(3, 1, -1, 0)], (0, 0, 1, 0), 0, 0, [])
def postb_23y (r a0 : Int) (h0 h : gH) : Prop := (r = 1 ∧ (hV h0 (a0).toNat 0 = 0 ∨ hV h0 (a0).toNat 0 = 1)) ∨ (r = 0 ∧ ¬ (hV h0 (a0).toNat 0 = 0 ∨ hV h0 (a0).toNat 0 = 1))
def post_23y : List Int → gH → gH → Prop := fun xs h0 h => match xs with
  | [r, a0] => postb_23y r a0 h0 h
  | _ => True
noncomputable def e_23y : vE := (23, s_23y, pre0, post_23y)
noncomputable def L_23y : List vE := []
def cs_23y : List vC := []
def A_23y : Int → List Int → gH → gH → Prop := fun c xs h0 h => True
def mu_23y : Int → List Int → gH → gH → Nat := fun c xs h0 h => 0
theorem q_23y_0 {n0 n1 n2 : Int} {H0 : gH} (f0 : 0 ≤ n0) (f1 : hWt T0 H0 ∧ True) (f2 : n1 ≤ 2147483647) (f3 : (-2147483648) ≤ n1) (f4 : hK H0 (n0).toNat = 1) (f5 : n1 = hV H0 (n0).toNat 0) (f6 : n1 = 0) (f7 : n2 = 1) : postb_23y n2 n0 H0 H0 := by
  unfold postb_23y
  omega
theorem c_23y_s_0 : vOkm T0 (eP e_23y L_23y A_23y mu_23y none) 1 ([(0, [2], [], 1), (30, [1], [], 0), (20, [1, 0], [0], 0), (23, [0], [0], 1), (90, [1], [], -2147483648), (91, [1], [], 2147483647), (6000, [0], [0], 0), (51, [0], [], 0)], (3000, [2], [0], 20)) := vOk_in fun ρ η h => by
  obtain ⟨f0, f1, f2, f3, f4, f5, f6, f7, _⟩ := h
  exact q_23y_0 (n0 := ρ 0) (n1 := ρ 1) (n2 := ρ 2) (H0 := η 0) f7 f6 f5 f4 f3 f2 f1 f0
theorem q_23y_1 {n0 n1 n2 n3 n4 : Int} {H0 : gH} (f0 : 0 ≤ n0) (f1 : hWt T0 H0 ∧ True) (f2 : n1 ≤ 2147483647) (f3 : (-2147483648) ≤ n1) (f4 : hK H0 (n0).toNat = 1) (f5 : n1 = hV H0 (n0).toNat 0) (f6 : n1 ≠ 0) (f7 : n2 ≤ 2147483647) (f8 : (-2147483648) ≤ n2) (f9 : hK H0 (n0).toNat = 1) (f10 : n2 = hV H0 (n0).toNat 0) (f11 : n3 = 1) (f12 : n2 ≠ n3) (f13 : n4 = 0) : postb_23y n4 n0 H0 H0 := by
  unfold postb_23y
  omega
theorem c_23y_s_1 : vOkm T0 (eP e_23y L_23y A_23y mu_23y none) 1 ([(0, [4], [], 0), (41, [2, 3], [], 0), (0, [3], [], 1), (20, [2, 0], [0], 0), (23, [0], [0], 1), (90, [2], [], -2147483648), (91, [2], [], 2147483647), (31, [1], [], 0), (20, [1, 0], [0], 0), (23, [0], [0], 1), (90, [1], [], -2147483648), (91, [1], [], 2147483647), (6000, [0], [0], 0), (51, [0], [], 0)], (3000, [4], [0], 20)) := vOk_in fun ρ η h => by
  obtain ⟨f0, f1, f2, f3, f4, f5, f6, f7, f8, f9, f10, f11, f12, f13, _⟩ := h
  exact q_23y_1 (n0 := ρ 0) (n1 := ρ 1) (n2 := ρ 2) (n3 := ρ 3) (n4 := ρ 4) (H0 := η 0) f13 f12 f11 f10 f9 f8 f7 f6 f5 f4 f3 f2 f1 f0
theorem q_23y_2 {n0 n1 n2 n3 n4 : Int} {H0 : gH} (f0 : 0 ≤ n0) (f1 : hWt T0 H0 ∧ True) (f2 : n1 ≤ 2147483647) (f3 : (-2147483648) ≤ n1) (f4 : hK H0 (n0).toNat = 1) (f5 : n1 = hV H0 (n0).toNat 0) (f6 : n1 ≠ 0) (f7 : n2 ≤ 2147483647) (f8 : (-2147483648) ≤ n2) (f9 : hK H0 (n0).toNat = 1) (f10 : n2 = hV H0 (n0).toNat 0) (f11 : n3 = 1) (f12 : n2 = n3) (f13 : n4 = 1) : postb_23y n4 n0 H0 H0 := by
  unfold postb_23y
  omega
theorem c_23y_s_2 : vOkm T0 (eP e_23y L_23y A_23y mu_23y none) 1 ([(0, [4], [], 1), (40, [2, 3], [], 0), (0, [3], [], 1), (20, [2, 0], [0], 0), (23, [0], [0], 1), (90, [2], [], -2147483648), (91, [2], [], 2147483647), (31, [1], [], 0), (20, [1, 0], [0], 0), (23, [0], [0], 1), (90, [1], [], -2147483648), (91, [1], [], 2147483647), (6000, [0], [0], 0), (51, [0], [], 0)], (3000, [4], [0], 20)) := vOk_in fun ρ η h => by
  obtain ⟨f0, f1, f2, f3, f4, f5, f6, f7, f8, f9, f10, f11, f12, f13, _⟩ := h
  exact q_23y_2 (n0 := ρ 0) (n1 := ρ 1) (n2 := ρ 2) (n3 := ρ 3) (n4 := ρ 4) (H0 := η 0) f13 f12 f11 f10 f9 f8 f7 f6 f5 f4 f3 f2 f1 f0
def p_23y_s : List vG := [([(0, [2], [], 1), (30, [1], [], 0), (20, [1, 0], [0], 0), (23, [0], [0], 1), (90, [1], [], -2147483648), (91, [1], [], 2147483647), (6000, [0], [0], 0), (51, [0], [], 0)], (3000, [2], [0], 20)),
  ([(0, [4], [], 0), (41, [2, 3], [], 0), (0, [3], [], 1), (20, [2, 0], [0], 0), (23, [0], [0], 1), (90, [2], [], -2147483648), (91, [2], [], 2147483647), (31, [1], [], 0), (20, [1, 0], [0], 0), (23, [0], [0], 1), (90, [1], [], -2147483648), (91, [1], [], 2147483647), (6000, [0], [0], 0), (51, [0], [], 0)], (3000, [4], [0], 20)),
  ([(0, [4], [], 1), (40, [2, 3], [], 0), (0, [3], [], 1), (20, [2, 0], [0], 0), (23, [0], [0], 1), (90, [2], [], -2147483648), (91, [2], [], 2147483647), (31, [1], [], 0), (20, [1, 0], [0], 0), (23, [0], [0], 1), (90, [1], [], -2147483648), (91, [1], [], 2147483647), (6000, [0], [0], 0), (51, [0], [], 0)], (3000, [4], [0], 20))]
theorem r_23y_s : vCovO false (eR0 e_23y L_23y cs_23y 2000) p_23y_s = true := by decide +kernel
theorem m_23y (d : Nat) : eC e_23y (d + 1) := eC_ok (e := e_23y) (L := L_23y) (cs := cs_23y) (n := 2000) (d := d + 0) (A := A_23y) (μ := mu_23y) (tp := false) (p0 := p_23y_s) rfl trivial rfl (.inr pre0_ok) (by decide +kernel) (fun z => nomatch z) r_23y_s (allC c_23y_s_0 (allC c_23y_s_1 (allC c_23y_s_2 allN))) allN
/- MixStage.cue (III)I -/
noncomputable def s_181y : vM := ([(3, 11, 7, 0), (0, -2147483648, 2147483647, 0), (0, -2147483648, 2147483647, 0), (0, -2147483648, 2147483647, 0)], (0, -2147483648, 2147483647, 0), 0, 0, [])
def postb_181y (r a0 a1 a2 a3 : Int) (h0 h : gH) : Prop := K79 h0 → K25 h0 → (¬ (0 ≤ a1 ∧ a1 < hV h0 7 4) → r = -1) ∧ (0 ≤ a1 → a1 < hV h0 7 4 → ∀ E : List CR, 0 ≤ hV h0 9 (a1).toNat → SHL h0 (hV h0 9 (a1).toNat).toNat E → (¬ (0 ≤ a2 ∧ a2 < (E.length : Int)) → r = -1) ∧ ∀ p : CR, 0 ≤ a2 → E[(a2).toNat]? = some p → 0 ≤ p.1 → p.1 ≤ 4 → r = cuC (hV h0 25) p a3)
def post_181y : List Int → gH → gH → Prop := fun xs h0 h => match xs with
  | [r, a0, a1, a2, a3] => postb_181y r a0 a1 a2 a3 h0 h
  | _ => True
noncomputable def e_181y : vE := (181, s_181y, pre0, post_181y)
noncomputable def L_181y : List vE := [e_8y, e_23y, e_194y, e_195y]
def cs_181y : List vC := []
def A_181y : Int → List Int → gH → gH → Prop := fun c xs h0 h => True
def mu_181y : Int → List Int → gH → gH → Nat := fun c xs h0 h => 0
theorem q_181y_0 {n0 n1 n2 n3 n4 n5 n6 : Int} {H0 H1 H2 : gH} (f0 : n0 ≤ 2147483647) (f1 : (-2147483648) ≤ n0) (f2 : n1 ≤ 2147483647) (f3 : (-2147483648) ≤ n1) (f4 : n2 ≤ 2147483647) (f5 : (-2147483648) ≤ n2) (f6 : n3 = 7) (f7 : hWt T0 H0 ∧ True) (f8 : (hLe T0 H0 H1 ∧ hFr s_194y.2.2.2.2 H0 H1 ∧ ((0 : Int) = 0 → H1.length = H0.length) ∧ hWt T0 H1) ∧ postb_194y n4 n3 n2 H0 H1) (f9 : (hLe T0 H1 H2 ∧ hFr s_195y.2.2.2.2 H1 H2 ∧ ((0 : Int) = 0 → H2.length = H1.length) ∧ hWt T0 H2) ∧ postb_195y n5 n4 n1 H1 H2) (f10 : n5 = -1) (f11 : n6 = (-1)) : postb_181y n6 n3 n2 n1 n0 H0 H2 := by
  unfold postb_181y
  intro k79 k25
  have q := f8.2
  unfold postb_194y at q
  obtain ⟨q1, q2⟩ := q k79
  have d := f9.2
  unfold postb_195y at d
  obtain ⟨d1, d2⟩ := d
  refine ⟨fun w => ?_, fun p1 p2 E p3 z => ?_⟩
  · have e := q2 w
    have e2 := d1 e
    omega
  have e := q1 p1 p2
  have z1 : SHL H1 (n4).toNat E := by
    rw [e]
    exact SHL_keep z (SHo_fr f8.1.1 f8.1.2.1 (by decide +kernel)) (RWo_fr f8.1.1 f8.1.2.1 (by decide +kernel)) (CUo_fr f8.1.1 f8.1.2.1 (by decide +kernel))
  obtain ⟨v1, v2⟩ := d2 (by omega)
  have el := z1.2.2.2.1
  have e40 := z1.2.2.2.2.1
  refine ⟨fun w => ?_, fun p h0 hk g0 g4 => ?_⟩
  · have u := v2 (by rw [el]; exact w)
    omega
  have lt : (n1).toNat < E.length := (List.getElem?_eq_some_iff.mp hk).1
  obtain ⟨y1, y2, y3⟩ := z1.2.2.2.2.2.2 _ p hk
  have u := v1 h0 (by rw [el]; omega) (by omega)
  rw [z1.2.1, show (((n4).toNat : Nat) : Int) + 1 = (((n4).toNat + 1 : Nat) : Int) by omega, Int.toNat_natCast] at u
  rw [← u] at y1 y2 y3
  omega
theorem c_181y_s_0 : vOkm T0 (eP e_181y L_181y A_181y mu_181y none) 4 ([(0, [6], [], -1), (50, [5], [], 0), (1195, [5, 4, 2], [1, 2], 0), (1194, [4, 0, 1], [0, 1], 0), (6000, [0, 1, 2, 3], [0], 0), (0, [0], [], 7), (90, [1], [], -2147483648), (91, [1], [], 2147483647), (90, [2], [], -2147483648), (91, [2], [], 2147483647), (90, [3], [], -2147483648), (91, [3], [], 2147483647)], (3000, [6], [2], 17)) := vOk_in fun ρ η h => by
  obtain ⟨f0, f1, f2, f3, f4, f5, f6, f7, f8, f9, f10, f11, _⟩ := h
  exact q_181y_0 (n0 := ρ 3) (n1 := ρ 2) (n2 := ρ 1) (n3 := ρ 0) (n4 := ρ 4) (n5 := ρ 5) (n6 := ρ 6) (H0 := η 0) (H1 := η 1) (H2 := η 2) f11 f10 f9 f8 f7 f6 f5 f4 f3 f2 f1 f0
theorem q_181y_1 {n0 n1 n2 n3 n4 n5 n6 : Int} {H0 H1 H2 : gH} (f0 : n0 ≤ 2147483647) (f1 : (-2147483648) ≤ n0) (f2 : n1 ≤ 2147483647) (f3 : (-2147483648) ≤ n1) (f4 : n2 ≤ 2147483647) (f5 : (-2147483648) ≤ n2) (f6 : n3 = 7) (f7 : hWt T0 H0 ∧ True) (f8 : (hLe T0 H0 H1 ∧ hFr s_194y.2.2.2.2 H0 H1 ∧ ((0 : Int) = 0 → H1.length = H0.length) ∧ hWt T0 H1) ∧ postb_194y n4 n3 n2 H0 H1) (f9 : (hLe T0 H1 H2 ∧ hFr s_195y.2.2.2.2 H1 H2 ∧ ((0 : Int) = 0 → H2.length = H1.length) ∧ hWt T0 H2) ∧ postb_195y n5 n4 n1 H1 H2) (f10 : 0 ≤ n5) (f11 : n0 < 0) (f12 : n6 = (-1)) : postb_181y n6 n3 n2 n1 n0 H0 H2 := by
  unfold postb_181y
  intro k79 k25
  have q := f8.2
  unfold postb_194y at q
  obtain ⟨q1, q2⟩ := q k79
  have d := f9.2
  unfold postb_195y at d
  obtain ⟨d1, d2⟩ := d
  refine ⟨fun w => ?_, fun p1 p2 E p3 z => ?_⟩
  · have e := q2 w
    have e2 := d1 e
    omega
  have e := q1 p1 p2
  have z1 : SHL H1 (n4).toNat E := by
    rw [e]
    exact SHL_keep z (SHo_fr f8.1.1 f8.1.2.1 (by decide +kernel)) (RWo_fr f8.1.1 f8.1.2.1 (by decide +kernel)) (CUo_fr f8.1.1 f8.1.2.1 (by decide +kernel))
  obtain ⟨v1, v2⟩ := d2 (by omega)
  have el := z1.2.2.2.1
  have e40 := z1.2.2.2.2.1
  refine ⟨fun w => ?_, fun p h0 hk g0 g4 => ?_⟩
  · have u := v2 (by rw [el]; exact w)
    omega
  have lt : (n1).toNat < E.length := (List.getElem?_eq_some_iff.mp hk).1
  obtain ⟨y1, y2, y3⟩ := z1.2.2.2.2.2.2 _ p hk
  have u := v1 h0 (by rw [el]; omega) (by omega)
  rw [z1.2.1, show (((n4).toNat : Nat) : Int) + 1 = (((n4).toNat + 1 : Nat) : Int) by omega, Int.toNat_natCast] at u
  rw [← u] at y1 y2 y3
  have k_H2 : hK H2 (n5).toNat = 1 := kLe f9.1.1 y2 rfl
  have r_H2 : recC H2 (n5).toNat = p := (recC_eq (fr1 f9.1.2.1 (by decide +kernel) y2)).trans y3
  unfold cuC
  rw [if_neg (by omega), if_neg (by omega), if_neg (by omega), if_neg (by omega)]
  omega
theorem c_181y_s_1 : vOkm T0 (eP e_181y L_181y A_181y mu_181y none) 4 ([(0, [6], [], -1), (66, [3], [], 0), (51, [5], [], 0), (1195, [5, 4, 2], [1, 2], 0), (1194, [4, 0, 1], [0, 1], 0), (6000, [0, 1, 2, 3], [0], 0), (0, [0], [], 7), (90, [1], [], -2147483648), (91, [1], [], 2147483647), (90, [2], [], -2147483648), (91, [2], [], 2147483647), (90, [3], [], -2147483648), (91, [3], [], 2147483647)], (3000, [6], [2], 122)) := vOk_in fun ρ η h => by
  obtain ⟨f0, f1, f2, f3, f4, f5, f6, f7, f8, f9, f10, f11, f12, _⟩ := h
  exact q_181y_1 (n0 := ρ 3) (n1 := ρ 2) (n2 := ρ 1) (n3 := ρ 0) (n4 := ρ 4) (n5 := ρ 5) (n6 := ρ 6) (H0 := η 0) (H1 := η 1) (H2 := η 2) f12 f11 f10 f9 f8 f7 f6 f5 f4 f3 f2 f1 f0
theorem q_181y_2 {n0 n1 n2 n3 n4 n5 n6 : Int} {H0 H1 H2 : gH} (f0 : n0 ≤ 2147483647) (f1 : (-2147483648) ≤ n0) (f2 : n1 ≤ 2147483647) (f3 : (-2147483648) ≤ n1) (f4 : n2 ≤ 2147483647) (f5 : (-2147483648) ≤ n2) (f6 : n3 = 7) (f7 : hWt T0 H0 ∧ True) (f8 : (hLe T0 H0 H1 ∧ hFr s_194y.2.2.2.2 H0 H1 ∧ ((0 : Int) = 0 → H1.length = H0.length) ∧ hWt T0 H1) ∧ postb_194y n4 n3 n2 H0 H1) (f9 : (hLe T0 H1 H2 ∧ hFr s_195y.2.2.2.2 H1 H2 ∧ ((0 : Int) = 0 → H2.length = H1.length) ∧ hWt T0 H2) ∧ postb_195y n5 n4 n1 H1 H2) (f10 : 0 ≤ n5) (f11 : 3 < n0) (f12 : n6 = (-1)) : postb_181y n6 n3 n2 n1 n0 H0 H2 := by
  unfold postb_181y
  intro k79 k25
  have q := f8.2
  unfold postb_194y at q
  obtain ⟨q1, q2⟩ := q k79
  have d := f9.2
  unfold postb_195y at d
  obtain ⟨d1, d2⟩ := d
  refine ⟨fun w => ?_, fun p1 p2 E p3 z => ?_⟩
  · have e := q2 w
    have e2 := d1 e
    omega
  have e := q1 p1 p2
  have z1 : SHL H1 (n4).toNat E := by
    rw [e]
    exact SHL_keep z (SHo_fr f8.1.1 f8.1.2.1 (by decide +kernel)) (RWo_fr f8.1.1 f8.1.2.1 (by decide +kernel)) (CUo_fr f8.1.1 f8.1.2.1 (by decide +kernel))
  obtain ⟨v1, v2⟩ := d2 (by omega)
  have el := z1.2.2.2.1
  have e40 := z1.2.2.2.2.1
  refine ⟨fun w => ?_, fun p h0 hk g0 g4 => ?_⟩
  · have u := v2 (by rw [el]; exact w)
    omega
  have lt : (n1).toNat < E.length := (List.getElem?_eq_some_iff.mp hk).1
  obtain ⟨y1, y2, y3⟩ := z1.2.2.2.2.2.2 _ p hk
  have u := v1 h0 (by rw [el]; omega) (by omega)
  rw [z1.2.1, show (((n4).toNat : Nat) : Int) + 1 = (((n4).toNat + 1 : Nat) : Int) by omega, Int.toNat_natCast] at u
  rw [← u] at y1 y2 y3
  have k_H2 : hK H2 (n5).toNat = 1 := kLe f9.1.1 y2 rfl
  have r_H2 : recC H2 (n5).toNat = p := (recC_eq (fr1 f9.1.2.1 (by decide +kernel) y2)).trans y3
  unfold cuC
  rw [if_neg (by omega), if_neg (by omega), if_neg (by omega), if_neg (by omega)]
  omega
theorem c_181y_s_2 : vOkm T0 (eP e_181y L_181y A_181y mu_181y none) 4 ([(0, [6], [], -1), (67, [3], [], 3), (51, [5], [], 0), (1195, [5, 4, 2], [1, 2], 0), (1194, [4, 0, 1], [0, 1], 0), (6000, [0, 1, 2, 3], [0], 0), (0, [0], [], 7), (90, [1], [], -2147483648), (91, [1], [], 2147483647), (90, [2], [], -2147483648), (91, [2], [], 2147483647), (90, [3], [], -2147483648), (91, [3], [], 2147483647)], (3000, [6], [2], 122)) := vOk_in fun ρ η h => by
  obtain ⟨f0, f1, f2, f3, f4, f5, f6, f7, f8, f9, f10, f11, f12, _⟩ := h
  exact q_181y_2 (n0 := ρ 3) (n1 := ρ 2) (n2 := ρ 1) (n3 := ρ 0) (n4 := ρ 4) (n5 := ρ 5) (n6 := ρ 6) (H0 := η 0) (H1 := η 1) (H2 := η 2) f12 f11 f10 f9 f8 f7 f6 f5 f4 f3 f2 f1 f0
theorem q_181y_3 {n0 n1 n2 n3 n4 n5 n6 : Int} {H0 H1 H2 : gH} (f0 : n0 ≤ 2147483647) (f1 : (-2147483648) ≤ n0) (f2 : n1 ≤ 2147483647) (f3 : (-2147483648) ≤ n1) (f4 : n2 ≤ 2147483647) (f5 : (-2147483648) ≤ n2) (f6 : n3 = 7) (f7 : hWt T0 H0 ∧ True) (f8 : (hLe T0 H0 H1 ∧ hFr s_194y.2.2.2.2 H0 H1 ∧ ((0 : Int) = 0 → H1.length = H0.length) ∧ hWt T0 H1) ∧ postb_194y n4 n3 n2 H0 H1) (f9 : (hLe T0 H1 H2 ∧ hFr s_195y.2.2.2.2 H1 H2 ∧ ((0 : Int) = 0 → H2.length = H1.length) ∧ hWt T0 H2) ∧ postb_195y n5 n4 n1 H1 H2) (f10 : 0 ≤ n5) (f11 : n0 = 0) (f12 : n6 ≤ 2147483647) (f13 : (-2147483648) ≤ n6) (f14 : hK H2 (n5).toNat = 1) (f15 : n6 = hV H2 (n5).toNat 0) : postb_181y n6 n3 n2 n1 n0 H0 H2 := by
  unfold postb_181y
  intro k79 k25
  have q := f8.2
  unfold postb_194y at q
  obtain ⟨q1, q2⟩ := q k79
  have d := f9.2
  unfold postb_195y at d
  obtain ⟨d1, d2⟩ := d
  refine ⟨fun w => ?_, fun p1 p2 E p3 z => ?_⟩
  · have e := q2 w
    have e2 := d1 e
    omega
  have e := q1 p1 p2
  have z1 : SHL H1 (n4).toNat E := by
    rw [e]
    exact SHL_keep z (SHo_fr f8.1.1 f8.1.2.1 (by decide +kernel)) (RWo_fr f8.1.1 f8.1.2.1 (by decide +kernel)) (CUo_fr f8.1.1 f8.1.2.1 (by decide +kernel))
  obtain ⟨v1, v2⟩ := d2 (by omega)
  have el := z1.2.2.2.1
  have e40 := z1.2.2.2.2.1
  refine ⟨fun w => ?_, fun p h0 hk g0 g4 => ?_⟩
  · have u := v2 (by rw [el]; exact w)
    omega
  have lt : (n1).toNat < E.length := (List.getElem?_eq_some_iff.mp hk).1
  obtain ⟨y1, y2, y3⟩ := z1.2.2.2.2.2.2 _ p hk
  have u := v1 h0 (by rw [el]; omega) (by omega)
  rw [z1.2.1, show (((n4).toNat : Nat) : Int) + 1 = (((n4).toNat + 1 : Nat) : Int) by omega, Int.toNat_natCast] at u
  rw [← u] at y1 y2 y3
  have k_H2 : hK H2 (n5).toNat = 1 := kLe f9.1.1 y2 rfl
  have r_H2 : recC H2 (n5).toNat = p := (recC_eq (fr1 f9.1.2.1 (by decide +kernel) y2)).trans y3
  have x15 : n6 = p.1 := f15.trans (congrArg (fun y : CR => y.1) r_H2)
  unfold cuC
  have k3 := f11
  rw [if_pos (by omega)]
  omega
theorem c_181y_s_3 : vOkm T0 (eP e_181y L_181y A_181y mu_181y none) 4 ([(20, [6, 5], [2], 0), (23, [5], [2], 1), (90, [6], [], -2147483648), (91, [6], [], 2147483647), (0, [3], [], 0), (51, [5], [], 0), (1195, [5, 4, 2], [1, 2], 0), (1194, [4, 0, 1], [0, 1], 0), (6000, [0, 1, 2, 3], [0], 0), (0, [0], [], 7), (90, [1], [], -2147483648), (91, [1], [], 2147483647), (90, [2], [], -2147483648), (91, [2], [], 2147483647), (90, [3], [], -2147483648), (91, [3], [], 2147483647)], (3000, [6], [2], 53)) := vOk_in fun ρ η h => by
  obtain ⟨f0, f1, f2, f3, f4, f5, f6, f7, f8, f9, f10, f11, f12, f13, f14, f15, _⟩ := h
  exact q_181y_3 (n0 := ρ 3) (n1 := ρ 2) (n2 := ρ 1) (n3 := ρ 0) (n4 := ρ 4) (n5 := ρ 5) (n6 := ρ 6) (H0 := η 0) (H1 := η 1) (H2 := η 2) f15 f14 f13 f12 f11 f10 f9 f8 f7 f6 f5 f4 f3 f2 f1 f0
theorem q_181y_4 {n0 n1 n2 n3 n4 n5 n6 n7 : Int} {H0 H1 H2 H3 : gH} (f0 : n0 ≤ 2147483647) (f1 : (-2147483648) ≤ n0) (f2 : n1 ≤ 2147483647) (f3 : (-2147483648) ≤ n1) (f4 : n2 ≤ 2147483647) (f5 : (-2147483648) ≤ n2) (f6 : n3 = 7) (f7 : hWt T0 H0 ∧ True) (f8 : (hLe T0 H0 H1 ∧ hFr s_194y.2.2.2.2 H0 H1 ∧ ((0 : Int) = 0 → H1.length = H0.length) ∧ hWt T0 H1) ∧ postb_194y n4 n3 n2 H0 H1) (f9 : (hLe T0 H1 H2 ∧ hFr s_195y.2.2.2.2 H1 H2 ∧ ((0 : Int) = 0 → H2.length = H1.length) ∧ hWt T0 H2) ∧ postb_195y n5 n4 n1 H1 H2) (f10 : 0 ≤ n5) (f11 : n0 = 1) (f12 : n6 ≤ 1) (f13 : 0 ≤ n6) (f14 : (hLe T0 H2 H3 ∧ hFr s_23y.2.2.2.2 H2 H3 ∧ ((0 : Int) = 0 → H3.length = H2.length) ∧ hWt T0 H3) ∧ postb_23y n6 n5 H2 H3) (f15 : n6 = 0) (f16 : n7 = (-1)) : postb_181y n7 n3 n2 n1 n0 H0 H3 := by
  unfold postb_181y
  intro k79 k25
  have q := f8.2
  unfold postb_194y at q
  obtain ⟨q1, q2⟩ := q k79
  have d := f9.2
  unfold postb_195y at d
  obtain ⟨d1, d2⟩ := d
  refine ⟨fun w => ?_, fun p1 p2 E p3 z => ?_⟩
  · have e := q2 w
    have e2 := d1 e
    omega
  have e := q1 p1 p2
  have z1 : SHL H1 (n4).toNat E := by
    rw [e]
    exact SHL_keep z (SHo_fr f8.1.1 f8.1.2.1 (by decide +kernel)) (RWo_fr f8.1.1 f8.1.2.1 (by decide +kernel)) (CUo_fr f8.1.1 f8.1.2.1 (by decide +kernel))
  obtain ⟨v1, v2⟩ := d2 (by omega)
  have el := z1.2.2.2.1
  have e40 := z1.2.2.2.2.1
  refine ⟨fun w => ?_, fun p h0 hk g0 g4 => ?_⟩
  · have u := v2 (by rw [el]; exact w)
    omega
  have lt : (n1).toNat < E.length := (List.getElem?_eq_some_iff.mp hk).1
  obtain ⟨y1, y2, y3⟩ := z1.2.2.2.2.2.2 _ p hk
  have u := v1 h0 (by rw [el]; omega) (by omega)
  rw [z1.2.1, show (((n4).toNat : Nat) : Int) + 1 = (((n4).toNat + 1 : Nat) : Int) by omega, Int.toNat_natCast] at u
  rw [← u] at y1 y2 y3
  have k_H2 : hK H2 (n5).toNat = 1 := kLe f9.1.1 y2 rfl
  have r_H2 : recC H2 (n5).toNat = p := (recC_eq (fr1 f9.1.2.1 (by decide +kernel) y2)).trans y3
  have k_H3 : hK H3 (n5).toNat = 1 := kLe f14.1.1 k_H2 rfl
  have r_H3 : recC H3 (n5).toNat = p := (recC_eq (fr1 f14.1.2.1 (by decide +kernel) k_H2)).trans r_H2
  unfold cuC
  have k3 := f11
  rw [if_neg (by omega), if_pos (by omega)]
  have ht := f14.2
  unfold postb_23y at ht
  have kd : hV H2 (n5).toNat 0 = p.1 := congrArg (fun y : CR => y.1) r_H2
  rw [kd] at ht
  rw [if_neg (by omega)]
  omega
theorem c_181y_s_4 : vOkm T0 (eP e_181y L_181y A_181y mu_181y none) 4 ([(0, [7], [], -1), (30, [6], [], 0), (1023, [6, 5], [2, 3], 0), (90, [6], [], 0), (91, [6], [], 1), (0, [3], [], 1), (51, [5], [], 0), (1195, [5, 4, 2], [1, 2], 0), (1194, [4, 0, 1], [0, 1], 0), (6000, [0, 1, 2, 3], [0], 0), (0, [0], [], 7), (90, [1], [], -2147483648), (91, [1], [], 2147483647), (90, [2], [], -2147483648), (91, [2], [], 2147483647), (90, [3], [], -2147483648), (91, [3], [], 2147483647)], (3000, [7], [3], 83)) := vOk_in fun ρ η h => by
  obtain ⟨f0, f1, f2, f3, f4, f5, f6, f7, f8, f9, f10, f11, f12, f13, f14, f15, f16, _⟩ := h
  exact q_181y_4 (n0 := ρ 3) (n1 := ρ 2) (n2 := ρ 1) (n3 := ρ 0) (n4 := ρ 4) (n5 := ρ 5) (n6 := ρ 6) (n7 := ρ 7) (H0 := η 0) (H1 := η 1) (H2 := η 2) (H3 := η 3) f16 f15 f14 f13 f12 f11 f10 f9 f8 f7 f6 f5 f4 f3 f2 f1 f0
theorem q_181y_5 {n0 n1 n2 n3 n4 n5 n6 n7 n8 n9 n10 : Int} {H0 H1 H2 H3 H4 : gH} (f0 : n0 ≤ 2147483647) (f1 : (-2147483648) ≤ n0) (f2 : n1 ≤ 2147483647) (f3 : (-2147483648) ≤ n1) (f4 : n2 ≤ 2147483647) (f5 : (-2147483648) ≤ n2) (f6 : n3 = 7) (f7 : hWt T0 H0 ∧ True) (f8 : (hLe T0 H0 H1 ∧ hFr s_194y.2.2.2.2 H0 H1 ∧ ((0 : Int) = 0 → H1.length = H0.length) ∧ hWt T0 H1) ∧ postb_194y n4 n3 n2 H0 H1) (f9 : (hLe T0 H1 H2 ∧ hFr s_195y.2.2.2.2 H1 H2 ∧ ((0 : Int) = 0 → H2.length = H1.length) ∧ hWt T0 H2) ∧ postb_195y n5 n4 n1 H1 H2) (f10 : 0 ≤ n5) (f11 : n0 = 1) (f12 : n6 ≤ 1) (f13 : 0 ≤ n6) (f14 : (hLe T0 H2 H3 ∧ hFr s_23y.2.2.2.2 H2 H3 ∧ ((0 : Int) = 0 → H3.length = H2.length) ∧ hWt T0 H3) ∧ postb_23y n6 n5 H2 H3) (f15 : n6 ≠ 0) (f16 : n7 = 23) (f17 : n7 = hV H3 (n3).toNat 7) (f18 : n8 ≤ 2147483647) (f19 : (-2147483648) ≤ n8) (f20 : hK H3 (n5).toNat = 1) (f21 : n8 = hV H3 (n5).toNat 4) (f22 : n9 ≤ 2147483647) (f23 : (-2147483648) ≤ n9) (f24 : hK H3 (n5).toNat = 1) (f25 : n9 = hV H3 (n5).toNat 5) (f26 : n10 ≤ 2147483647) (f27 : (-2147483648) ≤ n10) (f28 : (hLe T0 H3 H4 ∧ hFr s_8y.2.2.2.2 H3 H4 ∧ ((0 : Int) = 0 → H4.length = H3.length) ∧ hWt T0 H4) ∧ postb_8y n10 n7 n8 n9 H3 H4) : postb_181y n10 n3 n2 n1 n0 H0 H4 := by
  unfold postb_181y
  intro k79 k25
  have q := f8.2
  unfold postb_194y at q
  obtain ⟨q1, q2⟩ := q k79
  have d := f9.2
  unfold postb_195y at d
  obtain ⟨d1, d2⟩ := d
  refine ⟨fun w => ?_, fun p1 p2 E p3 z => ?_⟩
  · have e := q2 w
    have e2 := d1 e
    omega
  have e := q1 p1 p2
  have z1 : SHL H1 (n4).toNat E := by
    rw [e]
    exact SHL_keep z (SHo_fr f8.1.1 f8.1.2.1 (by decide +kernel)) (RWo_fr f8.1.1 f8.1.2.1 (by decide +kernel)) (CUo_fr f8.1.1 f8.1.2.1 (by decide +kernel))
  obtain ⟨v1, v2⟩ := d2 (by omega)
  have el := z1.2.2.2.1
  have e40 := z1.2.2.2.2.1
  refine ⟨fun w => ?_, fun p h0 hk g0 g4 => ?_⟩
  · have u := v2 (by rw [el]; exact w)
    omega
  have lt : (n1).toNat < E.length := (List.getElem?_eq_some_iff.mp hk).1
  obtain ⟨y1, y2, y3⟩ := z1.2.2.2.2.2.2 _ p hk
  have u := v1 h0 (by rw [el]; omega) (by omega)
  rw [z1.2.1, show (((n4).toNat : Nat) : Int) + 1 = (((n4).toNat + 1 : Nat) : Int) by omega, Int.toNat_natCast] at u
  rw [← u] at y1 y2 y3
  have k_H2 : hK H2 (n5).toNat = 1 := kLe f9.1.1 y2 rfl
  have r_H2 : recC H2 (n5).toNat = p := (recC_eq (fr1 f9.1.2.1 (by decide +kernel) y2)).trans y3
  have k_H3 : hK H3 (n5).toNat = 1 := kLe f14.1.1 k_H2 rfl
  have r_H3 : recC H3 (n5).toNat = p := (recC_eq (fr1 f14.1.2.1 (by decide +kernel) k_H2)).trans r_H2
  have k_H4 : hK H4 (n5).toNat = 1 := kLe f28.1.1 k_H3 rfl
  have r_H4 : recC H4 (n5).toNat = p := (recC_eq (fr1 f28.1.2.1 (by decide +kernel) k_H3)).trans r_H3
  have x21 : n8 = p.2.2.2.1 := f21.trans (congrArg (fun y : CR => y.2.2.2.1) r_H3)
  have x25 : n9 = p.2.2.2.2.1 := f25.trans (congrArg (fun y : CR => y.2.2.2.2.1) r_H3)
  unfold cuC
  have k3 := f11
  rw [if_neg (by omega), if_pos (by omega)]
  have ht := f14.2
  unfold postb_23y at ht
  have kd : hV H2 (n5).toNat 0 = p.1 := congrArg (fun y : CR => y.1) r_H2
  rw [kd] at ht
  rw [if_pos (by omega)]
  have fq := f28.2
  unfold postb_8y at fq
  have fq := fq (K25_le f14.1.1 (K25_le f9.1.1 (K25_le f8.1.1 k25)))
  rw [show hV H3 25 = hV H0 25 from (fRow f14.1.2.1 25 (by decide +kernel)).trans ((fRow f9.1.2.1 25 (by decide +kernel)).trans (fRow f8.1.2.1 25 (by decide +kernel))), x21, x25] at fq
  exact fq
theorem c_181y_s_5 : vOkm T0 (eP e_181y L_181y A_181y mu_181y none) 4 ([(1008, [10, 7, 8, 9], [3, 4], 0), (90, [10], [], -2147483648), (91, [10], [], 2147483647), (20, [9, 5], [3], 5), (23, [5], [3], 1), (90, [9], [], -2147483648), (91, [9], [], 2147483647), (20, [8, 5], [3], 4), (23, [5], [3], 1), (90, [8], [], -2147483648), (91, [8], [], 2147483647), (20, [7, 0], [3], 7), (0, [7], [], 23), (31, [6], [], 0), (1023, [6, 5], [2, 3], 0), (90, [6], [], 0), (91, [6], [], 1), (0, [3], [], 1), (51, [5], [], 0), (1195, [5, 4, 2], [1, 2], 0), (1194, [4, 0, 1], [0, 1], 0), (6000, [0, 1, 2, 3], [0], 0), (0, [0], [], 7), (90, [1], [], -2147483648), (91, [1], [], 2147483647), (90, [2], [], -2147483648), (91, [2], [], 2147483647), (90, [3], [], -2147483648), (91, [3], [], 2147483647)], (3000, [10], [4], 83)) := vOk_in fun ρ η h => by
  obtain ⟨f0, f1, f2, f3, f4, f5, f6, f7, f8, f9, f10, f11, f12, f13, f14, f15, f16, f17, f18, f19, f20, f21, f22, f23, f24, f25, f26, f27, f28, _⟩ := h
  exact q_181y_5 (n0 := ρ 3) (n1 := ρ 2) (n2 := ρ 1) (n3 := ρ 0) (n4 := ρ 4) (n5 := ρ 5) (n6 := ρ 6) (n7 := ρ 7) (n8 := ρ 8) (n9 := ρ 9) (n10 := ρ 10) (H0 := η 0) (H1 := η 1) (H2 := η 2) (H3 := η 3) (H4 := η 4) f28 f27 f26 f25 f24 f23 f22 f21 f20 f19 f18 f17 f16 f15 f14 f13 f12 f11 f10 f9 f8 f7 f6 f5 f4 f3 f2 f1 f0
theorem q_181y_6 {n0 n1 n2 n3 n4 n5 n6 n7 : Int} {H0 H1 H2 : gH} (f0 : n0 ≤ 2147483647) (f1 : (-2147483648) ≤ n0) (f2 : n1 ≤ 2147483647) (f3 : (-2147483648) ≤ n1) (f4 : n2 ≤ 2147483647) (f5 : (-2147483648) ≤ n2) (f6 : n3 = 7) (f7 : hWt T0 H0 ∧ True) (f8 : (hLe T0 H0 H1 ∧ hFr s_194y.2.2.2.2 H0 H1 ∧ ((0 : Int) = 0 → H1.length = H0.length) ∧ hWt T0 H1) ∧ postb_194y n4 n3 n2 H0 H1) (f9 : (hLe T0 H1 H2 ∧ hFr s_195y.2.2.2.2 H1 H2 ∧ ((0 : Int) = 0 → H2.length = H1.length) ∧ hWt T0 H2) ∧ postb_195y n5 n4 n1 H1 H2) (f10 : 0 ≤ n5) (f11 : n0 = 2) (f12 : n6 ≤ 2147483647) (f13 : (-2147483648) ≤ n6) (f14 : hK H2 (n5).toNat = 1) (f15 : n6 = hV H2 (n5).toNat 0) (f16 : n6 = 0) (f17 : n7 ≤ 2147483647) (f18 : (-2147483648) ≤ n7) (f19 : hK H2 (n5).toNat = 1) (f20 : n7 = hV H2 (n5).toNat 2) : postb_181y n7 n3 n2 n1 n0 H0 H2 := by
  unfold postb_181y
  intro k79 k25
  have q := f8.2
  unfold postb_194y at q
  obtain ⟨q1, q2⟩ := q k79
  have d := f9.2
  unfold postb_195y at d
  obtain ⟨d1, d2⟩ := d
  refine ⟨fun w => ?_, fun p1 p2 E p3 z => ?_⟩
  · have e := q2 w
    have e2 := d1 e
    omega
  have e := q1 p1 p2
  have z1 : SHL H1 (n4).toNat E := by
    rw [e]
    exact SHL_keep z (SHo_fr f8.1.1 f8.1.2.1 (by decide +kernel)) (RWo_fr f8.1.1 f8.1.2.1 (by decide +kernel)) (CUo_fr f8.1.1 f8.1.2.1 (by decide +kernel))
  obtain ⟨v1, v2⟩ := d2 (by omega)
  have el := z1.2.2.2.1
  have e40 := z1.2.2.2.2.1
  refine ⟨fun w => ?_, fun p h0 hk g0 g4 => ?_⟩
  · have u := v2 (by rw [el]; exact w)
    omega
  have lt : (n1).toNat < E.length := (List.getElem?_eq_some_iff.mp hk).1
  obtain ⟨y1, y2, y3⟩ := z1.2.2.2.2.2.2 _ p hk
  have u := v1 h0 (by rw [el]; omega) (by omega)
  rw [z1.2.1, show (((n4).toNat : Nat) : Int) + 1 = (((n4).toNat + 1 : Nat) : Int) by omega, Int.toNat_natCast] at u
  rw [← u] at y1 y2 y3
  have k_H2 : hK H2 (n5).toNat = 1 := kLe f9.1.1 y2 rfl
  have r_H2 : recC H2 (n5).toNat = p := (recC_eq (fr1 f9.1.2.1 (by decide +kernel) y2)).trans y3
  have x15 : n6 = p.1 := f15.trans (congrArg (fun y : CR => y.1) r_H2)
  have kd20 : hV H2 (n5).toNat 0 = p.1 := congrArg (fun y : CR => y.1) r_H2
  have x20 : n7 = p.2.2.1 := by
    have w : (if hV H2 (n5).toNat 0 = 0 ∨ hV H2 (n5).toNat 0 = 4 ∨ hV H2 (n5).toNat 0 = 5 then hV H2 (n5).toNat 2 else hV H2 (n5).toNat 3) = p.2.2.1 := congrArg (fun y : CR => y.2.2.1) r_H2
    rw [if_pos (by omega)] at w
    exact f20.trans w
  unfold cuC
  have k3 := f11
  rw [if_neg (by omega), if_neg (by omega), if_pos (by omega)]
  omega
theorem c_181y_s_6 : vOkm T0 (eP e_181y L_181y A_181y mu_181y none) 4 ([(20, [7, 5], [2], 2), (23, [5], [2], 1), (90, [7], [], -2147483648), (91, [7], [], 2147483647), (30, [6], [], 0), (20, [6, 5], [2], 0), (23, [5], [2], 1), (90, [6], [], -2147483648), (91, [6], [], 2147483647), (0, [3], [], 2), (51, [5], [], 0), (1195, [5, 4, 2], [1, 2], 0), (1194, [4, 0, 1], [0, 1], 0), (6000, [0, 1, 2, 3], [0], 0), (0, [0], [], 7), (90, [1], [], -2147483648), (91, [1], [], 2147483647), (90, [2], [], -2147483648), (91, [2], [], 2147483647), (90, [3], [], -2147483648), (91, [3], [], 2147483647)], (3000, [7], [2], 114)) := vOk_in fun ρ η h => by
  obtain ⟨f0, f1, f2, f3, f4, f5, f6, f7, f8, f9, f10, f11, f12, f13, f14, f15, f16, f17, f18, f19, f20, _⟩ := h
  exact q_181y_6 (n0 := ρ 3) (n1 := ρ 2) (n2 := ρ 1) (n3 := ρ 0) (n4 := ρ 4) (n5 := ρ 5) (n6 := ρ 6) (n7 := ρ 7) (H0 := η 0) (H1 := η 1) (H2 := η 2) f20 f19 f18 f17 f16 f15 f14 f13 f12 f11 f10 f9 f8 f7 f6 f5 f4 f3 f2 f1 f0
theorem q_181y_7 {n0 n1 n2 n3 n4 n5 n6 n7 n8 n9 : Int} {H0 H1 H2 : gH} (f0 : n0 ≤ 2147483647) (f1 : (-2147483648) ≤ n0) (f2 : n1 ≤ 2147483647) (f3 : (-2147483648) ≤ n1) (f4 : n2 ≤ 2147483647) (f5 : (-2147483648) ≤ n2) (f6 : n3 = 7) (f7 : hWt T0 H0 ∧ True) (f8 : (hLe T0 H0 H1 ∧ hFr s_194y.2.2.2.2 H0 H1 ∧ ((0 : Int) = 0 → H1.length = H0.length) ∧ hWt T0 H1) ∧ postb_194y n4 n3 n2 H0 H1) (f9 : (hLe T0 H1 H2 ∧ hFr s_195y.2.2.2.2 H1 H2 ∧ ((0 : Int) = 0 → H2.length = H1.length) ∧ hWt T0 H2) ∧ postb_195y n5 n4 n1 H1 H2) (f10 : 0 ≤ n5) (f11 : n0 = 2) (f12 : n6 ≤ 2147483647) (f13 : (-2147483648) ≤ n6) (f14 : hK H2 (n5).toNat = 1) (f15 : n6 = hV H2 (n5).toNat 0) (f16 : n6 ≠ 0) (f17 : n7 ≤ 2147483647) (f18 : (-2147483648) ≤ n7) (f19 : hK H2 (n5).toNat = 1) (f20 : n7 = hV H2 (n5).toNat 0) (f21 : n8 = 4) (f22 : n7 ≠ n8) (f23 : n9 ≤ 2147483647) (f24 : (-2147483648) ≤ n9) (f25 : hK H2 (n5).toNat = 1) (f26 : n9 = hV H2 (n5).toNat 3) : postb_181y n9 n3 n2 n1 n0 H0 H2 := by
  unfold postb_181y
  intro k79 k25
  have q := f8.2
  unfold postb_194y at q
  obtain ⟨q1, q2⟩ := q k79
  have d := f9.2
  unfold postb_195y at d
  obtain ⟨d1, d2⟩ := d
  refine ⟨fun w => ?_, fun p1 p2 E p3 z => ?_⟩
  · have e := q2 w
    have e2 := d1 e
    omega
  have e := q1 p1 p2
  have z1 : SHL H1 (n4).toNat E := by
    rw [e]
    exact SHL_keep z (SHo_fr f8.1.1 f8.1.2.1 (by decide +kernel)) (RWo_fr f8.1.1 f8.1.2.1 (by decide +kernel)) (CUo_fr f8.1.1 f8.1.2.1 (by decide +kernel))
  obtain ⟨v1, v2⟩ := d2 (by omega)
  have el := z1.2.2.2.1
  have e40 := z1.2.2.2.2.1
  refine ⟨fun w => ?_, fun p h0 hk g0 g4 => ?_⟩
  · have u := v2 (by rw [el]; exact w)
    omega
  have lt : (n1).toNat < E.length := (List.getElem?_eq_some_iff.mp hk).1
  obtain ⟨y1, y2, y3⟩ := z1.2.2.2.2.2.2 _ p hk
  have u := v1 h0 (by rw [el]; omega) (by omega)
  rw [z1.2.1, show (((n4).toNat : Nat) : Int) + 1 = (((n4).toNat + 1 : Nat) : Int) by omega, Int.toNat_natCast] at u
  rw [← u] at y1 y2 y3
  have k_H2 : hK H2 (n5).toNat = 1 := kLe f9.1.1 y2 rfl
  have r_H2 : recC H2 (n5).toNat = p := (recC_eq (fr1 f9.1.2.1 (by decide +kernel) y2)).trans y3
  have x15 : n6 = p.1 := f15.trans (congrArg (fun y : CR => y.1) r_H2)
  have x20 : n7 = p.1 := f20.trans (congrArg (fun y : CR => y.1) r_H2)
  have kd26 : hV H2 (n5).toNat 0 = p.1 := congrArg (fun y : CR => y.1) r_H2
  have x26 : n9 = p.2.2.1 := by
    have w : (if hV H2 (n5).toNat 0 = 0 ∨ hV H2 (n5).toNat 0 = 4 ∨ hV H2 (n5).toNat 0 = 5 then hV H2 (n5).toNat 2 else hV H2 (n5).toNat 3) = p.2.2.1 := congrArg (fun y : CR => y.2.2.1) r_H2
    rw [if_neg (by omega)] at w
    exact f26.trans w
  unfold cuC
  have k3 := f11
  rw [if_neg (by omega), if_neg (by omega), if_pos (by omega)]
  omega
theorem c_181y_s_7 : vOkm T0 (eP e_181y L_181y A_181y mu_181y none) 4 ([(20, [9, 5], [2], 3), (23, [5], [2], 1), (90, [9], [], -2147483648), (91, [9], [], 2147483647), (41, [7, 8], [], 0), (0, [8], [], 4), (20, [7, 5], [2], 0), (23, [5], [2], 1), (90, [7], [], -2147483648), (91, [7], [], 2147483647), (31, [6], [], 0), (20, [6, 5], [2], 0), (23, [5], [2], 1), (90, [6], [], -2147483648), (91, [6], [], 2147483647), (0, [3], [], 2), (51, [5], [], 0), (1195, [5, 4, 2], [1, 2], 0), (1194, [4, 0, 1], [0, 1], 0), (6000, [0, 1, 2, 3], [0], 0), (0, [0], [], 7), (90, [1], [], -2147483648), (91, [1], [], 2147483647), (90, [2], [], -2147483648), (91, [2], [], 2147483647), (90, [3], [], -2147483648), (91, [3], [], 2147483647)], (3000, [9], [2], 114)) := vOk_in fun ρ η h => by
  obtain ⟨f0, f1, f2, f3, f4, f5, f6, f7, f8, f9, f10, f11, f12, f13, f14, f15, f16, f17, f18, f19, f20, f21, f22, f23, f24, f25, f26, _⟩ := h
  exact q_181y_7 (n0 := ρ 3) (n1 := ρ 2) (n2 := ρ 1) (n3 := ρ 0) (n4 := ρ 4) (n5 := ρ 5) (n6 := ρ 6) (n7 := ρ 7) (n8 := ρ 8) (n9 := ρ 9) (H0 := η 0) (H1 := η 1) (H2 := η 2) f26 f25 f24 f23 f22 f21 f20 f19 f18 f17 f16 f15 f14 f13 f12 f11 f10 f9 f8 f7 f6 f5 f4 f3 f2 f1 f0
theorem q_181y_8 {n0 n1 n2 n3 n4 n5 n6 n7 n8 n9 : Int} {H0 H1 H2 : gH} (f0 : n0 ≤ 2147483647) (f1 : (-2147483648) ≤ n0) (f2 : n1 ≤ 2147483647) (f3 : (-2147483648) ≤ n1) (f4 : n2 ≤ 2147483647) (f5 : (-2147483648) ≤ n2) (f6 : n3 = 7) (f7 : hWt T0 H0 ∧ True) (f8 : (hLe T0 H0 H1 ∧ hFr s_194y.2.2.2.2 H0 H1 ∧ ((0 : Int) = 0 → H1.length = H0.length) ∧ hWt T0 H1) ∧ postb_194y n4 n3 n2 H0 H1) (f9 : (hLe T0 H1 H2 ∧ hFr s_195y.2.2.2.2 H1 H2 ∧ ((0 : Int) = 0 → H2.length = H1.length) ∧ hWt T0 H2) ∧ postb_195y n5 n4 n1 H1 H2) (f10 : 0 ≤ n5) (f11 : n0 = 2) (f12 : n6 ≤ 2147483647) (f13 : (-2147483648) ≤ n6) (f14 : hK H2 (n5).toNat = 1) (f15 : n6 = hV H2 (n5).toNat 0) (f16 : n6 ≠ 0) (f17 : n7 ≤ 2147483647) (f18 : (-2147483648) ≤ n7) (f19 : hK H2 (n5).toNat = 1) (f20 : n7 = hV H2 (n5).toNat 0) (f21 : n8 = 4) (f22 : n7 = n8) (f23 : n9 ≤ 2147483647) (f24 : (-2147483648) ≤ n9) (f25 : hK H2 (n5).toNat = 1) (f26 : n9 = hV H2 (n5).toNat 2) : postb_181y n9 n3 n2 n1 n0 H0 H2 := by
  unfold postb_181y
  intro k79 k25
  have q := f8.2
  unfold postb_194y at q
  obtain ⟨q1, q2⟩ := q k79
  have d := f9.2
  unfold postb_195y at d
  obtain ⟨d1, d2⟩ := d
  refine ⟨fun w => ?_, fun p1 p2 E p3 z => ?_⟩
  · have e := q2 w
    have e2 := d1 e
    omega
  have e := q1 p1 p2
  have z1 : SHL H1 (n4).toNat E := by
    rw [e]
    exact SHL_keep z (SHo_fr f8.1.1 f8.1.2.1 (by decide +kernel)) (RWo_fr f8.1.1 f8.1.2.1 (by decide +kernel)) (CUo_fr f8.1.1 f8.1.2.1 (by decide +kernel))
  obtain ⟨v1, v2⟩ := d2 (by omega)
  have el := z1.2.2.2.1
  have e40 := z1.2.2.2.2.1
  refine ⟨fun w => ?_, fun p h0 hk g0 g4 => ?_⟩
  · have u := v2 (by rw [el]; exact w)
    omega
  have lt : (n1).toNat < E.length := (List.getElem?_eq_some_iff.mp hk).1
  obtain ⟨y1, y2, y3⟩ := z1.2.2.2.2.2.2 _ p hk
  have u := v1 h0 (by rw [el]; omega) (by omega)
  rw [z1.2.1, show (((n4).toNat : Nat) : Int) + 1 = (((n4).toNat + 1 : Nat) : Int) by omega, Int.toNat_natCast] at u
  rw [← u] at y1 y2 y3
  have k_H2 : hK H2 (n5).toNat = 1 := kLe f9.1.1 y2 rfl
  have r_H2 : recC H2 (n5).toNat = p := (recC_eq (fr1 f9.1.2.1 (by decide +kernel) y2)).trans y3
  have x15 : n6 = p.1 := f15.trans (congrArg (fun y : CR => y.1) r_H2)
  have x20 : n7 = p.1 := f20.trans (congrArg (fun y : CR => y.1) r_H2)
  have kd26 : hV H2 (n5).toNat 0 = p.1 := congrArg (fun y : CR => y.1) r_H2
  have x26 : n9 = p.2.2.1 := by
    have w : (if hV H2 (n5).toNat 0 = 0 ∨ hV H2 (n5).toNat 0 = 4 ∨ hV H2 (n5).toNat 0 = 5 then hV H2 (n5).toNat 2 else hV H2 (n5).toNat 3) = p.2.2.1 := congrArg (fun y : CR => y.2.2.1) r_H2
    rw [if_pos (by omega)] at w
    exact f26.trans w
  unfold cuC
  have k3 := f11
  rw [if_neg (by omega), if_neg (by omega), if_pos (by omega)]
  omega
theorem c_181y_s_8 : vOkm T0 (eP e_181y L_181y A_181y mu_181y none) 4 ([(20, [9, 5], [2], 2), (23, [5], [2], 1), (90, [9], [], -2147483648), (91, [9], [], 2147483647), (40, [7, 8], [], 0), (0, [8], [], 4), (20, [7, 5], [2], 0), (23, [5], [2], 1), (90, [7], [], -2147483648), (91, [7], [], 2147483647), (31, [6], [], 0), (20, [6, 5], [2], 0), (23, [5], [2], 1), (90, [6], [], -2147483648), (91, [6], [], 2147483647), (0, [3], [], 2), (51, [5], [], 0), (1195, [5, 4, 2], [1, 2], 0), (1194, [4, 0, 1], [0, 1], 0), (6000, [0, 1, 2, 3], [0], 0), (0, [0], [], 7), (90, [1], [], -2147483648), (91, [1], [], 2147483647), (90, [2], [], -2147483648), (91, [2], [], 2147483647), (90, [3], [], -2147483648), (91, [3], [], 2147483647)], (3000, [9], [2], 114)) := vOk_in fun ρ η h => by
  obtain ⟨f0, f1, f2, f3, f4, f5, f6, f7, f8, f9, f10, f11, f12, f13, f14, f15, f16, f17, f18, f19, f20, f21, f22, f23, f24, f25, f26, _⟩ := h
  exact q_181y_8 (n0 := ρ 3) (n1 := ρ 2) (n2 := ρ 1) (n3 := ρ 0) (n4 := ρ 4) (n5 := ρ 5) (n6 := ρ 6) (n7 := ρ 7) (n8 := ρ 8) (n9 := ρ 9) (H0 := η 0) (H1 := η 1) (H2 := η 2) f26 f25 f24 f23 f22 f21 f20 f19 f18 f17 f16 f15 f14 f13 f12 f11 f10 f9 f8 f7 f6 f5 f4 f3 f2 f1 f0
theorem q_181y_9 {n0 n1 n2 n3 n4 n5 n6 : Int} {H0 H1 H2 : gH} (f0 : n0 ≤ 2147483647) (f1 : (-2147483648) ≤ n0) (f2 : n1 ≤ 2147483647) (f3 : (-2147483648) ≤ n1) (f4 : n2 ≤ 2147483647) (f5 : (-2147483648) ≤ n2) (f6 : n3 = 7) (f7 : hWt T0 H0 ∧ True) (f8 : (hLe T0 H0 H1 ∧ hFr s_194y.2.2.2.2 H0 H1 ∧ ((0 : Int) = 0 → H1.length = H0.length) ∧ hWt T0 H1) ∧ postb_194y n4 n3 n2 H0 H1) (f9 : (hLe T0 H1 H2 ∧ hFr s_195y.2.2.2.2 H1 H2 ∧ ((0 : Int) = 0 → H2.length = H1.length) ∧ hWt T0 H2) ∧ postb_195y n5 n4 n1 H1 H2) (f10 : 0 ≤ n5) (f11 : n0 = 3) (f12 : n6 ≤ 2147483647) (f13 : (-2147483648) ≤ n6) (f14 : hK H2 (n5).toNat = 1) (f15 : n6 = hV H2 (n5).toNat 1) : postb_181y n6 n3 n2 n1 n0 H0 H2 := by
  unfold postb_181y
  intro k79 k25
  have q := f8.2
  unfold postb_194y at q
  obtain ⟨q1, q2⟩ := q k79
  have d := f9.2
  unfold postb_195y at d
  obtain ⟨d1, d2⟩ := d
  refine ⟨fun w => ?_, fun p1 p2 E p3 z => ?_⟩
  · have e := q2 w
    have e2 := d1 e
    omega
  have e := q1 p1 p2
  have z1 : SHL H1 (n4).toNat E := by
    rw [e]
    exact SHL_keep z (SHo_fr f8.1.1 f8.1.2.1 (by decide +kernel)) (RWo_fr f8.1.1 f8.1.2.1 (by decide +kernel)) (CUo_fr f8.1.1 f8.1.2.1 (by decide +kernel))
  obtain ⟨v1, v2⟩ := d2 (by omega)
  have el := z1.2.2.2.1
  have e40 := z1.2.2.2.2.1
  refine ⟨fun w => ?_, fun p h0 hk g0 g4 => ?_⟩
  · have u := v2 (by rw [el]; exact w)
    omega
  have lt : (n1).toNat < E.length := (List.getElem?_eq_some_iff.mp hk).1
  obtain ⟨y1, y2, y3⟩ := z1.2.2.2.2.2.2 _ p hk
  have u := v1 h0 (by rw [el]; omega) (by omega)
  rw [z1.2.1, show (((n4).toNat : Nat) : Int) + 1 = (((n4).toNat + 1 : Nat) : Int) by omega, Int.toNat_natCast] at u
  rw [← u] at y1 y2 y3
  have k_H2 : hK H2 (n5).toNat = 1 := kLe f9.1.1 y2 rfl
  have r_H2 : recC H2 (n5).toNat = p := (recC_eq (fr1 f9.1.2.1 (by decide +kernel) y2)).trans y3
  have x15 : n6 = p.2.1 := f15.trans (congrArg (fun y : CR => y.2.1) r_H2)
  unfold cuC
  have k3 := f11
  rw [if_neg (by omega), if_neg (by omega), if_neg (by omega), if_pos (by omega)]
  omega
theorem c_181y_s_9 : vOkm T0 (eP e_181y L_181y A_181y mu_181y none) 4 ([(20, [6, 5], [2], 1), (23, [5], [2], 1), (90, [6], [], -2147483648), (91, [6], [], 2147483647), (0, [3], [], 3), (51, [5], [], 0), (1195, [5, 4, 2], [1, 2], 0), (1194, [4, 0, 1], [0, 1], 0), (6000, [0, 1, 2, 3], [0], 0), (0, [0], [], 7), (90, [1], [], -2147483648), (91, [1], [], 2147483647), (90, [2], [], -2147483648), (91, [2], [], 2147483647), (90, [3], [], -2147483648), (91, [3], [], 2147483647)], (3000, [6], [2], 120)) := vOk_in fun ρ η h => by
  obtain ⟨f0, f1, f2, f3, f4, f5, f6, f7, f8, f9, f10, f11, f12, f13, f14, f15, _⟩ := h
  exact q_181y_9 (n0 := ρ 3) (n1 := ρ 2) (n2 := ρ 1) (n3 := ρ 0) (n4 := ρ 4) (n5 := ρ 5) (n6 := ρ 6) (H0 := η 0) (H1 := η 1) (H2 := η 2) f15 f14 f13 f12 f11 f10 f9 f8 f7 f6 f5 f4 f3 f2 f1 f0
def p_181y_s : List vG := [([(0, [6], [], -1), (50, [5], [], 0), (1195, [5, 4, 2], [1, 2], 0), (1194, [4, 0, 1], [0, 1], 0), (6000, [0, 1, 2, 3], [0], 0), (0, [0], [], 7), (90, [1], [], -2147483648), (91, [1], [], 2147483647), (90, [2], [], -2147483648), (91, [2], [], 2147483647), (90, [3], [], -2147483648), (91, [3], [], 2147483647)], (3000, [6], [2], 17)),
  ([(0, [6], [], -1), (66, [3], [], 0), (51, [5], [], 0), (1195, [5, 4, 2], [1, 2], 0), (1194, [4, 0, 1], [0, 1], 0), (6000, [0, 1, 2, 3], [0], 0), (0, [0], [], 7), (90, [1], [], -2147483648), (91, [1], [], 2147483647), (90, [2], [], -2147483648), (91, [2], [], 2147483647), (90, [3], [], -2147483648), (91, [3], [], 2147483647)], (3000, [6], [2], 122)),
  ([(0, [6], [], -1), (67, [3], [], 3), (51, [5], [], 0), (1195, [5, 4, 2], [1, 2], 0), (1194, [4, 0, 1], [0, 1], 0), (6000, [0, 1, 2, 3], [0], 0), (0, [0], [], 7), (90, [1], [], -2147483648), (91, [1], [], 2147483647), (90, [2], [], -2147483648), (91, [2], [], 2147483647), (90, [3], [], -2147483648), (91, [3], [], 2147483647)], (3000, [6], [2], 122)),
  ([(20, [6, 5], [2], 0), (23, [5], [2], 1), (90, [6], [], -2147483648), (91, [6], [], 2147483647), (0, [3], [], 0), (51, [5], [], 0), (1195, [5, 4, 2], [1, 2], 0), (1194, [4, 0, 1], [0, 1], 0), (6000, [0, 1, 2, 3], [0], 0), (0, [0], [], 7), (90, [1], [], -2147483648), (91, [1], [], 2147483647), (90, [2], [], -2147483648), (91, [2], [], 2147483647), (90, [3], [], -2147483648), (91, [3], [], 2147483647)], (3000, [6], [2], 53)),
  ([(0, [7], [], -1), (30, [6], [], 0), (1023, [6, 5], [2, 3], 0), (90, [6], [], 0), (91, [6], [], 1), (0, [3], [], 1), (51, [5], [], 0), (1195, [5, 4, 2], [1, 2], 0), (1194, [4, 0, 1], [0, 1], 0), (6000, [0, 1, 2, 3], [0], 0), (0, [0], [], 7), (90, [1], [], -2147483648), (91, [1], [], 2147483647), (90, [2], [], -2147483648), (91, [2], [], 2147483647), (90, [3], [], -2147483648), (91, [3], [], 2147483647)], (3000, [7], [3], 83)),
  ([(1008, [10, 7, 8, 9], [3, 4], 0), (90, [10], [], -2147483648), (91, [10], [], 2147483647), (20, [9, 5], [3], 5), (23, [5], [3], 1), (90, [9], [], -2147483648), (91, [9], [], 2147483647), (20, [8, 5], [3], 4), (23, [5], [3], 1), (90, [8], [], -2147483648), (91, [8], [], 2147483647), (20, [7, 0], [3], 7), (0, [7], [], 23), (31, [6], [], 0), (1023, [6, 5], [2, 3], 0), (90, [6], [], 0), (91, [6], [], 1), (0, [3], [], 1), (51, [5], [], 0), (1195, [5, 4, 2], [1, 2], 0), (1194, [4, 0, 1], [0, 1], 0), (6000, [0, 1, 2, 3], [0], 0), (0, [0], [], 7), (90, [1], [], -2147483648), (91, [1], [], 2147483647), (90, [2], [], -2147483648), (91, [2], [], 2147483647), (90, [3], [], -2147483648), (91, [3], [], 2147483647)], (3000, [10], [4], 83)),
  ([(20, [7, 5], [2], 2), (23, [5], [2], 1), (90, [7], [], -2147483648), (91, [7], [], 2147483647), (30, [6], [], 0), (20, [6, 5], [2], 0), (23, [5], [2], 1), (90, [6], [], -2147483648), (91, [6], [], 2147483647), (0, [3], [], 2), (51, [5], [], 0), (1195, [5, 4, 2], [1, 2], 0), (1194, [4, 0, 1], [0, 1], 0), (6000, [0, 1, 2, 3], [0], 0), (0, [0], [], 7), (90, [1], [], -2147483648), (91, [1], [], 2147483647), (90, [2], [], -2147483648), (91, [2], [], 2147483647), (90, [3], [], -2147483648), (91, [3], [], 2147483647)], (3000, [7], [2], 114)),
  ([(20, [9, 5], [2], 3), (23, [5], [2], 1), (90, [9], [], -2147483648), (91, [9], [], 2147483647), (41, [7, 8], [], 0), (0, [8], [], 4), (20, [7, 5], [2], 0), (23, [5], [2], 1), (90, [7], [], -2147483648), (91, [7], [], 2147483647), (31, [6], [], 0), (20, [6, 5], [2], 0), (23, [5], [2], 1), (90, [6], [], -2147483648), (91, [6], [], 2147483647), (0, [3], [], 2), (51, [5], [], 0), (1195, [5, 4, 2], [1, 2], 0), (1194, [4, 0, 1], [0, 1], 0), (6000, [0, 1, 2, 3], [0], 0), (0, [0], [], 7), (90, [1], [], -2147483648), (91, [1], [], 2147483647), (90, [2], [], -2147483648), (91, [2], [], 2147483647), (90, [3], [], -2147483648), (91, [3], [], 2147483647)], (3000, [9], [2], 114)),
  ([(20, [9, 5], [2], 2), (23, [5], [2], 1), (90, [9], [], -2147483648), (91, [9], [], 2147483647), (40, [7, 8], [], 0), (0, [8], [], 4), (20, [7, 5], [2], 0), (23, [5], [2], 1), (90, [7], [], -2147483648), (91, [7], [], 2147483647), (31, [6], [], 0), (20, [6, 5], [2], 0), (23, [5], [2], 1), (90, [6], [], -2147483648), (91, [6], [], 2147483647), (0, [3], [], 2), (51, [5], [], 0), (1195, [5, 4, 2], [1, 2], 0), (1194, [4, 0, 1], [0, 1], 0), (6000, [0, 1, 2, 3], [0], 0), (0, [0], [], 7), (90, [1], [], -2147483648), (91, [1], [], 2147483647), (90, [2], [], -2147483648), (91, [2], [], 2147483647), (90, [3], [], -2147483648), (91, [3], [], 2147483647)], (3000, [9], [2], 114)),
  ([(20, [6, 5], [2], 1), (23, [5], [2], 1), (90, [6], [], -2147483648), (91, [6], [], 2147483647), (0, [3], [], 3), (51, [5], [], 0), (1195, [5, 4, 2], [1, 2], 0), (1194, [4, 0, 1], [0, 1], 0), (6000, [0, 1, 2, 3], [0], 0), (0, [0], [], 7), (90, [1], [], -2147483648), (91, [1], [], 2147483647), (90, [2], [], -2147483648), (91, [2], [], 2147483647), (90, [3], [], -2147483648), (91, [3], [], 2147483647)], (3000, [6], [2], 120))]
theorem r_181y_s : vCovO false (eR0 e_181y L_181y cs_181y 2000) p_181y_s = true := by decide +kernel
theorem m_181y (d : Nat) : eC e_181y (d + 3) := eC_ok (e := e_181y) (L := L_181y) (cs := cs_181y) (n := 2000) (d := d + 2) (A := A_181y) (μ := mu_181y) (tp := false) (p0 := p_181y_s) rfl ⟨m_8y d, ⟨m_23y (d + 1), ⟨m_194y (d + 1), ⟨m_195y d, trivial⟩⟩⟩⟩ rfl (.inr pre0_ok) (by decide +kernel) (fun z => nomatch z) r_181y_s (allC c_181y_s_0 (allC c_181y_s_1 (allC c_181y_s_2 (allC c_181y_s_3 (allC c_181y_s_4 (allC c_181y_s_5 (allC c_181y_s_6 (allC c_181y_s_7 (allC c_181y_s_8 (allC c_181y_s_9 allN)))))))))) allN
