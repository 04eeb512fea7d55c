/- MixStage.at ([II)I -/
noncomputable def s_199vk700 : vM := ([(2, 700, -1, 0), (0, -2147483648, 2147483647, 0)], (0, -2147483648, 2147483647, 0), 0, 0, [])
def postb_199vk700 (r a0 a1 : Int) (h0 h : gH) : Prop := r = atQ h0 a0 a1
def post_199vk700 : List Int → gH → gH → Prop := fun xs h0 h => match xs with
  | [r, a0, a1] => postb_199vk700 r a0 a1 h0 h
  | _ => True
noncomputable def e_199vk700 : vE := (199, s_199vk700, pre0, post_199vk700)
noncomputable def L_199vk700 : List vE := []
def cs_199vk700 : List vC := []
def A_199vk700 : Int → List Int → gH → gH → Prop := fun c xs h0 h => True
def mu_199vk700 : Int → List Int → gH → gH → Nat := fun c xs h0 h => 0
theorem q_199vk700_0 {n0 n1 n2 : Int} {H0 : gH} (f0 : n0 ≤ 2147483647) (f1 : (-2147483648) ≤ n0) (f2 : hWt T0 H0 ∧ True) (f3 : n1 = -1) (f4 : n2 = 0) : postb_199vk700 n2 n1 n0 H0 H0 := by
  unfold postb_199vk700

  unfold atQ
  first
  | (rw [if_neg (by omega)] <;> omega)
  | (rw [if_pos (by omega)] <;> omega)
theorem c_199vk700_s_0 : vOkm T0 (eP e_199vk700 L_199vk700 A_199vk700 mu_199vk700 none) 2 ([(0, [2], [], 0), (50, [0], [], 0), (6000, [0, 1], [0], 0), (90, [1], [], -2147483648), (91, [1], [], 2147483647)], (3000, [2], [0], 21)) := vOk_in fun ρ η h => by
  obtain ⟨f0, f1, f2, f3, f4, _⟩ := h
  exact q_199vk700_0 (n0 := ρ 1) (n1 := ρ 0) (n2 := ρ 2) (H0 := η 0) f4 f3 f2 f1 f0
theorem q_199vk700_1 {n0 n1 n2 : Int} {H0 : gH} (f0 : n0 ≤ 2147483647) (f1 : (-2147483648) ≤ n0) (f2 : hWt T0 H0 ∧ True) (f3 : 0 ≤ n1) (f4 : n0 < 0) (f5 : n2 = 0) : postb_199vk700 n2 n1 n0 H0 H0 := by
  unfold postb_199vk700

  unfold atQ
  first
  | (rw [if_neg (by omega)] <;> omega)
  | (rw [if_pos (by omega)] <;> omega)
theorem c_199vk700_s_1 : vOkm T0 (eP e_199vk700 L_199vk700 A_199vk700 mu_199vk700 none) 2 ([(0, [2], [], 0), (32, [1], [], 0), (51, [0], [], 0), (6000, [0, 1], [0], 0), (90, [1], [], -2147483648), (91, [1], [], 2147483647)], (3000, [2], [0], 21)) := vOk_in fun ρ η h => by
  obtain ⟨f0, f1, f2, f3, f4, f5, _⟩ := h
  exact q_199vk700_1 (n0 := ρ 1) (n1 := ρ 0) (n2 := ρ 2) (H0 := η 0) f5 f4 f3 f2 f1 f0
theorem q_199vk700_2 {n0 n1 n2 n3 : Int} {H0 : gH} (f0 : n0 ≤ 2147483647) (f1 : (-2147483648) ≤ n0) (f2 : hWt T0 H0 ∧ True) (f3 : 0 ≤ n1) (f4 : 0 ≤ n0) (f5 : n2 = (hN H0 (n1).toNat : Int)) (f6 : n0 < n2) (f7 : n3 ≤ 2147483647) (f8 : (-2147483648) ≤ n3) (f9 : n3 = hV H0 (n1).toNat (n0).toNat) : postb_199vk700 n3 n1 n0 H0 H0 := by
  unfold postb_199vk700

  unfold atQ
  first
  | (rw [if_neg (by omega)] <;> omega)
  | (rw [if_pos (by omega)] <;> omega)
theorem c_199vk700_s_2 : vOkm T0 (eP e_199vk700 L_199vk700 A_199vk700 mu_199vk700 none) 2 ([(22, [3, 0, 1], [0], 0), (90, [3], [], -2147483648), (91, [3], [], 2147483647), (42, [1, 2], [], 0), (21, [2, 0], [0], 0), (33, [1], [], 0), (51, [0], [], 0), (6000, [0, 1], [0], 0), (90, [1], [], -2147483648), (91, [1], [], 2147483647)], (3000, [3], [0], 21)) := vOk_in fun ρ η h => by
  obtain ⟨f0, f1, f2, f3, f4, f5, f6, f7, f8, f9, _⟩ := h
  exact q_199vk700_2 (n0 := ρ 1) (n1 := ρ 0) (n2 := ρ 2) (n3 := ρ 3) (H0 := η 0) f9 f8 f7 f6 f5 f4 f3 f2 f1 f0
theorem q_199vk700_3 {n0 n1 n2 n3 : Int} {H0 : gH} (f0 : n0 ≤ 2147483647) (f1 : (-2147483648) ≤ n0) (f2 : hWt T0 H0 ∧ True) (f3 : 0 ≤ n1) (f4 : 0 ≤ n0) (f5 : n2 = (hN H0 (n1).toNat : Int)) (f6 : n2 ≤ n0) (f7 : n3 = 0) : postb_199vk700 n3 n1 n0 H0 H0 := by
  unfold postb_199vk700

  unfold atQ
  first
  | (rw [if_neg (by omega)] <;> omega)
  | (rw [if_pos (by omega)] <;> omega)
theorem c_199vk700_s_3 : vOkm T0 (eP e_199vk700 L_199vk700 A_199vk700 mu_199vk700 none) 2 ([(0, [3], [], 0), (43, [1, 2], [], 0), (21, [2, 0], [0], 0), (33, [1], [], 0), (51, [0], [], 0), (6000, [0, 1], [0], 0), (90, [1], [], -2147483648), (91, [1], [], 2147483647)], (3000, [3], [0], 21)) := vOk_in fun ρ η h => by
  obtain ⟨f0, f1, f2, f3, f4, f5, f6, f7, _⟩ := h
  exact q_199vk700_3 (n0 := ρ 1) (n1 := ρ 0) (n2 := ρ 2) (n3 := ρ 3) (H0 := η 0) f7 f6 f5 f4 f3 f2 f1 f0
def p_199vk700_s : List vG := [([(0, [2], [], 0), (50, [0], [], 0), (6000, [0, 1], [0], 0), (90, [1], [], -2147483648), (91, [1], [], 2147483647)], (3000, [2], [0], 21)),
  ([(0, [2], [], 0), (32, [1], [], 0), (51, [0], [], 0), (6000, [0, 1], [0], 0), (90, [1], [], -2147483648), (91, [1], [], 2147483647)], (3000, [2], [0], 21)),
  ([(22, [3, 0, 1], [0], 0), (90, [3], [], -2147483648), (91, [3], [], 2147483647), (42, [1, 2], [], 0), (21, [2, 0], [0], 0), (33, [1], [], 0), (51, [0], [], 0), (6000, [0, 1], [0], 0), (90, [1], [], -2147483648), (91, [1], [], 2147483647)], (3000, [3], [0], 21)),
  ([(0, [3], [], 0), (43, [1, 2], [], 0), (21, [2, 0], [0], 0), (33, [1], [], 0), (51, [0], [], 0), (6000, [0, 1], [0], 0), (90, [1], [], -2147483648), (91, [1], [], 2147483647)], (3000, [3], [0], 21))]
theorem r_199vk700_s : vCovO false (eR0 e_199vk700 L_199vk700 cs_199vk700 2000) p_199vk700_s = true := by decide +kernel
theorem m_199vk700 (d : Nat) : eC e_199vk700 (d + 1) := eC_ok (e := e_199vk700) (L := L_199vk700) (cs := cs_199vk700) (n := 2000) (d := d + 0) (A := A_199vk700) (μ := mu_199vk700) (tp := false) (p0 := p_199vk700_s) rfl trivial rfl (.inr pre0_ok) (by decide +kernel) (fun z => nomatch z) r_199vk700_s (allC c_199vk700_s_0 (allC c_199vk700_s_1 (allC c_199vk700_s_2 (allC c_199vk700_s_3 allN)))) allN
/- MixStage.put ([III)V -/
noncomputable def s_201vk692 : vM := ([(2, 692, -1, 0), (0, -2147483648, 2147483647, 0), (0, -2147483648, 2147483647, 0)], (9, 0, 0, 0), 0, 0, [(692, 0)])
def postb_201vk692 (a0 a1 a2 : Int) (h0 h : gH) : Prop := putQ a0 a1 a2 h0 h
def post_201vk692 : List Int → gH → gH → Prop := fun xs h0 h => match xs with
  | [a0, a1, a2] => postb_201vk692 a0 a1 a2 h0 h
  | _ => True
noncomputable def e_201vk692 : vE := (201, s_201vk692, pre0, post_201vk692)
noncomputable def L_201vk692 : List vE := []
def cs_201vk692 : List vC := []
def A_201vk692 : Int → List Int → gH → gH → Prop := fun c xs h0 h => True
def mu_201vk692 : Int → List Int → gH → gH → Nat := fun c xs h0 h => 0
theorem q_201vk692_0 {n0 n1 n2 : Int} {H0 : gH} (f0 : n0 ≤ 2147483647) (f1 : (-2147483648) ≤ n0) (f2 : n1 ≤ 2147483647) (f3 : (-2147483648) ≤ n1) (f4 : hWt T0 H0 ∧ True) (f5 : n2 = -1) : postb_201vk692 n2 n1 n0 H0 H0 := by
  unfold postb_201vk692

  exact putQ_same (by omega)
theorem c_201vk692_s_0 : vOkm T0 (eP e_201vk692 L_201vk692 A_201vk692 mu_201vk692 none) 3 ([(50, [0], [], 0), (6000, [0, 1, 2], [0], 0), (90, [1], [], -2147483648), (91, [1], [], 2147483647), (90, [2], [], -2147483648), (91, [2], [], 2147483647)], (3000, [], [0], 18)) := vOk_in fun ρ η h => by
  obtain ⟨f0, f1, f2, f3, f4, f5, _⟩ := h
  exact q_201vk692_0 (n0 := ρ 2) (n1 := ρ 1) (n2 := ρ 0) (H0 := η 0) f5 f4 f3 f2 f1 f0
theorem q_201vk692_1 {n0 n1 n2 : Int} {H0 : gH} (f0 : n0 ≤ 2147483647) (f1 : (-2147483648) ≤ n0) (f2 : n1 ≤ 2147483647) (f3 : (-2147483648) ≤ n1) (f4 : hWt T0 H0 ∧ True) (f5 : 0 ≤ n2) (f6 : n1 < 0) : postb_201vk692 n2 n1 n0 H0 H0 := by
  unfold postb_201vk692

  exact putQ_same (by omega)
theorem c_201vk692_s_1 : vOkm T0 (eP e_201vk692 L_201vk692 A_201vk692 mu_201vk692 none) 3 ([(32, [1], [], 0), (51, [0], [], 0), (6000, [0, 1, 2], [0], 0), (90, [1], [], -2147483648), (91, [1], [], 2147483647), (90, [2], [], -2147483648), (91, [2], [], 2147483647)], (3000, [], [0], 18)) := vOk_in fun ρ η h => by
  obtain ⟨f0, f1, f2, f3, f4, f5, f6, _⟩ := h
  exact q_201vk692_1 (n0 := ρ 2) (n1 := ρ 1) (n2 := ρ 0) (H0 := η 0) f6 f5 f4 f3 f2 f1 f0
theorem q_201vk692_2 {n0 n1 n2 n3 : Int} {H0 : gH} (f0 : n0 ≤ 2147483647) (f1 : (-2147483648) ≤ n0) (f2 : n1 ≤ 2147483647) (f3 : (-2147483648) ≤ n1) (f4 : hWt T0 H0 ∧ True) (f5 : 0 ≤ n2) (f6 : 0 ≤ n1) (f7 : n3 = (hN H0 (n2).toNat : Int)) (f8 : n3 ≤ n1) : postb_201vk692 n2 n1 n0 H0 H0 := by
  unfold postb_201vk692

  exact putQ_same (by omega)
theorem c_201vk692_s_2 : vOkm T0 (eP e_201vk692 L_201vk692 A_201vk692 mu_201vk692 none) 3 ([(43, [1, 3], [], 0), (21, [3, 0], [0], 0), (33, [1], [], 0), (51, [0], [], 0), (6000, [0, 1, 2], [0], 0), (90, [1], [], -2147483648), (91, [1], [], 2147483647), (90, [2], [], -2147483648), (91, [2], [], 2147483647)], (3000, [], [0], 18)) := vOk_in fun ρ η h => by
  obtain ⟨f0, f1, f2, f3, f4, f5, f6, f7, f8, _⟩ := h
  exact q_201vk692_2 (n0 := ρ 2) (n1 := ρ 1) (n2 := ρ 0) (n3 := ρ 3) (H0 := η 0) f8 f7 f6 f5 f4 f3 f2 f1 f0
theorem q_201vk692_3 {n0 n1 n2 n3 : Int} {H0 H1 : gH} (f0 : n0 ≤ 2147483647) (f1 : (-2147483648) ≤ n0) (f2 : n1 ≤ 2147483647) (f3 : (-2147483648) ≤ n1) (f4 : hWt T0 H0 ∧ True) (f5 : 0 ≤ n2) (f6 : 0 ≤ n1) (f7 : n3 = (hN H0 (n2).toNat : Int)) (f8 : n1 < n3) (f9 : hK H0 (n2).toNat = 692) (f10 : hUpd H1 H0 n2 n1 n0) : postb_201vk692 n2 n1 n0 H0 H1 := by
  unfold postb_201vk692

  exact putQ_upd f10 (by omega)
theorem c_201vk692_s_3 : vOkm T0 (eP e_201vk692 L_201vk692 A_201vk692 mu_201vk692 none) 3 ([(80, [0, 1, 2], [1, 0], 0), (23, [0], [0], 692), (42, [1, 3], [], 0), (21, [3, 0], [0], 0), (33, [1], [], 0), (51, [0], [], 0), (6000, [0, 1, 2], [0], 0), (90, [1], [], -2147483648), (91, [1], [], 2147483647), (90, [2], [], -2147483648), (91, [2], [], 2147483647)], (3000, [], [1], 18)) := vOk_in fun ρ η h => by
  obtain ⟨f0, f1, f2, f3, f4, f5, f6, f7, f8, f9, f10, _⟩ := h
  exact q_201vk692_3 (n0 := ρ 2) (n1 := ρ 1) (n2 := ρ 0) (n3 := ρ 3) (H0 := η 0) (H1 := η 1) f10 f9 f8 f7 f6 f5 f4 f3 f2 f1 f0
def p_201vk692_s : List vG := [([(50, [0], [], 0), (6000, [0, 1, 2], [0], 0), (90, [1], [], -2147483648), (91, [1], [], 2147483647), (90, [2], [], -2147483648), (91, [2], [], 2147483647)], (3000, [], [0], 18)),
  ([(32, [1], [], 0), (51, [0], [], 0), (6000, [0, 1, 2], [0], 0), (90, [1], [], -2147483648), (91, [1], [], 2147483647), (90, [2], [], -2147483648), (91, [2], [], 2147483647)], (3000, [], [0], 18)),
  ([(43, [1, 3], [], 0), (21, [3, 0], [0], 0), (33, [1], [], 0), (51, [0], [], 0), (6000, [0, 1, 2], [0], 0), (90, [1], [], -2147483648), (91, [1], [], 2147483647), (90, [2], [], -2147483648), (91, [2], [], 2147483647)], (3000, [], [0], 18)),
  ([(80, [0, 1, 2], [1, 0], 0), (23, [0], [0], 692), (42, [1, 3], [], 0), (21, [3, 0], [0], 0), (33, [1], [], 0), (51, [0], [], 0), (6000, [0, 1, 2], [0], 0), (90, [1], [], -2147483648), (91, [1], [], 2147483647), (90, [2], [], -2147483648), (91, [2], [], 2147483647)], (3000, [], [1], 18))]
theorem r_201vk692_s : vCovO false (eR0 e_201vk692 L_201vk692 cs_201vk692 2000) p_201vk692_s = true := by decide +kernel
theorem m_201vk692 (d : Nat) : eC e_201vk692 (d + 1) := eC_ok (e := e_201vk692) (L := L_201vk692) (cs := cs_201vk692) (n := 2000) (d := d + 0) (A := A_201vk692) (μ := mu_201vk692) (tp := false) (p0 := p_201vk692_s) rfl trivial rfl (.inr pre0_ok) (by decide +kernel) (fun z => nomatch z) r_201vk692_s (allC c_201vk692_s_0 (allC c_201vk692_s_1 (allC c_201vk692_s_2 (allC c_201vk692_s_3 allN)))) allN
/- MixStage.put ([III)V -/
noncomputable def s_201vk700 : vM := ([(2, 700, -1, 0), (0, -2147483648, 2147483647, 0), (0, -2147483648, 2147483647, 0)], (9, 0, 0, 0), 0, 0, [(700, 0)])
def postb_201vk700 (a0 a1 a2 : Int) (h0 h : gH) : Prop := putQ a0 a1 a2 h0 h
def post_201vk700 : List Int → gH → gH → Prop := fun xs h0 h => match xs with
  | [a0, a1, a2] => postb_201vk700 a0 a1 a2 h0 h
  | _ => True
noncomputable def e_201vk700 : vE := (201, s_201vk700, pre0, post_201vk700)
noncomputable def L_201vk700 : List vE := []
def cs_201vk700 : List vC := []
def A_201vk700 : Int → List Int → gH → gH → Prop := fun c xs h0 h => True
def mu_201vk700 : Int → List Int → gH → gH → Nat := fun c xs h0 h => 0
theorem q_201vk700_0 {n0 n1 n2 : Int} {H0 : gH} (f0 : n0 ≤ 2147483647) (f1 : (-2147483648) ≤ n0) (f2 : n1 ≤ 2147483647) (f3 : (-2147483648) ≤ n1) (f4 : hWt T0 H0 ∧ True) (f5 : n2 = -1) : postb_201vk700 n2 n1 n0 H0 H0 := by
  unfold postb_201vk700

  exact putQ_same (by omega)
theorem c_201vk700_s_0 : vOkm T0 (eP e_201vk700 L_201vk700 A_201vk700 mu_201vk700 none) 3 ([(50, [0], [], 0), (6000, [0, 1, 2], [0], 0), (90, [1], [], -2147483648), (91, [1], [], 2147483647), (90, [2], [], -2147483648), (91, [2], [], 2147483647)], (3000, [], [0], 18)) := vOk_in fun ρ η h => by
  obtain ⟨f0, f1, f2, f3, f4, f5, _⟩ := h
  exact q_201vk700_0 (n0 := ρ 2) (n1 := ρ 1) (n2 := ρ 0) (H0 := η 0) f5 f4 f3 f2 f1 f0
theorem q_201vk700_1 {n0 n1 n2 : Int} {H0 : gH} (f0 : n0 ≤ 2147483647) (f1 : (-2147483648) ≤ n0) (f2 : n1 ≤ 2147483647) (f3 : (-2147483648) ≤ n1) (f4 : hWt T0 H0 ∧ True) (f5 : 0 ≤ n2) (f6 : n1 < 0) : postb_201vk700 n2 n1 n0 H0 H0 := by
  unfold postb_201vk700

  exact putQ_same (by omega)
theorem c_201vk700_s_1 : vOkm T0 (eP e_201vk700 L_201vk700 A_201vk700 mu_201vk700 none) 3 ([(32, [1], [], 0), (51, [0], [], 0), (6000, [0, 1, 2], [0], 0), (90, [1], [], -2147483648), (91, [1], [], 2147483647), (90, [2], [], -2147483648), (91, [2], [], 2147483647)], (3000, [], [0], 18)) := vOk_in fun ρ η h => by
  obtain ⟨f0, f1, f2, f3, f4, f5, f6, _⟩ := h
  exact q_201vk700_1 (n0 := ρ 2) (n1 := ρ 1) (n2 := ρ 0) (H0 := η 0) f6 f5 f4 f3 f2 f1 f0
theorem q_201vk700_2 {n0 n1 n2 n3 : Int} {H0 : gH} (f0 : n0 ≤ 2147483647) (f1 : (-2147483648) ≤ n0) (f2 : n1 ≤ 2147483647) (f3 : (-2147483648) ≤ n1) (f4 : hWt T0 H0 ∧ True) (f5 : 0 ≤ n2) (f6 : 0 ≤ n1) (f7 : n3 = (hN H0 (n2).toNat : Int)) (f8 : n3 ≤ n1) : postb_201vk700 n2 n1 n0 H0 H0 := by
  unfold postb_201vk700

  exact putQ_same (by omega)
theorem c_201vk700_s_2 : vOkm T0 (eP e_201vk700 L_201vk700 A_201vk700 mu_201vk700 none) 3 ([(43, [1, 3], [], 0), (21, [3, 0], [0], 0), (33, [1], [], 0), (51, [0], [], 0), (6000, [0, 1, 2], [0], 0), (90, [1], [], -2147483648), (91, [1], [], 2147483647), (90, [2], [], -2147483648), (91, [2], [], 2147483647)], (3000, [], [0], 18)) := vOk_in fun ρ η h => by
  obtain ⟨f0, f1, f2, f3, f4, f5, f6, f7, f8, _⟩ := h
  exact q_201vk700_2 (n0 := ρ 2) (n1 := ρ 1) (n2 := ρ 0) (n3 := ρ 3) (H0 := η 0) f8 f7 f6 f5 f4 f3 f2 f1 f0
theorem q_201vk700_3 {n0 n1 n2 n3 : Int} {H0 H1 : gH} (f0 : n0 ≤ 2147483647) (f1 : (-2147483648) ≤ n0) (f2 : n1 ≤ 2147483647) (f3 : (-2147483648) ≤ n1) (f4 : hWt T0 H0 ∧ True) (f5 : 0 ≤ n2) (f6 : 0 ≤ n1) (f7 : n3 = (hN H0 (n2).toNat : Int)) (f8 : n1 < n3) (f9 : hK H0 (n2).toNat = 700) (f10 : hUpd H1 H0 n2 n1 n0) : postb_201vk700 n2 n1 n0 H0 H1 := by
  unfold postb_201vk700

  exact putQ_upd f10 (by omega)
theorem c_201vk700_s_3 : vOkm T0 (eP e_201vk700 L_201vk700 A_201vk700 mu_201vk700 none) 3 ([(80, [0, 1, 2], [1, 0], 0), (23, [0], [0], 700), (42, [1, 3], [], 0), (21, [3, 0], [0], 0), (33, [1], [], 0), (51, [0], [], 0), (6000, [0, 1, 2], [0], 0), (90, [1], [], -2147483648), (91, [1], [], 2147483647), (90, [2], [], -2147483648), (91, [2], [], 2147483647)], (3000, [], [1], 18)) := vOk_in fun ρ η h => by
  obtain ⟨f0, f1, f2, f3, f4, f5, f6, f7, f8, f9, f10, _⟩ := h
  exact q_201vk700_3 (n0 := ρ 2) (n1 := ρ 1) (n2 := ρ 0) (n3 := ρ 3) (H0 := η 0) (H1 := η 1) f10 f9 f8 f7 f6 f5 f4 f3 f2 f1 f0
def p_201vk700_s : List vG := [([(50, [0], [], 0), (6000, [0, 1, 2], [0], 0), (90, [1], [], -2147483648), (91, [1], [], 2147483647), (90, [2], [], -2147483648), (91, [2], [], 2147483647)], (3000, [], [0], 18)),
  ([(32, [1], [], 0), (51, [0], [], 0), (6000, [0, 1, 2], [0], 0), (90, [1], [], -2147483648), (91, [1], [], 2147483647), (90, [2], [], -2147483648), (91, [2], [], 2147483647)], (3000, [], [0], 18)),
  ([(43, [1, 3], [], 0), (21, [3, 0], [0], 0), (33, [1], [], 0), (51, [0], [], 0), (6000, [0, 1, 2], [0], 0), (90, [1], [], -2147483648), (91, [1], [], 2147483647), (90, [2], [], -2147483648), (91, [2], [], 2147483647)], (3000, [], [0], 18)),
  ([(80, [0, 1, 2], [1, 0], 0), (23, [0], [0], 700), (42, [1, 3], [], 0), (21, [3, 0], [0], 0), (33, [1], [], 0), (51, [0], [], 0), (6000, [0, 1, 2], [0], 0), (90, [1], [], -2147483648), (91, [1], [], 2147483647), (90, [2], [], -2147483648), (91, [2], [], 2147483647)], (3000, [], [1], 18))]
theorem r_201vk700_s : vCovO false (eR0 e_201vk700 L_201vk700 cs_201vk700 2000) p_201vk700_s = true := by decide +kernel
theorem m_201vk700 (d : Nat) : eC e_201vk700 (d + 1) := eC_ok (e := e_201vk700) (L := L_201vk700) (cs := cs_201vk700) (n := 2000) (d := d + 0) (A := A_201vk700) (μ := mu_201vk700) (tp := false) (p0 := p_201vk700_s) rfl trivial rfl (.inr pre0_ok) (by decide +kernel) (fun z => nomatch z) r_201vk700_s (allC c_201vk700_s_0 (allC c_201vk700_s_1 (allC c_201vk700_s_2 (allC c_201vk700_s_3 allN)))) allN
/- Picture.has (I)Z -/
noncomputable def s_51v : vM := ([(3, 3, 19, 0), (0, -2147483648, 2147483647, 0)], (0, 0, 1, 0), 1, 0, [])
def preb_51v (a0 a1 : Int) (h : gH) : Prop := True
def pre_51v : List Int → gH → Prop := fun xs h => match xs with
  | [a0, a1] => preb_51v a0 a1 h
  | _ => False
def postb_51v (r a0 a1 : Int) (h0 h : gH) : Prop := r = if 0 ≤ a1 ∧ a1 < hV h0 19 3 then 1 else 0
def post_51v : List Int → gH → gH → Prop := fun xs h0 h => match xs with
  | [r, a0, a1] => postb_51v r a0 a1 h0 h
  | _ => True
noncomputable def e_51v : vE := (51, s_51v, pre_51v, post_51v)
noncomputable def L_51v : List vE := []
def cs_51v : List vC := []
def A_51v : Int → List Int → gH → gH → Prop := fun c xs h0 h => True
def mu_51v : Int → List Int → gH → gH → Nat := fun c xs h0 h => 0
theorem q_51v_0 {n0 n1 n2 : Int} {H0 : gH} (f0 : n0 ≤ 2147483647) (f1 : (-2147483648) ≤ n0) (f2 : n1 = 19) (f3 : hWt T0 H0 ∧ preb_51v n1 n0 H0) (f4 : n0 < 0) (f5 : n2 = 0) : postb_51v n2 n1 n0 H0 H0 := by
  unfold postb_51v
  split <;> omega
theorem c_51v_s_0 : vOkm T0 (eP e_51v L_51v A_51v mu_51v none) 2 ([(0, [2], [], 0), (32, [1], [], 0), (6000, [0, 1], [0], 0), (0, [0], [], 19), (90, [1], [], -2147483648), (91, [1], [], 2147483647)], (3000, [2], [0], 17)) := vOk_in fun ρ η h => by
  obtain ⟨f0, f1, f2, f3, f4, f5, _⟩ := h
  exact q_51v_0 (n0 := ρ 1) (n1 := ρ 0) (n2 := ρ 2) (H0 := η 0) f5 f4 f3 f2 f1 f0
theorem q_51v_1 {n0 n1 n2 n3 : Int} {H0 : gH} (f0 : n0 ≤ 2147483647) (f1 : (-2147483648) ≤ n0) (f2 : n1 = 19) (f3 : hWt T0 H0 ∧ preb_51v n1 n0 H0) (f4 : 0 ≤ n0) (f5 : n2 ≤ 2147483647) (f6 : (-2147483648) ≤ n2) (f7 : n2 = hV H0 (n1).toNat 3) (f8 : n2 ≤ n0) (f9 : n3 = 0) : postb_51v n3 n1 n0 H0 H0 := by
  have r7 := f7
  rw [f2] at r7
  rw [show ((19 : Int)).toNat = 19 from rfl] at r7
  unfold postb_51v
  split <;> omega
theorem c_51v_s_1 : vOkm T0 (eP e_51v L_51v A_51v mu_51v none) 2 ([(0, [3], [], 0), (43, [1, 2], [], 0), (20, [2, 0], [0], 3), (90, [2], [], -2147483648), (91, [2], [], 2147483647), (33, [1], [], 0), (6000, [0, 1], [0], 0), (0, [0], [], 19), (90, [1], [], -2147483648), (91, [1], [], 2147483647)], (3000, [3], [0], 17)) := vOk_in fun ρ η h => by
  obtain ⟨f0, f1, f2, f3, f4, f5, f6, f7, f8, f9, _⟩ := h
  exact q_51v_1 (n0 := ρ 1) (n1 := ρ 0) (n2 := ρ 2) (n3 := ρ 3) (H0 := η 0) f9 f8 f7 f6 f5 f4 f3 f2 f1 f0
theorem q_51v_2 {n0 n1 n2 n3 : Int} {H0 : gH} (f0 : n0 ≤ 2147483647) (f1 : (-2147483648) ≤ n0) (f2 : n1 = 19) (f3 : hWt T0 H0 ∧ preb_51v n1 n0 H0) (f4 : 0 ≤ n0) (f5 : n2 ≤ 2147483647) (f6 : (-2147483648) ≤ n2) (f7 : n2 = hV H0 (n1).toNat 3) (f8 : n0 < n2) (f9 : n3 = 1) : postb_51v n3 n1 n0 H0 H0 := by
  have r7 := f7
  rw [f2] at r7
  rw [show ((19 : Int)).toNat = 19 from rfl] at r7
  unfold postb_51v
  split <;> omega
theorem c_51v_s_2 : vOkm T0 (eP e_51v L_51v A_51v mu_51v none) 2 ([(0, [3], [], 1), (42, [1, 2], [], 0), (20, [2, 0], [0], 3), (90, [2], [], -2147483648), (91, [2], [], 2147483647), (33, [1], [], 0), (6000, [0, 1], [0], 0), (0, [0], [], 19), (90, [1], [], -2147483648), (91, [1], [], 2147483647)], (3000, [3], [0], 17)) := vOk_in fun ρ η h => by
  obtain ⟨f0, f1, f2, f3, f4, f5, f6, f7, f8, f9, _⟩ := h
  exact q_51v_2 (n0 := ρ 1) (n1 := ρ 0) (n2 := ρ 2) (n3 := ρ 3) (H0 := η 0) f9 f8 f7 f6 f5 f4 f3 f2 f1 f0
def p_51v_s : List vG := [([(0, [2], [], 0), (32, [1], [], 0), (6000, [0, 1], [0], 0), (0, [0], [], 19), (90, [1], [], -2147483648), (91, [1], [], 2147483647)], (3000, [2], [0], 17)),
  ([(0, [3], [], 0), (43, [1, 2], [], 0), (20, [2, 0], [0], 3), (90, [2], [], -2147483648), (91, [2], [], 2147483647), (33, [1], [], 0), (6000, [0, 1], [0], 0), (0, [0], [], 19), (90, [1], [], -2147483648), (91, [1], [], 2147483647)], (3000, [3], [0], 17)),
  ([(0, [3], [], 1), (42, [1, 2], [], 0), (20, [2, 0], [0], 3), (90, [2], [], -2147483648), (91, [2], [], 2147483647), (33, [1], [], 0), (6000, [0, 1], [0], 0), (0, [0], [], 19), (90, [1], [], -2147483648), (91, [1], [], 2147483647)], (3000, [3], [0], 17))]
theorem r_51v_s : vCovO false (eR0 e_51v L_51v cs_51v 2000) p_51v_s = true := by decide +kernel
theorem m_51v (d : Nat) : eC e_51v (d + 1) := eC_ok (e := e_51v) (L := L_51v) (cs := cs_51v) (n := 2000) (d := d + 0) (A := A_51v) (μ := mu_51v) (tp := false) (p0 := p_51v_s) rfl trivial rfl (.inl rfl) (by decide +kernel) (fun z => nomatch z) r_51v_s (allC c_51v_s_0 (allC c_51v_s_1 (allC c_51v_s_2 allN))) allN
/- Picture.last ()I -/
noncomputable def s_52v : vM := ([(3, 3, 19, 0)], (0, -2147483648, 2147483647, 0), 1, 0, [])
def preb_52v (a0 : Int) (h : gH) : Prop := 1 ≤ hV h 19 3 ∧ hV h 19 3 ≤ 7
def pre_52v : List Int → gH → Prop := fun xs h => match xs with
  | [a0] => preb_52v a0 h
  | _ => False
def postb_52v (r a0 : Int) (h0 h : gH) : Prop := r = hV h0 19 3 - 1
def post_52v : List Int → gH → gH → Prop := fun xs h0 h => match xs with
  | [r, a0] => postb_52v r a0 h0 h
  | _ => True
noncomputable def e_52v : vE := (52, s_52v, pre_52v, post_52v)
noncomputable def L_52v : List vE := []
def cs_52v : List vC := []
def A_52v : Int → List Int → gH → gH → Prop := fun c xs h0 h => True
def mu_52v : Int → List Int → gH → gH → Nat := fun c xs h0 h => 0
theorem q_52v_0 {n0 n1 n2 n3 : Int} {H0 : gH} (f0 : n0 = 19) (f1 : hWt T0 H0 ∧ preb_52v n0 H0) (f2 : n1 ≤ 2147483647) (f3 : (-2147483648) ≤ n1) (f4 : n1 = hV H0 (n0).toNat 3) (f5 : n2 = 1) (f6 : n3 = w32 (n1 - n2)) : postb_52v n3 n0 H0 H0 := by
  have pz := f1.2
  unfold preb_52v at pz
  obtain ⟨p1, p2⟩ := pz
  have r4 := f4
  rw [f0] at r4
  rw [show ((19 : Int)).toNat = 19 from rfl] at r4
  have wq6 := f6
  unfold w32 at wq6
  unfold postb_52v
  omega
theorem c_52v_s_0 : vOkm T0 (eP e_52v L_52v A_52v mu_52v none) 1 ([(2, [3, 1, 2], [], 0), (0, [2], [], 1), (20, [1, 0], [0], 3), (90, [1], [], -2147483648), (91, [1], [], 2147483647), (6000, [0], [0], 0), (0, [0], [], 19)], (3000, [3], [0], 6)) := vOk_in fun ρ η h => by
  obtain ⟨f0, f1, f2, f3, f4, f5, f6, _⟩ := h
  exact q_52v_0 (n0 := ρ 0) (n1 := ρ 1) (n2 := ρ 2) (n3 := ρ 3) (H0 := η 0) f6 f5 f4 f3 f2 f1 f0
def p_52v_s : List vG := [([(2, [3, 1, 2], [], 0), (0, [2], [], 1), (20, [1, 0], [0], 3), (90, [1], [], -2147483648), (91, [1], [], 2147483647), (6000, [0], [0], 0), (0, [0], [], 19)], (3000, [3], [0], 6))]
theorem r_52v_s : vCovO false (eR0 e_52v L_52v cs_52v 2000) p_52v_s = true := by decide +kernel
theorem m_52v (d : Nat) : eC e_52v (d + 1) := eC_ok (e := e_52v) (L := L_52v) (cs := cs_52v) (n := 2000) (d := d + 0) (A := A_52v) (μ := mu_52v) (tp := false) (p0 := p_52v_s) rfl trivial rfl (.inl rfl) (by decide +kernel) (fun z => nomatch z) r_52v_s (allC c_52v_s_0 allN) allN
/- Picture.sizeOf (I)I -/
noncomputable def s_53v : vM := ([(3, 3, 19, 0), (0, -2147483648, 2147483647, 0)], (0, -2147483648, 2147483647, 0), 1, 0, [])
def preb_53v (a0 a1 : Int) (h : gH) : Prop := KM h
def pre_53v : List Int → gH → Prop := fun xs h => match xs with
  | [a0, a1] => preb_53v a0 a1 h
  | _ => False
def postb_53v (r a0 a1 : Int) (h0 h : gH) : Prop := r = if 0 ≤ a1 ∧ a1 < 6 then hV h0 20 (a1).toNat else 0
def post_53v : List Int → gH → gH → Prop := fun xs h0 h => match xs with
  | [r, a0, a1] => postb_53v r a0 a1 h0 h
  | _ => True
noncomputable def e_53v : vE := (53, s_53v, pre_53v, post_53v)
noncomputable def L_53v : List vE := [e_199vk700]
def cs_53v : List vC := []
def A_53v : Int → List Int → gH → gH → Prop := fun c xs h0 h => True
def mu_53v : Int → List Int → gH → gH → Nat := fun c xs h0 h => 0
theorem q_53v_0 {n0 n1 n2 n3 : Int} {H0 H1 : gH} (f0 : n0 ≤ 2147483647) (f1 : (-2147483648) ≤ n0) (f2 : n1 = 19) (f3 : hWt T0 H0 ∧ preb_53v n1 n0 H0) (f4 : n2 = 20) (f5 : n2 = hV H0 (n1).toNat 0) (f6 : n3 ≤ 2147483647) (f7 : (-2147483648) ≤ n3) (f8 : (hLe T0 H0 H1 ∧ hFr s_199vk700.2.2.2.2 H0 H1 ∧ ((0 : Int) = 0 → H1.length = H0.length) ∧ hWt T0 H1) ∧ postb_199vk700 n3 n2 n0 H0 H1) : postb_53v n3 n1 n0 H0 H1 := by
  have pz := f3.2
  unfold preb_53v at pz
  have q := f8.2
  unfold postb_199vk700 at q
  unfold postb_53v
  exact atQ_r (q := 20) (n := 6) q f4 pz.2.1.2
theorem c_53v_s_0 : vOkm T0 (eP e_53v L_53v A_53v mu_53v none) 2 ([(1199, [3, 2, 1], [0, 1], 0), (90, [3], [], -2147483648), (91, [3], [], 2147483647), (20, [2, 0], [0], 0), (0, [2], [], 20), (6000, [0, 1], [0], 0), (0, [0], [], 19), (90, [1], [], -2147483648), (91, [1], [], 2147483647)], (3000, [3], [1], 8)) := vOk_in fun ρ η h => by
  obtain ⟨f0, f1, f2, f3, f4, f5, f6, f7, f8, _⟩ := h
  exact q_53v_0 (n0 := ρ 1) (n1 := ρ 0) (n2 := ρ 2) (n3 := ρ 3) (H0 := η 0) (H1 := η 1) f8 f7 f6 f5 f4 f3 f2 f1 f0
def p_53v_s : List vG := [([(1199, [3, 2, 1], [0, 1], 0), (90, [3], [], -2147483648), (91, [3], [], 2147483647), (20, [2, 0], [0], 0), (0, [2], [], 20), (6000, [0, 1], [0], 0), (0, [0], [], 19), (90, [1], [], -2147483648), (91, [1], [], 2147483647)], (3000, [3], [1], 8))]
theorem r_53v_s : vCovO false (eR0 e_53v L_53v cs_53v 2000) p_53v_s = true := by decide +kernel
theorem m_53v (d : Nat) : eC e_53v (d + 2) := eC_ok (e := e_53v) (L := L_53v) (cs := cs_53v) (n := 2000) (d := d + 1) (A := A_53v) (μ := mu_53v) (tp := false) (p0 := p_53v_s) rfl ⟨m_199vk700 d, trivial⟩ rfl (.inl rfl) (by decide +kernel) (fun z => nomatch z) r_53v_s (allC c_53v_s_0 allN) allN
/- Picture.resize (I)Z -/
noncomputable def s_54v : vM := ([(3, 3, 19, 0), (0, -2147483648, 2147483647, 0)], (0, 0, 1, 0), 1, 0, [(700, 0)])
def preb_54v (a0 a1 : Int) (h : gH) : Prop := KM h
def pre_54v : List Int → gH → Prop := fun xs h => match xs with
  | [a0, a1] => preb_54v a0 a1 h
  | _ => False
def postb_54v (r a0 a1 : Int) (h0 h : gH) : Prop := KM h ∧ (hV h0 19 3 ≤ 1 ∧ 1 ≤ a1 ∧ a1 ≤ 60 → r = 1 ∧ hV h 20 = uF (hV h0 20) 0 a1) ∧ (¬ (hV h0 19 3 ≤ 1 ∧ 1 ≤ a1 ∧ a1 ≤ 60) → r = 0 ∧ hV h 20 = hV h0 20) ∧ hV h 21 = hV h0 21 ∧ hV h 22 = hV h0 22
def post_54v : List Int → gH → gH → Prop := fun xs h0 h => match xs with
  | [r, a0, a1] => postb_54v r a0 a1 h0 h
  | _ => True
noncomputable def e_54v : vE := (54, s_54v, pre_54v, post_54v)
noncomputable def L_54v : List vE := [e_201vk700]
def cs_54v : List vC := []
def A_54v : Int → List Int → gH → gH → Prop := fun c xs h0 h => True
def mu_54v : Int → List Int → gH → gH → Nat := fun c xs h0 h => 0
theorem q_54v_0 {n0 n1 n2 n3 n4 : Int} {H0 : gH} (f0 : n0 ≤ 2147483647) (f1 : (-2147483648) ≤ n0) (f2 : n1 = 19) (f3 : hWt T0 H0 ∧ preb_54v n1 n0 H0) (f4 : n2 ≤ 2147483647) (f5 : (-2147483648) ≤ n2) (f6 : n2 = hV H0 (n1).toNat 3) (f7 : n3 = 1) (f8 : n3 < n2) (f9 : n4 = 0) : postb_54v n4 n1 n0 H0 H0 := by
  have pz := f3.2
  unfold preb_54v at pz
  have r6 := f6
  rw [f2] at r6
  rw [show ((19 : Int)).toNat = 19 from rfl] at r6
  unfold postb_54v
  exact ⟨pz, fun w => by omega, fun _ => ⟨by omega, rfl⟩, rfl, rfl⟩
theorem c_54v_s_0 : vOkm T0 (eP e_54v L_54v A_54v mu_54v none) 2 ([(0, [4], [], 0), (44, [2, 3], [], 0), (0, [3], [], 1), (20, [2, 0], [0], 3), (90, [2], [], -2147483648), (91, [2], [], 2147483647), (6000, [0, 1], [0], 0), (0, [0], [], 19), (90, [1], [], -2147483648), (91, [1], [], 2147483647)], (3000, [4], [0], 20)) := vOk_in fun ρ η h => by
  obtain ⟨f0, f1, f2, f3, f4, f5, f6, f7, f8, f9, _⟩ := h
  exact q_54v_0 (n0 := ρ 1) (n1 := ρ 0) (n2 := ρ 2) (n3 := ρ 3) (n4 := ρ 4) (H0 := η 0) f9 f8 f7 f6 f5 f4 f3 f2 f1 f0
theorem q_54v_1 {n0 n1 n2 n3 n4 n5 : Int} {H0 : gH} (f0 : n0 ≤ 2147483647) (f1 : (-2147483648) ≤ n0) (f2 : n1 = 19) (f3 : hWt T0 H0 ∧ preb_54v n1 n0 H0) (f4 : n2 ≤ 2147483647) (f5 : (-2147483648) ≤ n2) (f6 : n2 = hV H0 (n1).toNat 3) (f7 : n3 = 1) (f8 : n2 ≤ n3) (f9 : n4 = 1) (f10 : n0 < n4) (f11 : n5 = 0) : postb_54v n5 n1 n0 H0 H0 := by
  have pz := f3.2
  unfold preb_54v at pz
  have r6 := f6
  rw [f2] at r6
  rw [show ((19 : Int)).toNat = 19 from rfl] at r6
  unfold postb_54v
  exact ⟨pz, fun w => by omega, fun _ => ⟨by omega, rfl⟩, rfl, rfl⟩
theorem c_54v_s_1 : vOkm T0 (eP e_54v L_54v A_54v mu_54v none) 2 ([(0, [5], [], 0), (42, [1, 4], [], 0), (0, [4], [], 1), (45, [2, 3], [], 0), (0, [3], [], 1), (20, [2, 0], [0], 3), (90, [2], [], -2147483648), (91, [2], [], 2147483647), (6000, [0, 1], [0], 0), (0, [0], [], 19), (90, [1], [], -2147483648), (91, [1], [], 2147483647)], (3000, [5], [0], 20)) := vOk_in fun ρ η h => by
  obtain ⟨f0, f1, f2, f3, f4, f5, f6, f7, f8, f9, f10, f11, _⟩ := h
  exact q_54v_1 (n0 := ρ 1) (n1 := ρ 0) (n2 := ρ 2) (n3 := ρ 3) (n4 := ρ 4) (n5 := ρ 5) (H0 := η 0) f11 f10 f9 f8 f7 f6 f5 f4 f3 f2 f1 f0
theorem q_54v_2 {n0 n1 n2 n3 n4 n5 n6 n7 n8 : Int} {H0 H1 : gH} (f0 : n0 ≤ 2147483647) (f1 : (-2147483648) ≤ n0) (f2 : n1 = 19) (f3 : hWt T0 H0 ∧ preb_54v n1 n0 H0) (f4 : n2 ≤ 2147483647) (f5 : (-2147483648) ≤ n2) (f6 : n2 = hV H0 (n1).toNat 3) (f7 : n3 = 1) (f8 : n2 ≤ n3) (f9 : n4 = 1) (f10 : n4 ≤ n0) (f11 : n5 = 60) (f12 : n0 ≤ n5) (f13 : n6 = 20) (f14 : n6 = hV H0 (n1).toNat 0) (f15 : n7 = 0) (f16 : (hLe T0 H0 H1 ∧ hFr s_201vk700.2.2.2.2 H0 H1 ∧ ((0 : Int) = 0 → H1.length = H0.length) ∧ hWt T0 H1) ∧ postb_201vk700 n6 n7 n0 H0 H1) (f17 : n8 = 1) : postb_54v n8 n1 n0 H0 H1 := by
  have pz := f3.2
  unfold preb_54v at pz
  have r6 := f6
  rw [f2] at r6
  rw [show ((19 : Int)).toNat = 19 from rfl] at r6
  have r14 := f14
  rw [f2] at r14
  rw [show ((19 : Int)).toNat = 19 from rfl] at r14
  unfold postb_54v
  have q := f16.2
  unfold postb_201vk700 at q
  have e := putQ_r (q := 20) (n := 6) q f13 pz.2.1.2 (by omega)
  rw [f15] at e
  exact ⟨KM_le f16.1.1 pz, fun _ => ⟨by omega, e⟩, fun w => absurd ⟨by omega, by omega, by omega⟩ w, putQ_ne q 21 (by rw [f13]; decide), putQ_ne q 22 (by rw [f13]; decide)⟩
theorem c_54v_s_2 : vOkm T0 (eP e_54v L_54v A_54v mu_54v none) 2 ([(0, [8], [], 1), (1201, [6, 7, 1], [0, 1], 0), (0, [7], [], 0), (20, [6, 0], [0], 0), (0, [6], [], 20), (45, [1, 5], [], 0), (0, [5], [], 60), (43, [1, 4], [], 0), (0, [4], [], 1), (45, [2, 3], [], 0), (0, [3], [], 1), (20, [2, 0], [0], 3), (90, [2], [], -2147483648), (91, [2], [], 2147483647), (6000, [0, 1], [0], 0), (0, [0], [], 19), (90, [1], [], -2147483648), (91, [1], [], 2147483647)], (3000, [8], [1], 31)) := vOk_in fun ρ η h => by
  obtain ⟨f0, f1, f2, f3, f4, f5, f6, f7, f8, f9, f10, f11, f12, f13, f14, f15, f16, f17, _⟩ := h
  exact q_54v_2 (n0 := ρ 1) (n1 := ρ 0) (n2 := ρ 2) (n3 := ρ 3) (n4 := ρ 4) (n5 := ρ 5) (n6 := ρ 6) (n7 := ρ 7) (n8 := ρ 8) (H0 := η 0) (H1 := η 1) f17 f16 f15 f14 f13 f12 f11 f10 f9 f8 f7 f6 f5 f4 f3 f2 f1 f0
theorem q_54v_3 {n0 n1 n2 n3 n4 n5 n6 : Int} {H0 : gH} (f0 : n0 ≤ 2147483647) (f1 : (-2147483648) ≤ n0) (f2 : n1 = 19) (f3 : hWt T0 H0 ∧ preb_54v n1 n0 H0) (f4 : n2 ≤ 2147483647) (f5 : (-2147483648) ≤ n2) (f6 : n2 = hV H0 (n1).toNat 3) (f7 : n3 = 1) (f8 : n2 ≤ n3) (f9 : n4 = 1) (f10 : n4 ≤ n0) (f11 : n5 = 60) (f12 : n5 < n0) (f13 : n6 = 0) : postb_54v n6 n1 n0 H0 H0 := by
  have pz := f3.2
  unfold preb_54v at pz
  have r6 := f6
  rw [f2] at r6
  rw [show ((19 : Int)).toNat = 19 from rfl] at r6
  unfold postb_54v
  exact ⟨pz, fun w => by omega, fun _ => ⟨by omega, rfl⟩, rfl, rfl⟩
theorem c_54v_s_3 : vOkm T0 (eP e_54v L_54v A_54v mu_54v none) 2 ([(0, [6], [], 0), (44, [1, 5], [], 0), (0, [5], [], 60), (43, [1, 4], [], 0), (0, [4], [], 1), (45, [2, 3], [], 0), (0, [3], [], 1), (20, [2, 0], [0], 3), (90, [2], [], -2147483648), (91, [2], [], 2147483647), (6000, [0, 1], [0], 0), (0, [0], [], 19), (90, [1], [], -2147483648), (91, [1], [], 2147483647)], (3000, [6], [0], 20)) := vOk_in fun ρ η h => by
  obtain ⟨f0, f1, f2, f3, f4, f5, f6, f7, f8, f9, f10, f11, f12, f13, _⟩ := h
  exact q_54v_3 (n0 := ρ 1) (n1 := ρ 0) (n2 := ρ 2) (n3 := ρ 3) (n4 := ρ 4) (n5 := ρ 5) (n6 := ρ 6) (H0 := η 0) f13 f12 f11 f10 f9 f8 f7 f6 f5 f4 f3 f2 f1 f0
def p_54v_s : List vG := [([(0, [4], [], 0), (44, [2, 3], [], 0), (0, [3], [], 1), (20, [2, 0], [0], 3), (90, [2], [], -2147483648), (91, [2], [], 2147483647), (6000, [0, 1], [0], 0), (0, [0], [], 19), (90, [1], [], -2147483648), (91, [1], [], 2147483647)], (3000, [4], [0], 20)),
  ([(0, [5], [], 0), (42, [1, 4], [], 0), (0, [4], [], 1), (45, [2, 3], [], 0), (0, [3], [], 1), (20, [2, 0], [0], 3), (90, [2], [], -2147483648), (91, [2], [], 2147483647), (6000, [0, 1], [0], 0), (0, [0], [], 19), (90, [1], [], -2147483648), (91, [1], [], 2147483647)], (3000, [5], [0], 20)),
  ([(0, [8], [], 1), (1201, [6, 7, 1], [0, 1], 0), (0, [7], [], 0), (20, [6, 0], [0], 0), (0, [6], [], 20), (45, [1, 5], [], 0), (0, [5], [], 60), (43, [1, 4], [], 0), (0, [4], [], 1), (45, [2, 3], [], 0), (0, [3], [], 1), (20, [2, 0], [0], 3), (90, [2], [], -2147483648), (91, [2], [], 2147483647), (6000, [0, 1], [0], 0), (0, [0], [], 19), (90, [1], [], -2147483648), (91, [1], [], 2147483647)], (3000, [8], [1], 31)),
  ([(0, [6], [], 0), (44, [1, 5], [], 0), (0, [5], [], 60), (43, [1, 4], [], 0), (0, [4], [], 1), (45, [2, 3], [], 0), (0, [3], [], 1), (20, [2, 0], [0], 3), (90, [2], [], -2147483648), (91, [2], [], 2147483647), (6000, [0, 1], [0], 0), (0, [0], [], 19), (90, [1], [], -2147483648), (91, [1], [], 2147483647)], (3000, [6], [0], 20))]
theorem r_54v_s : vCovO false (eR0 e_54v L_54v cs_54v 2000) p_54v_s = true := by decide +kernel
theorem m_54v (d : Nat) : eC e_54v (d + 2) := eC_ok (e := e_54v) (L := L_54v) (cs := cs_54v) (n := 2000) (d := d + 1) (A := A_54v) (μ := mu_54v) (tp := false) (p0 := p_54v_s) rfl ⟨m_201vk700 d, trivial⟩ rfl (.inl rfl) (by decide +kernel) (fun z => nomatch z) r_54v_s (allC c_54v_s_0 (allC c_54v_s_1 (allC c_54v_s_2 (allC c_54v_s_3 allN)))) allN
/- Picture.begin ()I -/
noncomputable def s_55v : vM := ([(3, 3, 19, 0)], (0, -2147483648, 2147483647, 0), 1, 0, [(3, 3)])
def preb_55v (a0 : Int) (h : gH) : Prop := KM h ∧ MT (mC h)
def pre_55v : List Int → gH → Prop := fun xs h => match xs with
  | [a0] => preb_55v a0 h
  | _ => False
def postb_55v (r a0 : Int) (h0 h : gH) : Prop := (6 ≤ hV h0 19 3 ∨ hV h0 20 (hV h0 19 3 - 1).toNat = 0 → r = -1 ∧ hV h 19 3 = hV h0 19 3) ∧ (¬ (6 ≤ hV h0 19 3 ∨ hV h0 20 (hV h0 19 3 - 1).toNat = 0) → r = hV h0 19 3 ∧ hV h 19 3 = hV h0 19 3 + 1)
def post_55v : List Int → gH → gH → Prop := fun xs h0 h => match xs with
  | [r, a0] => postb_55v r a0 h0 h
  | _ => True
noncomputable def e_55v : vE := (55, s_55v, pre_55v, post_55v)
noncomputable def L_55v : List vE := [e_52v, e_53v]
def cs_55v : List vC := []
def A_55v : Int → List Int → gH → gH → Prop := fun c xs h0 h => True
def mu_55v : Int → List Int → gH → gH → Nat := fun c xs h0 h => 0
theorem q_55v_0 {n0 n1 n2 n3 : Int} {H0 : gH} (f0 : n0 = 19) (f1 : hWt T0 H0 ∧ preb_55v n0 H0) (f2 : n1 ≤ 2147483647) (f3 : (-2147483648) ≤ n1) (f4 : n1 = hV H0 (n0).toNat 3) (f5 : n2 = 6) (f6 : n2 ≤ n1) (f7 : n3 = (-1)) : postb_55v n3 n0 H0 H0 := by
  have pz := f1.2
  unfold preb_55v at pz
  obtain ⟨mf, ms, me, m20, m21, m22, mz⟩ := MTc pz.2
  have r4 := f4
  rw [f0] at r4
  rw [show ((19 : Int)).toNat = 19 from rfl] at r4
  unfold postb_55v
  exact ⟨fun w => by omega, fun w => by omega⟩
theorem c_55v_s_0 : vOkm T0 (eP e_55v L_55v A_55v mu_55v none) 1 ([(0, [3], [], -1), (43, [1, 2], [], 0), (0, [2], [], 6), (20, [1, 0], [0], 3), (90, [1], [], -2147483648), (91, [1], [], 2147483647), (6000, [0], [0], 0), (0, [0], [], 19)], (3000, [3], [0], 21)) := vOk_in fun ρ η h => by
  obtain ⟨f0, f1, f2, f3, f4, f5, f6, f7, _⟩ := h
  exact q_55v_0 (n0 := ρ 0) (n1 := ρ 1) (n2 := ρ 2) (n3 := ρ 3) (H0 := η 0) f7 f6 f5 f4 f3 f2 f1 f0
theorem q_55v_1 {n0 n1 n2 : Int} {H0 : gH} (f0 : n0 = 19) (f1 : hWt T0 H0 ∧ preb_55v n0 H0) (f2 : n1 ≤ 2147483647) (f3 : (-2147483648) ≤ n1) (f4 : n1 = hV H0 (n0).toNat 3) (f5 : n2 = 6) (f6 : n1 < n2) : preb_52v n0 H0 := by
  have pz := f1.2
  unfold preb_55v at pz
  obtain ⟨mf, ms, me, m20, m21, m22, mz⟩ := MTc pz.2
  have r4 := f4
  rw [f0] at r4
  rw [show ((19 : Int)).toNat = 19 from rfl] at r4
  unfold preb_52v
  have e3 : hV H0 19 3 = hV H0 19 3 := rfl
  exact ⟨by omega, by omega⟩
theorem c_55v_s_1 : vOkm T0 (eP e_55v L_55v A_55v mu_55v none) 1 ([(42, [1, 2], [], 0), (0, [2], [], 6), (20, [1, 0], [0], 3), (90, [1], [], -2147483648), (91, [1], [], 2147483647), (6000, [0], [0], 0), (0, [0], [], 19)], (2052, [0], [0], 0)) := vOk_in fun ρ η h => by
  obtain ⟨f0, f1, f2, f3, f4, f5, f6, _⟩ := h
  exact q_55v_1 (n0 := ρ 0) (n1 := ρ 1) (n2 := ρ 2) (H0 := η 0) f6 f5 f4 f3 f2 f1 f0
theorem q_55v_2 {n0 n1 n2 n3 : Int} {H0 H1 : gH} (f0 : n0 = 19) (f1 : hWt T0 H0 ∧ preb_55v n0 H0) (f2 : n1 ≤ 2147483647) (f3 : (-2147483648) ≤ n1) (f4 : n1 = hV H0 (n0).toNat 3) (f5 : n2 = 6) (f6 : n1 < n2) (f7 : n3 ≤ 2147483647) (f8 : (-2147483648) ≤ n3) (f9 : (hLe T0 H0 H1 ∧ hFr s_52v.2.2.2.2 H0 H1 ∧ ((0 : Int) = 0 → H1.length = H0.length) ∧ hWt T0 H1) ∧ postb_52v n3 n0 H0 H1) : preb_53v n0 n3 H1 := by
  have pz := f1.2
  unfold preb_55v at pz
  obtain ⟨mf, ms, me, m20, m21, m22, mz⟩ := MTc pz.2
  unfold preb_53v
  exact (KM_le f9.1.1 pz.1)
theorem c_55v_s_2 : vOkm T0 (eP e_55v L_55v A_55v mu_55v none) 1 ([(1052, [3, 0], [0, 1], 0), (90, [3], [], -2147483648), (91, [3], [], 2147483647), (42, [1, 2], [], 0), (0, [2], [], 6), (20, [1, 0], [0], 3), (90, [1], [], -2147483648), (91, [1], [], 2147483647), (6000, [0], [0], 0), (0, [0], [], 19)], (2053, [0, 3], [1], 0)) := vOk_in fun ρ η h => by
  obtain ⟨f0, f1, f2, f3, f4, f5, f6, f7, f8, f9, _⟩ := h
  exact q_55v_2 (n0 := ρ 0) (n1 := ρ 1) (n2 := ρ 2) (n3 := ρ 3) (H0 := η 0) (H1 := η 1) f9 f8 f7 f6 f5 f4 f3 f2 f1 f0
theorem q_55v_3 {n0 n1 n2 n3 n4 n5 n6 n7 n8 : Int} {H0 H1 H2 H3 : gH} (f0 : n0 = 19) (f1 : hWt T0 H0 ∧ preb_55v n0 H0) (f2 : n1 ≤ 2147483647) (f3 : (-2147483648) ≤ n1) (f4 : n1 = hV H0 (n0).toNat 3) (f5 : n2 = 6) (f6 : n1 < n2) (f7 : n3 ≤ 2147483647) (f8 : (-2147483648) ≤ n3) (f9 : (hLe T0 H0 H1 ∧ hFr s_52v.2.2.2.2 H0 H1 ∧ ((0 : Int) = 0 → H1.length = H0.length) ∧ hWt T0 H1) ∧ postb_52v n3 n0 H0 H1) (f10 : n4 ≤ 2147483647) (f11 : (-2147483648) ≤ n4) (f12 : (hLe T0 H1 H2 ∧ hFr s_53v.2.2.2.2 H1 H2 ∧ ((0 : Int) = 0 → H2.length = H1.length) ∧ hWt T0 H2) ∧ postb_53v n4 n0 n3 H1 H2) (f13 : n4 ≠ 0) (f14 : n5 ≤ 2147483647) (f15 : (-2147483648) ≤ n5) (f16 : n5 = hV H2 (n0).toNat 3) (f17 : n6 = 1) (f18 : n7 = w32 (n5 + n6)) (f19 : n8 = 3) (f20 : hUpd H3 H2 n0 n8 n7) : preb_52v n0 H3 := by
  have pz := f1.2
  unfold preb_55v at pz
  obtain ⟨mf, ms, me, m20, m21, m22, mz⟩ := MTc pz.2
  have r4 := f4
  rw [f0] at r4
  rw [show ((19 : Int)).toNat = 19 from rfl] at r4
  have r16 := f16
  rw [f0] at r16
  rw [show ((19 : Int)).toNat = 19 from rfl] at r16
  have l9 : n3 = hV H0 19 3 - 1 := by
    have q := f9.2
    unfold postb_52v at q
    exact q
  have z12 := f12.2
  unfold postb_53v at z12
  rw [(ER_fr f9.1.2.1 (by decide +kernel)).1] at z12
  have e3H1 : hV H1 19 3 = hV H0 19 3 := f9.1.2.1.1 19 3 (by decide +kernel)
  have e3H2 : hV H2 19 3 = hV H0 19 3 := (f12.1.2.1.1 19 3 (by decide +kernel)).trans (f9.1.2.1.1 19 3 (by decide +kernel))
  have e3H3 : hV H3 19 3 = n7 := uSame f20 19 3 (by rw [f0]; rfl) (by rw [f19]; rfl)
  have wq18 := f18
  unfold w32 at wq18
  unfold preb_52v
  have e3 : hV H3 19 3 = n7 := uSame f20 19 3 (by rw [f0]; rfl) (by rw [f19]; rfl)
  exact ⟨by omega, by omega⟩
theorem c_55v_s_3 : vOkm T0 (eP e_55v L_55v A_55v mu_55v none) 1 ([(80, [0, 8, 7], [3, 2], 0), (0, [8], [], 3), (1, [7, 5, 6], [], 0), (0, [6], [], 1), (20, [5, 0], [2], 3), (90, [5], [], -2147483648), (91, [5], [], 2147483647), (31, [4], [], 0), (1053, [4, 0, 3], [1, 2], 0), (90, [4], [], -2147483648), (91, [4], [], 2147483647), (1052, [3, 0], [0, 1], 0), (90, [3], [], -2147483648), (91, [3], [], 2147483647), (42, [1, 2], [], 0), (0, [2], [], 6), (20, [1, 0], [0], 3), (90, [1], [], -2147483648), (91, [1], [], 2147483647), (6000, [0], [0], 0), (0, [0], [], 19)], (2052, [0], [3], 0)) := vOk_in fun ρ η h => by
  obtain ⟨f0, f1, f2, f3, f4, f5, f6, f7, f8, f9, f10, f11, f12, f13, f14, f15, f16, f17, f18, f19, f20, _⟩ := h
  exact q_55v_3 (n0 := ρ 0) (n1 := ρ 1) (n2 := ρ 2) (n3 := ρ 3) (n4 := ρ 4) (n5 := ρ 5) (n6 := ρ 6) (n7 := ρ 7) (n8 := ρ 8) (H0 := η 0) (H1 := η 1) (H2 := η 2) (H3 := η 3) f20 f19 f18 f17 f16 f15 f14 f13 f12 f11 f10 f9 f8 f7 f6 f5 f4 f3 f2 f1 f0
theorem q_55v_4 {n0 n1 n2 n3 n4 n5 n6 n7 n8 n9 : Int} {H0 H1 H2 H3 H4 : gH} (f0 : n0 = 19) (f1 : hWt T0 H0 ∧ preb_55v n0 H0) (f2 : n1 ≤ 2147483647) (f3 : (-2147483648) ≤ n1) (f4 : n1 = hV H0 (n0).toNat 3) (f5 : n2 = 6) (f6 : n1 < n2) (f7 : n3 ≤ 2147483647) (f8 : (-2147483648) ≤ n3) (f9 : (hLe T0 H0 H1 ∧ hFr s_52v.2.2.2.2 H0 H1 ∧ ((0 : Int) = 0 → H1.length = H0.length) ∧ hWt T0 H1) ∧ postb_52v n3 n0 H0 H1) (f10 : n4 ≤ 2147483647) (f11 : (-2147483648) ≤ n4) (f12 : (hLe T0 H1 H2 ∧ hFr s_53v.2.2.2.2 H1 H2 ∧ ((0 : Int) = 0 → H2.length = H1.length) ∧ hWt T0 H2) ∧ postb_53v n4 n0 n3 H1 H2) (f13 : n4 ≠ 0) (f14 : n5 ≤ 2147483647) (f15 : (-2147483648) ≤ n5) (f16 : n5 = hV H2 (n0).toNat 3) (f17 : n6 = 1) (f18 : n7 = w32 (n5 + n6)) (f19 : n8 = 3) (f20 : hUpd H3 H2 n0 n8 n7) (f21 : n9 ≤ 2147483647) (f22 : (-2147483648) ≤ n9) (f23 : (hLe T0 H3 H4 ∧ hFr s_52v.2.2.2.2 H3 H4 ∧ ((0 : Int) = 0 → H4.length = H3.length) ∧ hWt T0 H4) ∧ postb_52v n9 n0 H3 H4) : postb_55v n9 n0 H0 H4 := by
  have pz := f1.2
  unfold preb_55v at pz
  obtain ⟨mf, ms, me, m20, m21, m22, mz⟩ := MTc pz.2
  have r4 := f4
  rw [f0] at r4
  rw [show ((19 : Int)).toNat = 19 from rfl] at r4
  have r16 := f16
  rw [f0] at r16
  rw [show ((19 : Int)).toNat = 19 from rfl] at r16
  have l9 : n3 = hV H0 19 3 - 1 := by
    have q := f9.2
    unfold postb_52v at q
    exact q
  have z12 := f12.2
  unfold postb_53v at z12
  rw [(ER_fr f9.1.2.1 (by decide +kernel)).1] at z12
  have l23 : n9 = hV H3 19 3 - 1 := by
    have q := f23.2
    unfold postb_52v at q
    exact q
  have e3H1 : hV H1 19 3 = hV H0 19 3 := f9.1.2.1.1 19 3 (by decide +kernel)
  have e3H2 : hV H2 19 3 = hV H0 19 3 := (f12.1.2.1.1 19 3 (by decide +kernel)).trans (f9.1.2.1.1 19 3 (by decide +kernel))
  have e3H3 : hV H3 19 3 = n7 := uSame f20 19 3 (by rw [f0]; rfl) (by rw [f19]; rfl)
  have e3H4 : hV H4 19 3 = n7 := (f23.1.2.1.1 19 3 (by decide +kernel)).trans (uSame f20 19 3 (by rw [f0]; rfl) (by rw [f19]; rfl))
  have wq18 := f18
  unfold w32 at wq18
  unfold postb_55v
  rw [if_pos (by omega)] at z12
  rw [show (n3).toNat = (hV H0 19 3 - 1).toNat by omega] at z12
  exact ⟨fun w => by omega, fun w => by omega⟩
theorem c_55v_s_4 : vOkm T0 (eP e_55v L_55v A_55v mu_55v none) 1 ([(1052, [9, 0], [3, 4], 0), (90, [9], [], -2147483648), (91, [9], [], 2147483647), (80, [0, 8, 7], [3, 2], 0), (0, [8], [], 3), (1, [7, 5, 6], [], 0), (0, [6], [], 1), (20, [5, 0], [2], 3), (90, [5], [], -2147483648), (91, [5], [], 2147483647), (31, [4], [], 0), (1053, [4, 0, 3], [1, 2], 0), (90, [4], [], -2147483648), (91, [4], [], 2147483647), (1052, [3, 0], [0, 1], 0), (90, [3], [], -2147483648), (91, [3], [], 2147483647), (42, [1, 2], [], 0), (0, [2], [], 6), (20, [1, 0], [0], 3), (90, [1], [], -2147483648), (91, [1], [], 2147483647), (6000, [0], [0], 0), (0, [0], [], 19)], (3000, [9], [4], 36)) := vOk_in fun ρ η h => by
  obtain ⟨f0, f1, f2, f3, f4, f5, f6, f7, f8, f9, f10, f11, f12, f13, f14, f15, f16, f17, f18, f19, f20, f21, f22, f23, _⟩ := h
  exact q_55v_4 (n0 := ρ 0) (n1 := ρ 1) (n2 := ρ 2) (n3 := ρ 3) (n4 := ρ 4) (n5 := ρ 5) (n6 := ρ 6) (n7 := ρ 7) (n8 := ρ 8) (n9 := ρ 9) (H0 := η 0) (H1 := η 1) (H2 := η 2) (H3 := η 3) (H4 := η 4) f23 f22 f21 f20 f19 f18 f17 f16 f15 f14 f13 f12 f11 f10 f9 f8 f7 f6 f5 f4 f3 f2 f1 f0
theorem q_55v_5 {n0 n1 n2 n3 n4 n5 : Int} {H0 H1 H2 : gH} (f0 : n0 = 19) (f1 : hWt T0 H0 ∧ preb_55v n0 H0) (f2 : n1 ≤ 2147483647) (f3 : (-2147483648) ≤ n1) (f4 : n1 = hV H0 (n0).toNat 3) (f5 : n2 = 6) (f6 : n1 < n2) (f7 : n3 ≤ 2147483647) (f8 : (-2147483648) ≤ n3) (f9 : (hLe T0 H0 H1 ∧ hFr s_52v.2.2.2.2 H0 H1 ∧ ((0 : Int) = 0 → H1.length = H0.length) ∧ hWt T0 H1) ∧ postb_52v n3 n0 H0 H1) (f10 : n4 ≤ 2147483647) (f11 : (-2147483648) ≤ n4) (f12 : (hLe T0 H1 H2 ∧ hFr s_53v.2.2.2.2 H1 H2 ∧ ((0 : Int) = 0 → H2.length = H1.length) ∧ hWt T0 H2) ∧ postb_53v n4 n0 n3 H1 H2) (f13 : n4 = 0) (f14 : n5 = (-1)) : postb_55v n5 n0 H0 H2 := by
  have pz := f1.2
  unfold preb_55v at pz
  obtain ⟨mf, ms, me, m20, m21, m22, mz⟩ := MTc pz.2
  have r4 := f4
  rw [f0] at r4
  rw [show ((19 : Int)).toNat = 19 from rfl] at r4
  have l9 : n3 = hV H0 19 3 - 1 := by
    have q := f9.2
    unfold postb_52v at q
    exact q
  have z12 := f12.2
  unfold postb_53v at z12
  rw [(ER_fr f9.1.2.1 (by decide +kernel)).1] at z12
  have e3H1 : hV H1 19 3 = hV H0 19 3 := f9.1.2.1.1 19 3 (by decide +kernel)
  have e3H2 : hV H2 19 3 = hV H0 19 3 := (f12.1.2.1.1 19 3 (by decide +kernel)).trans (f9.1.2.1.1 19 3 (by decide +kernel))
  unfold postb_55v
  rw [if_pos (by omega)] at z12
  rw [show (n3).toNat = (hV H0 19 3 - 1).toNat by omega] at z12
  exact ⟨fun w => by omega, fun w => by omega⟩
theorem c_55v_s_5 : vOkm T0 (eP e_55v L_55v A_55v mu_55v none) 1 ([(0, [5], [], -1), (30, [4], [], 0), (1053, [4, 0, 3], [1, 2], 0), (90, [4], [], -2147483648), (91, [4], [], 2147483647), (1052, [3, 0], [0, 1], 0), (90, [3], [], -2147483648), (91, [3], [], 2147483647), (42, [1, 2], [], 0), (0, [2], [], 6), (20, [1, 0], [0], 3), (90, [1], [], -2147483648), (91, [1], [], 2147483647), (6000, [0], [0], 0), (0, [0], [], 19)], (3000, [5], [2], 21)) := vOk_in fun ρ η h => by
  obtain ⟨f0, f1, f2, f3, f4, f5, f6, f7, f8, f9, f10, f11, f12, f13, f14, _⟩ := h
  exact q_55v_5 (n0 := ρ 0) (n1 := ρ 1) (n2 := ρ 2) (n3 := ρ 3) (n4 := ρ 4) (n5 := ρ 5) (H0 := η 0) (H1 := η 1) (H2 := η 2) f14 f13 f12 f11 f10 f9 f8 f7 f6 f5 f4 f3 f2 f1 f0
def p_55v_s : List vG := [([(0, [3], [], -1), (43, [1, 2], [], 0), (0, [2], [], 6), (20, [1, 0], [0], 3), (90, [1], [], -2147483648), (91, [1], [], 2147483647), (6000, [0], [0], 0), (0, [0], [], 19)], (3000, [3], [0], 21)),
  ([(42, [1, 2], [], 0), (0, [2], [], 6), (20, [1, 0], [0], 3), (90, [1], [], -2147483648), (91, [1], [], 2147483647), (6000, [0], [0], 0), (0, [0], [], 19)], (2052, [0], [0], 0)),
  ([(1052, [3, 0], [0, 1], 0), (90, [3], [], -2147483648), (91, [3], [], 2147483647), (42, [1, 2], [], 0), (0, [2], [], 6), (20, [1, 0], [0], 3), (90, [1], [], -2147483648), (91, [1], [], 2147483647), (6000, [0], [0], 0), (0, [0], [], 19)], (2053, [0, 3], [1], 0)),
  ([(80, [0, 8, 7], [3, 2], 0), (0, [8], [], 3), (1, [7, 5, 6], [], 0), (0, [6], [], 1), (20, [5, 0], [2], 3), (90, [5], [], -2147483648), (91, [5], [], 2147483647), (31, [4], [], 0), (1053, [4, 0, 3], [1, 2], 0), (90, [4], [], -2147483648), (91, [4], [], 2147483647), (1052, [3, 0], [0, 1], 0), (90, [3], [], -2147483648), (91, [3], [], 2147483647), (42, [1, 2], [], 0), (0, [2], [], 6), (20, [1, 0], [0], 3), (90, [1], [], -2147483648), (91, [1], [], 2147483647), (6000, [0], [0], 0), (0, [0], [], 19)], (2052, [0], [3], 0)),
  ([(1052, [9, 0], [3, 4], 0), (90, [9], [], -2147483648), (91, [9], [], 2147483647), (80, [0, 8, 7], [3, 2], 0), (0, [8], [], 3), (1, [7, 5, 6], [], 0), (0, [6], [], 1), (20, [5, 0], [2], 3), (90, [5], [], -2147483648), (91, [5], [], 2147483647), (31, [4], [], 0), (1053, [4, 0, 3], [1, 2], 0), (90, [4], [], -2147483648), (91, [4], [], 2147483647), (1052, [3, 0], [0, 1], 0), (90, [3], [], -2147483648), (91, [3], [], 2147483647), (42, [1, 2], [], 0), (0, [2], [], 6), (20, [1, 0], [0], 3), (90, [1], [], -2147483648), (91, [1], [], 2147483647), (6000, [0], [0], 0), (0, [0], [], 19)], (3000, [9], [4], 36)),
  ([(0, [5], [], -1), (30, [4], [], 0), (1053, [4, 0, 3], [1, 2], 0), (90, [4], [], -2147483648), (91, [4], [], 2147483647), (1052, [3, 0], [0, 1], 0), (90, [3], [], -2147483648), (91, [3], [], 2147483647), (42, [1, 2], [], 0), (0, [2], [], 6), (20, [1, 0], [0], 3), (90, [1], [], -2147483648), (91, [1], [], 2147483647), (6000, [0], [0], 0), (0, [0], [], 19)], (3000, [5], [2], 21))]
theorem r_55v_s : vCovO false (eR0 e_55v L_55v cs_55v 2000) p_55v_s = true := by decide +kernel
theorem m_55v (d : Nat) : eC e_55v (d + 3) := eC_ok (e := e_55v) (L := L_55v) (cs := cs_55v) (n := 2000) (d := d + 2) (A := A_55v) (μ := mu_55v) (tp := false) (p0 := p_55v_s) rfl ⟨m_52v (d + 1), ⟨m_53v d, trivial⟩⟩ rfl (.inl rfl) (by decide +kernel) (fun z => nomatch z) r_55v_s (allC c_55v_s_0 (allC c_55v_s_1 (allC c_55v_s_2 (allC c_55v_s_3 (allC c_55v_s_4 (allC c_55v_s_5 allN)))))) allN
/- Picture.tellLast ()V -/
noncomputable def s_56v : vM := ([(3, 3, 19, 0)], (9, 0, 0, 0), 1, 0, [(3, 4)])
def preb_56v (a0 : Int) (h : gH) : Prop := 1 ≤ hV h 19 3 ∧ hV h 19 3 ≤ 7
def pre_56v : List Int → gH → Prop := fun xs h => match xs with
  | [a0] => preb_56v a0 h
  | _ => False
def postb_56v (a0 : Int) (h0 h : gH) : Prop := hV h 19 4 = hV h0 19 3 - 1
def post_56v : List Int → gH → gH → Prop := fun xs h0 h => match xs with
  | [a0] => postb_56v a0 h0 h
  | _ => True
noncomputable def e_56v : vE := (56, s_56v, pre_56v, post_56v)
noncomputable def L_56v : List vE := [e_52v]
def cs_56v : List vC := []
def A_56v : Int → List Int → gH → gH → Prop := fun c xs h0 h => True
def mu_56v : Int → List Int → gH → gH → Nat := fun c xs h0 h => 0
theorem q_56v_0 {n0 : Int} {H0 : gH} (f0 : n0 = 19) (f1 : hWt T0 H0 ∧ preb_56v n0 H0) : preb_52v n0 H0 := by
  have pz := f1.2
  unfold preb_56v at pz
  unfold preb_52v
  have e3 : hV H0 19 3 = hV H0 19 3 := rfl
  exact ⟨by omega, by omega⟩
theorem c_56v_s_0 : vOkm T0 (eP e_56v L_56v A_56v mu_56v none) 1 ([(6000, [0], [0], 0), (0, [0], [], 19)], (2052, [0], [0], 0)) := vOk_in fun ρ η h => by
  obtain ⟨f0, f1, _⟩ := h
  exact q_56v_0 (n0 := ρ 0) (H0 := η 0) f1 f0
theorem q_56v_1 {n0 n1 n2 : Int} {H0 H1 H2 : gH} (f0 : n0 = 19) (f1 : hWt T0 H0 ∧ preb_56v n0 H0) (f2 : n1 ≤ 2147483647) (f3 : (-2147483648) ≤ n1) (f4 : (hLe T0 H0 H1 ∧ hFr s_52v.2.2.2.2 H0 H1 ∧ ((0 : Int) = 0 → H1.length = H0.length) ∧ hWt T0 H1) ∧ postb_52v n1 n0 H0 H1) (f5 : n2 = 4) (f6 : hUpd H2 H1 n0 n2 n1) : postb_56v n0 H0 H2 := by
  have pz := f1.2
  unfold preb_56v at pz
  have l4 : n1 = hV H0 19 3 - 1 := by
    have q := f4.2
    unfold postb_52v at q
    exact q
  have e3H1 : hV H1 19 3 = hV H0 19 3 := f4.1.2.1.1 19 3 (by decide +kernel)
  have e3H2 : hV H2 19 3 = hV H0 19 3 := (uSlot f6 19 3 (by rw [f5]; decide)).trans (f4.1.2.1.1 19 3 (by decide +kernel))
  unfold postb_56v
  have e4 : hV H2 19 4 = n1 := uSame f6 19 4 (by rw [f0]; rfl) (by rw [f5]; rfl)
  omega
theorem c_56v_s_1 : vOkm T0 (eP e_56v L_56v A_56v mu_56v none) 1 ([(80, [0, 2, 1], [2, 1], 0), (0, [2], [], 4), (1052, [1, 0], [0, 1], 0), (90, [1], [], -2147483648), (91, [1], [], 2147483647), (6000, [0], [0], 0), (0, [0], [], 19)], (3000, [], [2], 8)) := vOk_in fun ρ η h => by
  obtain ⟨f0, f1, f2, f3, f4, f5, f6, _⟩ := h
  exact q_56v_1 (n0 := ρ 0) (n1 := ρ 1) (n2 := ρ 2) (H0 := η 0) (H1 := η 1) (H2 := η 2) f6 f5 f4 f3 f2 f1 f0
def p_56v_s : List vG := [([(6000, [0], [0], 0), (0, [0], [], 19)], (2052, [0], [0], 0)),
  ([(80, [0, 2, 1], [2, 1], 0), (0, [2], [], 4), (1052, [1, 0], [0, 1], 0), (90, [1], [], -2147483648), (91, [1], [], 2147483647), (6000, [0], [0], 0), (0, [0], [], 19)], (3000, [], [2], 8))]
theorem r_56v_s : vCovO false (eR0 e_56v L_56v cs_56v 2000) p_56v_s = true := by decide +kernel
theorem m_56v (d : Nat) : eC e_56v (d + 2) := eC_ok (e := e_56v) (L := L_56v) (cs := cs_56v) (n := 2000) (d := d + 1) (A := A_56v) (μ := mu_56v) (tp := false) (p0 := p_56v_s) rfl ⟨m_52v d, trivial⟩ rfl (.inl rfl) (by decide +kernel) (fun z => nomatch z) r_56v_s (allC c_56v_s_0 (allC c_56v_s_1 allN)) allN
/- Picture.extend (II)I -/
noncomputable def s_57v : vM := ([(3, 3, 19, 0), (0, -2147483648, 2147483647, 0), (0, -2147483648, 2147483647, 0)], (0, -2147483648, 2147483647, 0), 1, 0, [(700, 0)])
def preb_57v (a0 a1 a2 : Int) (h : gH) : Prop := KM h ∧ MT (mC h) ∧ (a1 = -1 ∨ (0 ≤ a1 ∧ a1 + a2 ≤ 60))
def pre_57v : List Int → gH → Prop := fun xs h => match xs with
  | [a0, a1, a2] => preb_57v a0 a1 a2 h
  | _ => False
def postb_57v (r a0 a1 a2 : Int) (h0 h : gH) : Prop := KM h ∧ (mC h, r) = mExt a1 a2 (mC h0)
def post_57v : List Int → gH → gH → Prop := fun xs h0 h => match xs with
  | [r, a0, a1, a2] => postb_57v r a0 a1 a2 h0 h
  | _ => True
noncomputable def e_57v : vE := (57, s_57v, pre_57v, post_57v)
noncomputable def L_57v : List vE := [e_52v, e_53v, e_199vk700, e_201vk700]
def cs_57v : List vC := [(56, [(0, (3, 3, 19, 0)), (1, (0, -2147483648, 2147483647, 0)), (2, (0, -2147483648, 2147483647, 0)), (3, (0, -2147483648, 2147483647, 0)), (4, (0, -2147483648, 2147483647, 0)), (5, (0, -2147483648, 2147483647, 0))])]
def Ab_57v_56 (a0 a1 a2 x0 x1 x2 x3 x4 x5 : Int) (h0 h : gH) : Prop := KM h ∧ x1 = a1 ∧ x2 = a2 ∧ x3 = hV h0 19 3 - 1 ∧ x4 = hV h0 20 (hV h0 19 3 - 1).toNat ∧ ¬ x3 = 0 ∧ ¬ hV h0 19 4 = hV h0 19 3 - 1 ∧ hV h0 21 (hV h0 19 3 - 1).toNat < 10 ∧ 1 ≤ a2 ∧ a2 ≤ 60 - x4 ∧ 0 ≤ x5 ∧ x5 ≤ a2 ∧ hV h 20 = hV h0 20 ∧ hV h 21 = hV h0 21 ∧ hV h 22 = pO a1 (60 * (hV h0 19 3 - 1) + hV h0 20 (hV h0 19 3 - 1).toNat) (hV h0 22) (x5).toNat
def mub_57v_56 (a0 a1 a2 x0 x1 x2 x3 x4 x5 : Int) (h0 h : gH) : Nat := (60 - x5).toNat
def A_57v : Int → List Int → gH → gH → Prop := fun c xs h0 h => match c.toNat with
  | 56 => (match xs with
    | [a0, a1, a2, x0, x1, x2, x3, x4, x5] => Ab_57v_56 a0 a1 a2 x0 x1 x2 x3 x4 x5 h0 h
    | _ => False)
  | _ => True
def mu_57v : Int → List Int → gH → gH → Nat := fun c xs h0 h => match c.toNat with
  | 56 => (match xs with
    | [a0, a1, a2, x0, x1, x2, x3, x4, x5] => mub_57v_56 a0 a1 a2 x0 x1 x2 x3 x4 x5 h0 h
    | _ => 0)
  | _ => 0
theorem q_57v_0 {n0 n1 n2 : Int} {H0 : gH} (f0 : n0 ≤ 2147483647) (f1 : (-2147483648) ≤ n0) (f2 : n1 ≤ 2147483647) (f3 : (-2147483648) ≤ n1) (f4 : n2 = 19) (f5 : hWt T0 H0 ∧ preb_57v n2 n1 n0 H0) : preb_52v n2 H0 := by
  have pz := f5.2
  unfold preb_57v at pz
  obtain ⟨km, mt, fa⟩ := pz
  obtain ⟨mf, ms, me, m20, m21, m22, mz⟩ := MTc mt
  unfold preb_52v
  have e3 : hV H0 19 3 = hV H0 19 3 := rfl
  exact ⟨by omega, by omega⟩
theorem c_57v_s_0 : vOkm T0 (eP e_57v L_57v A_57v mu_57v none) 3 ([(6000, [0, 1, 2], [0], 0), (0, [0], [], 19), (90, [1], [], -2147483648), (91, [1], [], 2147483647), (90, [2], [], -2147483648), (91, [2], [], 2147483647)], (2052, [0], [0], 0)) := vOk_in fun ρ η h => by
  obtain ⟨f0, f1, f2, f3, f4, f5, _⟩ := h
  exact q_57v_0 (n0 := ρ 2) (n1 := ρ 1) (n2 := ρ 0) (H0 := η 0) f5 f4 f3 f2 f1 f0
theorem q_57v_1 {n0 n1 n2 n3 : Int} {H0 H1 : gH} (f0 : n0 ≤ 2147483647) (f1 : (-2147483648) ≤ n0) (f2 : n1 ≤ 2147483647) (f3 : (-2147483648) ≤ n1) (f4 : n2 = 19) (f5 : hWt T0 H0 ∧ preb_57v n2 n1 n0 H0) (f6 : n3 ≤ 2147483647) (f7 : (-2147483648) ≤ n3) (f8 : (hLe T0 H0 H1 ∧ hFr s_52v.2.2.2.2 H0 H1 ∧ ((0 : Int) = 0 → H1.length = H0.length) ∧ hWt T0 H1) ∧ postb_52v n3 n2 H0 H1) : preb_53v n2 n3 H1 := by
  have pz := f5.2
  unfold preb_57v at pz
  obtain ⟨km, mt, fa⟩ := pz
  obtain ⟨mf, ms, me, m20, m21, m22, mz⟩ := MTc mt
  unfold preb_53v
  exact (KM_le f8.1.1 km)
theorem c_57v_s_1 : vOkm T0 (eP e_57v L_57v A_57v mu_57v none) 3 ([(1052, [3, 0], [0, 1], 0), (90, [3], [], -2147483648), (91, [3], [], 2147483647), (6000, [0, 1, 2], [0], 0), (0, [0], [], 19), (90, [1], [], -2147483648), (91, [1], [], 2147483647), (90, [2], [], -2147483648), (91, [2], [], 2147483647)], (2053, [0, 3], [1], 0)) := vOk_in fun ρ η h => by
  obtain ⟨f0, f1, f2, f3, f4, f5, f6, f7, f8, _⟩ := h
  exact q_57v_1 (n0 := ρ 2) (n1 := ρ 1) (n2 := ρ 0) (n3 := ρ 3) (H0 := η 0) (H1 := η 1) f8 f7 f6 f5 f4 f3 f2 f1 f0
theorem q_57v_2 {n0 n1 n2 n3 n4 n5 : Int} {H0 H1 H2 : gH} (f0 : n0 ≤ 2147483647) (f1 : (-2147483648) ≤ n0) (f2 : n1 ≤ 2147483647) (f3 : (-2147483648) ≤ n1) (f4 : n2 = 19) (f5 : hWt T0 H0 ∧ preb_57v n2 n1 n0 H0) (f6 : n3 ≤ 2147483647) (f7 : (-2147483648) ≤ n3) (f8 : (hLe T0 H0 H1 ∧ hFr s_52v.2.2.2.2 H0 H1 ∧ ((0 : Int) = 0 → H1.length = H0.length) ∧ hWt T0 H1) ∧ postb_52v n3 n2 H0 H1) (f9 : n4 ≤ 2147483647) (f10 : (-2147483648) ≤ n4) (f11 : (hLe T0 H1 H2 ∧ hFr s_53v.2.2.2.2 H1 H2 ∧ ((0 : Int) = 0 → H2.length = H1.length) ∧ hWt T0 H2) ∧ postb_53v n4 n2 n3 H1 H2) (f12 : n3 = 0) (f13 : n5 = (-1)) : postb_57v n5 n2 n1 n0 H0 H2 := by
  have pz := f5.2
  unfold preb_57v at pz
  obtain ⟨km, mt, fa⟩ := pz
  obtain ⟨mf, ms, me, m20, m21, m22, mz⟩ := MTc mt
  have l8 : n3 = hV H0 19 3 - 1 := by
    have q := f8.2
    unfold postb_52v at q
    exact q
  have z11 := f11.2
  unfold postb_53v at z11
  rw [(ER_fr f8.1.2.1 (by decide +kernel)).1] at z11
  have e3H1 : hV H1 19 3 = hV H0 19 3 := f8.1.2.1.1 19 3 (by decide +kernel)
  have e3H2 : hV H2 19 3 = hV H0 19 3 := (f11.1.2.1.1 19 3 (by decide +kernel)).trans (f8.1.2.1.1 19 3 (by decide +kernel))
  rw [if_pos (by omega), show (n3).toNat = (hV H0 19 3 - 1).toNat by omega] at z11
  have sb := m20 (hV H0 19 3 - 1).toNat
  unfold postb_57v
  refine ⟨(KM_le f11.1.1 (KM_le f8.1.1 km)), ?_⟩
  rw [show mC H2 = mC H0 from (mC_fr f11.1.2.1 (by decide +kernel)).trans (mC_fr f8.1.2.1 (by decide +kernel))]
  have cc : hV H0 19 3 - 1 = 0 ∨ (if hV H0 19 4 = hV H0 19 3 - 1 then (1 : Int) else 0) = 1 ∨ 10 ≤ hV H0 21 (hV H0 19 3 - 1).toNat ∨ n0 < 1 ∨ 60 - hV H0 20 (hV H0 19 3 - 1).toNat < n0 := by
    first
    | exact .inl (by omega)
    | exact .inr (.inl (if_pos (by omega)))
    | exact .inr (.inr (by omega))
  rw [show n5 = -1 by omega]
  exact (if_pos cc).symm
theorem c_57v_s_2 : vOkm T0 (eP e_57v L_57v A_57v mu_57v none) 3 ([(0, [5], [], -1), (30, [3], [], 0), (1053, [4, 0, 3], [1, 2], 0), (90, [4], [], -2147483648), (91, [4], [], 2147483647), (1052, [3, 0], [0, 1], 0), (90, [3], [], -2147483648), (91, [3], [], 2147483647), (6000, [0, 1, 2], [0], 0), (0, [0], [], 19), (90, [1], [], -2147483648), (91, [1], [], 2147483647), (90, [2], [], -2147483648), (91, [2], [], 2147483647)], (3000, [5], [2], 52)) := vOk_in fun ρ η h => by
  obtain ⟨f0, f1, f2, f3, f4, f5, f6, f7, f8, f9, f10, f11, f12, f13, _⟩ := h
  exact q_57v_2 (n0 := ρ 2) (n1 := ρ 1) (n2 := ρ 0) (n3 := ρ 3) (n4 := ρ 4) (n5 := ρ 5) (H0 := η 0) (H1 := η 1) (H2 := η 2) f13 f12 f11 f10 f9 f8 f7 f6 f5 f4 f3 f2 f1 f0
theorem q_57v_3 {n0 n1 n2 n3 n4 n5 n6 : Int} {H0 H1 H2 : gH} (f0 : n0 ≤ 2147483647) (f1 : (-2147483648) ≤ n0) (f2 : n1 ≤ 2147483647) (f3 : (-2147483648) ≤ n1) (f4 : n2 = 19) (f5 : hWt T0 H0 ∧ preb_57v n2 n1 n0 H0) (f6 : n3 ≤ 2147483647) (f7 : (-2147483648) ≤ n3) (f8 : (hLe T0 H0 H1 ∧ hFr s_52v.2.2.2.2 H0 H1 ∧ ((0 : Int) = 0 → H1.length = H0.length) ∧ hWt T0 H1) ∧ postb_52v n3 n2 H0 H1) (f9 : n4 ≤ 2147483647) (f10 : (-2147483648) ≤ n4) (f11 : (hLe T0 H1 H2 ∧ hFr s_53v.2.2.2.2 H1 H2 ∧ ((0 : Int) = 0 → H2.length = H1.length) ∧ hWt T0 H2) ∧ postb_53v n4 n2 n3 H1 H2) (f12 : n3 ≠ 0) (f13 : n5 ≤ 2147483647) (f14 : (-2147483648) ≤ n5) (f15 : n5 = hV H2 (n2).toNat 4) (f16 : n5 = n3) (f17 : n6 = (-1)) : postb_57v n6 n2 n1 n0 H0 H2 := by
  have pz := f5.2
  unfold preb_57v at pz
  obtain ⟨km, mt, fa⟩ := pz
  obtain ⟨mf, ms, me, m20, m21, m22, mz⟩ := MTc mt
  have r15 := f15
  rw [f4] at r15
  rw [show ((19 : Int)).toNat = 19 from rfl] at r15
  have l8 : n3 = hV H0 19 3 - 1 := by
    have q := f8.2
    unfold postb_52v at q
    exact q
  have z11 := f11.2
  unfold postb_53v at z11
  rw [(ER_fr f8.1.2.1 (by decide +kernel)).1] at z11
  have e3H1 : hV H1 19 3 = hV H0 19 3 := f8.1.2.1.1 19 3 (by decide +kernel)
  have e3H2 : hV H2 19 3 = hV H0 19 3 := (f11.1.2.1.1 19 3 (by decide +kernel)).trans (f8.1.2.1.1 19 3 (by decide +kernel))
  rw [if_pos (by omega), show (n3).toNat = (hV H0 19 3 - 1).toNat by omega] at z11
  have sb := m20 (hV H0 19 3 - 1).toNat
  have e4 : hV H2 19 4 = hV H0 19 4 := (f11.1.2.1.1 19 4 (by decide +kernel)).trans (f8.1.2.1.1 19 4 (by decide +kernel))
  unfold postb_57v
  refine ⟨(KM_le f11.1.1 (KM_le f8.1.1 km)), ?_⟩
  rw [show mC H2 = mC H0 from (mC_fr f11.1.2.1 (by decide +kernel)).trans (mC_fr f8.1.2.1 (by decide +kernel))]
  have cc : hV H0 19 3 - 1 = 0 ∨ (if hV H0 19 4 = hV H0 19 3 - 1 then (1 : Int) else 0) = 1 ∨ 10 ≤ hV H0 21 (hV H0 19 3 - 1).toNat ∨ n0 < 1 ∨ 60 - hV H0 20 (hV H0 19 3 - 1).toNat < n0 := by
    first
    | exact .inl (by omega)
    | exact .inr (.inl (if_pos (by omega)))
    | exact .inr (.inr (by omega))
  rw [show n6 = -1 by omega]
  exact (if_pos cc).symm
theorem c_57v_s_3 : vOkm T0 (eP e_57v L_57v A_57v mu_57v none) 3 ([(0, [6], [], -1), (40, [5, 3], [], 0), (20, [5, 0], [2], 4), (90, [5], [], -2147483648), (91, [5], [], 2147483647), (31, [3], [], 0), (1053, [4, 0, 3], [1, 2], 0), (90, [4], [], -2147483648), (91, [4], [], 2147483647), (1052, [3, 0], [0, 1], 0), (90, [3], [], -2147483648), (91, [3], [], 2147483647), (6000, [0, 1, 2], [0], 0), (0, [0], [], 19), (90, [1], [], -2147483648), (91, [1], [], 2147483647), (90, [2], [], -2147483648), (91, [2], [], 2147483647)], (3000, [6], [2], 52)) := vOk_in fun ρ η h => by
  obtain ⟨f0, f1, f2, f3, f4, f5, f6, f7, f8, f9, f10, f11, f12, f13, f14, f15, f16, f17, _⟩ := h
  exact q_57v_3 (n0 := ρ 2) (n1 := ρ 1) (n2 := ρ 0) (n3 := ρ 3) (n4 := ρ 4) (n5 := ρ 5) (n6 := ρ 6) (H0 := η 0) (H1 := η 1) (H2 := η 2) f17 f16 f15 f14 f13 f12 f11 f10 f9 f8 f7 f6 f5 f4 f3 f2 f1 f0
theorem q_57v_4 {n0 n1 n2 n3 n4 n5 n6 n7 n8 n9 : Int} {H0 H1 H2 H3 : gH} (f0 : n0 ≤ 2147483647) (f1 : (-2147483648) ≤ n0) (f2 : n1 ≤ 2147483647) (f3 : (-2147483648) ≤ n1) (f4 : n2 = 19) (f5 : hWt T0 H0 ∧ preb_57v n2 n1 n0 H0) (f6 : n3 ≤ 2147483647) (f7 : (-2147483648) ≤ n3) (f8 : (hLe T0 H0 H1 ∧ hFr s_52v.2.2.2.2 H0 H1 ∧ ((0 : Int) = 0 → H1.length = H0.length) ∧ hWt T0 H1) ∧ postb_52v n3 n2 H0 H1) (f9 : n4 ≤ 2147483647) (f10 : (-2147483648) ≤ n4) (f11 : (hLe T0 H1 H2 ∧ hFr s_53v.2.2.2.2 H1 H2 ∧ ((0 : Int) = 0 → H2.length = H1.length) ∧ hWt T0 H2) ∧ postb_53v n4 n2 n3 H1 H2) (f12 : n3 ≠ 0) (f13 : n5 ≤ 2147483647) (f14 : (-2147483648) ≤ n5) (f15 : n5 = hV H2 (n2).toNat 4) (f16 : n5 ≠ n3) (f17 : n6 = 21) (f18 : n6 = hV H2 (n2).toNat 1) (f19 : n7 ≤ 2147483647) (f20 : (-2147483648) ≤ n7) (f21 : (hLe T0 H2 H3 ∧ hFr s_199vk700.2.2.2.2 H2 H3 ∧ ((0 : Int) = 0 → H3.length = H2.length) ∧ hWt T0 H3) ∧ postb_199vk700 n7 n6 n3 H2 H3) (f22 : n8 = 10) (f23 : n8 ≤ n7) (f24 : n9 = (-1)) : postb_57v n9 n2 n1 n0 H0 H3 := by
  have pz := f5.2
  unfold preb_57v at pz
  obtain ⟨km, mt, fa⟩ := pz
  obtain ⟨mf, ms, me, m20, m21, m22, mz⟩ := MTc mt
  have r15 := f15
  rw [f4] at r15
  rw [show ((19 : Int)).toNat = 19 from rfl] at r15
  have r18 := f18
  rw [f4] at r18
  rw [show ((19 : Int)).toNat = 19 from rfl] at r18
  have l8 : n3 = hV H0 19 3 - 1 := by
    have q := f8.2
    unfold postb_52v at q
    exact q
  have z11 := f11.2
  unfold postb_53v at z11
  rw [(ER_fr f8.1.2.1 (by decide +kernel)).1] at z11
  have z21 := f21.2
  unfold postb_199vk700 at z21
  have z21 := atQ_r (q := 21) (n := 6) z21 f17 (KM_le f11.1.1 (KM_le f8.1.1 km)).2.2.1.2
  rw [(ER_tr (ER_fr f8.1.2.1 (by decide +kernel)) (ER_fr f11.1.2.1 (by decide +kernel))).2.1] at z21
  have e3H1 : hV H1 19 3 = hV H0 19 3 := f8.1.2.1.1 19 3 (by decide +kernel)
  have e3H2 : hV H2 19 3 = hV H0 19 3 := (f11.1.2.1.1 19 3 (by decide +kernel)).trans (f8.1.2.1.1 19 3 (by decide +kernel))
  have e3H3 : hV H3 19 3 = hV H0 19 3 := (f21.1.2.1.1 19 3 (by decide +kernel)).trans ((f11.1.2.1.1 19 3 (by decide +kernel)).trans (f8.1.2.1.1 19 3 (by decide +kernel)))
  rw [if_pos (by omega), show (n3).toNat = (hV H0 19 3 - 1).toNat by omega] at z11
  rw [if_pos (by omega), show (n3).toNat = (hV H0 19 3 - 1).toNat by omega] at z21
  have sb := m20 (hV H0 19 3 - 1).toNat
  have e4 : hV H2 19 4 = hV H0 19 4 := (f11.1.2.1.1 19 4 (by decide +kernel)).trans (f8.1.2.1.1 19 4 (by decide +kernel))
  unfold postb_57v
  refine ⟨(KM_le f21.1.1 (KM_le f11.1.1 (KM_le f8.1.1 km))), ?_⟩
  rw [show mC H3 = mC H0 from (mC_fr f21.1.2.1 (by decide +kernel)).trans ((mC_fr f11.1.2.1 (by decide +kernel)).trans (mC_fr f8.1.2.1 (by decide +kernel)))]
  have cc : hV H0 19 3 - 1 = 0 ∨ (if hV H0 19 4 = hV H0 19 3 - 1 then (1 : Int) else 0) = 1 ∨ 10 ≤ hV H0 21 (hV H0 19 3 - 1).toNat ∨ n0 < 1 ∨ 60 - hV H0 20 (hV H0 19 3 - 1).toNat < n0 := by
    first
    | exact .inl (by omega)
    | exact .inr (.inl (if_pos (by omega)))
    | exact .inr (.inr (by omega))
  rw [show n9 = -1 by omega]
  exact (if_pos cc).symm
theorem c_57v_s_4 : vOkm T0 (eP e_57v L_57v A_57v mu_57v none) 3 ([(0, [9], [], -1), (43, [7, 8], [], 0), (0, [8], [], 10), (1199, [7, 6, 3], [2, 3], 0), (90, [7], [], -2147483648), (91, [7], [], 2147483647), (20, [6, 0], [2], 1), (0, [6], [], 21), (41, [5, 3], [], 0), (20, [5, 0], [2], 4), (90, [5], [], -2147483648), (91, [5], [], 2147483647), (31, [3], [], 0), (1053, [4, 0, 3], [1, 2], 0), (90, [4], [], -2147483648), (91, [4], [], 2147483647), (1052, [3, 0], [0, 1], 0), (90, [3], [], -2147483648), (91, [3], [], 2147483647), (6000, [0, 1, 2], [0], 0), (0, [0], [], 19), (90, [1], [], -2147483648), (91, [1], [], 2147483647), (90, [2], [], -2147483648), (91, [2], [], 2147483647)], (3000, [9], [3], 52)) := vOk_in fun ρ η h => by
  obtain ⟨f0, f1, f2, f3, f4, f5, f6, f7, f8, f9, f10, f11, f12, f13, f14, f15, f16, f17, f18, f19, f20, f21, f22, f23, f24, _⟩ := h
  exact q_57v_4 (n0 := ρ 2) (n1 := ρ 1) (n2 := ρ 0) (n3 := ρ 3) (n4 := ρ 4) (n5 := ρ 5) (n6 := ρ 6) (n7 := ρ 7) (n8 := ρ 8) (n9 := ρ 9) (H0 := η 0) (H1 := η 1) (H2 := η 2) (H3 := η 3) f24 f23 f22 f21 f20 f19 f18 f17 f16 f15 f14 f13 f12 f11 f10 f9 f8 f7 f6 f5 f4 f3 f2 f1 f0
theorem q_57v_5 {n0 n1 n2 n3 n4 n5 n6 n7 n8 n9 n10 : Int} {H0 H1 H2 H3 : gH} (f0 : n0 ≤ 2147483647) (f1 : (-2147483648) ≤ n0) (f2 : n1 ≤ 2147483647) (f3 : (-2147483648) ≤ n1) (f4 : n2 = 19) (f5 : hWt T0 H0 ∧ preb_57v n2 n1 n0 H0) (f6 : n3 ≤ 2147483647) (f7 : (-2147483648) ≤ n3) (f8 : (hLe T0 H0 H1 ∧ hFr s_52v.2.2.2.2 H0 H1 ∧ ((0 : Int) = 0 → H1.length = H0.length) ∧ hWt T0 H1) ∧ postb_52v n3 n2 H0 H1) (f9 : n4 ≤ 2147483647) (f10 : (-2147483648) ≤ n4) (f11 : (hLe T0 H1 H2 ∧ hFr s_53v.2.2.2.2 H1 H2 ∧ ((0 : Int) = 0 → H2.length = H1.length) ∧ hWt T0 H2) ∧ postb_53v n4 n2 n3 H1 H2) (f12 : n3 ≠ 0) (f13 : n5 ≤ 2147483647) (f14 : (-2147483648) ≤ n5) (f15 : n5 = hV H2 (n2).toNat 4) (f16 : n5 ≠ n3) (f17 : n6 = 21) (f18 : n6 = hV H2 (n2).toNat 1) (f19 : n7 ≤ 2147483647) (f20 : (-2147483648) ≤ n7) (f21 : (hLe T0 H2 H3 ∧ hFr s_199vk700.2.2.2.2 H2 H3 ∧ ((0 : Int) = 0 → H3.length = H2.length) ∧ hWt T0 H3) ∧ postb_199vk700 n7 n6 n3 H2 H3) (f22 : n8 = 10) (f23 : n7 < n8) (f24 : n9 = 1) (f25 : n0 < n9) (f26 : n10 = (-1)) : postb_57v n10 n2 n1 n0 H0 H3 := by
  have pz := f5.2
  unfold preb_57v at pz
  obtain ⟨km, mt, fa⟩ := pz
  obtain ⟨mf, ms, me, m20, m21, m22, mz⟩ := MTc mt
  have r15 := f15
  rw [f4] at r15
  rw [show ((19 : Int)).toNat = 19 from rfl] at r15
  have r18 := f18
  rw [f4] at r18
  rw [show ((19 : Int)).toNat = 19 from rfl] at r18
  have l8 : n3 = hV H0 19 3 - 1 := by
    have q := f8.2
    unfold postb_52v at q
    exact q
  have z11 := f11.2
  unfold postb_53v at z11
  rw [(ER_fr f8.1.2.1 (by decide +kernel)).1] at z11
  have z21 := f21.2
  unfold postb_199vk700 at z21
  have z21 := atQ_r (q := 21) (n := 6) z21 f17 (KM_le f11.1.1 (KM_le f8.1.1 km)).2.2.1.2
  rw [(ER_tr (ER_fr f8.1.2.1 (by decide +kernel)) (ER_fr f11.1.2.1 (by decide +kernel))).2.1] at z21
  have e3H1 : hV H1 19 3 = hV H0 19 3 := f8.1.2.1.1 19 3 (by decide +kernel)
  have e3H2 : hV H2 19 3 = hV H0 19 3 := (f11.1.2.1.1 19 3 (by decide +kernel)).trans (f8.1.2.1.1 19 3 (by decide +kernel))
  have e3H3 : hV H3 19 3 = hV H0 19 3 := (f21.1.2.1.1 19 3 (by decide +kernel)).trans ((f11.1.2.1.1 19 3 (by decide +kernel)).trans (f8.1.2.1.1 19 3 (by decide +kernel)))
  rw [if_pos (by omega), show (n3).toNat = (hV H0 19 3 - 1).toNat by omega] at z11
  rw [if_pos (by omega), show (n3).toNat = (hV H0 19 3 - 1).toNat by omega] at z21
  have sb := m20 (hV H0 19 3 - 1).toNat
  have e4 : hV H2 19 4 = hV H0 19 4 := (f11.1.2.1.1 19 4 (by decide +kernel)).trans (f8.1.2.1.1 19 4 (by decide +kernel))
  unfold postb_57v
  refine ⟨(KM_le f21.1.1 (KM_le f11.1.1 (KM_le f8.1.1 km))), ?_⟩
  rw [show mC H3 = mC H0 from (mC_fr f21.1.2.1 (by decide +kernel)).trans ((mC_fr f11.1.2.1 (by decide +kernel)).trans (mC_fr f8.1.2.1 (by decide +kernel)))]
  have cc : hV H0 19 3 - 1 = 0 ∨ (if hV H0 19 4 = hV H0 19 3 - 1 then (1 : Int) else 0) = 1 ∨ 10 ≤ hV H0 21 (hV H0 19 3 - 1).toNat ∨ n0 < 1 ∨ 60 - hV H0 20 (hV H0 19 3 - 1).toNat < n0 := by
    first
    | exact .inl (by omega)
    | exact .inr (.inl (if_pos (by omega)))
    | exact .inr (.inr (by omega))
  rw [show n10 = -1 by omega]
  exact (if_pos cc).symm
theorem c_57v_s_5 : vOkm T0 (eP e_57v L_57v A_57v mu_57v none) 3 ([(0, [10], [], -1), (42, [2, 9], [], 0), (0, [9], [], 1), (42, [7, 8], [], 0), (0, [8], [], 10), (1199, [7, 6, 3], [2, 3], 0), (90, [7], [], -2147483648), (91, [7], [], 2147483647), (20, [6, 0], [2], 1), (0, [6], [], 21), (41, [5, 3], [], 0), (20, [5, 0], [2], 4), (90, [5], [], -2147483648), (91, [5], [], 2147483647), (31, [3], [], 0), (1053, [4, 0, 3], [1, 2], 0), (90, [4], [], -2147483648), (91, [4], [], 2147483647), (1052, [3, 0], [0, 1], 0), (90, [3], [], -2147483648), (91, [3], [], 2147483647), (6000, [0, 1, 2], [0], 0), (0, [0], [], 19), (90, [1], [], -2147483648), (91, [1], [], 2147483647), (90, [2], [], -2147483648), (91, [2], [], 2147483647)], (3000, [10], [3], 52)) := vOk_in fun ρ η h => by
  obtain ⟨f0, f1, f2, f3, f4, f5, f6, f7, f8, f9, f10, f11, f12, f13, f14, f15, f16, f17, f18, f19, f20, f21, f22, f23, f24, f25, f26, _⟩ := h
  exact q_57v_5 (n0 := ρ 2) (n1 := ρ 1) (n2 := ρ 0) (n3 := ρ 3) (n4 := ρ 4) (n5 := ρ 5) (n6 := ρ 6) (n7 := ρ 7) (n8 := ρ 8) (n9 := ρ 9) (n10 := ρ 10) (H0 := η 0) (H1 := η 1) (H2 := η 2) (H3 := η 3) f26 f25 f24 f23 f22 f21 f20 f19 f18 f17 f16 f15 f14 f13 f12 f11 f10 f9 f8 f7 f6 f5 f4 f3 f2 f1 f0
theorem q_57v_6 {n0 n1 n2 n3 n4 n5 n6 n7 n8 n9 n10 n11 n12 : Int} {H0 H1 H2 H3 : gH} (f0 : n0 ≤ 2147483647) (f1 : (-2147483648) ≤ n0) (f2 : n1 ≤ 2147483647) (f3 : (-2147483648) ≤ n1) (f4 : n2 = 19) (f5 : hWt T0 H0 ∧ preb_57v n2 n1 n0 H0) (f6 : n3 ≤ 2147483647) (f7 : (-2147483648) ≤ n3) (f8 : (hLe T0 H0 H1 ∧ hFr s_52v.2.2.2.2 H0 H1 ∧ ((0 : Int) = 0 → H1.length = H0.length) ∧ hWt T0 H1) ∧ postb_52v n3 n2 H0 H1) (f9 : n4 ≤ 2147483647) (f10 : (-2147483648) ≤ n4) (f11 : (hLe T0 H1 H2 ∧ hFr s_53v.2.2.2.2 H1 H2 ∧ ((0 : Int) = 0 → H2.length = H1.length) ∧ hWt T0 H2) ∧ postb_53v n4 n2 n3 H1 H2) (f12 : n3 ≠ 0) (f13 : n5 ≤ 2147483647) (f14 : (-2147483648) ≤ n5) (f15 : n5 = hV H2 (n2).toNat 4) (f16 : n5 ≠ n3) (f17 : n6 = 21) (f18 : n6 = hV H2 (n2).toNat 1) (f19 : n7 ≤ 2147483647) (f20 : (-2147483648) ≤ n7) (f21 : (hLe T0 H2 H3 ∧ hFr s_199vk700.2.2.2.2 H2 H3 ∧ ((0 : Int) = 0 → H3.length = H2.length) ∧ hWt T0 H3) ∧ postb_199vk700 n7 n6 n3 H2 H3) (f22 : n8 = 10) (f23 : n7 < n8) (f24 : n9 = 1) (f25 : n9 ≤ n0) (f26 : n10 = 60) (f27 : n11 = w32 (n10 - n4)) (f28 : n0 ≤ n11) (f29 : n12 = 0) : Ab_57v_56 n2 n1 n0 n2 n1 n0 n3 n4 n12 H0 H3 ∧ ∀ q, none = some q → mub_57v_56 n2 n1 n0 n2 n1 n0 n3 n4 n12 H0 H3 < q := by
  have pz := f5.2
  unfold preb_57v at pz
  obtain ⟨km, mt, fa⟩ := pz
  obtain ⟨mf, ms, me, m20, m21, m22, mz⟩ := MTc mt
  have r15 := f15
  rw [f4] at r15
  rw [show ((19 : Int)).toNat = 19 from rfl] at r15
  have r18 := f18
  rw [f4] at r18
  rw [show ((19 : Int)).toNat = 19 from rfl] at r18
  have l8 : n3 = hV H0 19 3 - 1 := by
    have q := f8.2
    unfold postb_52v at q
    exact q
  have z11 := f11.2
  unfold postb_53v at z11
  rw [(ER_fr f8.1.2.1 (by decide +kernel)).1] at z11
  have z21 := f21.2
  unfold postb_199vk700 at z21
  have z21 := atQ_r (q := 21) (n := 6) z21 f17 (KM_le f11.1.1 (KM_le f8.1.1 km)).2.2.1.2
  rw [(ER_tr (ER_fr f8.1.2.1 (by decide +kernel)) (ER_fr f11.1.2.1 (by decide +kernel))).2.1] at z21
  have e3H1 : hV H1 19 3 = hV H0 19 3 := f8.1.2.1.1 19 3 (by decide +kernel)
  have e3H2 : hV H2 19 3 = hV H0 19 3 := (f11.1.2.1.1 19 3 (by decide +kernel)).trans (f8.1.2.1.1 19 3 (by decide +kernel))
  have e3H3 : hV H3 19 3 = hV H0 19 3 := (f21.1.2.1.1 19 3 (by decide +kernel)).trans ((f11.1.2.1.1 19 3 (by decide +kernel)).trans (f8.1.2.1.1 19 3 (by decide +kernel)))
  have wq27 := f27
  unfold w32 at wq27
  rw [if_pos (by omega), show (n3).toNat = (hV H0 19 3 - 1).toNat by omega] at z11
  rw [if_pos (by omega), show (n3).toNat = (hV H0 19 3 - 1).toNat by omega] at z21
  have sb := m20 (hV H0 19 3 - 1).toNat
  have e4 : hV H2 19 4 = hV H0 19 4 := (f11.1.2.1.1 19 4 (by decide +kernel)).trans (f8.1.2.1.1 19 4 (by decide +kernel))
  have er : ERs H0 H3 := (ER_tr (ER_tr (ER_fr f8.1.2.1 (by decide +kernel)) (ER_fr f11.1.2.1 (by decide +kernel))) (ER_fr f21.1.2.1 (by decide +kernel)))
  unfold Ab_57v_56
  refine ⟨⟨(KM_le f21.1.1 (KM_le f11.1.1 (KM_le f8.1.1 km))), rfl, rfl, by omega, by omega, by omega, by omega, by omega, by omega, by omega, by omega, by omega, er.1, er.2.1, ?_⟩, fun q hq => nomatch hq⟩
  rw [show (n12).toNat = 0 by omega]
  exact er.2.2
theorem c_57v_s_6 : vOkm T0 (eP e_57v L_57v A_57v mu_57v none) 3 ([(0, [12], [], 0), (45, [2, 11], [], 0), (2, [11, 10, 4], [], 0), (0, [10], [], 60), (43, [2, 9], [], 0), (0, [9], [], 1), (42, [7, 8], [], 0), (0, [8], [], 10), (1199, [7, 6, 3], [2, 3], 0), (90, [7], [], -2147483648), (91, [7], [], 2147483647), (20, [6, 0], [2], 1), (0, [6], [], 21), (41, [5, 3], [], 0), (20, [5, 0], [2], 4), (90, [5], [], -2147483648), (91, [5], [], 2147483647), (31, [3], [], 0), (1053, [4, 0, 3], [1, 2], 0), (90, [4], [], -2147483648), (91, [4], [], 2147483647), (1052, [3, 0], [0, 1], 0), (90, [3], [], -2147483648), (91, [3], [], 2147483647), (6000, [0, 1, 2], [0], 0), (0, [0], [], 19), (90, [1], [], -2147483648), (91, [1], [], 2147483647), (90, [2], [], -2147483648), (91, [2], [], 2147483647)], (4000, [0, 1, 2, 3, 4, 12], [3], 56)) := vOk_in fun ρ η h => by
  obtain ⟨f0, f1, f2, f3, f4, f5, f6, f7, f8, f9, f10, f11, f12, f13, f14, f15, f16, f17, f18, f19, f20, f21, f22, f23, f24, f25, f26, f27, f28, f29, _⟩ := h
  exact q_57v_6 (n0 := ρ 2) (n1 := ρ 1) (n2 := ρ 0) (n3 := ρ 3) (n4 := ρ 4) (n5 := ρ 5) (n6 := ρ 6) (n7 := ρ 7) (n8 := ρ 8) (n9 := ρ 9) (n10 := ρ 10) (n11 := ρ 11) (n12 := ρ 12) (H0 := η 0) (H1 := η 1) (H2 := η 2) (H3 := η 3) f29 f28 f27 f26 f25 f24 f23 f22 f21 f20 f19 f18 f17 f16 f15 f14 f13 f12 f11 f10 f9 f8 f7 f6 f5 f4 f3 f2 f1 f0
theorem q_57v_7 {n0 n1 n2 n3 n4 n5 n6 n7 n8 n9 n10 n11 n12 : Int} {H0 H1 H2 H3 : gH} (f0 : n0 ≤ 2147483647) (f1 : (-2147483648) ≤ n0) (f2 : n1 ≤ 2147483647) (f3 : (-2147483648) ≤ n1) (f4 : n2 = 19) (f5 : hWt T0 H0 ∧ preb_57v n2 n1 n0 H0) (f6 : n3 ≤ 2147483647) (f7 : (-2147483648) ≤ n3) (f8 : (hLe T0 H0 H1 ∧ hFr s_52v.2.2.2.2 H0 H1 ∧ ((0 : Int) = 0 → H1.length = H0.length) ∧ hWt T0 H1) ∧ postb_52v n3 n2 H0 H1) (f9 : n4 ≤ 2147483647) (f10 : (-2147483648) ≤ n4) (f11 : (hLe T0 H1 H2 ∧ hFr s_53v.2.2.2.2 H1 H2 ∧ ((0 : Int) = 0 → H2.length = H1.length) ∧ hWt T0 H2) ∧ postb_53v n4 n2 n3 H1 H2) (f12 : n3 ≠ 0) (f13 : n5 ≤ 2147483647) (f14 : (-2147483648) ≤ n5) (f15 : n5 = hV H2 (n2).toNat 4) (f16 : n5 ≠ n3) (f17 : n6 = 21) (f18 : n6 = hV H2 (n2).toNat 1) (f19 : n7 ≤ 2147483647) (f20 : (-2147483648) ≤ n7) (f21 : (hLe T0 H2 H3 ∧ hFr s_199vk700.2.2.2.2 H2 H3 ∧ ((0 : Int) = 0 → H3.length = H2.length) ∧ hWt T0 H3) ∧ postb_199vk700 n7 n6 n3 H2 H3) (f22 : n8 = 10) (f23 : n7 < n8) (f24 : n9 = 1) (f25 : n9 ≤ n0) (f26 : n10 = 60) (f27 : n11 = w32 (n10 - n4)) (f28 : n11 < n0) (f29 : n12 = (-1)) : postb_57v n12 n2 n1 n0 H0 H3 := by
  have pz := f5.2
  unfold preb_57v at pz
  obtain ⟨km, mt, fa⟩ := pz
  obtain ⟨mf, ms, me, m20, m21, m22, mz⟩ := MTc mt
  have r15 := f15
  rw [f4] at r15
  rw [show ((19 : Int)).toNat = 19 from rfl] at r15
  have r18 := f18
  rw [f4] at r18
  rw [show ((19 : Int)).toNat = 19 from rfl] at r18
  have l8 : n3 = hV H0 19 3 - 1 := by
    have q := f8.2
    unfold postb_52v at q
    exact q
  have z11 := f11.2
  unfold postb_53v at z11
  rw [(ER_fr f8.1.2.1 (by decide +kernel)).1] at z11
  have z21 := f21.2
  unfold postb_199vk700 at z21
  have z21 := atQ_r (q := 21) (n := 6) z21 f17 (KM_le f11.1.1 (KM_le f8.1.1 km)).2.2.1.2
  rw [(ER_tr (ER_fr f8.1.2.1 (by decide +kernel)) (ER_fr f11.1.2.1 (by decide +kernel))).2.1] at z21
  have e3H1 : hV H1 19 3 = hV H0 19 3 := f8.1.2.1.1 19 3 (by decide +kernel)
  have e3H2 : hV H2 19 3 = hV H0 19 3 := (f11.1.2.1.1 19 3 (by decide +kernel)).trans (f8.1.2.1.1 19 3 (by decide +kernel))
  have e3H3 : hV H3 19 3 = hV H0 19 3 := (f21.1.2.1.1 19 3 (by decide +kernel)).trans ((f11.1.2.1.1 19 3 (by decide +kernel)).trans (f8.1.2.1.1 19 3 (by decide +kernel)))
  have wq27 := f27
  unfold w32 at wq27
  rw [if_pos (by omega), show (n3).toNat = (hV H0 19 3 - 1).toNat by omega] at z11
  rw [if_pos (by omega), show (n3).toNat = (hV H0 19 3 - 1).toNat by omega] at z21
  have sb := m20 (hV H0 19 3 - 1).toNat
  have e4 : hV H2 19 4 = hV H0 19 4 := (f11.1.2.1.1 19 4 (by decide +kernel)).trans (f8.1.2.1.1 19 4 (by decide +kernel))
  unfold postb_57v
  refine ⟨(KM_le f21.1.1 (KM_le f11.1.1 (KM_le f8.1.1 km))), ?_⟩
  rw [show mC H3 = mC H0 from (mC_fr f21.1.2.1 (by decide +kernel)).trans ((mC_fr f11.1.2.1 (by decide +kernel)).trans (mC_fr f8.1.2.1 (by decide +kernel)))]
  have cc : hV H0 19 3 - 1 = 0 ∨ (if hV H0 19 4 = hV H0 19 3 - 1 then (1 : Int) else 0) = 1 ∨ 10 ≤ hV H0 21 (hV H0 19 3 - 1).toNat ∨ n0 < 1 ∨ 60 - hV H0 20 (hV H0 19 3 - 1).toNat < n0 := by
    first
    | exact .inl (by omega)
    | exact .inr (.inl (if_pos (by omega)))
    | exact .inr (.inr (by omega))
  rw [show n12 = -1 by omega]
  exact (if_pos cc).symm
theorem c_57v_s_7 : vOkm T0 (eP e_57v L_57v A_57v mu_57v none) 3 ([(0, [12], [], -1), (44, [2, 11], [], 0), (2, [11, 10, 4], [], 0), (0, [10], [], 60), (43, [2, 9], [], 0), (0, [9], [], 1), (42, [7, 8], [], 0), (0, [8], [], 10), (1199, [7, 6, 3], [2, 3], 0), (90, [7], [], -2147483648), (91, [7], [], 2147483647), (20, [6, 0], [2], 1), (0, [6], [], 21), (41, [5, 3], [], 0), (20, [5, 0], [2], 4), (90, [5], [], -2147483648), (91, [5], [], 2147483647), (31, [3], [], 0), (1053, [4, 0, 3], [1, 2], 0), (90, [4], [], -2147483648), (91, [4], [], 2147483647), (1052, [3, 0], [0, 1], 0), (90, [3], [], -2147483648), (91, [3], [], 2147483647), (6000, [0, 1, 2], [0], 0), (0, [0], [], 19), (90, [1], [], -2147483648), (91, [1], [], 2147483647), (90, [2], [], -2147483648), (91, [2], [], 2147483647)], (3000, [12], [3], 52)) := vOk_in fun ρ η h => by
  obtain ⟨f0, f1, f2, f3, f4, f5, f6, f7, f8, f9, f10, f11, f12, f13, f14, f15, f16, f17, f18, f19, f20, f21, f22, f23, f24, f25, f26, f27, f28, f29, _⟩ := h
  exact q_57v_7 (n0 := ρ 2) (n1 := ρ 1) (n2 := ρ 0) (n3 := ρ 3) (n4 := ρ 4) (n5 := ρ 5) (n6 := ρ 6) (n7 := ρ 7) (n8 := ρ 8) (n9 := ρ 9) (n10 := ρ 10) (n11 := ρ 11) (n12 := ρ 12) (H0 := η 0) (H1 := η 1) (H2 := η 2) (H3 := η 3) f29 f28 f27 f26 f25 f24 f23 f22 f21 f20 f19 f18 f17 f16 f15 f14 f13 f12 f11 f10 f9 f8 f7 f6 f5 f4 f3 f2 f1 f0
def p_57v_s : List vG := [([(6000, [0, 1, 2], [0], 0), (0, [0], [], 19), (90, [1], [], -2147483648), (91, [1], [], 2147483647), (90, [2], [], -2147483648), (91, [2], [], 2147483647)], (2052, [0], [0], 0)),
  ([(1052, [3, 0], [0, 1], 0), (90, [3], [], -2147483648), (91, [3], [], 2147483647), (6000, [0, 1, 2], [0], 0), (0, [0], [], 19), (90, [1], [], -2147483648), (91, [1], [], 2147483647), (90, [2], [], -2147483648), (91, [2], [], 2147483647)], (2053, [0, 3], [1], 0)),
  ([(0, [5], [], -1), (30, [3], [], 0), (1053, [4, 0, 3], [1, 2], 0), (90, [4], [], -2147483648), (91, [4], [], 2147483647), (1052, [3, 0], [0, 1], 0), (90, [3], [], -2147483648), (91, [3], [], 2147483647), (6000, [0, 1, 2], [0], 0), (0, [0], [], 19), (90, [1], [], -2147483648), (91, [1], [], 2147483647), (90, [2], [], -2147483648), (91, [2], [], 2147483647)], (3000, [5], [2], 52)),
  ([(0, [6], [], -1), (40, [5, 3], [], 0), (20, [5, 0], [2], 4), (90, [5], [], -2147483648), (91, [5], [], 2147483647), (31, [3], [], 0), (1053, [4, 0, 3], [1, 2], 0), (90, [4], [], -2147483648), (91, [4], [], 2147483647), (1052, [3, 0], [0, 1], 0), (90, [3], [], -2147483648), (91, [3], [], 2147483647), (6000, [0, 1, 2], [0], 0), (0, [0], [], 19), (90, [1], [], -2147483648), (91, [1], [], 2147483647), (90, [2], [], -2147483648), (91, [2], [], 2147483647)], (3000, [6], [2], 52)),
  ([(0, [9], [], -1), (43, [7, 8], [], 0), (0, [8], [], 10), (1199, [7, 6, 3], [2, 3], 0), (90, [7], [], -2147483648), (91, [7], [], 2147483647), (20, [6, 0], [2], 1), (0, [6], [], 21), (41, [5, 3], [], 0), (20, [5, 0], [2], 4), (90, [5], [], -2147483648), (91, [5], [], 2147483647), (31, [3], [], 0), (1053, [4, 0, 3], [1, 2], 0), (90, [4], [], -2147483648), (91, [4], [], 2147483647), (1052, [3, 0], [0, 1], 0), (90, [3], [], -2147483648), (91, [3], [], 2147483647), (6000, [0, 1, 2], [0], 0), (0, [0], [], 19), (90, [1], [], -2147483648), (91, [1], [], 2147483647), (90, [2], [], -2147483648), (91, [2], [], 2147483647)], (3000, [9], [3], 52)),
  ([(0, [10], [], -1), (42, [2, 9], [], 0), (0, [9], [], 1), (42, [7, 8], [], 0), (0, [8], [], 10), (1199, [7, 6, 3], [2, 3], 0), (90, [7], [], -2147483648), (91, [7], [], 2147483647), (20, [6, 0], [2], 1), (0, [6], [], 21), (41, [5, 3], [], 0), (20, [5, 0], [2], 4), (90, [5], [], -2147483648), (91, [5], [], 2147483647), (31, [3], [], 0), (1053, [4, 0, 3], [1, 2], 0), (90, [4], [], -2147483648), (91, [4], [], 2147483647), (1052, [3, 0], [0, 1], 0), (90, [3], [], -2147483648), (91, [3], [], 2147483647), (6000, [0, 1, 2], [0], 0), (0, [0], [], 19), (90, [1], [], -2147483648), (91, [1], [], 2147483647), (90, [2], [], -2147483648), (91, [2], [], 2147483647)], (3000, [10], [3], 52)),
  ([(0, [12], [], 0), (45, [2, 11], [], 0), (2, [11, 10, 4], [], 0), (0, [10], [], 60), (43, [2, 9], [], 0), (0, [9], [], 1), (42, [7, 8], [], 0), (0, [8], [], 10), (1199, [7, 6, 3], [2, 3], 0), (90, [7], [], -2147483648), (91, [7], [], 2147483647), (20, [6, 0], [2], 1), (0, [6], [], 21), (41, [5, 3], [], 0), (20, [5, 0], [2], 4), (90, [5], [], -2147483648), (91, [5], [], 2147483647), (31, [3], [], 0), (1053, [4, 0, 3], [1, 2], 0), (90, [4], [], -2147483648), (91, [4], [], 2147483647), (1052, [3, 0], [0, 1], 0), (90, [3], [], -2147483648), (91, [3], [], 2147483647), (6000, [0, 1, 2], [0], 0), (0, [0], [], 19), (90, [1], [], -2147483648), (91, [1], [], 2147483647), (90, [2], [], -2147483648), (91, [2], [], 2147483647)], (4000, [0, 1, 2, 3, 4, 12], [3], 56)),
  ([(0, [12], [], -1), (44, [2, 11], [], 0), (2, [11, 10, 4], [], 0), (0, [10], [], 60), (43, [2, 9], [], 0), (0, [9], [], 1), (42, [7, 8], [], 0), (0, [8], [], 10), (1199, [7, 6, 3], [2, 3], 0), (90, [7], [], -2147483648), (91, [7], [], 2147483647), (20, [6, 0], [2], 1), (0, [6], [], 21), (41, [5, 3], [], 0), (20, [5, 0], [2], 4), (90, [5], [], -2147483648), (91, [5], [], 2147483647), (31, [3], [], 0), (1053, [4, 0, 3], [1, 2], 0), (90, [4], [], -2147483648), (91, [4], [], 2147483647), (1052, [3, 0], [0, 1], 0), (90, [3], [], -2147483648), (91, [3], [], 2147483647), (6000, [0, 1, 2], [0], 0), (0, [0], [], 19), (90, [1], [], -2147483648), (91, [1], [], 2147483647), (90, [2], [], -2147483648), (91, [2], [], 2147483647)], (3000, [12], [3], 52))]
theorem r_57v_s : vCovO false (eR0 e_57v L_57v cs_57v 2000) p_57v_s = true := by decide +kernel
theorem q_57v_8 {q0 : Nat} {n0 n1 n2 n3 n4 n5 n6 n7 n8 n9 n10 n11 n12 n13 n14 n15 n16 : Int} {H0 H1 H2 H3 H4 : gH} (f0 : n0 ≤ 2147483647) (f1 : (-2147483648) ≤ n0) (f2 : n1 ≤ 2147483647) (f3 : (-2147483648) ≤ n1) (f4 : n2 ≤ 2147483647) (f5 : (-2147483648) ≤ n2) (f6 : n3 ≤ 2147483647) (f7 : (-2147483648) ≤ n3) (f8 : n4 ≤ 2147483647) (f9 : (-2147483648) ≤ n4) (f10 : n5 = 19) (f11 : n6 ≤ 2147483647) (f12 : (-2147483648) ≤ n6) (f13 : n7 ≤ 2147483647) (f14 : (-2147483648) ≤ n7) (f15 : n8 = 19) (f16 : (hLe T0 H0 H1 ∧ hFr s_57v.2.2.2.2 H0 H1 ∧ hWt T0 H1) ∧ (Ab_57v_56 n8 n7 n6 n5 n4 n3 n2 n1 n0 H0 H1 ∧ preb_57v n8 n7 n6 H0) ∧ some q0 = some (mub_57v_56 n8 n7 n6 n5 n4 n3 n2 n1 n0 H0 H1)) (f17 : n3 ≤ n0) (f18 : n9 = 20) (f19 : n9 = hV H1 (n5).toNat 0) (f20 : n10 = w32 (n1 + n3)) (f21 : (hLe T0 H1 H2 ∧ hFr s_201vk700.2.2.2.2 H1 H2 ∧ ((0 : Int) = 0 → H2.length = H1.length) ∧ hWt T0 H2) ∧ postb_201vk700 n9 n2 n10 H1 H2) (f22 : n11 = 21) (f23 : n11 = hV H2 (n5).toNat 1) (f24 : n12 = 21) (f25 : n12 = hV H2 (n5).toNat 1) (f26 : n13 ≤ 2147483647) (f27 : (-2147483648) ≤ n13) (f28 : (hLe T0 H2 H3 ∧ hFr s_199vk700.2.2.2.2 H2 H3 ∧ ((0 : Int) = 0 → H3.length = H2.length) ∧ hWt T0 H3) ∧ postb_199vk700 n13 n12 n2 H2 H3) (f29 : n14 = 1) (f30 : n15 = w32 (n13 + n14)) (f31 : (hLe T0 H3 H4 ∧ hFr s_201vk700.2.2.2.2 H3 H4 ∧ ((0 : Int) = 0 → H4.length = H3.length) ∧ hWt T0 H4) ∧ postb_201vk700 n11 n2 n15 H3 H4) (f32 : n16 = w32 (n1 + n3)) : postb_57v n16 n8 n7 n6 H0 H4 := by
  have pz := f16.2.1.2
  unfold preb_57v at pz
  obtain ⟨km0, mt, fa⟩ := pz
  obtain ⟨mf, ms, me, m20, m21, m22, mz⟩ := MTc mt
  have ga := f16.2.1.1
  unfold Ab_57v_56 at ga
  obtain ⟨km, x1, x2, x3, x4, c1, c2, c3, c4, c5, i0, i1, e20, e21, e22⟩ := ga
  have sb := m20 (hV H0 19 3 - 1).toNat
  have ub := m21 (hV H0 19 3 - 1).toNat
  have wq20 := f20
  unfold w32 at wq20
  have wq30 := f30
  unfold w32 at wq30
  have wq32 := f32
  unfold w32 at wq32
  have q1 := f21.2
  unfold postb_201vk700 at q1
  have w1 := putQ_r (q := 20) (n := 6) q1 f18 km.2.1.2 (by omega)
  have k2 := KM_le f21.1.1 km
  have za := f28.2
  unfold postb_199vk700 at za
  have za := atQ_r (q := 21) (n := 6) za f24 k2.2.2.1.2
  rw [if_pos (by omega), putQ_ne q1 21 (by rw [f18]; decide), e21] at za
  have k3 := KM_le f28.1.1 k2
  have er := ER_fr f28.1.2.1 (by decide +kernel)
  have q2 := f31.2
  unfold postb_201vk700 at q2
  have w2 := putQ_r (q := 21) (n := 6) q2 f22 k3.2.2.1.2 (by omega)
  have y20 : hV H4 20 = uF (hV H0 20) n2 n10 := (putQ_ne q2 20 (by rw [f22]; decide)).trans (er.1.trans (w1.trans (by rw [e20])))
  have y21 : hV H4 21 = uF (hV H0 21) n2 n15 := w2.trans (by rw [er.2.1, putQ_ne q1 21 (by rw [f18]; decide), e21])
  have y22 : hV H4 22 = pO n7 (60 * (hV H0 19 3 - 1) + hV H0 20 (hV H0 19 3 - 1).toNat) (hV H0 22) (n6).toNat := (putQ_ne q2 22 (by rw [f22]; decide)).trans (er.2.2.trans ((putQ_ne q1 22 (by rw [f18]; decide)).trans (by rw [e22, show n0 = n6 by omega])))
  rw [show (n2).toNat = (hV H0 19 3 - 1).toNat by omega] at za
  have mo : MOs H0 H4 := MO_tr (MO_fr f16.1.2.1 (by decide +kernel)) (MO_tr (MO_tr (MO_fr f21.1.2.1 (by decide +kernel)) (MO_fr f28.1.2.1 (by decide +kernel))) (MO_fr f31.1.2.1 (by decide +kernel)))
  have ed : EDs H0 H4 := ⟨((f31.1.2.1.1 19 3 (by decide +kernel)).trans ((f28.1.2.1.1 19 3 (by decide +kernel)).trans (f21.1.2.1.1 19 3 (by decide +kernel)))).trans (f16.1.2.1.1 19 3 (by decide +kernel)), ((f31.1.2.1.1 19 4 (by decide +kernel)).trans ((f28.1.2.1.1 19 4 (by decide +kernel)).trans (f21.1.2.1.1 19 4 (by decide +kernel)))).trans (f16.1.2.1.1 19 4 (by decide +kernel))⟩
  unfold postb_57v
  refine ⟨(KM_le f31.1.1 (KM_le f28.1.1 (KM_le f21.1.1 km))), ?_⟩
  have cc : ¬ (hV H0 19 3 - 1 = 0 ∨ (if hV H0 19 4 = hV H0 19 3 - 1 then (1 : Int) else 0) = 1 ∨ 10 ≤ hV H0 21 (hV H0 19 3 - 1).toNat ∨ n6 < 1 ∨ 60 - hV H0 20 (hV H0 19 3 - 1).toNat < n6) := by
    rw [if_neg c2]
    omega
  rw [show mExt n7 n6 (mC H0) = _ from if_neg cc]
  have em : mC H4 = (hV H0 7 1, hV H0 8, hV H0 7 2, hV H0 7 4, hV H0 19 3, uF (hV H0 20) n2 n10, uF (hV H0 21) n2 n15, pO n7 (60 * (hV H0 19 3 - 1) + hV H0 20 (hV H0 19 3 - 1).toNat) (hV H0 22) (n6).toNat, if hV H0 19 4 = hV H0 19 3 - 1 then 1 else 0) := by
    unfold mC
    rw [mo.1, mo.2.1, mo.2.2.1, mo.2.2.2, ed.1, ed.2, y20, y21, y22]
  rw [em, show n2 = hV H0 19 3 - 1 by omega, show n10 = hV H0 20 (hV H0 19 3 - 1).toNat + n6 by omega, show n15 = hV H0 21 (hV H0 19 3 - 1).toNat + 1 by omega]
  exact Prod.ext rfl (by show n16 = hV H0 20 (hV H0 19 3 - 1).toNat + n6; omega)
theorem c_57v_56_0 {q0 : Nat} : vOkm T0 (eP e_57v L_57v A_57v mu_57v (some q0)) 3 ([(1, [16, 7, 5], [], 0), (1201, [11, 6, 15], [3, 4], 0), (1, [15, 13, 14], [], 0), (0, [14], [], 1), (1199, [13, 12, 6], [2, 3], 0), (90, [13], [], -2147483648), (91, [13], [], 2147483647), (20, [12, 3], [2], 1), (0, [12], [], 21), (20, [11, 3], [2], 1), (0, [11], [], 21), (1201, [9, 6, 10], [1, 2], 0), (1, [10, 7, 5], [], 0), (20, [9, 3], [1], 0), (0, [9], [], 20), (43, [8, 5], [], 0), (5000, [0, 1, 2, 3, 4, 5, 6, 7, 8], [0, 1], 56), (0, [0], [], 19), (90, [1], [], -2147483648), (91, [1], [], 2147483647), (90, [2], [], -2147483648), (91, [2], [], 2147483647), (0, [3], [], 19), (90, [4], [], -2147483648), (91, [4], [], 2147483647), (90, [5], [], -2147483648), (91, [5], [], 2147483647), (90, [6], [], -2147483648), (91, [6], [], 2147483647), (90, [7], [], -2147483648), (91, [7], [], 2147483647), (90, [8], [], -2147483648), (91, [8], [], 2147483647)], (3000, [16], [4], 132)) := vOk_in fun ρ η h => by
  obtain ⟨f0, f1, f2, f3, f4, f5, f6, f7, f8, f9, f10, f11, f12, f13, f14, f15, f16, f17, f18, f19, f20, f21, f22, f23, f24, f25, f26, f27, f28, f29, f30, f31, f32, _⟩ := h
  exact q_57v_8 (q0 := q0) (n0 := ρ 8) (n1 := ρ 7) (n2 := ρ 6) (n3 := ρ 5) (n4 := ρ 4) (n5 := ρ 3) (n6 := ρ 2) (n7 := ρ 1) (n8 := ρ 0) (n9 := ρ 9) (n10 := ρ 10) (n11 := ρ 11) (n12 := ρ 12) (n13 := ρ 13) (n14 := ρ 14) (n15 := ρ 15) (n16 := ρ 16) (H0 := η 0) (H1 := η 1) (H2 := η 2) (H3 := η 3) (H4 := η 4) f32 f31 f30 f29 f28 f27 f26 f25 f24 f23 f22 f21 f20 f19 f18 f17 f16 f15 f14 f13 f12 f11 f10 f9 f8 f7 f6 f5 f4 f3 f2 f1 f0
theorem q_57v_9 {q0 : Nat} {n0 n1 n2 n3 n4 n5 n6 n7 n8 n9 n10 n11 n12 n13 n14 n15 n16 : Int} {H0 H1 H2 : gH} (f0 : n0 ≤ 2147483647) (f1 : (-2147483648) ≤ n0) (f2 : n1 ≤ 2147483647) (f3 : (-2147483648) ≤ n1) (f4 : n2 ≤ 2147483647) (f5 : (-2147483648) ≤ n2) (f6 : n3 ≤ 2147483647) (f7 : (-2147483648) ≤ n3) (f8 : n4 ≤ 2147483647) (f9 : (-2147483648) ≤ n4) (f10 : n5 = 19) (f11 : n6 ≤ 2147483647) (f12 : (-2147483648) ≤ n6) (f13 : n7 ≤ 2147483647) (f14 : (-2147483648) ≤ n7) (f15 : n8 = 19) (f16 : (hLe T0 H0 H1 ∧ hFr s_57v.2.2.2.2 H0 H1 ∧ hWt T0 H1) ∧ (Ab_57v_56 n8 n7 n6 n5 n4 n3 n2 n1 n0 H0 H1 ∧ preb_57v n8 n7 n6 H0) ∧ some q0 = some (mub_57v_56 n8 n7 n6 n5 n4 n3 n2 n1 n0 H0 H1)) (f17 : n0 < n3) (f18 : n9 = 22) (f19 : n9 = hV H1 (n5).toNat 2) (f20 : n10 = 60) (f21 : n11 = w32 (n2 * n10)) (f22 : n12 = w32 (n11 + n1)) (f23 : n13 = w32 (n12 + n0)) (f24 : n14 = (-1)) (f25 : n4 ≠ n14) (f26 : n15 = w32 (n4 + n0)) (f27 : (hLe T0 H1 H2 ∧ hFr s_201vk700.2.2.2.2 H1 H2 ∧ ((0 : Int) = 0 → H2.length = H1.length) ∧ hWt T0 H2) ∧ postb_201vk700 n9 n13 n15 H1 H2) (f28 : n16 = w32 (n0 + 1)) : Ab_57v_56 n8 n7 n6 n5 n4 n3 n2 n1 n16 H0 H2 ∧ ∀ q, some q0 = some q → mub_57v_56 n8 n7 n6 n5 n4 n3 n2 n1 n16 H0 H2 < q := by
  have pz := f16.2.1.2
  unfold preb_57v at pz
  obtain ⟨km0, mt, fa⟩ := pz
  obtain ⟨mf, ms, me, m20, m21, m22, mz⟩ := MTc mt
  have ga := f16.2.1.1
  unfold Ab_57v_56 at ga
  obtain ⟨km, x1, x2, x3, x4, c1, c2, c3, c4, c5, i0, i1, e20, e21, e22⟩ := ga
  have sb := m20 (hV H0 19 3 - 1).toNat
  have ub := m21 (hV H0 19 3 - 1).toNat
  have e_21 : n11 = n2 * (60) := by
    have w := f21
    rw [f20] at w
    rw [w]
    exact w32_id (by omega) (by omega)
  have e_22 : n12 = n11 + n1 := by
    have w := f22
    rw [w]
    exact w32_id (by omega) (by omega)
  have e_23 : n13 = n12 + n0 := by
    have w := f23
    rw [w]
    exact w32_id (by omega) (by omega)
  have e_26 : n15 = n4 + n0 := by
    have w := f26
    rw [w]
    exact w32_id (by omega) (by omega)
  have e_28 : n16 = n0 + (1) := by
    have w := f28
    rw [w]
    exact w32_id (by omega) (by omega)
  have q := f27.2
  unfold postb_201vk700 at q
  have e := putQ_r (q := 22) (n := 360) q f18 km.2.2.2.2 (by omega)
  have g5 := Option.some.inj f16.2.2
  unfold mub_57v_56 at g5
  unfold Ab_57v_56 mub_57v_56
  refine ⟨⟨KM_le f27.1.1 km, x1, x2, x3, x4, c1, c2, c3, c4, c5, by omega, by omega, (putQ_ne q 20 (by rw [f18]; decide)).trans e20, (putQ_ne q 21 (by rw [f18]; decide)).trans e21, ?_⟩, fun q hq => ?_⟩
  · rw [e, e22, show (n16).toNat = (n0).toNat + 1 by omega]
    show _ = uF (pO _ _ _ _) _ _
    rw [show n13 = 60 * (hV H0 19 3 - 1) + hV H0 20 (hV H0 19 3 - 1).toNat + (((n0).toNat : Nat) : Int) by omega]
    refine congrArg (uF _ _) ?_
    first
    | (rw [if_pos (by omega)]; omega)
    | (rw [if_neg (by omega)]; omega)
  · have g6 := Option.some.inj hq
    subst g6
    omega
theorem c_57v_56_1 {q0 : Nat} : vOkm T0 (eP e_57v L_57v A_57v mu_57v (some q0)) 3 ([(10, [16, 8], [], 1), (1201, [9, 13, 15], [1, 2], 0), (1, [15, 4, 8], [], 0), (41, [4, 14], [], 0), (0, [14], [], -1), (1, [13, 12, 8], [], 0), (1, [12, 11, 7], [], 0), (3, [11, 6, 10], [], 0), (0, [10], [], 60), (20, [9, 3], [1], 2), (0, [9], [], 22), (42, [8, 5], [], 0), (5000, [0, 1, 2, 3, 4, 5, 6, 7, 8], [0, 1], 56), (0, [0], [], 19), (90, [1], [], -2147483648), (91, [1], [], 2147483647), (90, [2], [], -2147483648), (91, [2], [], 2147483647), (0, [3], [], 19), (90, [4], [], -2147483648), (91, [4], [], 2147483647), (90, [5], [], -2147483648), (91, [5], [], 2147483647), (90, [6], [], -2147483648), (91, [6], [], 2147483647), (90, [7], [], -2147483648), (91, [7], [], 2147483647), (90, [8], [], -2147483648), (91, [8], [], 2147483647)], (4000, [3, 4, 5, 6, 7, 16], [2], 56)) := vOk_in fun ρ η h => by
  obtain ⟨f0, f1, f2, f3, f4, f5, f6, f7, f8, f9, f10, f11, f12, f13, f14, f15, f16, f17, f18, f19, f20, f21, f22, f23, f24, f25, f26, f27, f28, _⟩ := h
  exact q_57v_9 (q0 := q0) (n0 := ρ 8) (n1 := ρ 7) (n2 := ρ 6) (n3 := ρ 5) (n4 := ρ 4) (n5 := ρ 3) (n6 := ρ 2) (n7 := ρ 1) (n8 := ρ 0) (n9 := ρ 9) (n10 := ρ 10) (n11 := ρ 11) (n12 := ρ 12) (n13 := ρ 13) (n14 := ρ 14) (n15 := ρ 15) (n16 := ρ 16) (H0 := η 0) (H1 := η 1) (H2 := η 2) f28 f27 f26 f25 f24 f23 f22 f21 f20 f19 f18 f17 f16 f15 f14 f13 f12 f11 f10 f9 f8 f7 f6 f5 f4 f3 f2 f1 f0
theorem q_57v_10 {q0 : Nat} {n0 n1 n2 n3 n4 n5 n6 n7 n8 n9 n10 n11 n12 n13 n14 n15 n16 : Int} {H0 H1 H2 : gH} (f0 : n0 ≤ 2147483647) (f1 : (-2147483648) ≤ n0) (f2 : n1 ≤ 2147483647) (f3 : (-2147483648) ≤ n1) (f4 : n2 ≤ 2147483647) (f5 : (-2147483648) ≤ n2) (f6 : n3 ≤ 2147483647) (f7 : (-2147483648) ≤ n3) (f8 : n4 ≤ 2147483647) (f9 : (-2147483648) ≤ n4) (f10 : n5 = 19) (f11 : n6 ≤ 2147483647) (f12 : (-2147483648) ≤ n6) (f13 : n7 ≤ 2147483647) (f14 : (-2147483648) ≤ n7) (f15 : n8 = 19) (f16 : (hLe T0 H0 H1 ∧ hFr s_57v.2.2.2.2 H0 H1 ∧ hWt T0 H1) ∧ (Ab_57v_56 n8 n7 n6 n5 n4 n3 n2 n1 n0 H0 H1 ∧ preb_57v n8 n7 n6 H0) ∧ some q0 = some (mub_57v_56 n8 n7 n6 n5 n4 n3 n2 n1 n0 H0 H1)) (f17 : n0 < n3) (f18 : n9 = 22) (f19 : n9 = hV H1 (n5).toNat 2) (f20 : n10 = 60) (f21 : n11 = w32 (n2 * n10)) (f22 : n12 = w32 (n11 + n1)) (f23 : n13 = w32 (n12 + n0)) (f24 : n14 = (-1)) (f25 : n4 = n14) (f26 : n15 = (-1)) (f27 : (hLe T0 H1 H2 ∧ hFr s_201vk700.2.2.2.2 H1 H2 ∧ ((0 : Int) = 0 → H2.length = H1.length) ∧ hWt T0 H2) ∧ postb_201vk700 n9 n13 n15 H1 H2) (f28 : n16 = w32 (n0 + 1)) : Ab_57v_56 n8 n7 n6 n5 n4 n3 n2 n1 n16 H0 H2 ∧ ∀ q, some q0 = some q → mub_57v_56 n8 n7 n6 n5 n4 n3 n2 n1 n16 H0 H2 < q := by
  have pz := f16.2.1.2
  unfold preb_57v at pz
  obtain ⟨km0, mt, fa⟩ := pz
  obtain ⟨mf, ms, me, m20, m21, m22, mz⟩ := MTc mt
  have ga := f16.2.1.1
  unfold Ab_57v_56 at ga
  obtain ⟨km, x1, x2, x3, x4, c1, c2, c3, c4, c5, i0, i1, e20, e21, e22⟩ := ga
  have sb := m20 (hV H0 19 3 - 1).toNat
  have ub := m21 (hV H0 19 3 - 1).toNat
  have e_21 : n11 = n2 * (60) := by
    have w := f21
    rw [f20] at w
    rw [w]
    exact w32_id (by omega) (by omega)
  have e_22 : n12 = n11 + n1 := by
    have w := f22
    rw [w]
    exact w32_id (by omega) (by omega)
  have e_23 : n13 = n12 + n0 := by
    have w := f23
    rw [w]
    exact w32_id (by omega) (by omega)
  have e_28 : n16 = n0 + (1) := by
    have w := f28
    rw [w]
    exact w32_id (by omega) (by omega)
  have q := f27.2
  unfold postb_201vk700 at q
  have e := putQ_r (q := 22) (n := 360) q f18 km.2.2.2.2 (by omega)
  have g5 := Option.some.inj f16.2.2
  unfold mub_57v_56 at g5
  unfold Ab_57v_56 mub_57v_56
  refine ⟨⟨KM_le f27.1.1 km, x1, x2, x3, x4, c1, c2, c3, c4, c5, by omega, by omega, (putQ_ne q 20 (by rw [f18]; decide)).trans e20, (putQ_ne q 21 (by rw [f18]; decide)).trans e21, ?_⟩, fun q hq => ?_⟩
  · rw [e, e22, show (n16).toNat = (n0).toNat + 1 by omega]
    show _ = uF (pO _ _ _ _) _ _
    rw [show n13 = 60 * (hV H0 19 3 - 1) + hV H0 20 (hV H0 19 3 - 1).toNat + (((n0).toNat : Nat) : Int) by omega]
    refine congrArg (uF _ _) ?_
    first
    | (rw [if_pos (by omega)]; omega)
    | (rw [if_neg (by omega)]; omega)
  · have g6 := Option.some.inj hq
    subst g6
    omega
theorem c_57v_56_2 {q0 : Nat} : vOkm T0 (eP e_57v L_57v A_57v mu_57v (some q0)) 3 ([(10, [16, 8], [], 1), (1201, [9, 13, 15], [1, 2], 0), (0, [15], [], -1), (40, [4, 14], [], 0), (0, [14], [], -1), (1, [13, 12, 8], [], 0), (1, [12, 11, 7], [], 0), (3, [11, 6, 10], [], 0), (0, [10], [], 60), (20, [9, 3], [1], 2), (0, [9], [], 22), (42, [8, 5], [], 0), (5000, [0, 1, 2, 3, 4, 5, 6, 7, 8], [0, 1], 56), (0, [0], [], 19), (90, [1], [], -2147483648), (91, [1], [], 2147483647), (90, [2], [], -2147483648), (91, [2], [], 2147483647), (0, [3], [], 19), (90, [4], [], -2147483648), (91, [4], [], 2147483647), (90, [5], [], -2147483648), (91, [5], [], 2147483647), (90, [6], [], -2147483648), (91, [6], [], 2147483647), (90, [7], [], -2147483648), (91, [7], [], 2147483647), (90, [8], [], -2147483648), (91, [8], [], 2147483647)], (4000, [3, 4, 5, 6, 7, 16], [2], 56)) := vOk_in fun ρ η h => by
  obtain ⟨f0, f1, f2, f3, f4, f5, f6, f7, f8, f9, f10, f11, f12, f13, f14, f15, f16, f17, f18, f19, f20, f21, f22, f23, f24, f25, f26, f27, f28, _⟩ := h
  exact q_57v_10 (q0 := q0) (n0 := ρ 8) (n1 := ρ 7) (n2 := ρ 6) (n3 := ρ 5) (n4 := ρ 4) (n5 := ρ 3) (n6 := ρ 2) (n7 := ρ 1) (n8 := ρ 0) (n9 := ρ 9) (n10 := ρ 10) (n11 := ρ 11) (n12 := ρ 12) (n13 := ρ 13) (n14 := ρ 14) (n15 := ρ 15) (n16 := ρ 16) (H0 := η 0) (H1 := η 1) (H2 := η 2) f28 f27 f26 f25 f24 f23 f22 f21 f20 f19 f18 f17 f16 f15 f14 f13 f12 f11 f10 f9 f8 f7 f6 f5 f4 f3 f2 f1 f0
def p_57v_56 : List vG := [([(1, [16, 7, 5], [], 0), (1201, [11, 6, 15], [3, 4], 0), (1, [15, 13, 14], [], 0), (0, [14], [], 1), (1199, [13, 12, 6], [2, 3], 0), (90, [13], [], -2147483648), (91, [13], [], 2147483647), (20, [12, 3], [2], 1), (0, [12], [], 21), (20, [11, 3], [2], 1), (0, [11], [], 21), (1201, [9, 6, 10], [1, 2], 0), (1, [10, 7, 5], [], 0), (20, [9, 3], [1], 0), (0, [9], [], 20), (43, [8, 5], [], 0), (5000, [0, 1, 2, 3, 4, 5, 6, 7, 8], [0, 1], 56), (0, [0], [], 19), (90, [1], [], -2147483648), (91, [1], [], 2147483647), (90, [2], [], -2147483648), (91, [2], [], 2147483647), (0, [3], [], 19), (90, [4], [], -2147483648), (91, [4], [], 2147483647), (90, [5], [], -2147483648), (91, [5], [], 2147483647), (90, [6], [], -2147483648), (91, [6], [], 2147483647), (90, [7], [], -2147483648), (91, [7], [], 2147483647), (90, [8], [], -2147483648), (91, [8], [], 2147483647)], (3000, [16], [4], 132)),
  ([(10, [16, 8], [], 1), (1201, [9, 13, 15], [1, 2], 0), (1, [15, 4, 8], [], 0), (41, [4, 14], [], 0), (0, [14], [], -1), (1, [13, 12, 8], [], 0), (1, [12, 11, 7], [], 0), (3, [11, 6, 10], [], 0), (0, [10], [], 60), (20, [9, 3], [1], 2), (0, [9], [], 22), (42, [8, 5], [], 0), (5000, [0, 1, 2, 3, 4, 5, 6, 7, 8], [0, 1], 56), (0, [0], [], 19), (90, [1], [], -2147483648), (91, [1], [], 2147483647), (90, [2], [], -2147483648), (91, [2], [], 2147483647), (0, [3], [], 19), (90, [4], [], -2147483648), (91, [4], [], 2147483647), (90, [5], [], -2147483648), (91, [5], [], 2147483647), (90, [6], [], -2147483648), (91, [6], [], 2147483647), (90, [7], [], -2147483648), (91, [7], [], 2147483647), (90, [8], [], -2147483648), (91, [8], [], 2147483647)], (4000, [3, 4, 5, 6, 7, 16], [2], 56)),
  ([(10, [16, 8], [], 1), (1201, [9, 13, 15], [1, 2], 0), (0, [15], [], -1), (40, [4, 14], [], 0), (0, [14], [], -1), (1, [13, 12, 8], [], 0), (1, [12, 11, 7], [], 0), (3, [11, 6, 10], [], 0), (0, [10], [], 60), (20, [9, 3], [1], 2), (0, [9], [], 22), (42, [8, 5], [], 0), (5000, [0, 1, 2, 3, 4, 5, 6, 7, 8], [0, 1], 56), (0, [0], [], 19), (90, [1], [], -2147483648), (91, [1], [], 2147483647), (90, [2], [], -2147483648), (91, [2], [], 2147483647), (0, [3], [], 19), (90, [4], [], -2147483648), (91, [4], [], 2147483647), (90, [5], [], -2147483648), (91, [5], [], 2147483647), (90, [6], [], -2147483648), (91, [6], [], 2147483647), (90, [7], [], -2147483648), (91, [7], [], 2147483647), (90, [8], [], -2147483648), (91, [8], [], 2147483647)], (4000, [3, 4, 5, 6, 7, 16], [2], 56))]
theorem r_57v_56 : vCovO false (eRc e_57v L_57v cs_57v 2000 (56, [(0, (3, 3, 19, 0)), (1, (0, -2147483648, 2147483647, 0)), (2, (0, -2147483648, 2147483647, 0)), (3, (0, -2147483648, 2147483647, 0)), (4, (0, -2147483648, 2147483647, 0)), (5, (0, -2147483648, 2147483647, 0))])) p_57v_56 = true := by decide +kernel
theorem m_57v (d : Nat) : eC e_57v (d + 3) := eC_ok (e := e_57v) (L := L_57v) (cs := cs_57v) (n := 2000) (d := d + 2) (A := A_57v) (μ := mu_57v) (tp := false) (p0 := p_57v_s) rfl ⟨m_52v (d + 1), ⟨m_53v d, ⟨m_199vk700 (d + 1), ⟨m_201vk700 (d + 1), trivial⟩⟩⟩⟩ rfl (.inl rfl) (by decide +kernel) (fun z => nomatch z) r_57v_s (allC c_57v_s_0 (allC c_57v_s_1 (allC c_57v_s_2 (allC c_57v_s_3 (allC c_57v_s_4 (allC c_57v_s_5 (allC c_57v_s_6 (allC c_57v_s_7 allN)))))))) (allC (.inl ⟨p_57v_56, r_57v_56, fun q0 => (allC c_57v_56_0 (allC c_57v_56_1 (allC c_57v_56_2 allN)))⟩) allN)
/- Picture.cameFrom (III)I -/
noncomputable def s_58v : vM := ([(3, 3, 19, 0), (0, -2147483648, 2147483647, 0), (0, -2147483648, 2147483647, 0), (0, -2147483648, 2147483647, 0)], (0, -2147483648, 2147483647, 0), 1, 0, [])
def preb_58v (a0 a1 a2 a3 : Int) (h : gH) : Prop := KM h ∧ MT (mC h) ∧ 0 ≤ a2 ∧ a2 ≤ 59 ∧ 0 ≤ a3 ∧ a3 ≤ a1 ∧ a1 ≤ 5 ∧ 0 ≤ a1
def pre_58v : List Int → gH → Prop := fun xs h => match xs with
  | [a0, a1, a2, a3] => preb_58v a0 a1 a2 a3 h
  | _ => False
def postb_58v (r a0 a1 a2 a3 : Int) (h0 h : gH) : Prop := r = pFrom (hV h0 22) a3 (a1 - a3).toNat a2
def post_58v : List Int → gH → gH → Prop := fun xs h0 h => match xs with
  | [r, a0, a1, a2, a3] => postb_58v r a0 a1 a2 a3 h0 h
  | _ => True
noncomputable def e_58v : vE := (58, s_58v, pre_58v, post_58v)
noncomputable def L_58v : List vE := [e_199vk700]
def cs_58v : List vC := [(6, [(0, (3, 3, 19, 0)), (1, (0, -2147483648, 2147483647, 0)), (2, (0, -2147483648, 2147483647, 0)), (3, (0, -2147483648, 2147483647, 0)), (4, (0, -2147483648, 2147483647, 0)), (5, (0, -2147483648, 2147483647, 0))])]
def Ab_58v_6 (a0 a1 a2 a3 x0 x1 x2 x3 x4 x5 : Int) (h0 h : gH) : Prop := KM h ∧ x3 = a3 ∧ -1 ≤ x4 ∧ x4 ≤ 59 ∧ x5 ≤ 5 ∧ a3 ≤ x5 ∧ pFrom (hV h0 22) a3 (x5 - a3).toNat x4 = pFrom (hV h0 22) a3 (a1 - a3).toNat a2 ∧ hV h 22 = hV h0 22
def mub_58v_6 (a0 a1 a2 a3 x0 x1 x2 x3 x4 x5 : Int) (h0 h : gH) : Nat := (x5 + 1).toNat
def A_58v : Int → List Int → gH → gH → Prop := fun c xs h0 h => match c.toNat with
  | 6 => (match xs with
    | [a0, a1, a2, a3, x0, x1, x2, x3, x4, x5] => Ab_58v_6 a0 a1 a2 a3 x0 x1 x2 x3 x4 x5 h0 h
    | _ => False)
  | _ => True
def mu_58v : Int → List Int → gH → gH → Nat := fun c xs h0 h => match c.toNat with
  | 6 => (match xs with
    | [a0, a1, a2, a3, x0, x1, x2, x3, x4, x5] => mub_58v_6 a0 a1 a2 a3 x0 x1 x2 x3 x4 x5 h0 h
    | _ => 0)
  | _ => 0
theorem q_58v_0 {n0 n1 n2 n3 : Int} {H0 : gH} (f0 : n0 ≤ 2147483647) (f1 : (-2147483648) ≤ n0) (f2 : n1 ≤ 2147483647) (f3 : (-2147483648) ≤ n1) (f4 : n2 ≤ 2147483647) (f5 : (-2147483648) ≤ n2) (f6 : n3 = 19) (f7 : hWt T0 H0 ∧ preb_58v n3 n2 n1 n0 H0) : Ab_58v_6 n3 n2 n1 n0 n3 n2 n1 n0 n1 n2 H0 H0 ∧ ∀ q, none = some q → mub_58v_6 n3 n2 n1 n0 n3 n2 n1 n0 n1 n2 H0 H0 < q := by
  have pz := f7.2
  unfold preb_58v at pz
  obtain ⟨km, mt, b1, b2, b3, b4, b5, b6⟩ := pz
  unfold Ab_58v_6
  exact ⟨⟨km, rfl, by omega, by omega, by omega, by omega, rfl, rfl⟩, fun q hq => nomatch hq⟩
theorem c_58v_s_0 : vOkm T0 (eP e_58v L_58v A_58v mu_58v none) 4 ([(6000, [0, 1, 2, 3], [0], 0), (0, [0], [], 19), (90, [1], [], -2147483648), (91, [1], [], 2147483647), (90, [2], [], -2147483648), (91, [2], [], 2147483647), (90, [3], [], -2147483648), (91, [3], [], 2147483647)], (4000, [0, 1, 2, 3, 2, 1], [0], 6)) := vOk_in fun ρ η h => by
  obtain ⟨f0, f1, f2, f3, f4, f5, f6, f7, _⟩ := h
  exact q_58v_0 (n0 := ρ 3) (n1 := ρ 2) (n2 := ρ 1) (n3 := ρ 0) (H0 := η 0) f7 f6 f5 f4 f3 f2 f1 f0
def p_58v_s : List vG := [([(6000, [0, 1, 2, 3], [0], 0), (0, [0], [], 19), (90, [1], [], -2147483648), (91, [1], [], 2147483647), (90, [2], [], -2147483648), (91, [2], [], 2147483647), (90, [3], [], -2147483648), (91, [3], [], 2147483647)], (4000, [0, 1, 2, 3, 2, 1], [0], 6))]
theorem r_58v_s : vCovO false (eR0 e_58v L_58v cs_58v 2000) p_58v_s = true := by decide +kernel
theorem q_58v_1 {q0 : Nat} {n0 n1 n2 n3 n4 n5 n6 n7 n8 n9 : Int} {H0 H1 : gH} (f0 : n0 ≤ 2147483647) (f1 : (-2147483648) ≤ n0) (f2 : n1 ≤ 2147483647) (f3 : (-2147483648) ≤ n1) (f4 : n2 ≤ 2147483647) (f5 : (-2147483648) ≤ n2) (f6 : n3 ≤ 2147483647) (f7 : (-2147483648) ≤ n3) (f8 : n4 ≤ 2147483647) (f9 : (-2147483648) ≤ n4) (f10 : n5 = 19) (f11 : n6 ≤ 2147483647) (f12 : (-2147483648) ≤ n6) (f13 : n7 ≤ 2147483647) (f14 : (-2147483648) ≤ n7) (f15 : n8 ≤ 2147483647) (f16 : (-2147483648) ≤ n8) (f17 : n9 = 19) (f18 : (hLe T0 H0 H1 ∧ hFr s_58v.2.2.2.2 H0 H1 ∧ hWt T0 H1) ∧ (Ab_58v_6 n9 n8 n7 n6 n5 n4 n3 n2 n1 n0 H0 H1 ∧ preb_58v n9 n8 n7 n6 H0) ∧ some q0 = some (mub_58v_6 n9 n8 n7 n6 n5 n4 n3 n2 n1 n0 H0 H1)) (f19 : n0 ≤ n2) : postb_58v n1 n9 n8 n7 n6 H0 H1 := by
  have pz := f18.2.1.2
  unfold preb_58v at pz
  obtain ⟨km0, mt, b1, b2, b3, b4, b5, b6⟩ := pz
  obtain ⟨mf, ms, me, m20, m21, m22, mz⟩ := MTc mt
  have ga := f18.2.1.1
  unfold Ab_58v_6 at ga
  obtain ⟨km, x3, y1, y2, y3, y4, yf, y22⟩ := ga
  unfold postb_58v
  rw [← yf]
  first
  | (rw [show (n0 - n6).toNat = 0 by omega]; rfl)
  | (rw [show n1 = -1 by omega, pFrom_neg])
theorem c_58v_6_0 {q0 : Nat} : vOkm T0 (eP e_58v L_58v A_58v mu_58v (some q0)) 4 ([(45, [9, 7], [], 0), (5000, [0, 1, 2, 3, 4, 5, 6, 7, 8, 9], [0, 1], 6), (0, [0], [], 19), (90, [1], [], -2147483648), (91, [1], [], 2147483647), (90, [2], [], -2147483648), (91, [2], [], 2147483647), (90, [3], [], -2147483648), (91, [3], [], 2147483647), (0, [4], [], 19), (90, [5], [], -2147483648), (91, [5], [], 2147483647), (90, [6], [], -2147483648), (91, [6], [], 2147483647), (90, [7], [], -2147483648), (91, [7], [], 2147483647), (90, [8], [], -2147483648), (91, [8], [], 2147483647), (90, [9], [], -2147483648), (91, [9], [], 2147483647)], (3000, [8], [1], 43)) := vOk_in fun ρ η h => by
  obtain ⟨f0, f1, f2, f3, f4, f5, f6, f7, f8, f9, f10, f11, f12, f13, f14, f15, f16, f17, f18, f19, _⟩ := h
  exact q_58v_1 (q0 := q0) (n0 := ρ 9) (n1 := ρ 8) (n2 := ρ 7) (n3 := ρ 6) (n4 := ρ 5) (n5 := ρ 4) (n6 := ρ 3) (n7 := ρ 2) (n8 := ρ 1) (n9 := ρ 0) (H0 := η 0) (H1 := η 1) f19 f18 f17 f16 f15 f14 f13 f12 f11 f10 f9 f8 f7 f6 f5 f4 f3 f2 f1 f0
theorem q_58v_2 {q0 : Nat} {n0 n1 n2 n3 n4 n5 n6 n7 n8 n9 n10 : Int} {H0 H1 : gH} (f0 : n0 ≤ 2147483647) (f1 : (-2147483648) ≤ n0) (f2 : n1 ≤ 2147483647) (f3 : (-2147483648) ≤ n1) (f4 : n2 ≤ 2147483647) (f5 : (-2147483648) ≤ n2) (f6 : n3 ≤ 2147483647) (f7 : (-2147483648) ≤ n3) (f8 : n4 ≤ 2147483647) (f9 : (-2147483648) ≤ n4) (f10 : n5 = 19) (f11 : n6 ≤ 2147483647) (f12 : (-2147483648) ≤ n6) (f13 : n7 ≤ 2147483647) (f14 : (-2147483648) ≤ n7) (f15 : n8 ≤ 2147483647) (f16 : (-2147483648) ≤ n8) (f17 : n9 = 19) (f18 : (hLe T0 H0 H1 ∧ hFr s_58v.2.2.2.2 H0 H1 ∧ hWt T0 H1) ∧ (Ab_58v_6 n9 n8 n7 n6 n5 n4 n3 n2 n1 n0 H0 H1 ∧ preb_58v n9 n8 n7 n6 H0) ∧ some q0 = some (mub_58v_6 n9 n8 n7 n6 n5 n4 n3 n2 n1 n0 H0 H1)) (f19 : n2 < n0) (f20 : n10 = (-1)) (f21 : n1 = n10) : postb_58v n1 n9 n8 n7 n6 H0 H1 := by
  have pz := f18.2.1.2
  unfold preb_58v at pz
  obtain ⟨km0, mt, b1, b2, b3, b4, b5, b6⟩ := pz
  obtain ⟨mf, ms, me, m20, m21, m22, mz⟩ := MTc mt
  have ga := f18.2.1.1
  unfold Ab_58v_6 at ga
  obtain ⟨km, x3, y1, y2, y3, y4, yf, y22⟩ := ga
  unfold postb_58v
  rw [← yf]
  first
  | (rw [show (n0 - n6).toNat = 0 by omega]; rfl)
  | (rw [show n1 = -1 by omega, pFrom_neg])
theorem c_58v_6_1 {q0 : Nat} : vOkm T0 (eP e_58v L_58v A_58v mu_58v (some q0)) 4 ([(40, [8, 10], [], 0), (0, [10], [], -1), (44, [9, 7], [], 0), (5000, [0, 1, 2, 3, 4, 5, 6, 7, 8, 9], [0, 1], 6), (0, [0], [], 19), (90, [1], [], -2147483648), (91, [1], [], 2147483647), (90, [2], [], -2147483648), (91, [2], [], 2147483647), (90, [3], [], -2147483648), (91, [3], [], 2147483647), (0, [4], [], 19), (90, [5], [], -2147483648), (91, [5], [], 2147483647), (90, [6], [], -2147483648), (91, [6], [], 2147483647), (90, [7], [], -2147483648), (91, [7], [], 2147483647), (90, [8], [], -2147483648), (91, [8], [], 2147483647), (90, [9], [], -2147483648), (91, [9], [], 2147483647)], (3000, [8], [1], 43)) := vOk_in fun ρ η h => by
  obtain ⟨f0, f1, f2, f3, f4, f5, f6, f7, f8, f9, f10, f11, f12, f13, f14, f15, f16, f17, f18, f19, f20, f21, _⟩ := h
  exact q_58v_2 (q0 := q0) (n0 := ρ 9) (n1 := ρ 8) (n2 := ρ 7) (n3 := ρ 6) (n4 := ρ 5) (n5 := ρ 4) (n6 := ρ 3) (n7 := ρ 2) (n8 := ρ 1) (n9 := ρ 0) (n10 := ρ 10) (H0 := η 0) (H1 := η 1) f21 f20 f19 f18 f17 f16 f15 f14 f13 f12 f11 f10 f9 f8 f7 f6 f5 f4 f3 f2 f1 f0
theorem q_58v_3 {q0 : Nat} {n0 n1 n2 n3 n4 n5 n6 n7 n8 n9 n10 n11 n12 n13 n14 n15 n16 : Int} {H0 H1 H2 : gH} (f0 : n0 ≤ 2147483647) (f1 : (-2147483648) ≤ n0) (f2 : n1 ≤ 2147483647) (f3 : (-2147483648) ≤ n1) (f4 : n2 ≤ 2147483647) (f5 : (-2147483648) ≤ n2) (f6 : n3 ≤ 2147483647) (f7 : (-2147483648) ≤ n3) (f8 : n4 ≤ 2147483647) (f9 : (-2147483648) ≤ n4) (f10 : n5 = 19) (f11 : n6 ≤ 2147483647) (f12 : (-2147483648) ≤ n6) (f13 : n7 ≤ 2147483647) (f14 : (-2147483648) ≤ n7) (f15 : n8 ≤ 2147483647) (f16 : (-2147483648) ≤ n8) (f17 : n9 = 19) (f18 : (hLe T0 H0 H1 ∧ hFr s_58v.2.2.2.2 H0 H1 ∧ hWt T0 H1) ∧ (Ab_58v_6 n9 n8 n7 n6 n5 n4 n3 n2 n1 n0 H0 H1 ∧ preb_58v n9 n8 n7 n6 H0) ∧ some q0 = some (mub_58v_6 n9 n8 n7 n6 n5 n4 n3 n2 n1 n0 H0 H1)) (f19 : n2 < n0) (f20 : n10 = (-1)) (f21 : n1 ≠ n10) (f22 : n11 = 22) (f23 : n11 = hV H1 (n5).toNat 2) (f24 : n12 = 60) (f25 : n13 = w32 (n0 * n12)) (f26 : n14 = w32 (n13 + n1)) (f27 : n15 ≤ 2147483647) (f28 : (-2147483648) ≤ n15) (f29 : (hLe T0 H1 H2 ∧ hFr s_199vk700.2.2.2.2 H1 H2 ∧ ((0 : Int) = 0 → H2.length = H1.length) ∧ hWt T0 H2) ∧ postb_199vk700 n15 n11 n14 H1 H2) (f30 : n16 = w32 (n0 + (-1))) : Ab_58v_6 n9 n8 n7 n6 n5 n4 n3 n2 n15 n16 H0 H2 ∧ ∀ q, some q0 = some q → mub_58v_6 n9 n8 n7 n6 n5 n4 n3 n2 n15 n16 H0 H2 < q := by
  have pz := f18.2.1.2
  unfold preb_58v at pz
  obtain ⟨km0, mt, b1, b2, b3, b4, b5, b6⟩ := pz
  obtain ⟨mf, ms, me, m20, m21, m22, mz⟩ := MTc mt
  have ga := f18.2.1.1
  unfold Ab_58v_6 at ga
  obtain ⟨km, x3, y1, y2, y3, y4, yf, y22⟩ := ga
  have e_25 : n13 = n0 * (60) := by
    have w := f25
    rw [f24] at w
    rw [w]
    exact w32_id (by omega) (by omega)
  have e_26 : n14 = n13 + n1 := by
    have w := f26
    rw [w]
    exact w32_id (by omega) (by omega)
  have e_30 : n16 = n0 + (-1) := by
    have w := f30
    rw [w]
    exact w32_id (by omega) (by omega)
  have q := f29.2
  unfold postb_199vk700 at q
  have e := atQ_r (q := 22) (n := 360) q f22 km.2.2.2.2
  rw [if_pos (by omega), y22] at e
  have ob := m22 (n14).toNat
  have g5 := Option.some.inj f18.2.2
  unfold mub_58v_6 at g5
  unfold Ab_58v_6 mub_58v_6
  refine ⟨⟨KM_le f29.1.1 km, x3, by omega, by omega, by omega, by omega, ?_, (fRow f29.1.2.1 22 (by decide +kernel)).trans y22⟩, fun q hq => ?_⟩
  · rw [← yf, show (n0 - n6).toNat = (n16 - n6).toNat + 1 by omega]
    show _ = (if n1 = -1 then -1 else pFrom _ _ _ _)
    rw [if_neg (by omega), e]
    refine congrArg (fun z : Nat => pFrom (hV H0 22) n6 (n16 - n6).toNat (hV H0 22 z)) ?_
    omega
  · have g6 := Option.some.inj hq
    subst g6
    omega
theorem c_58v_6_2 {q0 : Nat} : vOkm T0 (eP e_58v L_58v A_58v mu_58v (some q0)) 4 ([(10, [16, 9], [], -1), (1199, [15, 11, 14], [1, 2], 0), (90, [15], [], -2147483648), (91, [15], [], 2147483647), (1, [14, 13, 8], [], 0), (3, [13, 9, 12], [], 0), (0, [12], [], 60), (20, [11, 4], [1], 2), (0, [11], [], 22), (41, [8, 10], [], 0), (0, [10], [], -1), (44, [9, 7], [], 0), (5000, [0, 1, 2, 3, 4, 5, 6, 7, 8, 9], [0, 1], 6), (0, [0], [], 19), (90, [1], [], -2147483648), (91, [1], [], 2147483647), (90, [2], [], -2147483648), (91, [2], [], 2147483647), (90, [3], [], -2147483648), (91, [3], [], 2147483647), (0, [4], [], 19), (90, [5], [], -2147483648), (91, [5], [], 2147483647), (90, [6], [], -2147483648), (91, [6], [], 2147483647), (90, [7], [], -2147483648), (91, [7], [], 2147483647), (90, [8], [], -2147483648), (91, [8], [], 2147483647), (90, [9], [], -2147483648), (91, [9], [], 2147483647)], (4000, [4, 5, 6, 7, 15, 16], [2], 6)) := vOk_in fun ρ η h => by
  obtain ⟨f0, f1, f2, f3, f4, f5, f6, f7, f8, f9, f10, f11, f12, f13, f14, f15, f16, f17, f18, f19, f20, f21, f22, f23, f24, f25, f26, f27, f28, f29, f30, _⟩ := h
  exact q_58v_3 (q0 := q0) (n0 := ρ 9) (n1 := ρ 8) (n2 := ρ 7) (n3 := ρ 6) (n4 := ρ 5) (n5 := ρ 4) (n6 := ρ 3) (n7 := ρ 2) (n8 := ρ 1) (n9 := ρ 0) (n10 := ρ 10) (n11 := ρ 11) (n12 := ρ 12) (n13 := ρ 13) (n14 := ρ 14) (n15 := ρ 15) (n16 := ρ 16) (H0 := η 0) (H1 := η 1) (H2 := η 2) f30 f29 f28 f27 f26 f25 f24 f23 f22 f21 f20 f19 f18 f17 f16 f15 f14 f13 f12 f11 f10 f9 f8 f7 f6 f5 f4 f3 f2 f1 f0
def p_58v_6 : List vG := [([(45, [9, 7], [], 0), (5000, [0, 1, 2, 3, 4, 5, 6, 7, 8, 9], [0, 1], 6), (0, [0], [], 19), (90, [1], [], -2147483648), (91, [1], [], 2147483647), (90, [2], [], -2147483648), (91, [2], [], 2147483647), (90, [3], [], -2147483648), (91, [3], [], 2147483647), (0, [4], [], 19), (90, [5], [], -2147483648), (91, [5], [], 2147483647), (90, [6], [], -2147483648), (91, [6], [], 2147483647), (90, [7], [], -2147483648), (91, [7], [], 2147483647), (90, [8], [], -2147483648), (91, [8], [], 2147483647), (90, [9], [], -2147483648), (91, [9], [], 2147483647)], (3000, [8], [1], 43)),
  ([(40, [8, 10], [], 0), (0, [10], [], -1), (44, [9, 7], [], 0), (5000, [0, 1, 2, 3, 4, 5, 6, 7, 8, 9], [0, 1], 6), (0, [0], [], 19), (90, [1], [], -2147483648), (91, [1], [], 2147483647), (90, [2], [], -2147483648), (91, [2], [], 2147483647), (90, [3], [], -2147483648), (91, [3], [], 2147483647), (0, [4], [], 19), (90, [5], [], -2147483648), (91, [5], [], 2147483647), (90, [6], [], -2147483648), (91, [6], [], 2147483647), (90, [7], [], -2147483648), (91, [7], [], 2147483647), (90, [8], [], -2147483648), (91, [8], [], 2147483647), (90, [9], [], -2147483648), (91, [9], [], 2147483647)], (3000, [8], [1], 43)),
  ([(10, [16, 9], [], -1), (1199, [15, 11, 14], [1, 2], 0), (90, [15], [], -2147483648), (91, [15], [], 2147483647), (1, [14, 13, 8], [], 0), (3, [13, 9, 12], [], 0), (0, [12], [], 60), (20, [11, 4], [1], 2), (0, [11], [], 22), (41, [8, 10], [], 0), (0, [10], [], -1), (44, [9, 7], [], 0), (5000, [0, 1, 2, 3, 4, 5, 6, 7, 8, 9], [0, 1], 6), (0, [0], [], 19), (90, [1], [], -2147483648), (91, [1], [], 2147483647), (90, [2], [], -2147483648), (91, [2], [], 2147483647), (90, [3], [], -2147483648), (91, [3], [], 2147483647), (0, [4], [], 19), (90, [5], [], -2147483648), (91, [5], [], 2147483647), (90, [6], [], -2147483648), (91, [6], [], 2147483647), (90, [7], [], -2147483648), (91, [7], [], 2147483647), (90, [8], [], -2147483648), (91, [8], [], 2147483647), (90, [9], [], -2147483648), (91, [9], [], 2147483647)], (4000, [4, 5, 6, 7, 15, 16], [2], 6))]
theorem r_58v_6 : vCovO false (eRc e_58v L_58v cs_58v 2000 (6, [(0, (3, 3, 19, 0)), (1, (0, -2147483648, 2147483647, 0)), (2, (0, -2147483648, 2147483647, 0)), (3, (0, -2147483648, 2147483647, 0)), (4, (0, -2147483648, 2147483647, 0)), (5, (0, -2147483648, 2147483647, 0))])) p_58v_6 = true := by decide +kernel
theorem m_58v (d : Nat) : eC e_58v (d + 2) := eC_ok (e := e_58v) (L := L_58v) (cs := cs_58v) (n := 2000) (d := d + 1) (A := A_58v) (μ := mu_58v) (tp := false) (p0 := p_58v_s) rfl ⟨m_199vk700 d, trivial⟩ rfl (.inl rfl) (by decide +kernel) (fun z => nomatch z) r_58v_s (allC c_58v_s_0 allN) (allC (.inl ⟨p_58v_6, r_58v_6, fun q0 => (allC c_58v_6_0 (allC c_58v_6_1 (allC c_58v_6_2 allN)))⟩) allN)
