/-! CONTRACTS of methods told more fully. -/
/- MixStage.at ([II)I -/
noncomputable def s_199vk748 : vM := ([(2, 748, -1, 0), (0, -2147483648, 2147483647, 0)], (0, -2147483648, 2147483647, 0), 0, 0, [])
def postb_199vk748 (r a0 a1 : Int) (h0 h : gH) : Prop := r = atQ h0 a0 a1
def post_199vk748 : List Int → gH → gH → Prop := fun xs h0 h => match xs with
  | [r, a0, a1] => postb_199vk748 r a0 a1 h0 h
  | _ => True
noncomputable def e_199vk748 : vE := (199, s_199vk748, pre0, post_199vk748)
noncomputable def L_199vk748 : List vE := []
def cs_199vk748 : List vC := []
def A_199vk748 : Int → List Int → gH → gH → Prop := fun c xs h0 h => True
def mu_199vk748 : Int → List Int → gH → gH → Nat := fun c xs h0 h => 0
theorem q_199vk748_0 {n0 n1 n2 : Int} {H0 : gH} (f0 : n0 ≤ 2147483647) (f1 : (-2147483648) ≤ n0) (f2 : hWt T0 H0 ∧ True) (f3 : n1 = -1) (f4 : n2 = 0) : postb_199vk748 n2 n1 n0 H0 H0 := by
  unfold postb_199vk748

  unfold atQ
  first
  | (rw [if_neg (by omega)] <;> omega)
  | (rw [if_pos (by omega)] <;> omega)
theorem c_199vk748_s_0 : vOkm T0 (eP e_199vk748 L_199vk748 A_199vk748 mu_199vk748 none) 2 ([(0, [2], [], 0), (50, [0], [], 0), (6000, [0, 1], [0], 0), (90, [1], [], -2147483648), (91, [1], [], 2147483647)], (3000, [2], [0], 21)) := vOk_in fun ρ η h => by
  obtain ⟨f0, f1, f2, f3, f4, _⟩ := h
  exact q_199vk748_0 (n0 := ρ 1) (n1 := ρ 0) (n2 := ρ 2) (H0 := η 0) f4 f3 f2 f1 f0
theorem q_199vk748_1 {n0 n1 n2 : Int} {H0 : gH} (f0 : n0 ≤ 2147483647) (f1 : (-2147483648) ≤ n0) (f2 : hWt T0 H0 ∧ True) (f3 : 0 ≤ n1) (f4 : n0 < 0) (f5 : n2 = 0) : postb_199vk748 n2 n1 n0 H0 H0 := by
  unfold postb_199vk748

  unfold atQ
  first
  | (rw [if_neg (by omega)] <;> omega)
  | (rw [if_pos (by omega)] <;> omega)
theorem c_199vk748_s_1 : vOkm T0 (eP e_199vk748 L_199vk748 A_199vk748 mu_199vk748 none) 2 ([(0, [2], [], 0), (32, [1], [], 0), (51, [0], [], 0), (6000, [0, 1], [0], 0), (90, [1], [], -2147483648), (91, [1], [], 2147483647)], (3000, [2], [0], 21)) := vOk_in fun ρ η h => by
  obtain ⟨f0, f1, f2, f3, f4, f5, _⟩ := h
  exact q_199vk748_1 (n0 := ρ 1) (n1 := ρ 0) (n2 := ρ 2) (H0 := η 0) f5 f4 f3 f2 f1 f0
theorem q_199vk748_2 {n0 n1 n2 n3 : Int} {H0 : gH} (f0 : n0 ≤ 2147483647) (f1 : (-2147483648) ≤ n0) (f2 : hWt T0 H0 ∧ True) (f3 : 0 ≤ n1) (f4 : 0 ≤ n0) (f5 : n2 = (hN H0 (n1).toNat : Int)) (f6 : n0 < n2) (f7 : n3 ≤ 2147483647) (f8 : (-2147483648) ≤ n3) (f9 : n3 = hV H0 (n1).toNat (n0).toNat) : postb_199vk748 n3 n1 n0 H0 H0 := by
  unfold postb_199vk748

  unfold atQ
  first
  | (rw [if_neg (by omega)] <;> omega)
  | (rw [if_pos (by omega)] <;> omega)
theorem c_199vk748_s_2 : vOkm T0 (eP e_199vk748 L_199vk748 A_199vk748 mu_199vk748 none) 2 ([(22, [3, 0, 1], [0], 0), (90, [3], [], -2147483648), (91, [3], [], 2147483647), (42, [1, 2], [], 0), (21, [2, 0], [0], 0), (33, [1], [], 0), (51, [0], [], 0), (6000, [0, 1], [0], 0), (90, [1], [], -2147483648), (91, [1], [], 2147483647)], (3000, [3], [0], 21)) := vOk_in fun ρ η h => by
  obtain ⟨f0, f1, f2, f3, f4, f5, f6, f7, f8, f9, _⟩ := h
  exact q_199vk748_2 (n0 := ρ 1) (n1 := ρ 0) (n2 := ρ 2) (n3 := ρ 3) (H0 := η 0) f9 f8 f7 f6 f5 f4 f3 f2 f1 f0
theorem q_199vk748_3 {n0 n1 n2 n3 : Int} {H0 : gH} (f0 : n0 ≤ 2147483647) (f1 : (-2147483648) ≤ n0) (f2 : hWt T0 H0 ∧ True) (f3 : 0 ≤ n1) (f4 : 0 ≤ n0) (f5 : n2 = (hN H0 (n1).toNat : Int)) (f6 : n2 ≤ n0) (f7 : n3 = 0) : postb_199vk748 n3 n1 n0 H0 H0 := by
  unfold postb_199vk748

  unfold atQ
  first
  | (rw [if_neg (by omega)] <;> omega)
  | (rw [if_pos (by omega)] <;> omega)
theorem c_199vk748_s_3 : vOkm T0 (eP e_199vk748 L_199vk748 A_199vk748 mu_199vk748 none) 2 ([(0, [3], [], 0), (43, [1, 2], [], 0), (21, [2, 0], [0], 0), (33, [1], [], 0), (51, [0], [], 0), (6000, [0, 1], [0], 0), (90, [1], [], -2147483648), (91, [1], [], 2147483647)], (3000, [3], [0], 21)) := vOk_in fun ρ η h => by
  obtain ⟨f0, f1, f2, f3, f4, f5, f6, f7, _⟩ := h
  exact q_199vk748_3 (n0 := ρ 1) (n1 := ρ 0) (n2 := ρ 2) (n3 := ρ 3) (H0 := η 0) f7 f6 f5 f4 f3 f2 f1 f0
def p_199vk748_s : List vG := [([(0, [2], [], 0), (50, [0], [], 0), (6000, [0, 1], [0], 0), (90, [1], [], -2147483648), (91, [1], [], 2147483647)], (3000, [2], [0], 21)),
  ([(0, [2], [], 0), (32, [1], [], 0), (51, [0], [], 0), (6000, [0, 1], [0], 0), (90, [1], [], -2147483648), (91, [1], [], 2147483647)], (3000, [2], [0], 21)),
  ([(22, [3, 0, 1], [0], 0), (90, [3], [], -2147483648), (91, [3], [], 2147483647), (42, [1, 2], [], 0), (21, [2, 0], [0], 0), (33, [1], [], 0), (51, [0], [], 0), (6000, [0, 1], [0], 0), (90, [1], [], -2147483648), (91, [1], [], 2147483647)], (3000, [3], [0], 21)),
  ([(0, [3], [], 0), (43, [1, 2], [], 0), (21, [2, 0], [0], 0), (33, [1], [], 0), (51, [0], [], 0), (6000, [0, 1], [0], 0), (90, [1], [], -2147483648), (91, [1], [], 2147483647)], (3000, [3], [0], 21))]
theorem r_199vk748_s : vCovO false (eR0 e_199vk748 L_199vk748 cs_199vk748 2000) p_199vk748_s = true := by decide +kernel
theorem m_199vk748 (d : Nat) : eC e_199vk748 (d + 1) := eC_ok (e := e_199vk748) (L := L_199vk748) (cs := cs_199vk748) (n := 2000) (d := d + 0) (A := A_199vk748) (μ := mu_199vk748) (tp := false) (p0 := p_199vk748_s) rfl trivial rfl (.inr pre0_ok) (by decide +kernel) (fun z => nomatch z) r_199vk748_s (allC c_199vk748_s_0 (allC c_199vk748_s_1 (allC c_199vk748_s_2 (allC c_199vk748_s_3 allN)))) allN
/- MixStage.at ([II)I -/
noncomputable def s_199vk764 : vM := ([(2, 764, -1, 0), (0, -2147483648, 2147483647, 0)], (0, -2147483648, 2147483647, 0), 0, 0, [])
def postb_199vk764 (r a0 a1 : Int) (h0 h : gH) : Prop := r = atQ h0 a0 a1
def post_199vk764 : List Int → gH → gH → Prop := fun xs h0 h => match xs with
  | [r, a0, a1] => postb_199vk764 r a0 a1 h0 h
  | _ => True
noncomputable def e_199vk764 : vE := (199, s_199vk764, pre0, post_199vk764)
noncomputable def L_199vk764 : List vE := []
def cs_199vk764 : List vC := []
def A_199vk764 : Int → List Int → gH → gH → Prop := fun c xs h0 h => True
def mu_199vk764 : Int → List Int → gH → gH → Nat := fun c xs h0 h => 0
theorem q_199vk764_0 {n0 n1 n2 : Int} {H0 : gH} (f0 : n0 ≤ 2147483647) (f1 : (-2147483648) ≤ n0) (f2 : hWt T0 H0 ∧ True) (f3 : n1 = -1) (f4 : n2 = 0) : postb_199vk764 n2 n1 n0 H0 H0 := by
  unfold postb_199vk764

  unfold atQ
  first
  | (rw [if_neg (by omega)] <;> omega)
  | (rw [if_pos (by omega)] <;> omega)
theorem c_199vk764_s_0 : vOkm T0 (eP e_199vk764 L_199vk764 A_199vk764 mu_199vk764 none) 2 ([(0, [2], [], 0), (50, [0], [], 0), (6000, [0, 1], [0], 0), (90, [1], [], -2147483648), (91, [1], [], 2147483647)], (3000, [2], [0], 21)) := vOk_in fun ρ η h => by
  obtain ⟨f0, f1, f2, f3, f4, _⟩ := h
  exact q_199vk764_0 (n0 := ρ 1) (n1 := ρ 0) (n2 := ρ 2) (H0 := η 0) f4 f3 f2 f1 f0
theorem q_199vk764_1 {n0 n1 n2 : Int} {H0 : gH} (f0 : n0 ≤ 2147483647) (f1 : (-2147483648) ≤ n0) (f2 : hWt T0 H0 ∧ True) (f3 : 0 ≤ n1) (f4 : n0 < 0) (f5 : n2 = 0) : postb_199vk764 n2 n1 n0 H0 H0 := by
  unfold postb_199vk764

  unfold atQ
  first
  | (rw [if_neg (by omega)] <;> omega)
  | (rw [if_pos (by omega)] <;> omega)
theorem c_199vk764_s_1 : vOkm T0 (eP e_199vk764 L_199vk764 A_199vk764 mu_199vk764 none) 2 ([(0, [2], [], 0), (32, [1], [], 0), (51, [0], [], 0), (6000, [0, 1], [0], 0), (90, [1], [], -2147483648), (91, [1], [], 2147483647)], (3000, [2], [0], 21)) := vOk_in fun ρ η h => by
  obtain ⟨f0, f1, f2, f3, f4, f5, _⟩ := h
  exact q_199vk764_1 (n0 := ρ 1) (n1 := ρ 0) (n2 := ρ 2) (H0 := η 0) f5 f4 f3 f2 f1 f0
theorem q_199vk764_2 {n0 n1 n2 n3 : Int} {H0 : gH} (f0 : n0 ≤ 2147483647) (f1 : (-2147483648) ≤ n0) (f2 : hWt T0 H0 ∧ True) (f3 : 0 ≤ n1) (f4 : 0 ≤ n0) (f5 : n2 = (hN H0 (n1).toNat : Int)) (f6 : n0 < n2) (f7 : n3 ≤ 2147483647) (f8 : (-2147483648) ≤ n3) (f9 : n3 = hV H0 (n1).toNat (n0).toNat) : postb_199vk764 n3 n1 n0 H0 H0 := by
  unfold postb_199vk764

  unfold atQ
  first
  | (rw [if_neg (by omega)] <;> omega)
  | (rw [if_pos (by omega)] <;> omega)
theorem c_199vk764_s_2 : vOkm T0 (eP e_199vk764 L_199vk764 A_199vk764 mu_199vk764 none) 2 ([(22, [3, 0, 1], [0], 0), (90, [3], [], -2147483648), (91, [3], [], 2147483647), (42, [1, 2], [], 0), (21, [2, 0], [0], 0), (33, [1], [], 0), (51, [0], [], 0), (6000, [0, 1], [0], 0), (90, [1], [], -2147483648), (91, [1], [], 2147483647)], (3000, [3], [0], 21)) := vOk_in fun ρ η h => by
  obtain ⟨f0, f1, f2, f3, f4, f5, f6, f7, f8, f9, _⟩ := h
  exact q_199vk764_2 (n0 := ρ 1) (n1 := ρ 0) (n2 := ρ 2) (n3 := ρ 3) (H0 := η 0) f9 f8 f7 f6 f5 f4 f3 f2 f1 f0
theorem q_199vk764_3 {n0 n1 n2 n3 : Int} {H0 : gH} (f0 : n0 ≤ 2147483647) (f1 : (-2147483648) ≤ n0) (f2 : hWt T0 H0 ∧ True) (f3 : 0 ≤ n1) (f4 : 0 ≤ n0) (f5 : n2 = (hN H0 (n1).toNat : Int)) (f6 : n2 ≤ n0) (f7 : n3 = 0) : postb_199vk764 n3 n1 n0 H0 H0 := by
  unfold postb_199vk764

  unfold atQ
  first
  | (rw [if_neg (by omega)] <;> omega)
  | (rw [if_pos (by omega)] <;> omega)
theorem c_199vk764_s_3 : vOkm T0 (eP e_199vk764 L_199vk764 A_199vk764 mu_199vk764 none) 2 ([(0, [3], [], 0), (43, [1, 2], [], 0), (21, [2, 0], [0], 0), (33, [1], [], 0), (51, [0], [], 0), (6000, [0, 1], [0], 0), (90, [1], [], -2147483648), (91, [1], [], 2147483647)], (3000, [3], [0], 21)) := vOk_in fun ρ η h => by
  obtain ⟨f0, f1, f2, f3, f4, f5, f6, f7, _⟩ := h
  exact q_199vk764_3 (n0 := ρ 1) (n1 := ρ 0) (n2 := ρ 2) (n3 := ρ 3) (H0 := η 0) f7 f6 f5 f4 f3 f2 f1 f0
def p_199vk764_s : List vG := [([(0, [2], [], 0), (50, [0], [], 0), (6000, [0, 1], [0], 0), (90, [1], [], -2147483648), (91, [1], [], 2147483647)], (3000, [2], [0], 21)),
  ([(0, [2], [], 0), (32, [1], [], 0), (51, [0], [], 0), (6000, [0, 1], [0], 0), (90, [1], [], -2147483648), (91, [1], [], 2147483647)], (3000, [2], [0], 21)),
  ([(22, [3, 0, 1], [0], 0), (90, [3], [], -2147483648), (91, [3], [], 2147483647), (42, [1, 2], [], 0), (21, [2, 0], [0], 0), (33, [1], [], 0), (51, [0], [], 0), (6000, [0, 1], [0], 0), (90, [1], [], -2147483648), (91, [1], [], 2147483647)], (3000, [3], [0], 21)),
  ([(0, [3], [], 0), (43, [1, 2], [], 0), (21, [2, 0], [0], 0), (33, [1], [], 0), (51, [0], [], 0), (6000, [0, 1], [0], 0), (90, [1], [], -2147483648), (91, [1], [], 2147483647)], (3000, [3], [0], 21))]
theorem r_199vk764_s : vCovO false (eR0 e_199vk764 L_199vk764 cs_199vk764 2000) p_199vk764_s = true := by decide +kernel
theorem m_199vk764 (d : Nat) : eC e_199vk764 (d + 1) := eC_ok (e := e_199vk764) (L := L_199vk764) (cs := cs_199vk764) (n := 2000) (d := d + 0) (A := A_199vk764) (μ := mu_199vk764) (tp := false) (p0 := p_199vk764_s) rfl trivial rfl (.inr pre0_ok) (by decide +kernel) (fun z => nomatch z) r_199vk764_s (allC c_199vk764_s_0 (allC c_199vk764_s_1 (allC c_199vk764_s_2 (allC c_199vk764_s_3 allN)))) allN
/- MixStage.put ([III)V -/
noncomputable def s_201vk748 : vM := ([(2, 748, -1, 0), (0, -2147483648, 2147483647, 0), (0, -2147483648, 2147483647, 0)], (9, 0, 0, 0), 0, 0, [(748, 0)])
def postb_201vk748 (a0 a1 a2 : Int) (h0 h : gH) : Prop := putQ a0 a1 a2 h0 h
def post_201vk748 : List Int → gH → gH → Prop := fun xs h0 h => match xs with
  | [a0, a1, a2] => postb_201vk748 a0 a1 a2 h0 h
  | _ => True
noncomputable def e_201vk748 : vE := (201, s_201vk748, pre0, post_201vk748)
noncomputable def L_201vk748 : List vE := []
def cs_201vk748 : List vC := []
def A_201vk748 : Int → List Int → gH → gH → Prop := fun c xs h0 h => True
def mu_201vk748 : Int → List Int → gH → gH → Nat := fun c xs h0 h => 0
theorem q_201vk748_0 {n0 n1 n2 : Int} {H0 : gH} (f0 : n0 ≤ 2147483647) (f1 : (-2147483648) ≤ n0) (f2 : n1 ≤ 2147483647) (f3 : (-2147483648) ≤ n1) (f4 : hWt T0 H0 ∧ True) (f5 : n2 = -1) : postb_201vk748 n2 n1 n0 H0 H0 := by
  unfold postb_201vk748

  exact putQ_same (by omega)
theorem c_201vk748_s_0 : vOkm T0 (eP e_201vk748 L_201vk748 A_201vk748 mu_201vk748 none) 3 ([(50, [0], [], 0), (6000, [0, 1, 2], [0], 0), (90, [1], [], -2147483648), (91, [1], [], 2147483647), (90, [2], [], -2147483648), (91, [2], [], 2147483647)], (3000, [], [0], 18)) := vOk_in fun ρ η h => by
  obtain ⟨f0, f1, f2, f3, f4, f5, _⟩ := h
  exact q_201vk748_0 (n0 := ρ 2) (n1 := ρ 1) (n2 := ρ 0) (H0 := η 0) f5 f4 f3 f2 f1 f0
theorem q_201vk748_1 {n0 n1 n2 : Int} {H0 : gH} (f0 : n0 ≤ 2147483647) (f1 : (-2147483648) ≤ n0) (f2 : n1 ≤ 2147483647) (f3 : (-2147483648) ≤ n1) (f4 : hWt T0 H0 ∧ True) (f5 : 0 ≤ n2) (f6 : n1 < 0) : postb_201vk748 n2 n1 n0 H0 H0 := by
  unfold postb_201vk748

  exact putQ_same (by omega)
theorem c_201vk748_s_1 : vOkm T0 (eP e_201vk748 L_201vk748 A_201vk748 mu_201vk748 none) 3 ([(32, [1], [], 0), (51, [0], [], 0), (6000, [0, 1, 2], [0], 0), (90, [1], [], -2147483648), (91, [1], [], 2147483647), (90, [2], [], -2147483648), (91, [2], [], 2147483647)], (3000, [], [0], 18)) := vOk_in fun ρ η h => by
  obtain ⟨f0, f1, f2, f3, f4, f5, f6, _⟩ := h
  exact q_201vk748_1 (n0 := ρ 2) (n1 := ρ 1) (n2 := ρ 0) (H0 := η 0) f6 f5 f4 f3 f2 f1 f0
theorem q_201vk748_2 {n0 n1 n2 n3 : Int} {H0 : gH} (f0 : n0 ≤ 2147483647) (f1 : (-2147483648) ≤ n0) (f2 : n1 ≤ 2147483647) (f3 : (-2147483648) ≤ n1) (f4 : hWt T0 H0 ∧ True) (f5 : 0 ≤ n2) (f6 : 0 ≤ n1) (f7 : n3 = (hN H0 (n2).toNat : Int)) (f8 : n3 ≤ n1) : postb_201vk748 n2 n1 n0 H0 H0 := by
  unfold postb_201vk748

  exact putQ_same (by omega)
theorem c_201vk748_s_2 : vOkm T0 (eP e_201vk748 L_201vk748 A_201vk748 mu_201vk748 none) 3 ([(43, [1, 3], [], 0), (21, [3, 0], [0], 0), (33, [1], [], 0), (51, [0], [], 0), (6000, [0, 1, 2], [0], 0), (90, [1], [], -2147483648), (91, [1], [], 2147483647), (90, [2], [], -2147483648), (91, [2], [], 2147483647)], (3000, [], [0], 18)) := vOk_in fun ρ η h => by
  obtain ⟨f0, f1, f2, f3, f4, f5, f6, f7, f8, _⟩ := h
  exact q_201vk748_2 (n0 := ρ 2) (n1 := ρ 1) (n2 := ρ 0) (n3 := ρ 3) (H0 := η 0) f8 f7 f6 f5 f4 f3 f2 f1 f0
theorem q_201vk748_3 {n0 n1 n2 n3 : Int} {H0 H1 : gH} (f0 : n0 ≤ 2147483647) (f1 : (-2147483648) ≤ n0) (f2 : n1 ≤ 2147483647) (f3 : (-2147483648) ≤ n1) (f4 : hWt T0 H0 ∧ True) (f5 : 0 ≤ n2) (f6 : 0 ≤ n1) (f7 : n3 = (hN H0 (n2).toNat : Int)) (f8 : n1 < n3) (f9 : hK H0 (n2).toNat = 748) (f10 : hUpd H1 H0 n2 n1 n0) : postb_201vk748 n2 n1 n0 H0 H1 := by
  unfold postb_201vk748

  exact putQ_upd f10 (by omega)
theorem c_201vk748_s_3 : vOkm T0 (eP e_201vk748 L_201vk748 A_201vk748 mu_201vk748 none) 3 ([(80, [0, 1, 2], [1, 0], 0), (23, [0], [0], 748), (42, [1, 3], [], 0), (21, [3, 0], [0], 0), (33, [1], [], 0), (51, [0], [], 0), (6000, [0, 1, 2], [0], 0), (90, [1], [], -2147483648), (91, [1], [], 2147483647), (90, [2], [], -2147483648), (91, [2], [], 2147483647)], (3000, [], [1], 18)) := vOk_in fun ρ η h => by
  obtain ⟨f0, f1, f2, f3, f4, f5, f6, f7, f8, f9, f10, _⟩ := h
  exact q_201vk748_3 (n0 := ρ 2) (n1 := ρ 1) (n2 := ρ 0) (n3 := ρ 3) (H0 := η 0) (H1 := η 1) f10 f9 f8 f7 f6 f5 f4 f3 f2 f1 f0
def p_201vk748_s : List vG := [([(50, [0], [], 0), (6000, [0, 1, 2], [0], 0), (90, [1], [], -2147483648), (91, [1], [], 2147483647), (90, [2], [], -2147483648), (91, [2], [], 2147483647)], (3000, [], [0], 18)),
  ([(32, [1], [], 0), (51, [0], [], 0), (6000, [0, 1, 2], [0], 0), (90, [1], [], -2147483648), (91, [1], [], 2147483647), (90, [2], [], -2147483648), (91, [2], [], 2147483647)], (3000, [], [0], 18)),
  ([(43, [1, 3], [], 0), (21, [3, 0], [0], 0), (33, [1], [], 0), (51, [0], [], 0), (6000, [0, 1, 2], [0], 0), (90, [1], [], -2147483648), (91, [1], [], 2147483647), (90, [2], [], -2147483648), (91, [2], [], 2147483647)], (3000, [], [0], 18)),
  ([(80, [0, 1, 2], [1, 0], 0), (23, [0], [0], 748), (42, [1, 3], [], 0), (21, [3, 0], [0], 0), (33, [1], [], 0), (51, [0], [], 0), (6000, [0, 1, 2], [0], 0), (90, [1], [], -2147483648), (91, [1], [], 2147483647), (90, [2], [], -2147483648), (91, [2], [], 2147483647)], (3000, [], [1], 18))]
theorem r_201vk748_s : vCovO false (eR0 e_201vk748 L_201vk748 cs_201vk748 2000) p_201vk748_s = true := by decide +kernel
theorem m_201vk748 (d : Nat) : eC e_201vk748 (d + 1) := eC_ok (e := e_201vk748) (L := L_201vk748) (cs := cs_201vk748) (n := 2000) (d := d + 0) (A := A_201vk748) (μ := mu_201vk748) (tp := false) (p0 := p_201vk748_s) rfl trivial rfl (.inr pre0_ok) (by decide +kernel) (fun z => nomatch z) r_201vk748_s (allC c_201vk748_s_0 (allC c_201vk748_s_1 (allC c_201vk748_s_2 (allC c_201vk748_s_3 allN)))) allN
/- MixStage.put ([III)V -/
noncomputable def s_201vk764 : vM := ([(2, 764, -1, 0), (0, -2147483648, 2147483647, 0), (0, -2147483648, 2147483647, 0)], (9, 0, 0, 0), 0, 0, [(764, 0)])
def postb_201vk764 (a0 a1 a2 : Int) (h0 h : gH) : Prop := putQ a0 a1 a2 h0 h
def post_201vk764 : List Int → gH → gH → Prop := fun xs h0 h => match xs with
  | [a0, a1, a2] => postb_201vk764 a0 a1 a2 h0 h
  | _ => True
noncomputable def e_201vk764 : vE := (201, s_201vk764, pre0, post_201vk764)
noncomputable def L_201vk764 : List vE := []
def cs_201vk764 : List vC := []
def A_201vk764 : Int → List Int → gH → gH → Prop := fun c xs h0 h => True
def mu_201vk764 : Int → List Int → gH → gH → Nat := fun c xs h0 h => 0
theorem q_201vk764_0 {n0 n1 n2 : Int} {H0 : gH} (f0 : n0 ≤ 2147483647) (f1 : (-2147483648) ≤ n0) (f2 : n1 ≤ 2147483647) (f3 : (-2147483648) ≤ n1) (f4 : hWt T0 H0 ∧ True) (f5 : n2 = -1) : postb_201vk764 n2 n1 n0 H0 H0 := by
  unfold postb_201vk764

  exact putQ_same (by omega)
theorem c_201vk764_s_0 : vOkm T0 (eP e_201vk764 L_201vk764 A_201vk764 mu_201vk764 none) 3 ([(50, [0], [], 0), (6000, [0, 1, 2], [0], 0), (90, [1], [], -2147483648), (91, [1], [], 2147483647), (90, [2], [], -2147483648), (91, [2], [], 2147483647)], (3000, [], [0], 18)) := vOk_in fun ρ η h => by
  obtain ⟨f0, f1, f2, f3, f4, f5, _⟩ := h
  exact q_201vk764_0 (n0 := ρ 2) (n1 := ρ 1) (n2 := ρ 0) (H0 := η 0) f5 f4 f3 f2 f1 f0
theorem q_201vk764_1 {n0 n1 n2 : Int} {H0 : gH} (f0 : n0 ≤ 2147483647) (f1 : (-2147483648) ≤ n0) (f2 : n1 ≤ 2147483647) (f3 : (-2147483648) ≤ n1) (f4 : hWt T0 H0 ∧ True) (f5 : 0 ≤ n2) (f6 : n1 < 0) : postb_201vk764 n2 n1 n0 H0 H0 := by
  unfold postb_201vk764

  exact putQ_same (by omega)
theorem c_201vk764_s_1 : vOkm T0 (eP e_201vk764 L_201vk764 A_201vk764 mu_201vk764 none) 3 ([(32, [1], [], 0), (51, [0], [], 0), (6000, [0, 1, 2], [0], 0), (90, [1], [], -2147483648), (91, [1], [], 2147483647), (90, [2], [], -2147483648), (91, [2], [], 2147483647)], (3000, [], [0], 18)) := vOk_in fun ρ η h => by
  obtain ⟨f0, f1, f2, f3, f4, f5, f6, _⟩ := h
  exact q_201vk764_1 (n0 := ρ 2) (n1 := ρ 1) (n2 := ρ 0) (H0 := η 0) f6 f5 f4 f3 f2 f1 f0
theorem q_201vk764_2 {n0 n1 n2 n3 : Int} {H0 : gH} (f0 : n0 ≤ 2147483647) (f1 : (-2147483648) ≤ n0) (f2 : n1 ≤ 2147483647) (f3 : (-2147483648) ≤ n1) (f4 : hWt T0 H0 ∧ True) (f5 : 0 ≤ n2) (f6 : 0 ≤ n1) (f7 : n3 = (hN H0 (n2).toNat : Int)) (f8 : n3 ≤ n1) : postb_201vk764 n2 n1 n0 H0 H0 := by
  unfold postb_201vk764

  exact putQ_same (by omega)
theorem c_201vk764_s_2 : vOkm T0 (eP e_201vk764 L_201vk764 A_201vk764 mu_201vk764 none) 3 ([(43, [1, 3], [], 0), (21, [3, 0], [0], 0), (33, [1], [], 0), (51, [0], [], 0), (6000, [0, 1, 2], [0], 0), (90, [1], [], -2147483648), (91, [1], [], 2147483647), (90, [2], [], -2147483648), (91, [2], [], 2147483647)], (3000, [], [0], 18)) := vOk_in fun ρ η h => by
  obtain ⟨f0, f1, f2, f3, f4, f5, f6, f7, f8, _⟩ := h
  exact q_201vk764_2 (n0 := ρ 2) (n1 := ρ 1) (n2 := ρ 0) (n3 := ρ 3) (H0 := η 0) f8 f7 f6 f5 f4 f3 f2 f1 f0
theorem q_201vk764_3 {n0 n1 n2 n3 : Int} {H0 H1 : gH} (f0 : n0 ≤ 2147483647) (f1 : (-2147483648) ≤ n0) (f2 : n1 ≤ 2147483647) (f3 : (-2147483648) ≤ n1) (f4 : hWt T0 H0 ∧ True) (f5 : 0 ≤ n2) (f6 : 0 ≤ n1) (f7 : n3 = (hN H0 (n2).toNat : Int)) (f8 : n1 < n3) (f9 : hK H0 (n2).toNat = 764) (f10 : hUpd H1 H0 n2 n1 n0) : postb_201vk764 n2 n1 n0 H0 H1 := by
  unfold postb_201vk764

  exact putQ_upd f10 (by omega)
theorem c_201vk764_s_3 : vOkm T0 (eP e_201vk764 L_201vk764 A_201vk764 mu_201vk764 none) 3 ([(80, [0, 1, 2], [1, 0], 0), (23, [0], [0], 764), (42, [1, 3], [], 0), (21, [3, 0], [0], 0), (33, [1], [], 0), (51, [0], [], 0), (6000, [0, 1, 2], [0], 0), (90, [1], [], -2147483648), (91, [1], [], 2147483647), (90, [2], [], -2147483648), (91, [2], [], 2147483647)], (3000, [], [1], 18)) := vOk_in fun ρ η h => by
  obtain ⟨f0, f1, f2, f3, f4, f5, f6, f7, f8, f9, f10, _⟩ := h
  exact q_201vk764_3 (n0 := ρ 2) (n1 := ρ 1) (n2 := ρ 0) (n3 := ρ 3) (H0 := η 0) (H1 := η 1) f10 f9 f8 f7 f6 f5 f4 f3 f2 f1 f0
def p_201vk764_s : List vG := [([(50, [0], [], 0), (6000, [0, 1, 2], [0], 0), (90, [1], [], -2147483648), (91, [1], [], 2147483647), (90, [2], [], -2147483648), (91, [2], [], 2147483647)], (3000, [], [0], 18)),
  ([(32, [1], [], 0), (51, [0], [], 0), (6000, [0, 1, 2], [0], 0), (90, [1], [], -2147483648), (91, [1], [], 2147483647), (90, [2], [], -2147483648), (91, [2], [], 2147483647)], (3000, [], [0], 18)),
  ([(43, [1, 3], [], 0), (21, [3, 0], [0], 0), (33, [1], [], 0), (51, [0], [], 0), (6000, [0, 1, 2], [0], 0), (90, [1], [], -2147483648), (91, [1], [], 2147483647), (90, [2], [], -2147483648), (91, [2], [], 2147483647)], (3000, [], [0], 18)),
  ([(80, [0, 1, 2], [1, 0], 0), (23, [0], [0], 764), (42, [1, 3], [], 0), (21, [3, 0], [0], 0), (33, [1], [], 0), (51, [0], [], 0), (6000, [0, 1, 2], [0], 0), (90, [1], [], -2147483648), (91, [1], [], 2147483647), (90, [2], [], -2147483648), (91, [2], [], 2147483647)], (3000, [], [1], 18))]
theorem r_201vk764_s : vCovO false (eR0 e_201vk764 L_201vk764 cs_201vk764 2000) p_201vk764_s = true := by decide +kernel
theorem m_201vk764 (d : Nat) : eC e_201vk764 (d + 1) := eC_ok (e := e_201vk764) (L := L_201vk764) (cs := cs_201vk764) (n := 2000) (d := d + 0) (A := A_201vk764) (μ := mu_201vk764) (tp := false) (p0 := p_201vk764_s) rfl trivial rfl (.inr pre0_ok) (by decide +kernel) (fun z => nomatch z) r_201vk764_s (allC c_201vk764_s_0 (allC c_201vk764_s_1 (allC c_201vk764_s_2 (allC c_201vk764_s_3 allN)))) allN
/- Bank.ownLength (LMixStage$Sound;)I, more fully -/
def nb_9 (r a0 a1 : Int) (h0 h : gH) : Prop := ¬ hV h0 (a1).toNat 0 = 5 → r = hV h0 (a1).toNat 6
def n_9 : List Int → gH → gH → Prop := fun xs h0 h => match xs with
  | [r, a0, a1] => nb_9 r a0 a1 h0 h
  | _ => True
noncomputable def e_9w : vE := eV e_9 n_9
noncomputable def L_9w : List vE := [e_2v]
def B_9 : Int → List Int → gH → gH → Prop := fun c xs h0 h => True
theorem q_9w_0 {n0 n1 n2 n3 n4 n5 n6 : Int} {H0 H1 : gH} (f0 : 0 ≤ n0) (f1 : n1 = 23) (f2 : hWt T0 H0 ∧ True) (f3 : n2 ≤ 2147483647) (f4 : (-2147483648) ≤ n2) (f5 : hK H0 (n0).toNat = 7) (f6 : n2 = hV H0 (n0).toNat 0) (f7 : n3 = 5) (f8 : n2 = n3) (f9 : n4 ≤ 2147483647) (f10 : (-2147483648) ≤ n4) (f11 : hK H0 (n0).toNat = 7) (f12 : n4 = hV H0 (n0).toNat 3) (f13 : (hLe T0 H0 H1 ∧ hFr s_2.2.2.2.2 H0 H1 ∧ ((0 : Int) = 0 → H1.length = H0.length) ∧ hWt T0 H1) ∧ postb_2v n5 n1 n4 H0 H1) (f14 : n5 = -1) (f15 : n6 = 0) : nb_9 n6 n1 n0 H0 H1 := by
  unfold nb_9
  intro k5
  omega
def g_9w_s_0 : vG := ([(0, [6], [], 0), (50, [5], [], 0), (1002, [5, 0, 4], [0, 1], 0), (20, [4, 1], [0], 3), (23, [1], [0], 7), (90, [4], [], -2147483648), (91, [4], [], 2147483647), (40, [2, 3], [], 0), (0, [3], [], 5), (20, [2, 1], [0], 0), (23, [1], [0], 7), (90, [2], [], -2147483648), (91, [2], [], 2147483647), (6000, [0, 1], [0], 0), (0, [0], [], 23), (51, [1], [], 0)], (3000, [6], [1], 34))
theorem c_9w_s_0 : vOkm T0 (eN e_9 L_9w A_9 mu_9 n_9 B_9 none) 2 g_9w_s_0 := vOk_inI fun ρ η f0 f1 f2 f3 f4 f5 f6 f7 f8 f9 f10 f11 f12 f13 f14 f15 => q_9w_0 (n0 := ρ 1) (n1 := ρ 0) (n2 := ρ 2) (n3 := ρ 3) (n4 := ρ 4) (n5 := ρ 5) (n6 := ρ 6) (H0 := η 0) (H1 := η 1) f15 f14 f13 f12 f11 f10 f9 f8 f7 f6 f5 f4 f3 f2 f1 f0
theorem q_9w_1 {n0 n1 n2 n3 n4 n5 n6 : Int} {H0 H1 : gH} (f0 : 0 ≤ n0) (f1 : n1 = 23) (f2 : hWt T0 H0 ∧ True) (f3 : n2 ≤ 2147483647) (f4 : (-2147483648) ≤ n2) (f5 : hK H0 (n0).toNat = 7) (f6 : n2 = hV H0 (n0).toNat 0) (f7 : n3 = 5) (f8 : n2 = n3) (f9 : n4 ≤ 2147483647) (f10 : (-2147483648) ≤ n4) (f11 : hK H0 (n0).toNat = 7) (f12 : n4 = hV H0 (n0).toNat 3) (f13 : (hLe T0 H0 H1 ∧ hFr s_2.2.2.2.2 H0 H1 ∧ ((0 : Int) = 0 → H1.length = H0.length) ∧ hWt T0 H1) ∧ postb_2v n5 n1 n4 H0 H1) (f14 : 0 ≤ n5) (f15 : n6 ≤ 2147483647) (f16 : (-2147483648) ≤ n6) (f17 : hK H1 (n5).toNat = 7) (f18 : n6 = hV H1 (n5).toNat 6) : nb_9 n6 n1 n0 H0 H1 := by
  unfold nb_9
  intro k5
  omega
def g_9w_s_1 : vG := ([(20, [6, 5], [1], 6), (23, [5], [1], 7), (90, [6], [], -2147483648), (91, [6], [], 2147483647), (51, [5], [], 0), (1002, [5, 0, 4], [0, 1], 0), (20, [4, 1], [0], 3), (23, [1], [0], 7), (90, [4], [], -2147483648), (91, [4], [], 2147483647), (40, [2, 3], [], 0), (0, [3], [], 5), (20, [2, 1], [0], 0), (23, [1], [0], 7), (90, [2], [], -2147483648), (91, [2], [], 2147483647), (6000, [0, 1], [0], 0), (0, [0], [], 23), (51, [1], [], 0)], (3000, [6], [1], 34))
theorem c_9w_s_1 : vOkm T0 (eN e_9 L_9w A_9 mu_9 n_9 B_9 none) 2 g_9w_s_1 := vOk_inI fun ρ η f0 f1 f2 f3 f4 f5 f6 f7 f8 f9 f10 f11 f12 f13 f14 f15 f16 f17 f18 => q_9w_1 (n0 := ρ 1) (n1 := ρ 0) (n2 := ρ 2) (n3 := ρ 3) (n4 := ρ 4) (n5 := ρ 5) (n6 := ρ 6) (H0 := η 0) (H1 := η 1) f18 f17 f16 f15 f14 f13 f12 f11 f10 f9 f8 f7 f6 f5 f4 f3 f2 f1 f0
theorem q_9w_2 {n0 n1 n2 n3 n4 : Int} {H0 : gH} (f0 : 0 ≤ n0) (f1 : n1 = 23) (f2 : hWt T0 H0 ∧ True) (f3 : n2 ≤ 2147483647) (f4 : (-2147483648) ≤ n2) (f5 : hK H0 (n0).toNat = 7) (f6 : n2 = hV H0 (n0).toNat 0) (f7 : n3 = 5) (f8 : n2 ≠ n3) (f9 : n4 ≤ 2147483647) (f10 : (-2147483648) ≤ n4) (f11 : hK H0 (n0).toNat = 7) (f12 : n4 = hV H0 (n0).toNat 6) : nb_9 n4 n1 n0 H0 H0 := by
  unfold nb_9
  intro k5
  omega
def g_9w_s_2 : vG := ([(20, [4, 1], [0], 6), (23, [1], [0], 7), (90, [4], [], -2147483648), (91, [4], [], 2147483647), (41, [2, 3], [], 0), (0, [3], [], 5), (20, [2, 1], [0], 0), (23, [1], [0], 7), (90, [2], [], -2147483648), (91, [2], [], 2147483647), (6000, [0, 1], [0], 0), (0, [0], [], 23), (51, [1], [], 0)], (3000, [4], [0], 12))
theorem c_9w_s_2 : vOkm T0 (eN e_9 L_9w A_9 mu_9 n_9 B_9 none) 2 g_9w_s_2 := vOk_inI fun ρ η f0 f1 f2 f3 f4 f5 f6 f7 f8 f9 f10 f11 f12 => q_9w_2 (n0 := ρ 1) (n1 := ρ 0) (n2 := ρ 2) (n3 := ρ 3) (n4 := ρ 4) (H0 := η 0) f12 f11 f10 f9 f8 f7 f6 f5 f4 f3 f2 f1 f0
def p_9w_s : List vG := [g_9w_s_0,
  g_9w_s_1,
  g_9w_s_2]
theorem r_9w_s : vCovBO (eR0 e_9 L_9 cs_9 2000) p_9w_s = true := by decide +kernel
theorem m_9w (d : Nat) : eC e_9w (d + 2) := eC_ref (e := e_9) (L := L_9) (L' := L_9w) (cs := cs_9) (n := 2000) (d := d + 1) (A := A_9) (μ := mu_9) (tp := true) (p0 := p_9_s) (p1 := p_9w_s) (N := n_9) (B := B_9) rfl ⟨m_2v d, trivial⟩ rfl (.inr pre0_ok) (by decide +kernel) (fun _ => post0_ok) r_9_s allN allN ⟨⟨rfl, rfl, rfl, fun _ _ _ _ => trivial⟩, trivial⟩ r_9w_s (allC c_9w_s_0 (allC c_9w_s_1 (allC c_9w_s_2 allN))) allN
/- View.aim (LMixStage$Bank;I)V, more fully -/
def nb_152 (a0 a1 a2 : Int) (h0 h : gH) : Prop := ∀ E : SE, SNC h0 E → 0 ≤ a2 → a2 < E.1 → E.2.1 (RT E a2).toNat ≤ 3 → hV h (a0).toNat 0 = hV h0 24 (RT E a2).toNat ∧ hV h (a0).toNat 1 = OF E a2 ∧ hV h (a0).toNat 2 = LN E a2
def n_152 : List Int → gH → gH → Prop := fun xs h0 h => match xs with
  | [a0, a1, a2] => nb_152 a0 a1 a2 h0 h
  | _ => True
noncomputable def e_152w : vE := eV e_152 n_152
noncomputable def L_152w : List vE := [e_2v, e_9w, e_317, e_319]
def Bb_152_25 (a0 a1 a2 x0 x1 x2 x3 x4 : Int) (h0 h : gH) : Prop := ∀ E : SE, SNC h0 E → 0 ≤ a2 → a2 < E.1 → E.2.1 (RT E a2).toNat ≤ 3 → x0 = a0 ∧ AIM E a2 (hV h (a0).toNat 1) x3 x4 (hV h (a0).toNat 0) (hV h0 24)
def B_152 : Int → List Int → gH → gH → Prop := fun c xs h0 h => match c.toNat with
  | 25 => (match xs with
    | [a0, a1, a2, x0, x1, x2, x3, x4] => Bb_152_25 a0 a1 a2 x0 x1 x2 x3 x4 h0 h
    | _ => False)
  | _ => True
theorem q_152w_0 {n0 n1 n2 n3 n4 n5 n6 n7 n8 n9 n10 : Int} {H0 H1 H2 H3 H4 : gH} (f0 : n0 ≤ 2147483647) (f1 : (-2147483648) ≤ n0) (f2 : n1 = 23) (f3 : 0 ≤ n2) (f4 : hWt T0 H0 ∧ True) (f5 : n3 = 1000000) (f6 : n4 = 0) (f7 : hK H0 (n2).toNat = 10) (f8 : n5 = 1) (f9 : hUpd H1 H0 n2 n5 n4) (f10 : n6 = 0) (f11 : hK H1 (n2).toNat = 10) (f12 : n7 = 2) (f13 : hUpd H2 H1 n2 n7 n6) (f14 : (hLe T0 H2 H3 ∧ hFr s_2.2.2.2.2 H2 H3 ∧ ((0 : Int) = 0 → H3.length = H2.length) ∧ hWt T0 H3) ∧ postb_2v n8 n1 n0 H2 H3) (f15 : hK H3 (n2).toNat = 10) (f16 : n9 = 0) (f17 : hUpd H4 H3 n2 n9 n8) (f18 : n10 = 0) : Bb_152_25 n2 n1 n0 n2 n1 n0 n3 n10 H0 H4 := by
  unfold Bb_152_25
  intro E z p0 p1 r3
  have z1 := SNC_v f9 f7 z
  have z2 := SNC_v f13 f11 z1.1
  have e24 : hV H2 24 = hV H0 24 := z2.2.trans z1.2
  have qg := f14.2
  unfold postb_2v at qg
  have eg := get_at z2.1 e24 qg p0 p1
  have s1 : hV H4 (n2).toNat 1 = n4 := (uSlot f17 _ 1 (by omega)).trans ((f14.1.2.1.2.2 _ 10 (kUp f13 f11) rfl 1 (by decide +kernel)).trans ((uSlot f13 _ 1 (by omega)).trans (uSame f9 _ 1 (Int.toNat_of_nonneg f3) (by omega))))
  have s0 : hV H4 (n2).toNat 0 = n8 := uSame f17 _ 0 (Int.toNat_of_nonneg f3) (by omega)
  exact ⟨rfl, AIM_0 z.2.1 p0 p1 r3 (by omega) (by omega) (by omega) (s0.trans eg)⟩
def g_152w_s_0 : vG := ([(0, [10], [], 0), (80, [0, 9, 8], [4, 3], 2), (0, [9], [], 0), (23, [0], [3], 10), (1002, [8, 1, 2], [2, 3], 0), (80, [0, 7, 6], [2, 1], 0), (0, [7], [], 2), (23, [0], [1], 10), (0, [6], [], 0), (80, [0, 5, 4], [1, 0], 0), (0, [5], [], 1), (23, [0], [0], 10), (0, [4], [], 0), (0, [3], [], 1000000), (6000, [0, 1, 2], [0], 0), (51, [0], [], 0), (0, [1], [], 23), (90, [2], [], -2147483648), (91, [2], [], 2147483647)], (4000, [0, 1, 2, 3, 10], [4], 25))
theorem c_152w_s_0 : vOkm T0 (eN e_152 L_152w A_152 mu_152 n_152 B_152 none) 3 g_152w_s_0 := vOk_inI fun ρ η f0 f1 f2 f3 f4 f5 f6 f7 f8 f9 f10 f11 f12 f13 f14 f15 f16 f17 f18 => q_152w_0 (n0 := ρ 2) (n1 := ρ 1) (n2 := ρ 0) (n3 := ρ 3) (n4 := ρ 4) (n5 := ρ 5) (n6 := ρ 6) (n7 := ρ 7) (n8 := ρ 8) (n9 := ρ 9) (n10 := ρ 10) (H0 := η 0) (H1 := η 1) (H2 := η 2) (H3 := η 3) (H4 := η 4) f18 f17 f16 f15 f14 f13 f12 f11 f10 f9 f8 f7 f6 f5 f4 f3 f2 f1 f0
def p_152w_s : List vG := [g_152w_s_0]
theorem r_152w_s : vCovBO (eR0 e_152 L_152 cs_152 2000) p_152w_s = true := by decide +kernel
theorem q_152w_1 {q0 : Nat} {n0 n1 n2 n3 n4 n5 n6 n7 n8 n9 : Int} {H0 H1 : gH} (f0 : n0 ≤ 2147483647) (f1 : (-2147483648) ≤ n0) (f2 : n1 ≤ 2147483647) (f3 : (-2147483648) ≤ n1) (f4 : n2 ≤ 2147483647) (f5 : (-2147483648) ≤ n2) (f6 : n3 = 23) (f7 : 0 ≤ n4) (f8 : n5 ≤ 2147483647) (f9 : (-2147483648) ≤ n5) (f10 : n6 = 23) (f11 : 0 ≤ n7) (f12 : (hLe T0 H0 H1 ∧ hFr s_152.2.2.2.2 H0 H1 ∧ hWt T0 H1) ∧ ((True ∧ Bb_152_25 n7 n6 n5 n4 n3 n2 n1 n0 H0 H1) ∧ True) ∧ some q0 = some (mub_152_25 n7 n6 n5 n4 n3 n2 n1 n0 H0 H1)) (f13 : n8 = 20) (f14 : n8 ≤ n0) (f15 : hK H1 (n4).toNat = 10) (f16 : n9 = hV H1 (n4).toNat 0) (f17 : n9 = -1) : nb_152 n7 n6 n5 H0 H1 := by
  unfold nb_152
  intro E z p0 p1 r3
  have gb := f12.2.1.1.2
  unfold Bb_152_25 at gb
  obtain ⟨e0, c, c1, c2, c3, c4, c5, c6, c7, c8, c9, c10, c11⟩ := gb E z p0 p1 r3
  have h20 := z.2.1.1
  have z1 := SNC_fr f12.1.1 f12.1.2.1 (by decide +kernel) z
  have e24 : hV H1 24 = hV H0 24 := fRow f12.1.2.1 24 (by decide +kernel)
  have y1 := SNo_at z1 c1 e24
  have y1p := y1.1
  rw [← e0] at c4 c6 c7 c8 c11
  exfalso
  omega
def g_152w_25_0 : vG := ([(50, [9], [], 0), (20, [9, 3], [1], 0), (23, [3], [1], 10), (43, [7, 8], [], 0), (0, [8], [], 20), (5000, [0, 1, 2, 3, 4, 5, 6, 7], [0, 1], 25), (51, [0], [], 0), (0, [1], [], 23), (90, [2], [], -2147483648), (91, [2], [], 2147483647), (51, [3], [], 0), (0, [4], [], 23), (90, [5], [], -2147483648), (91, [5], [], 2147483647), (90, [6], [], -2147483648), (91, [6], [], 2147483647), (90, [7], [], -2147483648), (91, [7], [], 2147483647)], (3000, [], [1], 139))
theorem c_152w_25_0 {q0 : Nat} : vOkm T0 (eN e_152 L_152w A_152 mu_152 n_152 B_152 (some q0)) 3 g_152w_25_0 := vOk_inI fun ρ η f0 f1 f2 f3 f4 f5 f6 f7 f8 f9 f10 f11 f12 f13 f14 f15 f16 f17 => q_152w_1 (q0 := q0) (n0 := ρ 7) (n1 := ρ 6) (n2 := ρ 5) (n3 := ρ 4) (n4 := ρ 3) (n5 := ρ 2) (n6 := ρ 1) (n7 := ρ 0) (n8 := ρ 8) (n9 := ρ 9) (H0 := η 0) (H1 := η 1) f17 f16 f15 f14 f13 f12 f11 f10 f9 f8 f7 f6 f5 f4 f3 f2 f1 f0
theorem q_152w_2 {q0 : Nat} {n0 n1 n2 n3 n4 n5 n6 n7 n8 n9 n10 n11 n12 n13 n14 n15 n16 n17 : Int} {H0 H1 H2 H3 H4 H5 : gH} (f0 : n0 ≤ 2147483647) (f1 : (-2147483648) ≤ n0) (f2 : n1 ≤ 2147483647) (f3 : (-2147483648) ≤ n1) (f4 : n2 ≤ 2147483647) (f5 : (-2147483648) ≤ n2) (f6 : n3 = 23) (f7 : 0 ≤ n4) (f8 : n5 ≤ 2147483647) (f9 : (-2147483648) ≤ n5) (f10 : n6 = 23) (f11 : 0 ≤ n7) (f12 : (hLe T0 H0 H1 ∧ hFr s_152.2.2.2.2 H0 H1 ∧ hWt T0 H1) ∧ ((True ∧ Bb_152_25 n7 n6 n5 n4 n3 n2 n1 n0 H0 H1) ∧ True) ∧ some q0 = some (mub_152_25 n7 n6 n5 n4 n3 n2 n1 n0 H0 H1)) (f13 : n8 = 20) (f14 : n8 ≤ n0) (f15 : hK H1 (n4).toNat = 10) (f16 : n9 = hV H1 (n4).toNat 0) (f17 : 0 ≤ n9) (f18 : n10 = 0) (f19 : hK H1 (n4).toNat = 10) (f20 : n11 = hV H1 (n4).toNat 0) (f21 : n12 ≤ 2147483647) (f22 : (-2147483648) ≤ n12) (f23 : (hLe T0 H1 H2 ∧ hFr s_9.2.2.2.2 H1 H2 ∧ ((0 : Int) = 0 → H2.length = H1.length) ∧ hWt T0 H2) ∧ (True ∧ nb_9 n12 n3 n11 H1 H2)) (f24 : n13 ≤ 2147483647) (f25 : (-2147483648) ≤ n13) (f26 : (hLe T0 H2 H3 ∧ hFr s_319.2.2.2.2 H2 H3 ∧ ((0 : Int) = 0 → H3.length = H2.length) ∧ hWt T0 H3) ∧ postb_319 n13 n1 n12 H2 H3) (f27 : n14 ≤ 2147483647) (f28 : (-2147483648) ≤ n14) (f29 : hK H3 (n4).toNat = 10) (f30 : n14 = hV H3 (n4).toNat 1) (f31 : n15 = w32 (n13 - n14)) (f32 : n16 ≤ 2147483647) (f33 : (-2147483648) ≤ n16) (f34 : (hLe T0 H3 H4 ∧ hFr s_317.2.2.2.2 H3 H4 ∧ ((0 : Int) = 0 → H4.length = H3.length) ∧ hWt T0 H4) ∧ postb_317 n16 n10 n15 H3 H4) (f35 : hK H4 (n4).toNat = 10) (f36 : n17 = 2) (f37 : hUpd H5 H4 n4 n17 n16) : nb_152 n7 n6 n5 H0 H5 := by
  unfold nb_152
  intro E z p0 p1 r3
  have gb := f12.2.1.1.2
  unfold Bb_152_25 at gb
  obtain ⟨e0, c, c1, c2, c3, c4, c5, c6, c7, c8, c9, c10, c11⟩ := gb E z p0 p1 r3
  have h20 := z.2.1.1
  have z1 := SNC_fr f12.1.1 f12.1.2.1 (by decide +kernel) z
  have e24 : hV H1 24 = hV H0 24 := fRow f12.1.2.1 24 (by decide +kernel)
  have y1 := SNo_at z1 c1 e24
  have y1p := y1.1
  rw [← e0] at c4 c6 c7 c8 c11
  exfalso
  omega
def g_152w_25_1 : vG := ([(80, [3, 17, 16], [5, 4], 0), (0, [17], [], 2), (23, [3], [4], 10), (1317, [16, 10, 15], [3, 4], 0), (90, [16], [], -2147483648), (91, [16], [], 2147483647), (2, [15, 13, 14], [], 0), (20, [14, 3], [3], 1), (23, [3], [3], 10), (90, [14], [], -2147483648), (91, [14], [], 2147483647), (1319, [13, 6, 12], [2, 3], 0), (90, [13], [], -2147483648), (91, [13], [], 2147483647), (1009, [12, 4, 11], [1, 2], 0), (90, [12], [], -2147483648), (91, [12], [], 2147483647), (20, [11, 3], [1], 0), (23, [3], [1], 10), (0, [10], [], 0), (51, [9], [], 0), (20, [9, 3], [1], 0), (23, [3], [1], 10), (43, [7, 8], [], 0), (0, [8], [], 20), (5000, [0, 1, 2, 3, 4, 5, 6, 7], [0, 1], 25), (51, [0], [], 0), (0, [1], [], 23), (90, [2], [], -2147483648), (91, [2], [], 2147483647), (51, [3], [], 0), (0, [4], [], 23), (90, [5], [], -2147483648), (91, [5], [], 2147483647), (90, [6], [], -2147483648), (91, [6], [], 2147483647), (90, [7], [], -2147483648), (91, [7], [], 2147483647)], (3000, [], [5], 139))
theorem c_152w_25_1 {q0 : Nat} : vOkm T0 (eN e_152 L_152w A_152 mu_152 n_152 B_152 (some q0)) 3 g_152w_25_1 := vOk_inI fun ρ η f0 f1 f2 f3 f4 f5 f6 f7 f8 f9 f10 f11 f12 f13 f14 f15 f16 f17 f18 f19 f20 f21 f22 f23 f24 f25 f26 f27 f28 f29 f30 f31 f32 f33 f34 f35 f36 f37 => q_152w_2 (q0 := q0) (n0 := ρ 7) (n1 := ρ 6) (n2 := ρ 5) (n3 := ρ 4) (n4 := ρ 3) (n5 := ρ 2) (n6 := ρ 1) (n7 := ρ 0) (n8 := ρ 8) (n9 := ρ 9) (n10 := ρ 10) (n11 := ρ 11) (n12 := ρ 12) (n13 := ρ 13) (n14 := ρ 14) (n15 := ρ 15) (n16 := ρ 16) (n17 := ρ 17) (H0 := η 0) (H1 := η 1) (H2 := η 2) (H3 := η 3) (H4 := η 4) (H5 := η 5) f37 f36 f35 f34 f33 f32 f31 f30 f29 f28 f27 f26 f25 f24 f23 f22 f21 f20 f19 f18 f17 f16 f15 f14 f13 f12 f11 f10 f9 f8 f7 f6 f5 f4 f3 f2 f1 f0
theorem q_152w_3 {q0 : Nat} {n0 n1 n2 n3 n4 n5 n6 n7 n8 n9 n10 : Int} {H0 H1 : gH} (f0 : n0 ≤ 2147483647) (f1 : (-2147483648) ≤ n0) (f2 : n1 ≤ 2147483647) (f3 : (-2147483648) ≤ n1) (f4 : n2 ≤ 2147483647) (f5 : (-2147483648) ≤ n2) (f6 : n3 = 23) (f7 : 0 ≤ n4) (f8 : n5 ≤ 2147483647) (f9 : (-2147483648) ≤ n5) (f10 : n6 = 23) (f11 : 0 ≤ n7) (f12 : (hLe T0 H0 H1 ∧ hFr s_152.2.2.2.2 H0 H1 ∧ hWt T0 H1) ∧ ((True ∧ Bb_152_25 n7 n6 n5 n4 n3 n2 n1 n0 H0 H1) ∧ True) ∧ some q0 = some (mub_152_25 n7 n6 n5 n4 n3 n2 n1 n0 H0 H1)) (f13 : n8 = 20) (f14 : n0 < n8) (f15 : hK H1 (n4).toNat = 10) (f16 : n9 = hV H1 (n4).toNat 0) (f17 : n9 = -1) (f18 : hK H1 (n4).toNat = 10) (f19 : n10 = hV H1 (n4).toNat 0) (f20 : n10 = -1) : nb_152 n7 n6 n5 H0 H1 := by
  unfold nb_152
  intro E z p0 p1 r3
  have gb := f12.2.1.1.2
  unfold Bb_152_25 at gb
  obtain ⟨e0, c, c1, c2, c3, c4, c5, c6, c7, c8, c9, c10, c11⟩ := gb E z p0 p1 r3
  have h20 := z.2.1.1
  have z1 := SNC_fr f12.1.1 f12.1.2.1 (by decide +kernel) z
  have e24 : hV H1 24 = hV H0 24 := fRow f12.1.2.1 24 (by decide +kernel)
  have y1 := SNo_at z1 c1 e24
  have y1p := y1.1
  rw [← e0] at c4 c6 c7 c8 c11
  have g16 := f16.trans c4
  have g19 := f19.trans c4
  exfalso
  omega
def g_152w_25_2 : vG := ([(50, [10], [], 0), (20, [10, 3], [1], 0), (23, [3], [1], 10), (50, [9], [], 0), (20, [9, 3], [1], 0), (23, [3], [1], 10), (42, [7, 8], [], 0), (0, [8], [], 20), (5000, [0, 1, 2, 3, 4, 5, 6, 7], [0, 1], 25), (51, [0], [], 0), (0, [1], [], 23), (90, [2], [], -2147483648), (91, [2], [], 2147483647), (51, [3], [], 0), (0, [4], [], 23), (90, [5], [], -2147483648), (91, [5], [], 2147483647), (90, [6], [], -2147483648), (91, [6], [], 2147483647), (90, [7], [], -2147483648), (91, [7], [], 2147483647)], (3000, [], [1], 139))
theorem c_152w_25_2 {q0 : Nat} : vOkm T0 (eN e_152 L_152w A_152 mu_152 n_152 B_152 (some q0)) 3 g_152w_25_2 := vOk_inI fun ρ η f0 f1 f2 f3 f4 f5 f6 f7 f8 f9 f10 f11 f12 f13 f14 f15 f16 f17 f18 f19 f20 => q_152w_3 (q0 := q0) (n0 := ρ 7) (n1 := ρ 6) (n2 := ρ 5) (n3 := ρ 4) (n4 := ρ 3) (n5 := ρ 2) (n6 := ρ 1) (n7 := ρ 0) (n8 := ρ 8) (n9 := ρ 9) (n10 := ρ 10) (H0 := η 0) (H1 := η 1) f20 f19 f18 f17 f16 f15 f14 f13 f12 f11 f10 f9 f8 f7 f6 f5 f4 f3 f2 f1 f0
theorem q_152w_4 {q0 : Nat} {n0 n1 n2 n3 n4 n5 n6 n7 n8 n9 n10 n11 n12 n13 n14 n15 n16 n17 n18 : Int} {H0 H1 H2 H3 H4 H5 : gH} (f0 : n0 ≤ 2147483647) (f1 : (-2147483648) ≤ n0) (f2 : n1 ≤ 2147483647) (f3 : (-2147483648) ≤ n1) (f4 : n2 ≤ 2147483647) (f5 : (-2147483648) ≤ n2) (f6 : n3 = 23) (f7 : 0 ≤ n4) (f8 : n5 ≤ 2147483647) (f9 : (-2147483648) ≤ n5) (f10 : n6 = 23) (f11 : 0 ≤ n7) (f12 : (hLe T0 H0 H1 ∧ hFr s_152.2.2.2.2 H0 H1 ∧ hWt T0 H1) ∧ ((True ∧ Bb_152_25 n7 n6 n5 n4 n3 n2 n1 n0 H0 H1) ∧ True) ∧ some q0 = some (mub_152_25 n7 n6 n5 n4 n3 n2 n1 n0 H0 H1)) (f13 : n8 = 20) (f14 : n0 < n8) (f15 : hK H1 (n4).toNat = 10) (f16 : n9 = hV H1 (n4).toNat 0) (f17 : n9 = -1) (f18 : hK H1 (n4).toNat = 10) (f19 : n10 = hV H1 (n4).toNat 0) (f20 : 0 ≤ n10) (f21 : n11 = 0) (f22 : hK H1 (n4).toNat = 10) (f23 : n12 = hV H1 (n4).toNat 0) (f24 : n13 ≤ 2147483647) (f25 : (-2147483648) ≤ n13) (f26 : (hLe T0 H1 H2 ∧ hFr s_9.2.2.2.2 H1 H2 ∧ ((0 : Int) = 0 → H2.length = H1.length) ∧ hWt T0 H2) ∧ (True ∧ nb_9 n13 n3 n12 H1 H2)) (f27 : n14 ≤ 2147483647) (f28 : (-2147483648) ≤ n14) (f29 : (hLe T0 H2 H3 ∧ hFr s_319.2.2.2.2 H2 H3 ∧ ((0 : Int) = 0 → H3.length = H2.length) ∧ hWt T0 H3) ∧ postb_319 n14 n1 n13 H2 H3) (f30 : n15 ≤ 2147483647) (f31 : (-2147483648) ≤ n15) (f32 : hK H3 (n4).toNat = 10) (f33 : n15 = hV H3 (n4).toNat 1) (f34 : n16 = w32 (n14 - n15)) (f35 : n17 ≤ 2147483647) (f36 : (-2147483648) ≤ n17) (f37 : (hLe T0 H3 H4 ∧ hFr s_317.2.2.2.2 H3 H4 ∧ ((0 : Int) = 0 → H4.length = H3.length) ∧ hWt T0 H4) ∧ postb_317 n17 n11 n16 H3 H4) (f38 : hK H4 (n4).toNat = 10) (f39 : n18 = 2) (f40 : hUpd H5 H4 n4 n18 n17) : nb_152 n7 n6 n5 H0 H5 := by
  unfold nb_152
  intro E z p0 p1 r3
  have gb := f12.2.1.1.2
  unfold Bb_152_25 at gb
  obtain ⟨e0, c, c1, c2, c3, c4, c5, c6, c7, c8, c9, c10, c11⟩ := gb E z p0 p1 r3
  have h20 := z.2.1.1
  have z1 := SNC_fr f12.1.1 f12.1.2.1 (by decide +kernel) z
  have e24 : hV H1 24 = hV H0 24 := fRow f12.1.2.1 24 (by decide +kernel)
  have y1 := SNo_at z1 c1 e24
  have y1p := y1.1
  rw [← e0] at c4 c6 c7 c8 c11
  have g16 := f16.trans c4
  have g19 := f19.trans c4
  have g23 := f23.trans c4
  exfalso
  omega
def g_152w_25_3 : vG := ([(80, [3, 18, 17], [5, 4], 0), (0, [18], [], 2), (23, [3], [4], 10), (1317, [17, 11, 16], [3, 4], 0), (90, [17], [], -2147483648), (91, [17], [], 2147483647), (2, [16, 14, 15], [], 0), (20, [15, 3], [3], 1), (23, [3], [3], 10), (90, [15], [], -2147483648), (91, [15], [], 2147483647), (1319, [14, 6, 13], [2, 3], 0), (90, [14], [], -2147483648), (91, [14], [], 2147483647), (1009, [13, 4, 12], [1, 2], 0), (90, [13], [], -2147483648), (91, [13], [], 2147483647), (20, [12, 3], [1], 0), (23, [3], [1], 10), (0, [11], [], 0), (51, [10], [], 0), (20, [10, 3], [1], 0), (23, [3], [1], 10), (50, [9], [], 0), (20, [9, 3], [1], 0), (23, [3], [1], 10), (42, [7, 8], [], 0), (0, [8], [], 20), (5000, [0, 1, 2, 3, 4, 5, 6, 7], [0, 1], 25), (51, [0], [], 0), (0, [1], [], 23), (90, [2], [], -2147483648), (91, [2], [], 2147483647), (51, [3], [], 0), (0, [4], [], 23), (90, [5], [], -2147483648), (91, [5], [], 2147483647), (90, [6], [], -2147483648), (91, [6], [], 2147483647), (90, [7], [], -2147483648), (91, [7], [], 2147483647)], (3000, [], [5], 139))
theorem c_152w_25_3 {q0 : Nat} : vOkm T0 (eN e_152 L_152w A_152 mu_152 n_152 B_152 (some q0)) 3 g_152w_25_3 := vOk_inI fun ρ η f0 f1 f2 f3 f4 f5 f6 f7 f8 f9 f10 f11 f12 f13 f14 f15 f16 f17 f18 f19 f20 f21 f22 f23 f24 f25 f26 f27 f28 f29 f30 f31 f32 f33 f34 f35 f36 f37 f38 f39 f40 => q_152w_4 (q0 := q0) (n0 := ρ 7) (n1 := ρ 6) (n2 := ρ 5) (n3 := ρ 4) (n4 := ρ 3) (n5 := ρ 2) (n6 := ρ 1) (n7 := ρ 0) (n8 := ρ 8) (n9 := ρ 9) (n10 := ρ 10) (n11 := ρ 11) (n12 := ρ 12) (n13 := ρ 13) (n14 := ρ 14) (n15 := ρ 15) (n16 := ρ 16) (n17 := ρ 17) (n18 := ρ 18) (H0 := η 0) (H1 := η 1) (H2 := η 2) (H3 := η 3) (H4 := η 4) (H5 := η 5) f40 f39 f38 f37 f36 f35 f34 f33 f32 f31 f30 f29 f28 f27 f26 f25 f24 f23 f22 f21 f20 f19 f18 f17 f16 f15 f14 f13 f12 f11 f10 f9 f8 f7 f6 f5 f4 f3 f2 f1 f0
theorem q_152w_5 {q0 : Nat} {n0 n1 n2 n3 n4 n5 n6 n7 n8 n9 n10 n11 n12 n13 : Int} {H0 H1 : gH} (f0 : n0 ≤ 2147483647) (f1 : (-2147483648) ≤ n0) (f2 : n1 ≤ 2147483647) (f3 : (-2147483648) ≤ n1) (f4 : n2 ≤ 2147483647) (f5 : (-2147483648) ≤ n2) (f6 : n3 = 23) (f7 : 0 ≤ n4) (f8 : n5 ≤ 2147483647) (f9 : (-2147483648) ≤ n5) (f10 : n6 = 23) (f11 : 0 ≤ n7) (f12 : (hLe T0 H0 H1 ∧ hFr s_152.2.2.2.2 H0 H1 ∧ hWt T0 H1) ∧ ((True ∧ Bb_152_25 n7 n6 n5 n4 n3 n2 n1 n0 H0 H1) ∧ True) ∧ some q0 = some (mub_152_25 n7 n6 n5 n4 n3 n2 n1 n0 H0 H1)) (f13 : n8 = 20) (f14 : n0 < n8) (f15 : hK H1 (n4).toNat = 10) (f16 : n9 = hV H1 (n4).toNat 0) (f17 : 0 ≤ n9) (f18 : hK H1 (n4).toNat = 10) (f19 : n10 = hV H1 (n4).toNat 0) (f20 : n11 ≤ 2147483647) (f21 : (-2147483648) ≤ n11) (f22 : hK H1 (n10).toNat = 7) (f23 : n11 = hV H1 (n10).toNat 0) (f24 : n12 = 4) (f25 : n11 ≠ n12) (f26 : hK H1 (n4).toNat = 10) (f27 : n13 = hV H1 (n4).toNat 0) (f28 : n13 = -1) : nb_152 n7 n6 n5 H0 H1 := by
  unfold nb_152
  intro E z p0 p1 r3
  have gb := f12.2.1.1.2
  unfold Bb_152_25 at gb
  obtain ⟨e0, c, c1, c2, c3, c4, c5, c6, c7, c8, c9, c10, c11⟩ := gb E z p0 p1 r3
  have h20 := z.2.1.1
  have z1 := SNC_fr f12.1.1 f12.1.2.1 (by decide +kernel) z
  have e24 : hV H1 24 = hV H0 24 := fRow f12.1.2.1 24 (by decide +kernel)
  have y1 := SNo_at z1 c1 e24
  have y1p := y1.1
  rw [← e0] at c4 c6 c7 c8 c11
  have g16 := f16.trans c4
  have g19 := f19.trans c4
  have g27 := f27.trans c4
  exfalso
  omega
def g_152w_25_4 : vG := ([(50, [13], [], 0), (20, [13, 3], [1], 0), (23, [3], [1], 10), (41, [11, 12], [], 0), (0, [12], [], 4), (20, [11, 10], [1], 0), (23, [10], [1], 7), (90, [11], [], -2147483648), (91, [11], [], 2147483647), (20, [10, 3], [1], 0), (23, [3], [1], 10), (51, [9], [], 0), (20, [9, 3], [1], 0), (23, [3], [1], 10), (42, [7, 8], [], 0), (0, [8], [], 20), (5000, [0, 1, 2, 3, 4, 5, 6, 7], [0, 1], 25), (51, [0], [], 0), (0, [1], [], 23), (90, [2], [], -2147483648), (91, [2], [], 2147483647), (51, [3], [], 0), (0, [4], [], 23), (90, [5], [], -2147483648), (91, [5], [], 2147483647), (90, [6], [], -2147483648), (91, [6], [], 2147483647), (90, [7], [], -2147483648), (91, [7], [], 2147483647)], (3000, [], [1], 139))
theorem c_152w_25_4 {q0 : Nat} : vOkm T0 (eN e_152 L_152w A_152 mu_152 n_152 B_152 (some q0)) 3 g_152w_25_4 := vOk_inI fun ρ η f0 f1 f2 f3 f4 f5 f6 f7 f8 f9 f10 f11 f12 f13 f14 f15 f16 f17 f18 f19 f20 f21 f22 f23 f24 f25 f26 f27 f28 => q_152w_5 (q0 := q0) (n0 := ρ 7) (n1 := ρ 6) (n2 := ρ 5) (n3 := ρ 4) (n4 := ρ 3) (n5 := ρ 2) (n6 := ρ 1) (n7 := ρ 0) (n8 := ρ 8) (n9 := ρ 9) (n10 := ρ 10) (n11 := ρ 11) (n12 := ρ 12) (n13 := ρ 13) (H0 := η 0) (H1 := η 1) f28 f27 f26 f25 f24 f23 f22 f21 f20 f19 f18 f17 f16 f15 f14 f13 f12 f11 f10 f9 f8 f7 f6 f5 f4 f3 f2 f1 f0
theorem q_152w_6 {q0 : Nat} {n0 n1 n2 n3 n4 n5 n6 n7 n8 n9 n10 n11 n12 n13 n14 n15 n16 n17 n18 n19 n20 n21 : Int} {H0 H1 H2 H3 H4 H5 : gH} (f0 : n0 ≤ 2147483647) (f1 : (-2147483648) ≤ n0) (f2 : n1 ≤ 2147483647) (f3 : (-2147483648) ≤ n1) (f4 : n2 ≤ 2147483647) (f5 : (-2147483648) ≤ n2) (f6 : n3 = 23) (f7 : 0 ≤ n4) (f8 : n5 ≤ 2147483647) (f9 : (-2147483648) ≤ n5) (f10 : n6 = 23) (f11 : 0 ≤ n7) (f12 : (hLe T0 H0 H1 ∧ hFr s_152.2.2.2.2 H0 H1 ∧ hWt T0 H1) ∧ ((True ∧ Bb_152_25 n7 n6 n5 n4 n3 n2 n1 n0 H0 H1) ∧ True) ∧ some q0 = some (mub_152_25 n7 n6 n5 n4 n3 n2 n1 n0 H0 H1)) (f13 : n8 = 20) (f14 : n0 < n8) (f15 : hK H1 (n4).toNat = 10) (f16 : n9 = hV H1 (n4).toNat 0) (f17 : 0 ≤ n9) (f18 : hK H1 (n4).toNat = 10) (f19 : n10 = hV H1 (n4).toNat 0) (f20 : n11 ≤ 2147483647) (f21 : (-2147483648) ≤ n11) (f22 : hK H1 (n10).toNat = 7) (f23 : n11 = hV H1 (n10).toNat 0) (f24 : n12 = 4) (f25 : n11 ≠ n12) (f26 : hK H1 (n4).toNat = 10) (f27 : n13 = hV H1 (n4).toNat 0) (f28 : 0 ≤ n13) (f29 : n14 = 0) (f30 : hK H1 (n4).toNat = 10) (f31 : n15 = hV H1 (n4).toNat 0) (f32 : n16 ≤ 2147483647) (f33 : (-2147483648) ≤ n16) (f34 : (hLe T0 H1 H2 ∧ hFr s_9.2.2.2.2 H1 H2 ∧ ((0 : Int) = 0 → H2.length = H1.length) ∧ hWt T0 H2) ∧ (True ∧ nb_9 n16 n3 n15 H1 H2)) (f35 : n17 ≤ 2147483647) (f36 : (-2147483648) ≤ n17) (f37 : (hLe T0 H2 H3 ∧ hFr s_319.2.2.2.2 H2 H3 ∧ ((0 : Int) = 0 → H3.length = H2.length) ∧ hWt T0 H3) ∧ postb_319 n17 n1 n16 H2 H3) (f38 : n18 ≤ 2147483647) (f39 : (-2147483648) ≤ n18) (f40 : hK H3 (n4).toNat = 10) (f41 : n18 = hV H3 (n4).toNat 1) (f42 : n19 = w32 (n17 - n18)) (f43 : n20 ≤ 2147483647) (f44 : (-2147483648) ≤ n20) (f45 : (hLe T0 H3 H4 ∧ hFr s_317.2.2.2.2 H3 H4 ∧ ((0 : Int) = 0 → H4.length = H3.length) ∧ hWt T0 H4) ∧ postb_317 n20 n14 n19 H3 H4) (f46 : hK H4 (n4).toNat = 10) (f47 : n21 = 2) (f48 : hUpd H5 H4 n4 n21 n20) : nb_152 n7 n6 n5 H0 H5 := by
  unfold nb_152
  intro E z p0 p1 r3
  have gb := f12.2.1.1.2
  unfold Bb_152_25 at gb
  obtain ⟨e0, c, c1, c2, c3, c4, c5, c6, c7, c8, c9, c10, c11⟩ := gb E z p0 p1 r3
  have h20 := z.2.1.1
  have z1 := SNC_fr f12.1.1 f12.1.2.1 (by decide +kernel) z
  have e24 : hV H1 24 = hV H0 24 := fRow f12.1.2.1 24 (by decide +kernel)
  have y1 := SNo_at z1 c1 e24
  have y1p := y1.1
  rw [← e0] at c4 c6 c7 c8 c11
  have g16 := f16.trans c4
  have g19 := f19.trans c4
  have g27 := f27.trans c4
  have g31 := f31.trans c4
  have kx : n11 = E.2.1 c := by
    have w := f23
    rw [g19] at w
    exact w.trans y1.2.2.1
  have kn : ¬ E.2.1 c = 4 := by omega
  obtain ⟨d1, d2, d3⟩ := AIM_end c5 c6 c11 kn
  rw [d1, Int.toNat_natCast] at r3
  obtain ⟨x6, _⟩ := y1.2.2.2.2.2.2 r3
  have qo := f34.2.2
  unfold nb_9 at qo
  rw [g31, x6] at qo
  have qo := qo (by rw [y1.2.2.1]; omega)
  have xs : n18 = hV H1 (n4).toNat 1 := f41.trans ((f37.1.2.1.2.2 _ 10 (kLe f34.1.1 f15 rfl) rfl 1 (by decide +kernel)).trans (f34.1.2.1.2.2 _ 10 f15 rfl 1 (by decide +kernel)))
  have w42 := f42
  unfold w32 at w42
  have q1 := f37.2
  unfold postb_319 at q1
  have q2 := f45.2
  unfold postb_317 at q2
  have m1 := mnI_c n1 (mz (E.2.2.2.2.2.1 c))
  have m2 := mz_c (mnI n1 (mz (E.2.2.2.2.2.1 c)) - hV H1 (n4).toNat 1)
  have m3 := mz_c (E.2.2.2.2.2.1 c)
  rw [← e0, d1, d2, d3, Int.toNat_natCast]
  refine ⟨?_, ?_, ?_⟩
  · exact (uSlot f48 _ 0 (by omega)).trans (((f45.1.2.1.2.2 _ 10 (kLe f37.1.1 (kLe f34.1.1 f15 rfl) rfl) rfl 0 (by decide +kernel)).trans ((f37.1.2.1.2.2 _ 10 (kLe f34.1.1 f15 rfl) rfl 0 (by decide +kernel)).trans (f34.1.2.1.2.2 _ 10 f15 rfl 0 (by decide +kernel)))).trans c4)
  · exact (uSlot f48 _ 1 (by omega)).trans ((f45.1.2.1.2.2 _ 10 (kLe f37.1.1 (kLe f34.1.1 f15 rfl) rfl) rfl 1 (by decide +kernel)).trans ((f37.1.2.1.2.2 _ 10 (kLe f34.1.1 f15 rfl) rfl 1 (by decide +kernel)).trans (f34.1.2.1.2.2 _ 10 f15 rfl 1 (by decide +kernel))))
  · rw [uSame f48 _ 2 (Int.toNat_of_nonneg f7) (by omega)]
    omega
def g_152w_25_5 : vG := ([(80, [3, 21, 20], [5, 4], 0), (0, [21], [], 2), (23, [3], [4], 10), (1317, [20, 14, 19], [3, 4], 0), (90, [20], [], -2147483648), (91, [20], [], 2147483647), (2, [19, 17, 18], [], 0), (20, [18, 3], [3], 1), (23, [3], [3], 10), (90, [18], [], -2147483648), (91, [18], [], 2147483647), (1319, [17, 6, 16], [2, 3], 0), (90, [17], [], -2147483648), (91, [17], [], 2147483647), (1009, [16, 4, 15], [1, 2], 0), (90, [16], [], -2147483648), (91, [16], [], 2147483647), (20, [15, 3], [1], 0), (23, [3], [1], 10), (0, [14], [], 0), (51, [13], [], 0), (20, [13, 3], [1], 0), (23, [3], [1], 10), (41, [11, 12], [], 0), (0, [12], [], 4), (20, [11, 10], [1], 0), (23, [10], [1], 7), (90, [11], [], -2147483648), (91, [11], [], 2147483647), (20, [10, 3], [1], 0), (23, [3], [1], 10), (51, [9], [], 0), (20, [9, 3], [1], 0), (23, [3], [1], 10), (42, [7, 8], [], 0), (0, [8], [], 20), (5000, [0, 1, 2, 3, 4, 5, 6, 7], [0, 1], 25), (51, [0], [], 0), (0, [1], [], 23), (90, [2], [], -2147483648), (91, [2], [], 2147483647), (51, [3], [], 0), (0, [4], [], 23), (90, [5], [], -2147483648), (91, [5], [], 2147483647), (90, [6], [], -2147483648), (91, [6], [], 2147483647), (90, [7], [], -2147483648), (91, [7], [], 2147483647)], (3000, [], [5], 139))
theorem c_152w_25_5 {q0 : Nat} : vOkm T0 (eN e_152 L_152w A_152 mu_152 n_152 B_152 (some q0)) 3 g_152w_25_5 := vOk_inI fun ρ η f0 f1 f2 f3 f4 f5 f6 f7 f8 f9 f10 f11 f12 f13 f14 f15 f16 f17 f18 f19 f20 f21 f22 f23 f24 f25 f26 f27 f28 f29 f30 f31 f32 f33 f34 f35 f36 f37 f38 f39 f40 f41 f42 f43 f44 f45 f46 f47 f48 => q_152w_6 (q0 := q0) (n0 := ρ 7) (n1 := ρ 6) (n2 := ρ 5) (n3 := ρ 4) (n4 := ρ 3) (n5 := ρ 2) (n6 := ρ 1) (n7 := ρ 0) (n8 := ρ 8) (n9 := ρ 9) (n10 := ρ 10) (n11 := ρ 11) (n12 := ρ 12) (n13 := ρ 13) (n14 := ρ 14) (n15 := ρ 15) (n16 := ρ 16) (n17 := ρ 17) (n18 := ρ 18) (n19 := ρ 19) (n20 := ρ 20) (n21 := ρ 21) (H0 := η 0) (H1 := η 1) (H2 := η 2) (H3 := η 3) (H4 := η 4) (H5 := η 5) f48 f47 f46 f45 f44 f43 f42 f41 f40 f39 f38 f37 f36 f35 f34 f33 f32 f31 f30 f29 f28 f27 f26 f25 f24 f23 f22 f21 f20 f19 f18 f17 f16 f15 f14 f13 f12 f11 f10 f9 f8 f7 f6 f5 f4 f3 f2 f1 f0
theorem q_152w_7 {q0 : Nat} {n0 n1 n2 n3 n4 n5 n6 n7 n8 n9 n10 n11 n12 n13 n14 n15 n16 n17 n18 n19 n20 n21 n22 n23 n24 n25 n26 n27 n28 : Int} {H0 H1 H2 H3 H4 H5 : gH} (f0 : n0 ≤ 2147483647) (f1 : (-2147483648) ≤ n0) (f2 : n1 ≤ 2147483647) (f3 : (-2147483648) ≤ n1) (f4 : n2 ≤ 2147483647) (f5 : (-2147483648) ≤ n2) (f6 : n3 = 23) (f7 : 0 ≤ n4) (f8 : n5 ≤ 2147483647) (f9 : (-2147483648) ≤ n5) (f10 : n6 = 23) (f11 : 0 ≤ n7) (f12 : (hLe T0 H0 H1 ∧ hFr s_152.2.2.2.2 H0 H1 ∧ hWt T0 H1) ∧ ((True ∧ Bb_152_25 n7 n6 n5 n4 n3 n2 n1 n0 H0 H1) ∧ True) ∧ some q0 = some (mub_152_25 n7 n6 n5 n4 n3 n2 n1 n0 H0 H1)) (f13 : n8 = 20) (f14 : n0 < n8) (f15 : hK H1 (n4).toNat = 10) (f16 : n9 = hV H1 (n4).toNat 0) (f17 : 0 ≤ n9) (f18 : hK H1 (n4).toNat = 10) (f19 : n10 = hV H1 (n4).toNat 0) (f20 : n11 ≤ 2147483647) (f21 : (-2147483648) ≤ n11) (f22 : hK H1 (n10).toNat = 7) (f23 : n11 = hV H1 (n10).toNat 0) (f24 : n12 = 4) (f25 : n11 = n12) (f26 : n13 ≤ 2147483647) (f27 : (-2147483648) ≤ n13) (f28 : hK H1 (n4).toNat = 10) (f29 : n13 = hV H1 (n4).toNat 1) (f30 : hK H1 (n4).toNat = 10) (f31 : n14 = hV H1 (n4).toNat 0) (f32 : n15 ≤ 2147483647) (f33 : (-2147483648) ≤ n15) (f34 : hK H1 (n14).toNat = 7) (f35 : n15 = hV H1 (n14).toNat 1) (f36 : n16 = w32 (n13 + n15)) (f37 : hK H1 (n4).toNat = 10) (f38 : n17 = 1) (f39 : hUpd H2 H1 n4 n17 n16) (f40 : hK H2 (n4).toNat = 10) (f41 : n18 = hV H2 (n4).toNat 0) (f42 : n19 ≤ 2147483647) (f43 : (-2147483648) ≤ n19) (f44 : hK H2 (n18).toNat = 7) (f45 : n19 = hV H2 (n18).toNat 1) (f46 : n20 = w32 (n1 + n19)) (f47 : hK H2 (n4).toNat = 10) (f48 : n21 = hV H2 (n4).toNat 0) (f49 : n22 ≤ 2147483647) (f50 : (-2147483648) ≤ n22) (f51 : hK H2 (n21).toNat = 7) (f52 : n22 = hV H2 (n21).toNat 2) (f53 : n23 ≤ 2147483647) (f54 : (-2147483648) ≤ n23) (f55 : (hLe T0 H2 H3 ∧ hFr s_319.2.2.2.2 H2 H3 ∧ ((0 : Int) = 0 → H3.length = H2.length) ∧ hWt T0 H3) ∧ postb_319 n23 n20 n22 H2 H3) (f56 : hK H3 (n4).toNat = 10) (f57 : n24 = hV H3 (n4).toNat 0) (f58 : n25 ≤ 2147483647) (f59 : (-2147483648) ≤ n25) (f60 : hK H3 (n24).toNat = 7) (f61 : n25 = hV H3 (n24).toNat 3) (f62 : (hLe T0 H3 H4 ∧ hFr s_2.2.2.2.2 H3 H4 ∧ ((0 : Int) = 0 → H4.length = H3.length) ∧ hWt T0 H4) ∧ postb_2v n26 n3 n25 H3 H4) (f63 : hK H4 (n4).toNat = 10) (f64 : n27 = 0) (f65 : hUpd H5 H4 n4 n27 n26) (f66 : n28 = w32 (n0 + 1)) : Bb_152_25 n7 n6 n5 n4 n3 n2 n23 n28 H0 H5 := by
  unfold Bb_152_25
  intro E z p0 p1 r3
  have gb := f12.2.1.1.2
  unfold Bb_152_25 at gb
  obtain ⟨e0, c, c1, c2, c3, c4, c5, c6, c7, c8, c9, c10, c11⟩ := gb E z p0 p1 r3
  have h20 := z.2.1.1
  have z1 := SNC_fr f12.1.1 f12.1.2.1 (by decide +kernel) z
  have e24 : hV H1 24 = hV H0 24 := fRow f12.1.2.1 24 (by decide +kernel)
  have y1 := SNo_at z1 c1 e24
  have y1p := y1.1
  rw [← e0] at c4 c6 c7 c8 c11
  have g16 := f16.trans c4
  have g19 := f19.trans c4
  have g31 := f31.trans c4
  have kx : n11 = E.2.1 c := by
    have w := f23
    rw [g19] at w
    exact w.trans y1.2.2.1
  have w := (z.2.1.2 c c1).1 (by omega)
  obtain ⟨v1, v2, v3, v4, v5⟩ := w
  have z2 := SNC_v f39 f15 z1
  have e2 : hV H2 24 = hV H0 24 := z2.2.trans e24
  have y2 := SNo_at z2.1 c1 e2
  have z3 := SNC_fr f55.1.1 f55.1.2.1 (by decide +kernel) z2.1
  have e3 : hV H3 24 = hV H0 24 := (fRow f55.1.2.1 24 (by decide +kernel)).trans e2
  have y3 := SNo_at z3 c1 e3
  have g41 := f41.trans ((uSlot f39 _ 0 (by omega)).trans c4)
  have g48 := f48.trans ((uSlot f39 _ 0 (by omega)).trans c4)
  have g57 := f57.trans ((f55.1.2.1.2.2 _ 10 (kUp f39 f15) rfl 0 (by decide +kernel)).trans ((uSlot f39 _ 0 (by omega)).trans c4))
  have x35 : n15 = E.2.2.2.1 c := by
    have w := f35
    rw [g31] at w
    exact w.trans y1.2.2.2.1
  have x45 : n19 = E.2.2.2.1 c := by
    have w := f45
    rw [g41] at w
    exact w.trans y2.2.2.2.1
  have x52 : n22 = E.2.2.2.2.1 c := by
    have w := f52
    rw [g48] at w
    exact w.trans y2.2.2.2.2.1
  have x61 : n25 = E.2.2.1 c := by
    have w := f61
    rw [g57] at w
    exact w.trans y3.2.2.2.2.2.1
  have w36 := f36
  unfold w32 at w36
  have w46 := f46
  unfold w32 at w46
  have w66 := f66
  unfold w32 at w66
  have q1 := f55.2
  unfold postb_319 at q1
  have m1 := mnI_c (n1 + E.2.2.2.1 c) (E.2.2.2.2.1 c)
  have qg := f62.2
  unfold postb_2v at qg
  have s3 : n25 = E.2.2.1 c := by omega
  have eg := get_at z3 e3 qg (by omega) (by omega)
  rw [s3] at eg
  have s1 : hV H5 (n4).toNat 1 = n16 := (uSlot f65 _ 1 (by omega)).trans ((f62.1.2.1.2.2 _ 10 (kLe f55.1.1 (kUp f39 f15) rfl) rfl 1 (by decide +kernel)).trans ((f55.1.2.1.2.2 _ 10 (kUp f39 f15) rfl 1 (by decide +kernel)).trans (uSame f39 _ 1 (Int.toNat_of_nonneg f7) (by omega))))
  have s0 : hV H5 (n4).toNat 0 = n26 := uSame f65 _ 0 (Int.toNat_of_nonneg f7) (by omega)
  refine ⟨e0, ?_⟩
  rw [← e0]
  exact AIM_step z.2.1 c1 c2 c3 c5 c6 c7 c8 c9 c10 c11 (by omega) (by omega) (by omega) (by omega) (s0.trans eg)
def g_152w_25_6 : vG := ([(10, [28, 7], [], 1), (80, [3, 27, 26], [5, 4], 2), (0, [27], [], 0), (23, [3], [4], 10), (1002, [26, 4, 25], [3, 4], 0), (20, [25, 24], [3], 3), (23, [24], [3], 7), (90, [25], [], -2147483648), (91, [25], [], 2147483647), (20, [24, 3], [3], 0), (23, [3], [3], 10), (1319, [23, 20, 22], [2, 3], 0), (90, [23], [], -2147483648), (91, [23], [], 2147483647), (20, [22, 21], [2], 2), (23, [21], [2], 7), (90, [22], [], -2147483648), (91, [22], [], 2147483647), (20, [21, 3], [2], 0), (23, [3], [2], 10), (1, [20, 6, 19], [], 0), (20, [19, 18], [2], 1), (23, [18], [2], 7), (90, [19], [], -2147483648), (91, [19], [], 2147483647), (20, [18, 3], [2], 0), (23, [3], [2], 10), (80, [3, 17, 16], [2, 1], 0), (0, [17], [], 1), (23, [3], [1], 10), (1, [16, 13, 15], [], 0), (20, [15, 14], [1], 1), (23, [14], [1], 7), (90, [15], [], -2147483648), (91, [15], [], 2147483647), (20, [14, 3], [1], 0), (23, [3], [1], 10), (20, [13, 3], [1], 1), (23, [3], [1], 10), (90, [13], [], -2147483648), (91, [13], [], 2147483647), (40, [11, 12], [], 0), (0, [12], [], 4), (20, [11, 10], [1], 0), (23, [10], [1], 7), (90, [11], [], -2147483648), (91, [11], [], 2147483647), (20, [10, 3], [1], 0), (23, [3], [1], 10), (51, [9], [], 0), (20, [9, 3], [1], 0), (23, [3], [1], 10), (42, [7, 8], [], 0), (0, [8], [], 20), (5000, [0, 1, 2, 3, 4, 5, 6, 7], [0, 1], 25), (51, [0], [], 0), (0, [1], [], 23), (90, [2], [], -2147483648), (91, [2], [], 2147483647), (51, [3], [], 0), (0, [4], [], 23), (90, [5], [], -2147483648), (91, [5], [], 2147483647), (90, [6], [], -2147483648), (91, [6], [], 2147483647), (90, [7], [], -2147483648), (91, [7], [], 2147483647)], (4000, [3, 4, 5, 23, 28], [5], 25))
theorem c_152w_25_6 {q0 : Nat} : vOkm T0 (eN e_152 L_152w A_152 mu_152 n_152 B_152 (some q0)) 3 g_152w_25_6 := vOk_inI fun ρ η f0 f1 f2 f3 f4 f5 f6 f7 f8 f9 f10 f11 f12 f13 f14 f15 f16 f17 f18 f19 f20 f21 f22 f23 f24 f25 f26 f27 f28 f29 f30 f31 f32 f33 f34 f35 f36 f37 f38 f39 f40 f41 f42 f43 f44 f45 f46 f47 f48 f49 f50 f51 f52 f53 f54 f55 f56 f57 f58 f59 f60 f61 f62 f63 f64 f65 f66 => q_152w_7 (q0 := q0) (n0 := ρ 7) (n1 := ρ 6) (n2 := ρ 5) (n3 := ρ 4) (n4 := ρ 3) (n5 := ρ 2) (n6 := ρ 1) (n7 := ρ 0) (n8 := ρ 8) (n9 := ρ 9) (n10 := ρ 10) (n11 := ρ 11) (n12 := ρ 12) (n13 := ρ 13) (n14 := ρ 14) (n15 := ρ 15) (n16 := ρ 16) (n17 := ρ 17) (n18 := ρ 18) (n19 := ρ 19) (n20 := ρ 20) (n21 := ρ 21) (n22 := ρ 22) (n23 := ρ 23) (n24 := ρ 24) (n25 := ρ 25) (n26 := ρ 26) (n27 := ρ 27) (n28 := ρ 28) (H0 := η 0) (H1 := η 1) (H2 := η 2) (H3 := η 3) (H4 := η 4) (H5 := η 5) f66 f65 f64 f63 f62 f61 f60 f59 f58 f57 f56 f55 f54 f53 f52 f51 f50 f49 f48 f47 f46 f45 f44 f43 f42 f41 f40 f39 f38 f37 f36 f35 f34 f33 f32 f31 f30 f29 f28 f27 f26 f25 f24 f23 f22 f21 f20 f19 f18 f17 f16 f15 f14 f13 f12 f11 f10 f9 f8 f7 f6 f5 f4 f3 f2 f1 f0
def p_152w_25 : List vG := [g_152w_25_0,
  g_152w_25_1,
  g_152w_25_2,
  g_152w_25_3,
  g_152w_25_4,
  g_152w_25_5,
  g_152w_25_6]
theorem r_152w_25 : vCovBO (eRc e_152 L_152 cs_152 2000 (25, [(0, (3, 10, -1, 0)), (1, (3, 0, 23, 0)), (2, (0, -2147483648, 2147483647, 0)), (3, (0, -2147483648, 2147483647, 0)), (4, (0, -2147483648, 2147483647, 0))])) p_152w_25 = true := by decide +kernel
theorem m_152w (d : Nat) : eC e_152w (d + 3) := eC_ref (e := e_152) (L := L_152) (L' := L_152w) (cs := cs_152) (n := 2000) (d := d + 2) (A := A_152) (μ := mu_152) (tp := true) (p0 := p_152_s) (p1 := p_152w_s) (N := n_152) (B := B_152) rfl ⟨m_2v (d + 1), ⟨m_9w d, ⟨m_317 (d + 1), ⟨m_319 (d + 1), trivial⟩⟩⟩⟩ rfl (.inr pre0_ok) (by decide +kernel) (fun _ => post0_ok) r_152_s (allC c_152_s_0 allN) (allC (.inl ⟨p_152_25, r_152_25, fun q0 => (allC c_152_25_0 (allC c_152_25_1 (allC c_152_25_2 (allC c_152_25_3 (allC c_152_25_4 (allC c_152_25_5 (allC c_152_25_6 (allC c_152_25_7 (allC c_152_25_8 allN)))))))))⟩) allN) ⟨⟨rfl, rfl, rfl, fun _ _ _ _ => trivial⟩, (sub1 (sub0 (sub0 trivial)))⟩ r_152w_s (allC c_152w_s_0 allN) (allC ⟨p_152w_25, r_152w_25, fun q0 => (allC c_152w_25_0 (allC c_152w_25_1 (allC c_152w_25_2 (allC c_152w_25_3 (allC c_152w_25_4 (allC c_152w_25_5 (allC c_152w_25_6 allN)))))))⟩ allN)
/- View.sampleAt (I)I, more fully -/
def nb_153 (r a0 a1 : Int) (h0 h : gH) : Prop := ∀ (E : SE) (s : Int), SNC h0 E → 0 ≤ s → s < E.1 → E.2.1 (RT E s).toNat ≤ 3 → hV h0 (a0).toNat 0 = hV h0 24 (RT E s).toNat → hV h0 (a0).toNat 1 = OF E s → hV h0 (a0).toNat 2 = LN E s → r = smE E s a1
def n_153 : List Int → gH → gH → Prop := fun xs h0 h => match xs with
  | [r, a0, a1] => nb_153 r a0 a1 h0 h
  | _ => True
noncomputable def e_153w : vE := eV e_153 n_153
noncomputable def L_153w : List vE := [e_199vk780]
def B_153 : Int → List Int → gH → gH → Prop := fun c xs h0 h => True
theorem q_153w_0 {n0 n1 n2 n3 : Int} {H0 : gH} (f0 : n0 ≤ 2147483647) (f1 : (-2147483648) ≤ n0) (f2 : 0 ≤ n1) (f3 : hWt T0 H0 ∧ True) (f4 : hK H0 (n1).toNat = 10) (f5 : n2 = hV H0 (n1).toNat 0) (f6 : n2 = -1) (f7 : n3 = 0) : nb_153 n3 n1 n0 H0 H0 := by
  unfold nb_153
  intro E s z p0 p1 r3 v0 v1 v2
  obtain ⟨i1, i2, i3, i4, i5, i6⟩ := CH_rg z.2.1 p0 p1
  have i7 := i6 r3
  have y := SNo_at z (s := (RT E s).toNat) (by omega) rfl
  have yp := y.1
  obtain ⟨x1, x2, x3, x4, x5⟩ := y.2.2.2.2.2.2 r3
  have g5 := f5.trans v0
  exfalso
  omega
def g_153w_s_0 : vG := ([(0, [3], [], 0), (50, [2], [], 0), (20, [2, 0], [0], 0), (23, [0], [0], 10), (6000, [0, 1], [0], 0), (51, [0], [], 0), (90, [1], [], -2147483648), (91, [1], [], 2147483647)], (3000, [3], [0], 31))
theorem c_153w_s_0 : vOkm T0 (eN e_153 L_153w A_153 mu_153 n_153 B_153 none) 2 g_153w_s_0 := vOk_inI fun ρ η f0 f1 f2 f3 f4 f5 f6 f7 => q_153w_0 (n0 := ρ 1) (n1 := ρ 0) (n2 := ρ 2) (n3 := ρ 3) (H0 := η 0) f7 f6 f5 f4 f3 f2 f1 f0
theorem q_153w_1 {n0 n1 n2 n3 n4 n5 n6 : Int} {H0 : gH} (f0 : n0 ≤ 2147483647) (f1 : (-2147483648) ≤ n0) (f2 : 0 ≤ n1) (f3 : hWt T0 H0 ∧ True) (f4 : hK H0 (n1).toNat = 10) (f5 : n2 = hV H0 (n1).toNat 0) (f6 : 0 ≤ n2) (f7 : hK H0 (n1).toNat = 10) (f8 : n3 = hV H0 (n1).toNat 0) (f9 : n4 ≤ 2147483647) (f10 : (-2147483648) ≤ n4) (f11 : hK H0 (n3).toNat = 7) (f12 : n4 = hV H0 (n3).toNat 0) (f13 : n5 = 5) (f14 : n4 = n5) (f15 : n6 = 0) : nb_153 n6 n1 n0 H0 H0 := by
  unfold nb_153
  intro E s z p0 p1 r3 v0 v1 v2
  obtain ⟨i1, i2, i3, i4, i5, i6⟩ := CH_rg z.2.1 p0 p1
  have i7 := i6 r3
  have y := SNo_at z (s := (RT E s).toNat) (by omega) rfl
  have yp := y.1
  obtain ⟨x1, x2, x3, x4, x5⟩ := y.2.2.2.2.2.2 r3
  have g5 := f5.trans v0
  have g8 := f8.trans v0
  have kx : n4 = E.2.1 (RT E s).toNat := by
    have w := f12
    rw [g8] at w
    exact w.trans y.2.2.1
  exfalso
  omega
def g_153w_s_1 : vG := ([(0, [6], [], 0), (40, [4, 5], [], 0), (0, [5], [], 5), (20, [4, 3], [0], 0), (23, [3], [0], 7), (90, [4], [], -2147483648), (91, [4], [], 2147483647), (20, [3, 0], [0], 0), (23, [0], [0], 10), (51, [2], [], 0), (20, [2, 0], [0], 0), (23, [0], [0], 10), (6000, [0, 1], [0], 0), (51, [0], [], 0), (90, [1], [], -2147483648), (91, [1], [], 2147483647)], (3000, [6], [0], 31))
theorem c_153w_s_1 : vOkm T0 (eN e_153 L_153w A_153 mu_153 n_153 B_153 none) 2 g_153w_s_1 := vOk_inI fun ρ η f0 f1 f2 f3 f4 f5 f6 f7 f8 f9 f10 f11 f12 f13 f14 f15 => q_153w_1 (n0 := ρ 1) (n1 := ρ 0) (n2 := ρ 2) (n3 := ρ 3) (n4 := ρ 4) (n5 := ρ 5) (n6 := ρ 6) (H0 := η 0) f15 f14 f13 f12 f11 f10 f9 f8 f7 f6 f5 f4 f3 f2 f1 f0
theorem q_153w_2 {n0 n1 n2 n3 n4 n5 n6 : Int} {H0 : gH} (f0 : n0 ≤ 2147483647) (f1 : (-2147483648) ≤ n0) (f2 : 0 ≤ n1) (f3 : hWt T0 H0 ∧ True) (f4 : hK H0 (n1).toNat = 10) (f5 : n2 = hV H0 (n1).toNat 0) (f6 : 0 ≤ n2) (f7 : hK H0 (n1).toNat = 10) (f8 : n3 = hV H0 (n1).toNat 0) (f9 : n4 ≤ 2147483647) (f10 : (-2147483648) ≤ n4) (f11 : hK H0 (n3).toNat = 7) (f12 : n4 = hV H0 (n3).toNat 0) (f13 : n5 = 5) (f14 : n4 ≠ n5) (f15 : n0 < 0) (f16 : n6 = 0) : nb_153 n6 n1 n0 H0 H0 := by
  unfold nb_153
  intro E s z p0 p1 r3 v0 v1 v2
  obtain ⟨i1, i2, i3, i4, i5, i6⟩ := CH_rg z.2.1 p0 p1
  have i7 := i6 r3
  have y := SNo_at z (s := (RT E s).toNat) (by omega) rfl
  have yp := y.1
  obtain ⟨x1, x2, x3, x4, x5⟩ := y.2.2.2.2.2.2 r3
  have g5 := f5.trans v0
  have g8 := f8.trans v0
  have kx : n4 = E.2.1 (RT E s).toNat := by
    have w := f12
    rw [g8] at w
    exact w.trans y.2.2.1
  unfold smE
  rw [if_neg (by omega)]
  omega
def g_153w_s_2 : vG := ([(0, [6], [], 0), (32, [1], [], 0), (41, [4, 5], [], 0), (0, [5], [], 5), (20, [4, 3], [0], 0), (23, [3], [0], 7), (90, [4], [], -2147483648), (91, [4], [], 2147483647), (20, [3, 0], [0], 0), (23, [0], [0], 10), (51, [2], [], 0), (20, [2, 0], [0], 0), (23, [0], [0], 10), (6000, [0, 1], [0], 0), (51, [0], [], 0), (90, [1], [], -2147483648), (91, [1], [], 2147483647)], (3000, [6], [0], 31))
theorem c_153w_s_2 : vOkm T0 (eN e_153 L_153w A_153 mu_153 n_153 B_153 none) 2 g_153w_s_2 := vOk_inI fun ρ η f0 f1 f2 f3 f4 f5 f6 f7 f8 f9 f10 f11 f12 f13 f14 f15 f16 => q_153w_2 (n0 := ρ 1) (n1 := ρ 0) (n2 := ρ 2) (n3 := ρ 3) (n4 := ρ 4) (n5 := ρ 5) (n6 := ρ 6) (H0 := η 0) f16 f15 f14 f13 f12 f11 f10 f9 f8 f7 f6 f5 f4 f3 f2 f1 f0
theorem q_153w_3 {n0 n1 n2 n3 n4 n5 n6 n7 n8 n9 n10 n11 : Int} {H0 H1 : gH} (f0 : n0 ≤ 2147483647) (f1 : (-2147483648) ≤ n0) (f2 : 0 ≤ n1) (f3 : hWt T0 H0 ∧ True) (f4 : hK H0 (n1).toNat = 10) (f5 : n2 = hV H0 (n1).toNat 0) (f6 : 0 ≤ n2) (f7 : hK H0 (n1).toNat = 10) (f8 : n3 = hV H0 (n1).toNat 0) (f9 : n4 ≤ 2147483647) (f10 : (-2147483648) ≤ n4) (f11 : hK H0 (n3).toNat = 7) (f12 : n4 = hV H0 (n3).toNat 0) (f13 : n5 = 5) (f14 : n4 ≠ n5) (f15 : 0 ≤ n0) (f16 : n6 ≤ 2147483647) (f17 : (-2147483648) ≤ n6) (f18 : hK H0 (n1).toNat = 10) (f19 : n6 = hV H0 (n1).toNat 2) (f20 : n0 < n6) (f21 : hK H0 (n1).toNat = 10) (f22 : n7 = hV H0 (n1).toNat 0) (f23 : 0 ≤ n8) (f24 : hK H0 (n7).toNat = 7) (f25 : n8 = hV H0 (n7).toNat 4) (f26 : n9 ≤ 2147483647) (f27 : (-2147483648) ≤ n9) (f28 : hK H0 (n1).toNat = 10) (f29 : n9 = hV H0 (n1).toNat 1) (f30 : n10 = w32 (n9 + n0)) (f31 : n11 ≤ 2147483647) (f32 : (-2147483648) ≤ n11) (f33 : (hLe T0 H0 H1 ∧ hFr s_199k780.2.2.2.2 H0 H1 ∧ ((0 : Int) = 0 → H1.length = H0.length) ∧ hWt T0 H1) ∧ postb_199vk780 n11 n8 n10 H0 H1) : nb_153 n11 n1 n0 H0 H1 := by
  unfold nb_153
  intro E s z p0 p1 r3 v0 v1 v2
  obtain ⟨i1, i2, i3, i4, i5, i6⟩ := CH_rg z.2.1 p0 p1
  have i7 := i6 r3
  have y := SNo_at z (s := (RT E s).toNat) (by omega) rfl
  have yp := y.1
  obtain ⟨x1, x2, x3, x4, x5⟩ := y.2.2.2.2.2.2 r3
  have g5 := f5.trans v0
  have g8 := f8.trans v0
  have g22 := f22.trans v0
  have kx : n4 = E.2.1 (RT E s).toNat := by
    have w := f12
    rw [g8] at w
    exact w.trans y.2.2.1
  unfold smE
  have x6 : n8 = hV H0 (hV H0 24 (RT E s).toNat).toNat 4 := by
    have w := f25
    rw [g22] at w
    exact w
  have w30 := f30
  unfold w32 at w30
  have c : 0 ≤ n0 ∧ n0 < LN E s := by omega
  rw [if_pos c]
  have qa := f33.2
  unfold postb_199vk780 at qa
  rw [x6] at qa
  have qa := atR_y qa x2 (by omega) (by rw [x4]; omega)
  rw [qa, x5 (n10).toNat (by omega)]
  refine congrArg E.2.2.2.2.2.2 ?_
  omega
def g_153w_s_3 : vG := ([(1199, [11, 8, 10], [0, 1], 0), (90, [11], [], -2147483648), (91, [11], [], 2147483647), (1, [10, 9, 1], [], 0), (20, [9, 0], [0], 1), (23, [0], [0], 10), (90, [9], [], -2147483648), (91, [9], [], 2147483647), (20, [8, 7], [0], 4), (23, [7], [0], 7), (51, [8], [], 0), (20, [7, 0], [0], 0), (23, [0], [0], 10), (42, [1, 6], [], 0), (20, [6, 0], [0], 2), (23, [0], [0], 10), (90, [6], [], -2147483648), (91, [6], [], 2147483647), (33, [1], [], 0), (41, [4, 5], [], 0), (0, [5], [], 5), (20, [4, 3], [0], 0), (23, [3], [0], 7), (90, [4], [], -2147483648), (91, [4], [], 2147483647), (20, [3, 0], [0], 0), (23, [0], [0], 10), (51, [2], [], 0), (20, [2, 0], [0], 0), (23, [0], [0], 10), (6000, [0, 1], [0], 0), (51, [0], [], 0), (90, [1], [], -2147483648), (91, [1], [], 2147483647)], (3000, [11], [1], 48))
theorem c_153w_s_3 : vOkm T0 (eN e_153 L_153w A_153 mu_153 n_153 B_153 none) 2 g_153w_s_3 := vOk_inI fun ρ η f0 f1 f2 f3 f4 f5 f6 f7 f8 f9 f10 f11 f12 f13 f14 f15 f16 f17 f18 f19 f20 f21 f22 f23 f24 f25 f26 f27 f28 f29 f30 f31 f32 f33 => q_153w_3 (n0 := ρ 1) (n1 := ρ 0) (n2 := ρ 2) (n3 := ρ 3) (n4 := ρ 4) (n5 := ρ 5) (n6 := ρ 6) (n7 := ρ 7) (n8 := ρ 8) (n9 := ρ 9) (n10 := ρ 10) (n11 := ρ 11) (H0 := η 0) (H1 := η 1) f33 f32 f31 f30 f29 f28 f27 f26 f25 f24 f23 f22 f21 f20 f19 f18 f17 f16 f15 f14 f13 f12 f11 f10 f9 f8 f7 f6 f5 f4 f3 f2 f1 f0
theorem q_153w_4 {n0 n1 n2 n3 n4 n5 n6 n7 : Int} {H0 : gH} (f0 : n0 ≤ 2147483647) (f1 : (-2147483648) ≤ n0) (f2 : 0 ≤ n1) (f3 : hWt T0 H0 ∧ True) (f4 : hK H0 (n1).toNat = 10) (f5 : n2 = hV H0 (n1).toNat 0) (f6 : 0 ≤ n2) (f7 : hK H0 (n1).toNat = 10) (f8 : n3 = hV H0 (n1).toNat 0) (f9 : n4 ≤ 2147483647) (f10 : (-2147483648) ≤ n4) (f11 : hK H0 (n3).toNat = 7) (f12 : n4 = hV H0 (n3).toNat 0) (f13 : n5 = 5) (f14 : n4 ≠ n5) (f15 : 0 ≤ n0) (f16 : n6 ≤ 2147483647) (f17 : (-2147483648) ≤ n6) (f18 : hK H0 (n1).toNat = 10) (f19 : n6 = hV H0 (n1).toNat 2) (f20 : n6 ≤ n0) (f21 : n7 = 0) : nb_153 n7 n1 n0 H0 H0 := by
  unfold nb_153
  intro E s z p0 p1 r3 v0 v1 v2
  obtain ⟨i1, i2, i3, i4, i5, i6⟩ := CH_rg z.2.1 p0 p1
  have i7 := i6 r3
  have y := SNo_at z (s := (RT E s).toNat) (by omega) rfl
  have yp := y.1
  obtain ⟨x1, x2, x3, x4, x5⟩ := y.2.2.2.2.2.2 r3
  have g5 := f5.trans v0
  have g8 := f8.trans v0
  have kx : n4 = E.2.1 (RT E s).toNat := by
    have w := f12
    rw [g8] at w
    exact w.trans y.2.2.1
  unfold smE
  rw [if_neg (by omega)]
  omega
def g_153w_s_4 : vG := ([(0, [7], [], 0), (43, [1, 6], [], 0), (20, [6, 0], [0], 2), (23, [0], [0], 10), (90, [6], [], -2147483648), (91, [6], [], 2147483647), (33, [1], [], 0), (41, [4, 5], [], 0), (0, [5], [], 5), (20, [4, 3], [0], 0), (23, [3], [0], 7), (90, [4], [], -2147483648), (91, [4], [], 2147483647), (20, [3, 0], [0], 0), (23, [0], [0], 10), (51, [2], [], 0), (20, [2, 0], [0], 0), (23, [0], [0], 10), (6000, [0, 1], [0], 0), (51, [0], [], 0), (90, [1], [], -2147483648), (91, [1], [], 2147483647)], (3000, [7], [0], 31))
theorem c_153w_s_4 : vOkm T0 (eN e_153 L_153w A_153 mu_153 n_153 B_153 none) 2 g_153w_s_4 := vOk_inI fun ρ η f0 f1 f2 f3 f4 f5 f6 f7 f8 f9 f10 f11 f12 f13 f14 f15 f16 f17 f18 f19 f20 f21 => q_153w_4 (n0 := ρ 1) (n1 := ρ 0) (n2 := ρ 2) (n3 := ρ 3) (n4 := ρ 4) (n5 := ρ 5) (n6 := ρ 6) (n7 := ρ 7) (H0 := η 0) f21 f20 f19 f18 f17 f16 f15 f14 f13 f12 f11 f10 f9 f8 f7 f6 f5 f4 f3 f2 f1 f0
def p_153w_s : List vG := [g_153w_s_0,
  g_153w_s_1,
  g_153w_s_2,
  g_153w_s_3,
  g_153w_s_4]
theorem r_153w_s : vCovBO (eR0 e_153 L_153 cs_153 2000) p_153w_s = true := by decide +kernel
theorem m_153w (d : Nat) : eC e_153w (d + 2) := eC_ref (e := e_153) (L := L_153) (L' := L_153w) (cs := cs_153) (n := 2000) (d := d + 1) (A := A_153) (μ := mu_153) (tp := true) (p0 := p_153_s) (p1 := p_153w_s) (N := n_153) (B := B_153) rfl ⟨m_199vk780 d, trivial⟩ rfl (.inr pre0_ok) (by decide +kernel) (fun _ => post0_ok) r_153_s (allC c_153_s_0 (allC c_153_s_1 allN)) allN ⟨⟨rfl, rfl, rfl, fun _ _ _ _ => trivial⟩, trivial⟩ r_153w_s (allC c_153w_s_0 (allC c_153w_s_1 (allC c_153w_s_2 (allC c_153w_s_3 (allC c_153w_s_4 allN))))) allN
