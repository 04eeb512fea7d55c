/- MixStage.at ([II)I -/
noncomputable def s_199vk692 : vM := ([(2, 692, -1, 0), (0, -2147483648, 2147483647, 0)], (0, -2147483648, 2147483647, 0), 0, 0, [])
def postb_199vk692 (r a0 a1 : Int) (h0 h : gH) : Prop := r = atQ h0 a0 a1
def post_199vk692 : List Int → gH → gH → Prop := fun xs h0 h => match xs with
  | [r, a0, a1] => postb_199vk692 r a0 a1 h0 h
  | _ => True
noncomputable def e_199vk692 : vE := (199, s_199vk692, pre0, post_199vk692)
noncomputable def L_199vk692 : List vE := []
def cs_199vk692 : List vC := []
def A_199vk692 : Int → List Int → gH → gH → Prop := fun c xs h0 h => True
def mu_199vk692 : Int → List Int → gH → gH → Nat := fun c xs h0 h => 0
theorem q_199vk692_0 {n0 n1 n2 : Int} {H0 : gH} (f0 : n0 ≤ 2147483647) (f1 : (-2147483648) ≤ n0) (f2 : hWt T0 H0 ∧ True) (f3 : n1 = -1) (f4 : n2 = 0) : postb_199vk692 n2 n1 n0 H0 H0 := by
  unfold postb_199vk692

  unfold atQ
  first
  | (rw [if_neg (by omega)] <;> omega)
  | (rw [if_pos (by omega)] <;> omega)
theorem c_199vk692_s_0 : vOkm T0 (eP e_199vk692 L_199vk692 A_199vk692 mu_199vk692 none) 2 ([(0, [2], [], 0), (50, [0], [], 0), (6000, [0, 1], [0], 0), (90, [1], [], -2147483648), (91, [1], [], 2147483647)], (3000, [2], [0], 21)) := vOk_in fun ρ η h => by
  obtain ⟨f0, f1, f2, f3, f4, _⟩ := h
  exact q_199vk692_0 (n0 := ρ 1) (n1 := ρ 0) (n2 := ρ 2) (H0 := η 0) f4 f3 f2 f1 f0
theorem q_199vk692_1 {n0 n1 n2 : Int} {H0 : gH} (f0 : n0 ≤ 2147483647) (f1 : (-2147483648) ≤ n0) (f2 : hWt T0 H0 ∧ True) (f3 : 0 ≤ n1) (f4 : n0 < 0) (f5 : n2 = 0) : postb_199vk692 n2 n1 n0 H0 H0 := by
  unfold postb_199vk692

  unfold atQ
  first
  | (rw [if_neg (by omega)] <;> omega)
  | (rw [if_pos (by omega)] <;> omega)
theorem c_199vk692_s_1 : vOkm T0 (eP e_199vk692 L_199vk692 A_199vk692 mu_199vk692 none) 2 ([(0, [2], [], 0), (32, [1], [], 0), (51, [0], [], 0), (6000, [0, 1], [0], 0), (90, [1], [], -2147483648), (91, [1], [], 2147483647)], (3000, [2], [0], 21)) := vOk_in fun ρ η h => by
  obtain ⟨f0, f1, f2, f3, f4, f5, _⟩ := h
  exact q_199vk692_1 (n0 := ρ 1) (n1 := ρ 0) (n2 := ρ 2) (H0 := η 0) f5 f4 f3 f2 f1 f0
theorem q_199vk692_2 {n0 n1 n2 n3 : Int} {H0 : gH} (f0 : n0 ≤ 2147483647) (f1 : (-2147483648) ≤ n0) (f2 : hWt T0 H0 ∧ True) (f3 : 0 ≤ n1) (f4 : 0 ≤ n0) (f5 : n2 = (hN H0 (n1).toNat : Int)) (f6 : n0 < n2) (f7 : n3 ≤ 2147483647) (f8 : (-2147483648) ≤ n3) (f9 : n3 = hV H0 (n1).toNat (n0).toNat) : postb_199vk692 n3 n1 n0 H0 H0 := by
  unfold postb_199vk692

  unfold atQ
  first
  | (rw [if_neg (by omega)] <;> omega)
  | (rw [if_pos (by omega)] <;> omega)
theorem c_199vk692_s_2 : vOkm T0 (eP e_199vk692 L_199vk692 A_199vk692 mu_199vk692 none) 2 ([(22, [3, 0, 1], [0], 0), (90, [3], [], -2147483648), (91, [3], [], 2147483647), (42, [1, 2], [], 0), (21, [2, 0], [0], 0), (33, [1], [], 0), (51, [0], [], 0), (6000, [0, 1], [0], 0), (90, [1], [], -2147483648), (91, [1], [], 2147483647)], (3000, [3], [0], 21)) := vOk_in fun ρ η h => by
  obtain ⟨f0, f1, f2, f3, f4, f5, f6, f7, f8, f9, _⟩ := h
  exact q_199vk692_2 (n0 := ρ 1) (n1 := ρ 0) (n2 := ρ 2) (n3 := ρ 3) (H0 := η 0) f9 f8 f7 f6 f5 f4 f3 f2 f1 f0
theorem q_199vk692_3 {n0 n1 n2 n3 : Int} {H0 : gH} (f0 : n0 ≤ 2147483647) (f1 : (-2147483648) ≤ n0) (f2 : hWt T0 H0 ∧ True) (f3 : 0 ≤ n1) (f4 : 0 ≤ n0) (f5 : n2 = (hN H0 (n1).toNat : Int)) (f6 : n2 ≤ n0) (f7 : n3 = 0) : postb_199vk692 n3 n1 n0 H0 H0 := by
  unfold postb_199vk692

  unfold atQ
  first
  | (rw [if_neg (by omega)] <;> omega)
  | (rw [if_pos (by omega)] <;> omega)
theorem c_199vk692_s_3 : vOkm T0 (eP e_199vk692 L_199vk692 A_199vk692 mu_199vk692 none) 2 ([(0, [3], [], 0), (43, [1, 2], [], 0), (21, [2, 0], [0], 0), (33, [1], [], 0), (51, [0], [], 0), (6000, [0, 1], [0], 0), (90, [1], [], -2147483648), (91, [1], [], 2147483647)], (3000, [3], [0], 21)) := vOk_in fun ρ η h => by
  obtain ⟨f0, f1, f2, f3, f4, f5, f6, f7, _⟩ := h
  exact q_199vk692_3 (n0 := ρ 1) (n1 := ρ 0) (n2 := ρ 2) (n3 := ρ 3) (H0 := η 0) f7 f6 f5 f4 f3 f2 f1 f0
def p_199vk692_s : List vG := [([(0, [2], [], 0), (50, [0], [], 0), (6000, [0, 1], [0], 0), (90, [1], [], -2147483648), (91, [1], [], 2147483647)], (3000, [2], [0], 21)),
  ([(0, [2], [], 0), (32, [1], [], 0), (51, [0], [], 0), (6000, [0, 1], [0], 0), (90, [1], [], -2147483648), (91, [1], [], 2147483647)], (3000, [2], [0], 21)),
  ([(22, [3, 0, 1], [0], 0), (90, [3], [], -2147483648), (91, [3], [], 2147483647), (42, [1, 2], [], 0), (21, [2, 0], [0], 0), (33, [1], [], 0), (51, [0], [], 0), (6000, [0, 1], [0], 0), (90, [1], [], -2147483648), (91, [1], [], 2147483647)], (3000, [3], [0], 21)),
  ([(0, [3], [], 0), (43, [1, 2], [], 0), (21, [2, 0], [0], 0), (33, [1], [], 0), (51, [0], [], 0), (6000, [0, 1], [0], 0), (90, [1], [], -2147483648), (91, [1], [], 2147483647)], (3000, [3], [0], 21))]
theorem r_199vk692_s : vCovO false (eR0 e_199vk692 L_199vk692 cs_199vk692 2000) p_199vk692_s = true := by decide +kernel
theorem m_199vk692 (d : Nat) : eC e_199vk692 (d + 1) := eC_ok (e := e_199vk692) (L := L_199vk692) (cs := cs_199vk692) (n := 2000) (d := d + 0) (A := A_199vk692) (μ := mu_199vk692) (tp := false) (p0 := p_199vk692_s) rfl trivial rfl (.inr pre0_ok) (by decide +kernel) (fun z => nomatch z) r_199vk692_s (allC c_199vk692_s_0 (allC c_199vk692_s_1 (allC c_199vk692_s_2 (allC c_199vk692_s_3 allN)))) allN
/- MixStage.put ([III)V -/
noncomputable def s_201vk716 : vM := ([(2, 716, -1, 0), (0, -2147483648, 2147483647, 0), (0, -2147483648, 2147483647, 0)], (9, 0, 0, 0), 0, 0, [(716, 0)])
def postb_201vk716 (a0 a1 a2 : Int) (h0 h : gH) : Prop := putQ a0 a1 a2 h0 h
def post_201vk716 : List Int → gH → gH → Prop := fun xs h0 h => match xs with
  | [a0, a1, a2] => postb_201vk716 a0 a1 a2 h0 h
  | _ => True
noncomputable def e_201vk716 : vE := (201, s_201vk716, pre0, post_201vk716)
noncomputable def L_201vk716 : List vE := []
def cs_201vk716 : List vC := []
def A_201vk716 : Int → List Int → gH → gH → Prop := fun c xs h0 h => True
def mu_201vk716 : Int → List Int → gH → gH → Nat := fun c xs h0 h => 0
theorem q_201vk716_0 {n0 n1 n2 : Int} {H0 : gH} (f0 : n0 ≤ 2147483647) (f1 : (-2147483648) ≤ n0) (f2 : n1 ≤ 2147483647) (f3 : (-2147483648) ≤ n1) (f4 : hWt T0 H0 ∧ True) (f5 : n2 = -1) : postb_201vk716 n2 n1 n0 H0 H0 := by
  unfold postb_201vk716

  exact putQ_same (by omega)
theorem c_201vk716_s_0 : vOkm T0 (eP e_201vk716 L_201vk716 A_201vk716 mu_201vk716 none) 3 ([(50, [0], [], 0), (6000, [0, 1, 2], [0], 0), (90, [1], [], -2147483648), (91, [1], [], 2147483647), (90, [2], [], -2147483648), (91, [2], [], 2147483647)], (3000, [], [0], 18)) := vOk_in fun ρ η h => by
  obtain ⟨f0, f1, f2, f3, f4, f5, _⟩ := h
  exact q_201vk716_0 (n0 := ρ 2) (n1 := ρ 1) (n2 := ρ 0) (H0 := η 0) f5 f4 f3 f2 f1 f0
theorem q_201vk716_1 {n0 n1 n2 : Int} {H0 : gH} (f0 : n0 ≤ 2147483647) (f1 : (-2147483648) ≤ n0) (f2 : n1 ≤ 2147483647) (f3 : (-2147483648) ≤ n1) (f4 : hWt T0 H0 ∧ True) (f5 : 0 ≤ n2) (f6 : n1 < 0) : postb_201vk716 n2 n1 n0 H0 H0 := by
  unfold postb_201vk716

  exact putQ_same (by omega)
theorem c_201vk716_s_1 : vOkm T0 (eP e_201vk716 L_201vk716 A_201vk716 mu_201vk716 none) 3 ([(32, [1], [], 0), (51, [0], [], 0), (6000, [0, 1, 2], [0], 0), (90, [1], [], -2147483648), (91, [1], [], 2147483647), (90, [2], [], -2147483648), (91, [2], [], 2147483647)], (3000, [], [0], 18)) := vOk_in fun ρ η h => by
  obtain ⟨f0, f1, f2, f3, f4, f5, f6, _⟩ := h
  exact q_201vk716_1 (n0 := ρ 2) (n1 := ρ 1) (n2 := ρ 0) (H0 := η 0) f6 f5 f4 f3 f2 f1 f0
theorem q_201vk716_2 {n0 n1 n2 n3 : Int} {H0 : gH} (f0 : n0 ≤ 2147483647) (f1 : (-2147483648) ≤ n0) (f2 : n1 ≤ 2147483647) (f3 : (-2147483648) ≤ n1) (f4 : hWt T0 H0 ∧ True) (f5 : 0 ≤ n2) (f6 : 0 ≤ n1) (f7 : n3 = (hN H0 (n2).toNat : Int)) (f8 : n3 ≤ n1) : postb_201vk716 n2 n1 n0 H0 H0 := by
  unfold postb_201vk716

  exact putQ_same (by omega)
theorem c_201vk716_s_2 : vOkm T0 (eP e_201vk716 L_201vk716 A_201vk716 mu_201vk716 none) 3 ([(43, [1, 3], [], 0), (21, [3, 0], [0], 0), (33, [1], [], 0), (51, [0], [], 0), (6000, [0, 1, 2], [0], 0), (90, [1], [], -2147483648), (91, [1], [], 2147483647), (90, [2], [], -2147483648), (91, [2], [], 2147483647)], (3000, [], [0], 18)) := vOk_in fun ρ η h => by
  obtain ⟨f0, f1, f2, f3, f4, f5, f6, f7, f8, _⟩ := h
  exact q_201vk716_2 (n0 := ρ 2) (n1 := ρ 1) (n2 := ρ 0) (n3 := ρ 3) (H0 := η 0) f8 f7 f6 f5 f4 f3 f2 f1 f0
theorem q_201vk716_3 {n0 n1 n2 n3 : Int} {H0 H1 : gH} (f0 : n0 ≤ 2147483647) (f1 : (-2147483648) ≤ n0) (f2 : n1 ≤ 2147483647) (f3 : (-2147483648) ≤ n1) (f4 : hWt T0 H0 ∧ True) (f5 : 0 ≤ n2) (f6 : 0 ≤ n1) (f7 : n3 = (hN H0 (n2).toNat : Int)) (f8 : n1 < n3) (f9 : hK H0 (n2).toNat = 716) (f10 : hUpd H1 H0 n2 n1 n0) : postb_201vk716 n2 n1 n0 H0 H1 := by
  unfold postb_201vk716

  exact putQ_upd f10 (by omega)
theorem c_201vk716_s_3 : vOkm T0 (eP e_201vk716 L_201vk716 A_201vk716 mu_201vk716 none) 3 ([(80, [0, 1, 2], [1, 0], 0), (23, [0], [0], 716), (42, [1, 3], [], 0), (21, [3, 0], [0], 0), (33, [1], [], 0), (51, [0], [], 0), (6000, [0, 1, 2], [0], 0), (90, [1], [], -2147483648), (91, [1], [], 2147483647), (90, [2], [], -2147483648), (91, [2], [], 2147483647)], (3000, [], [1], 18)) := vOk_in fun ρ η h => by
  obtain ⟨f0, f1, f2, f3, f4, f5, f6, f7, f8, f9, f10, _⟩ := h
  exact q_201vk716_3 (n0 := ρ 2) (n1 := ρ 1) (n2 := ρ 0) (n3 := ρ 3) (H0 := η 0) (H1 := η 1) f10 f9 f8 f7 f6 f5 f4 f3 f2 f1 f0
def p_201vk716_s : List vG := [([(50, [0], [], 0), (6000, [0, 1, 2], [0], 0), (90, [1], [], -2147483648), (91, [1], [], 2147483647), (90, [2], [], -2147483648), (91, [2], [], 2147483647)], (3000, [], [0], 18)),
  ([(32, [1], [], 0), (51, [0], [], 0), (6000, [0, 1, 2], [0], 0), (90, [1], [], -2147483648), (91, [1], [], 2147483647), (90, [2], [], -2147483648), (91, [2], [], 2147483647)], (3000, [], [0], 18)),
  ([(43, [1, 3], [], 0), (21, [3, 0], [0], 0), (33, [1], [], 0), (51, [0], [], 0), (6000, [0, 1, 2], [0], 0), (90, [1], [], -2147483648), (91, [1], [], 2147483647), (90, [2], [], -2147483648), (91, [2], [], 2147483647)], (3000, [], [0], 18)),
  ([(80, [0, 1, 2], [1, 0], 0), (23, [0], [0], 716), (42, [1, 3], [], 0), (21, [3, 0], [0], 0), (33, [1], [], 0), (51, [0], [], 0), (6000, [0, 1, 2], [0], 0), (90, [1], [], -2147483648), (91, [1], [], 2147483647), (90, [2], [], -2147483648), (91, [2], [], 2147483647)], (3000, [], [1], 18))]
theorem r_201vk716_s : vCovO false (eR0 e_201vk716 L_201vk716 cs_201vk716 2000) p_201vk716_s = true := by decide +kernel
theorem m_201vk716 (d : Nat) : eC e_201vk716 (d + 1) := eC_ok (e := e_201vk716) (L := L_201vk716) (cs := cs_201vk716) (n := 2000) (d := d + 0) (A := A_201vk716) (μ := mu_201vk716) (tp := false) (p0 := p_201vk716_s) rfl trivial rfl (.inr pre0_ok) (by decide +kernel) (fun z => nomatch z) r_201vk716_s (allC c_201vk716_s_0 (allC c_201vk716_s_1 (allC c_201vk716_s_2 (allC c_201vk716_s_3 allN)))) allN
/- MixStage.put ([JIJ)V -/
noncomputable def s_202vk725 : vM := ([(2, 725, -1, 0), (0, -2147483648, 2147483647, 0), (1, 0, 0, 0)], (9, 0, 0, 0), 0, 0, [(725, 0)])
def postb_202vk725 (a0 a1 a2 : Int) (h0 h : gH) : Prop := putQ a0 a1 a2 h0 h
def post_202vk725 : List Int → gH → gH → Prop := fun xs h0 h => match xs with
  | [a0, a1, a2] => postb_202vk725 a0 a1 a2 h0 h
  | _ => True
noncomputable def e_202vk725 : vE := (202, s_202vk725, pre0, post_202vk725)
noncomputable def L_202vk725 : List vE := []
def cs_202vk725 : List vC := []
def A_202vk725 : Int → List Int → gH → gH → Prop := fun c xs h0 h => True
def mu_202vk725 : Int → List Int → gH → gH → Nat := fun c xs h0 h => 0
theorem q_202vk725_0 {n0 n1 n2 : Int} {H0 : gH} (f0 : n0 ≤ 2147483647) (f1 : (-2147483648) ≤ n0) (f2 : hWt T0 H0 ∧ True) (f3 : n1 = -1) : postb_202vk725 n1 n0 n2 H0 H0 := by
  unfold postb_202vk725

  exact putQ_same (by omega)
theorem c_202vk725_s_0 : vOkm T0 (eP e_202vk725 L_202vk725 A_202vk725 mu_202vk725 none) 3 ([(50, [0], [], 0), (6000, [0, 1, 2], [0], 0), (90, [1], [], -2147483648), (91, [1], [], 2147483647)], (3000, [], [0], 18)) := vOk_in fun ρ η h => by
  obtain ⟨f0, f1, f2, f3, _⟩ := h
  exact q_202vk725_0 (n0 := ρ 1) (n1 := ρ 0) (n2 := ρ 2) (H0 := η 0) f3 f2 f1 f0
theorem q_202vk725_1 {n0 n1 n2 : Int} {H0 : gH} (f0 : n0 ≤ 2147483647) (f1 : (-2147483648) ≤ n0) (f2 : hWt T0 H0 ∧ True) (f3 : 0 ≤ n1) (f4 : n0 < 0) : postb_202vk725 n1 n0 n2 H0 H0 := by
  unfold postb_202vk725

  exact putQ_same (by omega)
theorem c_202vk725_s_1 : vOkm T0 (eP e_202vk725 L_202vk725 A_202vk725 mu_202vk725 none) 3 ([(32, [1], [], 0), (51, [0], [], 0), (6000, [0, 1, 2], [0], 0), (90, [1], [], -2147483648), (91, [1], [], 2147483647)], (3000, [], [0], 18)) := vOk_in fun ρ η h => by
  obtain ⟨f0, f1, f2, f3, f4, _⟩ := h
  exact q_202vk725_1 (n0 := ρ 1) (n1 := ρ 0) (n2 := ρ 2) (H0 := η 0) f4 f3 f2 f1 f0
theorem q_202vk725_2 {n0 n1 n2 n3 : Int} {H0 : gH} (f0 : n0 ≤ 2147483647) (f1 : (-2147483648) ≤ n0) (f2 : hWt T0 H0 ∧ True) (f3 : 0 ≤ n1) (f4 : 0 ≤ n0) (f5 : n3 = (hN H0 (n1).toNat : Int)) (f6 : n3 ≤ n0) : postb_202vk725 n1 n0 n2 H0 H0 := by
  unfold postb_202vk725

  exact putQ_same (by omega)
theorem c_202vk725_s_2 : vOkm T0 (eP e_202vk725 L_202vk725 A_202vk725 mu_202vk725 none) 3 ([(43, [1, 3], [], 0), (21, [3, 0], [0], 0), (33, [1], [], 0), (51, [0], [], 0), (6000, [0, 1, 2], [0], 0), (90, [1], [], -2147483648), (91, [1], [], 2147483647)], (3000, [], [0], 18)) := vOk_in fun ρ η h => by
  obtain ⟨f0, f1, f2, f3, f4, f5, f6, _⟩ := h
  exact q_202vk725_2 (n0 := ρ 1) (n1 := ρ 0) (n2 := ρ 2) (n3 := ρ 3) (H0 := η 0) f6 f5 f4 f3 f2 f1 f0
theorem q_202vk725_3 {n0 n1 n2 n3 : Int} {H0 H1 : gH} (f0 : n0 ≤ 2147483647) (f1 : (-2147483648) ≤ n0) (f2 : hWt T0 H0 ∧ True) (f3 : 0 ≤ n1) (f4 : 0 ≤ n0) (f5 : n3 = (hN H0 (n1).toNat : Int)) (f6 : n0 < n3) (f7 : hK H0 (n1).toNat = 725) (f8 : hUpd H1 H0 n1 n0 n2) : postb_202vk725 n1 n0 n2 H0 H1 := by
  unfold postb_202vk725

  exact putQ_upd f8 (by omega)
theorem c_202vk725_s_3 : vOkm T0 (eP e_202vk725 L_202vk725 A_202vk725 mu_202vk725 none) 3 ([(80, [0, 1, 2], [1, 0], 1), (23, [0], [0], 725), (42, [1, 3], [], 0), (21, [3, 0], [0], 0), (33, [1], [], 0), (51, [0], [], 0), (6000, [0, 1, 2], [0], 0), (90, [1], [], -2147483648), (91, [1], [], 2147483647)], (3000, [], [1], 18)) := vOk_in fun ρ η h => by
  obtain ⟨f0, f1, f2, f3, f4, f5, f6, f7, f8, _⟩ := h
  exact q_202vk725_3 (n0 := ρ 1) (n1 := ρ 0) (n2 := ρ 2) (n3 := ρ 3) (H0 := η 0) (H1 := η 1) f8 f7 f6 f5 f4 f3 f2 f1 f0
def p_202vk725_s : List vG := [([(50, [0], [], 0), (6000, [0, 1, 2], [0], 0), (90, [1], [], -2147483648), (91, [1], [], 2147483647)], (3000, [], [0], 18)),
  ([(32, [1], [], 0), (51, [0], [], 0), (6000, [0, 1, 2], [0], 0), (90, [1], [], -2147483648), (91, [1], [], 2147483647)], (3000, [], [0], 18)),
  ([(43, [1, 3], [], 0), (21, [3, 0], [0], 0), (33, [1], [], 0), (51, [0], [], 0), (6000, [0, 1, 2], [0], 0), (90, [1], [], -2147483648), (91, [1], [], 2147483647)], (3000, [], [0], 18)),
  ([(80, [0, 1, 2], [1, 0], 1), (23, [0], [0], 725), (42, [1, 3], [], 0), (21, [3, 0], [0], 0), (33, [1], [], 0), (51, [0], [], 0), (6000, [0, 1, 2], [0], 0), (90, [1], [], -2147483648), (91, [1], [], 2147483647)], (3000, [], [1], 18))]
theorem r_202vk725_s : vCovO false (eR0 e_202vk725 L_202vk725 cs_202vk725 2000) p_202vk725_s = true := by decide +kernel
theorem m_202vk725 (d : Nat) : eC e_202vk725 (d + 1) := eC_ok (e := e_202vk725) (L := L_202vk725) (cs := cs_202vk725) (n := 2000) (d := d + 0) (A := A_202vk725) (μ := mu_202vk725) (tp := false) (p0 := p_202vk725_s) rfl trivial rfl (.inr pre0_ok) (by decide +kernel) (fun z => nomatch z) r_202vk725_s (allC c_202vk725_s_0 (allC c_202vk725_s_1 (allC c_202vk725_s_2 (allC c_202vk725_s_3 allN)))) allN
/- MixStage.at ([JI)J -/
noncomputable def s_200vk725 : vM := ([(2, 725, -1, 0), (0, -2147483648, 2147483647, 0)], (1, 0, 0, 0), 0, 0, [])
def postb_200vk725 (r a0 a1 : Int) (h0 h : gH) : Prop := r = atQ h0 a0 a1
def post_200vk725 : List Int → gH → gH → Prop := fun xs h0 h => match xs with
  | [r, a0, a1] => postb_200vk725 r a0 a1 h0 h
  | _ => True
noncomputable def e_200vk725 : vE := (200, s_200vk725, pre0, post_200vk725)
noncomputable def L_200vk725 : List vE := []
def cs_200vk725 : List vC := []
def A_200vk725 : Int → List Int → gH → gH → Prop := fun c xs h0 h => True
def mu_200vk725 : Int → List Int → gH → gH → Nat := fun c xs h0 h => 0
theorem q_200vk725_0 {n0 n1 n2 : Int} {H0 : gH} (f0 : n0 ≤ 2147483647) (f1 : (-2147483648) ≤ n0) (f2 : hWt T0 H0 ∧ True) (f3 : n1 = -1) (f4 : n2 = 0) : postb_200vk725 n2 n1 n0 H0 H0 := by
  unfold postb_200vk725

  unfold atQ
  first
  | (rw [if_neg (by omega)] <;> omega)
  | (rw [if_pos (by omega)] <;> omega)
theorem c_200vk725_s_0 : vOkm T0 (eP e_200vk725 L_200vk725 A_200vk725 mu_200vk725 none) 2 ([(0, [2], [], 0), (50, [0], [], 0), (6000, [0, 1], [0], 0), (90, [1], [], -2147483648), (91, [1], [], 2147483647)], (3000, [2], [0], 21)) := vOk_in fun ρ η h => by
  obtain ⟨f0, f1, f2, f3, f4, _⟩ := h
  exact q_200vk725_0 (n0 := ρ 1) (n1 := ρ 0) (n2 := ρ 2) (H0 := η 0) f4 f3 f2 f1 f0
theorem q_200vk725_1 {n0 n1 n2 : Int} {H0 : gH} (f0 : n0 ≤ 2147483647) (f1 : (-2147483648) ≤ n0) (f2 : hWt T0 H0 ∧ True) (f3 : 0 ≤ n1) (f4 : n0 < 0) (f5 : n2 = 0) : postb_200vk725 n2 n1 n0 H0 H0 := by
  unfold postb_200vk725

  unfold atQ
  first
  | (rw [if_neg (by omega)] <;> omega)
  | (rw [if_pos (by omega)] <;> omega)
theorem c_200vk725_s_1 : vOkm T0 (eP e_200vk725 L_200vk725 A_200vk725 mu_200vk725 none) 2 ([(0, [2], [], 0), (32, [1], [], 0), (51, [0], [], 0), (6000, [0, 1], [0], 0), (90, [1], [], -2147483648), (91, [1], [], 2147483647)], (3000, [2], [0], 21)) := vOk_in fun ρ η h => by
  obtain ⟨f0, f1, f2, f3, f4, f5, _⟩ := h
  exact q_200vk725_1 (n0 := ρ 1) (n1 := ρ 0) (n2 := ρ 2) (H0 := η 0) f5 f4 f3 f2 f1 f0
theorem q_200vk725_2 {n0 n1 n2 n3 : Int} {H0 : gH} (f0 : n0 ≤ 2147483647) (f1 : (-2147483648) ≤ n0) (f2 : hWt T0 H0 ∧ True) (f3 : 0 ≤ n1) (f4 : 0 ≤ n0) (f5 : n2 = (hN H0 (n1).toNat : Int)) (f6 : n0 < n2) (f7 : n3 = hV H0 (n1).toNat (n0).toNat) : postb_200vk725 n3 n1 n0 H0 H0 := by
  unfold postb_200vk725

  unfold atQ
  first
  | (rw [if_neg (by omega)] <;> omega)
  | (rw [if_pos (by omega)] <;> omega)
theorem c_200vk725_s_2 : vOkm T0 (eP e_200vk725 L_200vk725 A_200vk725 mu_200vk725 none) 2 ([(22, [3, 0, 1], [0], 0), (42, [1, 2], [], 0), (21, [2, 0], [0], 0), (33, [1], [], 0), (51, [0], [], 0), (6000, [0, 1], [0], 0), (90, [1], [], -2147483648), (91, [1], [], 2147483647)], (3000, [3], [0], 21)) := vOk_in fun ρ η h => by
  obtain ⟨f0, f1, f2, f3, f4, f5, f6, f7, _⟩ := h
  exact q_200vk725_2 (n0 := ρ 1) (n1 := ρ 0) (n2 := ρ 2) (n3 := ρ 3) (H0 := η 0) f7 f6 f5 f4 f3 f2 f1 f0
theorem q_200vk725_3 {n0 n1 n2 n3 : Int} {H0 : gH} (f0 : n0 ≤ 2147483647) (f1 : (-2147483648) ≤ n0) (f2 : hWt T0 H0 ∧ True) (f3 : 0 ≤ n1) (f4 : 0 ≤ n0) (f5 : n2 = (hN H0 (n1).toNat : Int)) (f6 : n2 ≤ n0) (f7 : n3 = 0) : postb_200vk725 n3 n1 n0 H0 H0 := by
  unfold postb_200vk725

  unfold atQ
  first
  | (rw [if_neg (by omega)] <;> omega)
  | (rw [if_pos (by omega)] <;> omega)
theorem c_200vk725_s_3 : vOkm T0 (eP e_200vk725 L_200vk725 A_200vk725 mu_200vk725 none) 2 ([(0, [3], [], 0), (43, [1, 2], [], 0), (21, [2, 0], [0], 0), (33, [1], [], 0), (51, [0], [], 0), (6000, [0, 1], [0], 0), (90, [1], [], -2147483648), (91, [1], [], 2147483647)], (3000, [3], [0], 21)) := vOk_in fun ρ η h => by
  obtain ⟨f0, f1, f2, f3, f4, f5, f6, f7, _⟩ := h
  exact q_200vk725_3 (n0 := ρ 1) (n1 := ρ 0) (n2 := ρ 2) (n3 := ρ 3) (H0 := η 0) f7 f6 f5 f4 f3 f2 f1 f0
def p_200vk725_s : List vG := [([(0, [2], [], 0), (50, [0], [], 0), (6000, [0, 1], [0], 0), (90, [1], [], -2147483648), (91, [1], [], 2147483647)], (3000, [2], [0], 21)),
  ([(0, [2], [], 0), (32, [1], [], 0), (51, [0], [], 0), (6000, [0, 1], [0], 0), (90, [1], [], -2147483648), (91, [1], [], 2147483647)], (3000, [2], [0], 21)),
  ([(22, [3, 0, 1], [0], 0), (42, [1, 2], [], 0), (21, [2, 0], [0], 0), (33, [1], [], 0), (51, [0], [], 0), (6000, [0, 1], [0], 0), (90, [1], [], -2147483648), (91, [1], [], 2147483647)], (3000, [3], [0], 21)),
  ([(0, [3], [], 0), (43, [1, 2], [], 0), (21, [2, 0], [0], 0), (33, [1], [], 0), (51, [0], [], 0), (6000, [0, 1], [0], 0), (90, [1], [], -2147483648), (91, [1], [], 2147483647)], (3000, [3], [0], 21))]
theorem r_200vk725_s : vCovO false (eR0 e_200vk725 L_200vk725 cs_200vk725 2000) p_200vk725_s = true := by decide +kernel
theorem m_200vk725 (d : Nat) : eC e_200vk725 (d + 1) := eC_ok (e := e_200vk725) (L := L_200vk725) (cs := cs_200vk725) (n := 2000) (d := d + 0) (A := A_200vk725) (μ := mu_200vk725) (tp := false) (p0 := p_200vk725_s) rfl trivial rfl (.inr pre0_ok) (by decide +kernel) (fun z => nomatch z) r_200vk725_s (allC c_200vk725_s_0 (allC c_200vk725_s_1 (allC c_200vk725_s_2 (allC c_200vk725_s_3 allN)))) allN
/- Tokens.pairKind (I)I -/
noncomputable def s_131v : vM := ([(0, -2147483648, 2147483647, 0)], (0, -2147483648, 2147483647, 0), 0, 0, [])
def postb_131v (r a0 : Int) (h0 h : gH) : Prop := r = sg2 a0
def post_131v : List Int → gH → gH → Prop := fun xs h0 h => match xs with
  | [r, a0] => postb_131v r a0 h0 h
  | _ => True
noncomputable def e_131v : vE := (131, s_131v, pre0, post_131v)
noncomputable def L_131v : List vE := []
def cs_131v : List vC := []
def A_131v : Int → List Int → gH → gH → Prop := fun c xs h0 h => True
def mu_131v : Int → List Int → gH → gH → Nat := fun c xs h0 h => 0
theorem q_131v_0 {n0 n1 : Int} {H0 : gH} (f0 : n0 ≤ 2147483647) (f1 : (-2147483648) ≤ n0) (f2 : hWt T0 H0 ∧ True) (f3 : n0 = 33) (f4 : n1 = 13) : postb_131v n1 n0 H0 H0 := by
  unfold postb_131v

  unfold sg2
  first
  | (rw [if_pos (by omega)] <;> omega)
  | (rw [if_neg (by omega), if_pos (by omega)] <;> omega)
  | (rw [if_neg (by omega), if_neg (by omega), if_pos (by omega)] <;> omega)
  | (rw [if_neg (by omega), if_neg (by omega), if_neg (by omega)] <;> omega)
theorem c_131v_s_0 : vOkm T0 (eP e_131v L_131v A_131v mu_131v none) 1 ([(0, [1], [], 13), (0, [0], [], 33), (6000, [0], [0], 0), (90, [0], [], -2147483648), (91, [0], [], 2147483647)], (3000, [1], [0], 41)) := vOk_in fun ρ η h => by
  obtain ⟨f0, f1, f2, f3, f4, _⟩ := h
  exact q_131v_0 (n0 := ρ 0) (n1 := ρ 1) (H0 := η 0) f4 f3 f2 f1 f0
theorem q_131v_1 {n0 n1 : Int} {H0 : gH} (f0 : n0 ≤ 2147483647) (f1 : (-2147483648) ≤ n0) (f2 : hWt T0 H0 ∧ True) (f3 : n0 ≠ 33) (f4 : n0 = 60) (f5 : n1 = 15) : postb_131v n1 n0 H0 H0 := by
  unfold postb_131v

  unfold sg2
  first
  | (rw [if_pos (by omega)] <;> omega)
  | (rw [if_neg (by omega), if_pos (by omega)] <;> omega)
  | (rw [if_neg (by omega), if_neg (by omega), if_pos (by omega)] <;> omega)
  | (rw [if_neg (by omega), if_neg (by omega), if_neg (by omega)] <;> omega)
theorem c_131v_s_1 : vOkm T0 (eP e_131v L_131v A_131v mu_131v none) 1 ([(0, [1], [], 15), (0, [0], [], 60), (68, [0], [], 33), (6000, [0], [0], 0), (90, [0], [], -2147483648), (91, [0], [], 2147483647)], (3000, [1], [0], 44)) := vOk_in fun ρ η h => by
  obtain ⟨f0, f1, f2, f3, f4, f5, _⟩ := h
  exact q_131v_1 (n0 := ρ 0) (n1 := ρ 1) (H0 := η 0) f5 f4 f3 f2 f1 f0
theorem q_131v_2 {n0 n1 : Int} {H0 : gH} (f0 : n0 ≤ 2147483647) (f1 : (-2147483648) ≤ n0) (f2 : hWt T0 H0 ∧ True) (f3 : n0 ≠ 33) (f4 : n0 ≠ 60) (f5 : n0 = 61) (f6 : n1 = 12) : postb_131v n1 n0 H0 H0 := by
  unfold postb_131v

  unfold sg2
  first
  | (rw [if_pos (by omega)] <;> omega)
  | (rw [if_neg (by omega), if_pos (by omega)] <;> omega)
  | (rw [if_neg (by omega), if_neg (by omega), if_pos (by omega)] <;> omega)
  | (rw [if_neg (by omega), if_neg (by omega), if_neg (by omega)] <;> omega)
theorem c_131v_s_2 : vOkm T0 (eP e_131v L_131v A_131v mu_131v none) 1 ([(0, [1], [], 12), (0, [0], [], 61), (68, [0], [], 60), (68, [0], [], 33), (6000, [0], [0], 0), (90, [0], [], -2147483648), (91, [0], [], 2147483647)], (3000, [1], [0], 38)) := vOk_in fun ρ η h => by
  obtain ⟨f0, f1, f2, f3, f4, f5, f6, _⟩ := h
  exact q_131v_2 (n0 := ρ 0) (n1 := ρ 1) (H0 := η 0) f6 f5 f4 f3 f2 f1 f0
theorem q_131v_3 {n0 n1 : Int} {H0 : gH} (f0 : n0 ≤ 2147483647) (f1 : (-2147483648) ≤ n0) (f2 : hWt T0 H0 ∧ True) (f3 : n0 ≠ 33) (f4 : n0 ≠ 60) (f5 : n0 ≠ 61) (f6 : n1 = 1) : postb_131v n1 n0 H0 H0 := by
  unfold postb_131v

  unfold sg2
  first
  | (rw [if_pos (by omega)] <;> omega)
  | (rw [if_neg (by omega), if_pos (by omega)] <;> omega)
  | (rw [if_neg (by omega), if_neg (by omega), if_pos (by omega)] <;> omega)
  | (rw [if_neg (by omega), if_neg (by omega), if_neg (by omega)] <;> omega)
theorem c_131v_s_3 : vOkm T0 (eP e_131v L_131v A_131v mu_131v none) 1 ([(0, [1], [], 1), (68, [0], [], 61), (68, [0], [], 60), (68, [0], [], 33), (6000, [0], [0], 0), (90, [0], [], -2147483648), (91, [0], [], 2147483647)], (3000, [1], [0], 46)) := vOk_in fun ρ η h => by
  obtain ⟨f0, f1, f2, f3, f4, f5, f6, _⟩ := h
  exact q_131v_3 (n0 := ρ 0) (n1 := ρ 1) (H0 := η 0) f6 f5 f4 f3 f2 f1 f0
def p_131v_s : List vG := [([(0, [1], [], 13), (0, [0], [], 33), (6000, [0], [0], 0), (90, [0], [], -2147483648), (91, [0], [], 2147483647)], (3000, [1], [0], 41)),
  ([(0, [1], [], 15), (0, [0], [], 60), (68, [0], [], 33), (6000, [0], [0], 0), (90, [0], [], -2147483648), (91, [0], [], 2147483647)], (3000, [1], [0], 44)),
  ([(0, [1], [], 12), (0, [0], [], 61), (68, [0], [], 60), (68, [0], [], 33), (6000, [0], [0], 0), (90, [0], [], -2147483648), (91, [0], [], 2147483647)], (3000, [1], [0], 38)),
  ([(0, [1], [], 1), (68, [0], [], 61), (68, [0], [], 60), (68, [0], [], 33), (6000, [0], [0], 0), (90, [0], [], -2147483648), (91, [0], [], 2147483647)], (3000, [1], [0], 46))]
theorem r_131v_s : vCovO false (eR0 e_131v L_131v cs_131v 2000) p_131v_s = true := by decide +kernel
theorem m_131v (d : Nat) : eC e_131v (d + 1) := eC_ok (e := e_131v) (L := L_131v) (cs := cs_131v) (n := 2000) (d := d + 0) (A := A_131v) (μ := mu_131v) (tp := false) (p0 := p_131v_s) rfl trivial rfl (.inr pre0_ok) (by decide +kernel) (fun z => nomatch z) r_131v_s (allC c_131v_s_0 (allC c_131v_s_1 (allC c_131v_s_2 (allC c_131v_s_3 allN)))) allN
/- Tokens.signKind (I)I -/
noncomputable def s_132v : vM := ([(0, -2147483648, 2147483647, 0)], (0, -2147483648, 2147483647, 0), 0, 0, [])
def postb_132v (r a0 : Int) (h0 h : gH) : Prop := r = sg1 a0
def post_132v : List Int → gH → gH → Prop := fun xs h0 h => match xs with
  | [r, a0] => postb_132v r a0 h0 h
  | _ => True
noncomputable def e_132v : vE := (132, s_132v, pre0, post_132v)
noncomputable def L_132v : List vE := []
def cs_132v : List vC := []
def A_132v : Int → List Int → gH → gH → Prop := fun c xs h0 h => True
def mu_132v : Int → List Int → gH → gH → Nat := fun c xs h0 h => 0
theorem q_132v_0 {n0 n1 : Int} {H0 : gH} (f0 : n0 ≤ 2147483647) (f1 : (-2147483648) ≤ n0) (f2 : hWt T0 H0 ∧ True) (f3 : n0 < 40) (f4 : n1 = 1) : postb_132v n1 n0 H0 H0 := by
  unfold postb_132v

  unfold sg1
  repeat (first | (rw [if_pos (by omega)]; done) | (rw [if_pos (by omega)]; omega) | rw [if_neg (by omega)])
  all_goals omega
theorem c_132v_s_0 : vOkm T0 (eP e_132v L_132v A_132v mu_132v none) 1 ([(0, [1], [], 1), (66, [0], [], 40), (6000, [0], [0], 0), (90, [0], [], -2147483648), (91, [0], [], 2147483647)], (3000, [1], [0], 126)) := vOk_in fun ρ η h => by
  obtain ⟨f0, f1, f2, f3, f4, _⟩ := h
  exact q_132v_0 (n0 := ρ 0) (n1 := ρ 1) (H0 := η 0) f4 f3 f2 f1 f0
theorem q_132v_1 {n0 n1 : Int} {H0 : gH} (f0 : n0 ≤ 2147483647) (f1 : (-2147483648) ≤ n0) (f2 : hWt T0 H0 ∧ True) (f3 : 60 < n0) (f4 : n1 = 1) : postb_132v n1 n0 H0 H0 := by
  unfold postb_132v

  unfold sg1
  repeat (first | (rw [if_pos (by omega)]; done) | (rw [if_pos (by omega)]; omega) | rw [if_neg (by omega)])
  all_goals omega
theorem c_132v_s_1 : vOkm T0 (eP e_132v L_132v A_132v mu_132v none) 1 ([(0, [1], [], 1), (67, [0], [], 60), (6000, [0], [0], 0), (90, [0], [], -2147483648), (91, [0], [], 2147483647)], (3000, [1], [0], 126)) := vOk_in fun ρ η h => by
  obtain ⟨f0, f1, f2, f3, f4, _⟩ := h
  exact q_132v_1 (n0 := ρ 0) (n1 := ρ 1) (H0 := η 0) f4 f3 f2 f1 f0
theorem q_132v_2 {n0 n1 : Int} {H0 : gH} (f0 : n0 ≤ 2147483647) (f1 : (-2147483648) ≤ n0) (f2 : hWt T0 H0 ∧ True) (f3 : n0 = 40) (f4 : n1 = 10) : postb_132v n1 n0 H0 H0 := by
  unfold postb_132v

  unfold sg1
  repeat (first | (rw [if_pos (by omega)]; done) | (rw [if_pos (by omega)]; omega) | rw [if_neg (by omega)])
  all_goals omega
theorem c_132v_s_2 : vOkm T0 (eP e_132v L_132v A_132v mu_132v none) 1 ([(0, [1], [], 10), (0, [0], [], 40), (6000, [0], [0], 0), (90, [0], [], -2147483648), (91, [0], [], 2147483647)], (3000, [1], [0], 118)) := vOk_in fun ρ η h => by
  obtain ⟨f0, f1, f2, f3, f4, _⟩ := h
  exact q_132v_2 (n0 := ρ 0) (n1 := ρ 1) (H0 := η 0) f4 f3 f2 f1 f0
theorem q_132v_3 {n0 n1 : Int} {H0 : gH} (f0 : n0 ≤ 2147483647) (f1 : (-2147483648) ≤ n0) (f2 : hWt T0 H0 ∧ True) (f3 : n0 = 41) (f4 : n1 = 11) : postb_132v n1 n0 H0 H0 := by
  unfold postb_132v

  unfold sg1
  repeat (first | (rw [if_pos (by omega)]; done) | (rw [if_pos (by omega)]; omega) | rw [if_neg (by omega)])
  all_goals omega
theorem c_132v_s_3 : vOkm T0 (eP e_132v L_132v A_132v mu_132v none) 1 ([(0, [1], [], 11), (0, [0], [], 41), (6000, [0], [0], 0), (90, [0], [], -2147483648), (91, [0], [], 2147483647)], (3000, [1], [0], 121)) := vOk_in fun ρ η h => by
  obtain ⟨f0, f1, f2, f3, f4, _⟩ := h
  exact q_132v_3 (n0 := ρ 0) (n1 := ρ 1) (H0 := η 0) f4 f3 f2 f1 f0
theorem q_132v_4 {n0 n1 : Int} {H0 : gH} (f0 : n0 ≤ 2147483647) (f1 : (-2147483648) ≤ n0) (f2 : hWt T0 H0 ∧ True) (f3 : n0 = 42) (f4 : n1 = 8) : postb_132v n1 n0 H0 H0 := by
  unfold postb_132v

  unfold sg1
  repeat (first | (rw [if_pos (by omega)]; done) | (rw [if_pos (by omega)]; omega) | rw [if_neg (by omega)])
  all_goals omega
theorem c_132v_s_4 : vOkm T0 (eP e_132v L_132v A_132v mu_132v none) 1 ([(0, [1], [], 8), (0, [0], [], 42), (6000, [0], [0], 0), (90, [0], [], -2147483648), (91, [0], [], 2147483647)], (3000, [1], [0], 112)) := vOk_in fun ρ η h => by
  obtain ⟨f0, f1, f2, f3, f4, _⟩ := h
  exact q_132v_4 (n0 := ρ 0) (n1 := ρ 1) (H0 := η 0) f4 f3 f2 f1 f0
theorem q_132v_5 {n0 n1 : Int} {H0 : gH} (f0 : n0 ≤ 2147483647) (f1 : (-2147483648) ≤ n0) (f2 : hWt T0 H0 ∧ True) (f3 : n0 = 43) (f4 : n1 = 6) : postb_132v n1 n0 H0 H0 := by
  unfold postb_132v

  unfold sg1
  repeat (first | (rw [if_pos (by omega)]; done) | (rw [if_pos (by omega)]; omega) | rw [if_neg (by omega)])
  all_goals omega
theorem c_132v_s_5 : vOkm T0 (eP e_132v L_132v A_132v mu_132v none) 1 ([(0, [1], [], 6), (0, [0], [], 43), (6000, [0], [0], 0), (90, [0], [], -2147483648), (91, [0], [], 2147483647)], (3000, [1], [0], 106)) := vOk_in fun ρ η h => by
  obtain ⟨f0, f1, f2, f3, f4, _⟩ := h
  exact q_132v_5 (n0 := ρ 0) (n1 := ρ 1) (H0 := η 0) f4 f3 f2 f1 f0
theorem q_132v_6 {n0 n1 : Int} {H0 : gH} (f0 : n0 ≤ 2147483647) (f1 : (-2147483648) ≤ n0) (f2 : hWt T0 H0 ∧ True) (f3 : n0 = 44) (f4 : n1 = 5) : postb_132v n1 n0 H0 H0 := by
  unfold postb_132v

  unfold sg1
  repeat (first | (rw [if_pos (by omega)]; done) | (rw [if_pos (by omega)]; omega) | rw [if_neg (by omega)])
  all_goals omega
theorem c_132v_s_6 : vOkm T0 (eP e_132v L_132v A_132v mu_132v none) 1 ([(0, [1], [], 5), (0, [0], [], 44), (6000, [0], [0], 0), (90, [0], [], -2147483648), (91, [0], [], 2147483647)], (3000, [1], [0], 103)) := vOk_in fun ρ η h => by
  obtain ⟨f0, f1, f2, f3, f4, _⟩ := h
  exact q_132v_6 (n0 := ρ 0) (n1 := ρ 1) (H0 := η 0) f4 f3 f2 f1 f0
theorem q_132v_7 {n0 n1 : Int} {H0 : gH} (f0 : n0 ≤ 2147483647) (f1 : (-2147483648) ≤ n0) (f2 : hWt T0 H0 ∧ True) (f3 : n0 = 45) (f4 : n1 = 7) : postb_132v n1 n0 H0 H0 := by
  unfold postb_132v

  unfold sg1
  repeat (first | (rw [if_pos (by omega)]; done) | (rw [if_pos (by omega)]; omega) | rw [if_neg (by omega)])
  all_goals omega
theorem c_132v_s_7 : vOkm T0 (eP e_132v L_132v A_132v mu_132v none) 1 ([(0, [1], [], 7), (0, [0], [], 45), (6000, [0], [0], 0), (90, [0], [], -2147483648), (91, [0], [], 2147483647)], (3000, [1], [0], 109)) := vOk_in fun ρ η h => by
  obtain ⟨f0, f1, f2, f3, f4, _⟩ := h
  exact q_132v_7 (n0 := ρ 0) (n1 := ρ 1) (H0 := η 0) f4 f3 f2 f1 f0
theorem q_132v_8 {n0 n1 : Int} {H0 : gH} (f0 : n0 ≤ 2147483647) (f1 : (-2147483648) ≤ n0) (f2 : hWt T0 H0 ∧ True) (f3 : n0 = 46) (f4 : n1 = 1) : postb_132v n1 n0 H0 H0 := by
  unfold postb_132v

  unfold sg1
  repeat (first | (rw [if_pos (by omega)]; done) | (rw [if_pos (by omega)]; omega) | rw [if_neg (by omega)])
  all_goals omega
theorem c_132v_s_8 : vOkm T0 (eP e_132v L_132v A_132v mu_132v none) 1 ([(0, [1], [], 1), (0, [0], [], 46), (6000, [0], [0], 0), (90, [0], [], -2147483648), (91, [0], [], 2147483647)], (3000, [1], [0], 126)) := vOk_in fun ρ η h => by
  obtain ⟨f0, f1, f2, f3, f4, _⟩ := h
  exact q_132v_8 (n0 := ρ 0) (n1 := ρ 1) (H0 := η 0) f4 f3 f2 f1 f0
theorem q_132v_9 {n0 n1 : Int} {H0 : gH} (f0 : n0 ≤ 2147483647) (f1 : (-2147483648) ≤ n0) (f2 : hWt T0 H0 ∧ True) (f3 : n0 = 47) (f4 : n1 = 9) : postb_132v n1 n0 H0 H0 := by
  unfold postb_132v

  unfold sg1
  repeat (first | (rw [if_pos (by omega)]; done) | (rw [if_pos (by omega)]; omega) | rw [if_neg (by omega)])
  all_goals omega
theorem c_132v_s_9 : vOkm T0 (eP e_132v L_132v A_132v mu_132v none) 1 ([(0, [1], [], 9), (0, [0], [], 47), (6000, [0], [0], 0), (90, [0], [], -2147483648), (91, [0], [], 2147483647)], (3000, [1], [0], 115)) := vOk_in fun ρ η h => by
  obtain ⟨f0, f1, f2, f3, f4, _⟩ := h
  exact q_132v_9 (n0 := ρ 0) (n1 := ρ 1) (H0 := η 0) f4 f3 f2 f1 f0
theorem q_132v_10 {n0 n1 : Int} {H0 : gH} (f0 : n0 ≤ 2147483647) (f1 : (-2147483648) ≤ n0) (f2 : hWt T0 H0 ∧ True) (f3 : n0 = 48) (f4 : n1 = 1) : postb_132v n1 n0 H0 H0 := by
  unfold postb_132v

  unfold sg1
  repeat (first | (rw [if_pos (by omega)]; done) | (rw [if_pos (by omega)]; omega) | rw [if_neg (by omega)])
  all_goals omega
theorem c_132v_s_10 : vOkm T0 (eP e_132v L_132v A_132v mu_132v none) 1 ([(0, [1], [], 1), (0, [0], [], 48), (6000, [0], [0], 0), (90, [0], [], -2147483648), (91, [0], [], 2147483647)], (3000, [1], [0], 126)) := vOk_in fun ρ η h => by
  obtain ⟨f0, f1, f2, f3, f4, _⟩ := h
  exact q_132v_10 (n0 := ρ 0) (n1 := ρ 1) (H0 := η 0) f4 f3 f2 f1 f0
theorem q_132v_11 {n0 n1 : Int} {H0 : gH} (f0 : n0 ≤ 2147483647) (f1 : (-2147483648) ≤ n0) (f2 : hWt T0 H0 ∧ True) (f3 : n0 = 49) (f4 : n1 = 1) : postb_132v n1 n0 H0 H0 := by
  unfold postb_132v

  unfold sg1
  repeat (first | (rw [if_pos (by omega)]; done) | (rw [if_pos (by omega)]; omega) | rw [if_neg (by omega)])
  all_goals omega
theorem c_132v_s_11 : vOkm T0 (eP e_132v L_132v A_132v mu_132v none) 1 ([(0, [1], [], 1), (0, [0], [], 49), (6000, [0], [0], 0), (90, [0], [], -2147483648), (91, [0], [], 2147483647)], (3000, [1], [0], 126)) := vOk_in fun ρ η h => by
  obtain ⟨f0, f1, f2, f3, f4, _⟩ := h
  exact q_132v_11 (n0 := ρ 0) (n1 := ρ 1) (H0 := η 0) f4 f3 f2 f1 f0
theorem q_132v_12 {n0 n1 : Int} {H0 : gH} (f0 : n0 ≤ 2147483647) (f1 : (-2147483648) ≤ n0) (f2 : hWt T0 H0 ∧ True) (f3 : n0 = 50) (f4 : n1 = 1) : postb_132v n1 n0 H0 H0 := by
  unfold postb_132v

  unfold sg1
  repeat (first | (rw [if_pos (by omega)]; done) | (rw [if_pos (by omega)]; omega) | rw [if_neg (by omega)])
  all_goals omega
theorem c_132v_s_12 : vOkm T0 (eP e_132v L_132v A_132v mu_132v none) 1 ([(0, [1], [], 1), (0, [0], [], 50), (6000, [0], [0], 0), (90, [0], [], -2147483648), (91, [0], [], 2147483647)], (3000, [1], [0], 126)) := vOk_in fun ρ η h => by
  obtain ⟨f0, f1, f2, f3, f4, _⟩ := h
  exact q_132v_12 (n0 := ρ 0) (n1 := ρ 1) (H0 := η 0) f4 f3 f2 f1 f0
theorem q_132v_13 {n0 n1 : Int} {H0 : gH} (f0 : n0 ≤ 2147483647) (f1 : (-2147483648) ≤ n0) (f2 : hWt T0 H0 ∧ True) (f3 : n0 = 51) (f4 : n1 = 1) : postb_132v n1 n0 H0 H0 := by
  unfold postb_132v

  unfold sg1
  repeat (first | (rw [if_pos (by omega)]; done) | (rw [if_pos (by omega)]; omega) | rw [if_neg (by omega)])
  all_goals omega
theorem c_132v_s_13 : vOkm T0 (eP e_132v L_132v A_132v mu_132v none) 1 ([(0, [1], [], 1), (0, [0], [], 51), (6000, [0], [0], 0), (90, [0], [], -2147483648), (91, [0], [], 2147483647)], (3000, [1], [0], 126)) := vOk_in fun ρ η h => by
  obtain ⟨f0, f1, f2, f3, f4, _⟩ := h
  exact q_132v_13 (n0 := ρ 0) (n1 := ρ 1) (H0 := η 0) f4 f3 f2 f1 f0
theorem q_132v_14 {n0 n1 : Int} {H0 : gH} (f0 : n0 ≤ 2147483647) (f1 : (-2147483648) ≤ n0) (f2 : hWt T0 H0 ∧ True) (f3 : n0 = 52) (f4 : n1 = 1) : postb_132v n1 n0 H0 H0 := by
  unfold postb_132v

  unfold sg1
  repeat (first | (rw [if_pos (by omega)]; done) | (rw [if_pos (by omega)]; omega) | rw [if_neg (by omega)])
  all_goals omega
theorem c_132v_s_14 : vOkm T0 (eP e_132v L_132v A_132v mu_132v none) 1 ([(0, [1], [], 1), (0, [0], [], 52), (6000, [0], [0], 0), (90, [0], [], -2147483648), (91, [0], [], 2147483647)], (3000, [1], [0], 126)) := vOk_in fun ρ η h => by
  obtain ⟨f0, f1, f2, f3, f4, _⟩ := h
  exact q_132v_14 (n0 := ρ 0) (n1 := ρ 1) (H0 := η 0) f4 f3 f2 f1 f0
theorem q_132v_15 {n0 n1 : Int} {H0 : gH} (f0 : n0 ≤ 2147483647) (f1 : (-2147483648) ≤ n0) (f2 : hWt T0 H0 ∧ True) (f3 : n0 = 53) (f4 : n1 = 1) : postb_132v n1 n0 H0 H0 := by
  unfold postb_132v

  unfold sg1
  repeat (first | (rw [if_pos (by omega)]; done) | (rw [if_pos (by omega)]; omega) | rw [if_neg (by omega)])
  all_goals omega
theorem c_132v_s_15 : vOkm T0 (eP e_132v L_132v A_132v mu_132v none) 1 ([(0, [1], [], 1), (0, [0], [], 53), (6000, [0], [0], 0), (90, [0], [], -2147483648), (91, [0], [], 2147483647)], (3000, [1], [0], 126)) := vOk_in fun ρ η h => by
  obtain ⟨f0, f1, f2, f3, f4, _⟩ := h
  exact q_132v_15 (n0 := ρ 0) (n1 := ρ 1) (H0 := η 0) f4 f3 f2 f1 f0
theorem q_132v_16 {n0 n1 : Int} {H0 : gH} (f0 : n0 ≤ 2147483647) (f1 : (-2147483648) ≤ n0) (f2 : hWt T0 H0 ∧ True) (f3 : n0 = 54) (f4 : n1 = 1) : postb_132v n1 n0 H0 H0 := by
  unfold postb_132v

  unfold sg1
  repeat (first | (rw [if_pos (by omega)]; done) | (rw [if_pos (by omega)]; omega) | rw [if_neg (by omega)])
  all_goals omega
theorem c_132v_s_16 : vOkm T0 (eP e_132v L_132v A_132v mu_132v none) 1 ([(0, [1], [], 1), (0, [0], [], 54), (6000, [0], [0], 0), (90, [0], [], -2147483648), (91, [0], [], 2147483647)], (3000, [1], [0], 126)) := vOk_in fun ρ η h => by
  obtain ⟨f0, f1, f2, f3, f4, _⟩ := h
  exact q_132v_16 (n0 := ρ 0) (n1 := ρ 1) (H0 := η 0) f4 f3 f2 f1 f0
theorem q_132v_17 {n0 n1 : Int} {H0 : gH} (f0 : n0 ≤ 2147483647) (f1 : (-2147483648) ≤ n0) (f2 : hWt T0 H0 ∧ True) (f3 : n0 = 55) (f4 : n1 = 1) : postb_132v n1 n0 H0 H0 := by
  unfold postb_132v

  unfold sg1
  repeat (first | (rw [if_pos (by omega)]; done) | (rw [if_pos (by omega)]; omega) | rw [if_neg (by omega)])
  all_goals omega
theorem c_132v_s_17 : vOkm T0 (eP e_132v L_132v A_132v mu_132v none) 1 ([(0, [1], [], 1), (0, [0], [], 55), (6000, [0], [0], 0), (90, [0], [], -2147483648), (91, [0], [], 2147483647)], (3000, [1], [0], 126)) := vOk_in fun ρ η h => by
  obtain ⟨f0, f1, f2, f3, f4, _⟩ := h
  exact q_132v_17 (n0 := ρ 0) (n1 := ρ 1) (H0 := η 0) f4 f3 f2 f1 f0
theorem q_132v_18 {n0 n1 : Int} {H0 : gH} (f0 : n0 ≤ 2147483647) (f1 : (-2147483648) ≤ n0) (f2 : hWt T0 H0 ∧ True) (f3 : n0 = 56) (f4 : n1 = 1) : postb_132v n1 n0 H0 H0 := by
  unfold postb_132v

  unfold sg1
  repeat (first | (rw [if_pos (by omega)]; done) | (rw [if_pos (by omega)]; omega) | rw [if_neg (by omega)])
  all_goals omega
theorem c_132v_s_18 : vOkm T0 (eP e_132v L_132v A_132v mu_132v none) 1 ([(0, [1], [], 1), (0, [0], [], 56), (6000, [0], [0], 0), (90, [0], [], -2147483648), (91, [0], [], 2147483647)], (3000, [1], [0], 126)) := vOk_in fun ρ η h => by
  obtain ⟨f0, f1, f2, f3, f4, _⟩ := h
  exact q_132v_18 (n0 := ρ 0) (n1 := ρ 1) (H0 := η 0) f4 f3 f2 f1 f0
theorem q_132v_19 {n0 n1 : Int} {H0 : gH} (f0 : n0 ≤ 2147483647) (f1 : (-2147483648) ≤ n0) (f2 : hWt T0 H0 ∧ True) (f3 : n0 = 57) (f4 : n1 = 1) : postb_132v n1 n0 H0 H0 := by
  unfold postb_132v

  unfold sg1
  repeat (first | (rw [if_pos (by omega)]; done) | (rw [if_pos (by omega)]; omega) | rw [if_neg (by omega)])
  all_goals omega
theorem c_132v_s_19 : vOkm T0 (eP e_132v L_132v A_132v mu_132v none) 1 ([(0, [1], [], 1), (0, [0], [], 57), (6000, [0], [0], 0), (90, [0], [], -2147483648), (91, [0], [], 2147483647)], (3000, [1], [0], 126)) := vOk_in fun ρ η h => by
  obtain ⟨f0, f1, f2, f3, f4, _⟩ := h
  exact q_132v_19 (n0 := ρ 0) (n1 := ρ 1) (H0 := η 0) f4 f3 f2 f1 f0
theorem q_132v_20 {n0 n1 : Int} {H0 : gH} (f0 : n0 ≤ 2147483647) (f1 : (-2147483648) ≤ n0) (f2 : hWt T0 H0 ∧ True) (f3 : n0 = 58) (f4 : n1 = 1) : postb_132v n1 n0 H0 H0 := by
  unfold postb_132v

  unfold sg1
  repeat (first | (rw [if_pos (by omega)]; done) | (rw [if_pos (by omega)]; omega) | rw [if_neg (by omega)])
  all_goals omega
theorem c_132v_s_20 : vOkm T0 (eP e_132v L_132v A_132v mu_132v none) 1 ([(0, [1], [], 1), (0, [0], [], 58), (6000, [0], [0], 0), (90, [0], [], -2147483648), (91, [0], [], 2147483647)], (3000, [1], [0], 126)) := vOk_in fun ρ η h => by
  obtain ⟨f0, f1, f2, f3, f4, _⟩ := h
  exact q_132v_20 (n0 := ρ 0) (n1 := ρ 1) (H0 := η 0) f4 f3 f2 f1 f0
theorem q_132v_21 {n0 n1 : Int} {H0 : gH} (f0 : n0 ≤ 2147483647) (f1 : (-2147483648) ≤ n0) (f2 : hWt T0 H0 ∧ True) (f3 : n0 = 59) (f4 : n1 = 4) : postb_132v n1 n0 H0 H0 := by
  unfold postb_132v

  unfold sg1
  repeat (first | (rw [if_pos (by omega)]; done) | (rw [if_pos (by omega)]; omega) | rw [if_neg (by omega)])
  all_goals omega
theorem c_132v_s_21 : vOkm T0 (eP e_132v L_132v A_132v mu_132v none) 1 ([(0, [1], [], 4), (0, [0], [], 59), (6000, [0], [0], 0), (90, [0], [], -2147483648), (91, [0], [], 2147483647)], (3000, [1], [0], 101)) := vOk_in fun ρ η h => by
  obtain ⟨f0, f1, f2, f3, f4, _⟩ := h
  exact q_132v_21 (n0 := ρ 0) (n1 := ρ 1) (H0 := η 0) f4 f3 f2 f1 f0
theorem q_132v_22 {n0 n1 : Int} {H0 : gH} (f0 : n0 ≤ 2147483647) (f1 : (-2147483648) ≤ n0) (f2 : hWt T0 H0 ∧ True) (f3 : n0 = 60) (f4 : n1 = 14) : postb_132v n1 n0 H0 H0 := by
  unfold postb_132v

  unfold sg1
  repeat (first | (rw [if_pos (by omega)]; done) | (rw [if_pos (by omega)]; omega) | rw [if_neg (by omega)])
  all_goals omega
theorem c_132v_s_22 : vOkm T0 (eP e_132v L_132v A_132v mu_132v none) 1 ([(0, [1], [], 14), (0, [0], [], 60), (6000, [0], [0], 0), (90, [0], [], -2147483648), (91, [0], [], 2147483647)], (3000, [1], [0], 124)) := vOk_in fun ρ η h => by
  obtain ⟨f0, f1, f2, f3, f4, _⟩ := h
  exact q_132v_22 (n0 := ρ 0) (n1 := ρ 1) (H0 := η 0) f4 f3 f2 f1 f0
def p_132v_s : List vG := [([(0, [1], [], 1), (66, [0], [], 40), (6000, [0], [0], 0), (90, [0], [], -2147483648), (91, [0], [], 2147483647)], (3000, [1], [0], 126)),
  ([(0, [1], [], 1), (67, [0], [], 60), (6000, [0], [0], 0), (90, [0], [], -2147483648), (91, [0], [], 2147483647)], (3000, [1], [0], 126)),
  ([(0, [1], [], 10), (0, [0], [], 40), (6000, [0], [0], 0), (90, [0], [], -2147483648), (91, [0], [], 2147483647)], (3000, [1], [0], 118)),
  ([(0, [1], [], 11), (0, [0], [], 41), (6000, [0], [0], 0), (90, [0], [], -2147483648), (91, [0], [], 2147483647)], (3000, [1], [0], 121)),
  ([(0, [1], [], 8), (0, [0], [], 42), (6000, [0], [0], 0), (90, [0], [], -2147483648), (91, [0], [], 2147483647)], (3000, [1], [0], 112)),
  ([(0, [1], [], 6), (0, [0], [], 43), (6000, [0], [0], 0), (90, [0], [], -2147483648), (91, [0], [], 2147483647)], (3000, [1], [0], 106)),
  ([(0, [1], [], 5), (0, [0], [], 44), (6000, [0], [0], 0), (90, [0], [], -2147483648), (91, [0], [], 2147483647)], (3000, [1], [0], 103)),
  ([(0, [1], [], 7), (0, [0], [], 45), (6000, [0], [0], 0), (90, [0], [], -2147483648), (91, [0], [], 2147483647)], (3000, [1], [0], 109)),
  ([(0, [1], [], 1), (0, [0], [], 46), (6000, [0], [0], 0), (90, [0], [], -2147483648), (91, [0], [], 2147483647)], (3000, [1], [0], 126)),
  ([(0, [1], [], 9), (0, [0], [], 47), (6000, [0], [0], 0), (90, [0], [], -2147483648), (91, [0], [], 2147483647)], (3000, [1], [0], 115)),
  ([(0, [1], [], 1), (0, [0], [], 48), (6000, [0], [0], 0), (90, [0], [], -2147483648), (91, [0], [], 2147483647)], (3000, [1], [0], 126)),
  ([(0, [1], [], 1), (0, [0], [], 49), (6000, [0], [0], 0), (90, [0], [], -2147483648), (91, [0], [], 2147483647)], (3000, [1], [0], 126)),
  ([(0, [1], [], 1), (0, [0], [], 50), (6000, [0], [0], 0), (90, [0], [], -2147483648), (91, [0], [], 2147483647)], (3000, [1], [0], 126)),
  ([(0, [1], [], 1), (0, [0], [], 51), (6000, [0], [0], 0), (90, [0], [], -2147483648), (91, [0], [], 2147483647)], (3000, [1], [0], 126)),
  ([(0, [1], [], 1), (0, [0], [], 52), (6000, [0], [0], 0), (90, [0], [], -2147483648), (91, [0], [], 2147483647)], (3000, [1], [0], 126)),
  ([(0, [1], [], 1), (0, [0], [], 53), (6000, [0], [0], 0), (90, [0], [], -2147483648), (91, [0], [], 2147483647)], (3000, [1], [0], 126)),
  ([(0, [1], [], 1), (0, [0], [], 54), (6000, [0], [0], 0), (90, [0], [], -2147483648), (91, [0], [], 2147483647)], (3000, [1], [0], 126)),
  ([(0, [1], [], 1), (0, [0], [], 55), (6000, [0], [0], 0), (90, [0], [], -2147483648), (91, [0], [], 2147483647)], (3000, [1], [0], 126)),
  ([(0, [1], [], 1), (0, [0], [], 56), (6000, [0], [0], 0), (90, [0], [], -2147483648), (91, [0], [], 2147483647)], (3000, [1], [0], 126)),
  ([(0, [1], [], 1), (0, [0], [], 57), (6000, [0], [0], 0), (90, [0], [], -2147483648), (91, [0], [], 2147483647)], (3000, [1], [0], 126)),
  ([(0, [1], [], 1), (0, [0], [], 58), (6000, [0], [0], 0), (90, [0], [], -2147483648), (91, [0], [], 2147483647)], (3000, [1], [0], 126)),
  ([(0, [1], [], 4), (0, [0], [], 59), (6000, [0], [0], 0), (90, [0], [], -2147483648), (91, [0], [], 2147483647)], (3000, [1], [0], 101)),
  ([(0, [1], [], 14), (0, [0], [], 60), (6000, [0], [0], 0), (90, [0], [], -2147483648), (91, [0], [], 2147483647)], (3000, [1], [0], 124))]
theorem r_132v_s : vCovO false (eR0 e_132v L_132v cs_132v 2000) p_132v_s = true := by decide +kernel
theorem m_132v (d : Nat) : eC e_132v (d + 1) := eC_ok (e := e_132v) (L := L_132v) (cs := cs_132v) (n := 2000) (d := d + 0) (A := A_132v) (μ := mu_132v) (tp := false) (p0 := p_132v_s) rfl trivial rfl (.inr pre0_ok) (by decide +kernel) (fun z => nomatch z) r_132v_s (allC c_132v_s_0 (allC c_132v_s_1 (allC c_132v_s_2 (allC c_132v_s_3 (allC c_132v_s_4 (allC c_132v_s_5 (allC c_132v_s_6 (allC c_132v_s_7 (allC c_132v_s_8 (allC c_132v_s_9 (allC c_132v_s_10 (allC c_132v_s_11 (allC c_132v_s_12 (allC c_132v_s_13 (allC c_132v_s_14 (allC c_132v_s_15 (allC c_132v_s_16 (allC c_132v_s_17 (allC c_132v_s_18 (allC c_132v_s_19 (allC c_132v_s_20 (allC c_132v_s_21 (allC c_132v_s_22 allN))))))))))))))))))))))) allN
/- Tokens.note (IIJ)V -/
noncomputable def s_126v : vM := ([(3, 8, 31, 0), (0, -2147483648, 2147483647, 0), (0, -2147483648, 2147483647, 0), (1, 0, 0, 0)], (9, 0, 0, 0), 1, 0, [(8, 4), (716, 0), (725, 0)])
def preb_126v (a0 a1 a2 a3 : Int) (h : gH) : Prop := KS5 h ∧ 0 ≤ hV h 31 4 ∧ hV h 31 4 ≤ 501
def pre_126v : List Int → gH → Prop := fun xs h => match xs with
  | [a0, a1, a2, a3] => preb_126v a0 a1 a2 a3 h
  | _ => False
def postb_126v (a0 a1 a2 a3 : Int) (h0 h : gH) : Prop := NTp a1 a2 a3 h0 h ∧ KS5 h
def post_126v : List Int → gH → gH → Prop := fun xs h0 h => match xs with
  | [a0, a1, a2, a3] => postb_126v a0 a1 a2 a3 h0 h
  | _ => True
noncomputable def e_126v : vE := (126, s_126v, pre_126v, post_126v)
noncomputable def L_126v : List vE := [e_201vk716, e_202vk725]
def cs_126v : List vC := []
def A_126v : Int → List Int → gH → gH → Prop := fun c xs h0 h => True
def mu_126v : Int → List Int → gH → gH → Nat := fun c xs h0 h => 0
theorem q_126v_0 {n0 n1 n2 n3 n4 n5 n6 n7 n8 n9 n10 n11 n12 n13 : Int} {H0 H1 H2 H3 H4 : gH} (f0 : n0 ≤ 2147483647) (f1 : (-2147483648) ≤ n0) (f2 : n1 ≤ 2147483647) (f3 : (-2147483648) ≤ n1) (f4 : n2 = 31) (f5 : hWt T0 H0 ∧ preb_126v n2 n1 n0 n3 H0) (f6 : n4 = 33) (f7 : n4 = hV H0 (n2).toNat 1) (f8 : n5 ≤ 2147483647) (f9 : (-2147483648) ≤ n5) (f10 : n5 = hV H0 (n2).toNat 4) (f11 : (hLe T0 H0 H1 ∧ hFr s_201vk716.2.2.2.2 H0 H1 ∧ ((0 : Int) = 0 → H1.length = H0.length) ∧ hWt T0 H1) ∧ postb_201vk716 n4 n5 n1 H0 H1) (f12 : n6 = 34) (f13 : n6 = hV H1 (n2).toNat 2) (f14 : n7 ≤ 2147483647) (f15 : (-2147483648) ≤ n7) (f16 : n7 = hV H1 (n2).toNat 4) (f17 : (hLe T0 H1 H2 ∧ hFr s_201vk716.2.2.2.2 H1 H2 ∧ ((0 : Int) = 0 → H2.length = H1.length) ∧ hWt T0 H2) ∧ postb_201vk716 n6 n7 n0 H1 H2) (f18 : n8 = 35) (f19 : n8 = hV H2 (n2).toNat 3) (f20 : n9 ≤ 2147483647) (f21 : (-2147483648) ≤ n9) (f22 : n9 = hV H2 (n2).toNat 4) (f23 : (hLe T0 H2 H3 ∧ hFr s_202vk725.2.2.2.2 H2 H3 ∧ ((0 : Int) = 0 → H3.length = H2.length) ∧ hWt T0 H3) ∧ postb_202vk725 n8 n9 n3 H2 H3) (f24 : n10 ≤ 2147483647) (f25 : (-2147483648) ≤ n10) (f26 : n10 = hV H3 (n2).toNat 4) (f27 : n11 = 1) (f28 : n12 = w32 (n10 + n11)) (f29 : n13 = 4) (f30 : hUpd H4 H3 n2 n13 n12) : postb_126v n2 n1 n0 n3 H0 H4 := by
  have pz := f5.2
  unfold preb_126v at pz
  obtain ⟨ks, c0, c1⟩ := pz
  have p0 := f11.2
  unfold postb_201vk716 at p0
  rw [f6] at p0
  have p1 := f17.2
  unfold postb_201vk716 at p1
  rw [f12] at p1
  have p2 := f23.2
  unfold postb_202vk725 at p2
  rw [f18] at p2
  have e0 := f10
  rw [f4] at e0
  rw [show ((31 : Int)).toNat = 31 from rfl] at e0
  have e1 := f16
  rw [f4] at e1
  rw [show ((31 : Int)).toNat = 31 from rfl] at e1
  have e2 := f22
  rw [f4] at e2
  rw [show ((31 : Int)).toNat = 31 from rfl] at e2
  have e3 := f26
  rw [f4] at e3
  rw [show ((31 : Int)).toNat = 31 from rfl] at e3
  have k1 := KS5_le f11.1.1 ks
  have k2 := KS5_le f17.1.1 k1
  have k3 := KS5_le f23.1.1 k2
  have uu := f30
  rw [f4, f29, f28, f27] at uu
  unfold postb_126v
  exact ⟨NTp_mk ks k1 k2 c0 c1 e0 p0 e1 p1 e2 p2 e3 uu, KS5_up uu k3⟩
theorem c_126v_s_0 : vOkm T0 (eP e_126v L_126v A_126v mu_126v none) 4 ([(80, [0, 13, 12], [4, 3], 0), (0, [13], [], 4), (1, [12, 10, 11], [], 0), (0, [11], [], 1), (20, [10, 0], [3], 4), (90, [10], [], -2147483648), (91, [10], [], 2147483647), (1202, [8, 9, 3], [2, 3], 0), (20, [9, 0], [2], 4), (90, [9], [], -2147483648), (91, [9], [], 2147483647), (20, [8, 0], [2], 3), (0, [8], [], 35), (1201, [6, 7, 2], [1, 2], 0), (20, [7, 0], [1], 4), (90, [7], [], -2147483648), (91, [7], [], 2147483647), (20, [6, 0], [1], 2), (0, [6], [], 34), (1201, [4, 5, 1], [0, 1], 0), (20, [5, 0], [0], 4), (90, [5], [], -2147483648), (91, [5], [], 2147483647), (20, [4, 0], [0], 1), (0, [4], [], 33), (6000, [0, 1, 2, 3], [0], 0), (0, [0], [], 31), (90, [1], [], -2147483648), (91, [1], [], 2147483647), (90, [2], [], -2147483648), (91, [2], [], 2147483647)], (3000, [], [4], 46)) := vOk_in fun ρ η h => by
  obtain ⟨f0, f1, f2, f3, f4, f5, f6, f7, f8, f9, f10, f11, f12, f13, f14, f15, f16, f17, f18, f19, f20, f21, f22, f23, f24, f25, f26, f27, f28, f29, f30, _⟩ := h
  exact q_126v_0 (n0 := ρ 2) (n1 := ρ 1) (n2 := ρ 0) (n3 := ρ 3) (n4 := ρ 4) (n5 := ρ 5) (n6 := ρ 6) (n7 := ρ 7) (n8 := ρ 8) (n9 := ρ 9) (n10 := ρ 10) (n11 := ρ 11) (n12 := ρ 12) (n13 := ρ 13) (H0 := η 0) (H1 := η 1) (H2 := η 2) (H3 := η 3) (H4 := η 4) f30 f29 f28 f27 f26 f25 f24 f23 f22 f21 f20 f19 f18 f17 f16 f15 f14 f13 f12 f11 f10 f9 f8 f7 f6 f5 f4 f3 f2 f1 f0
def p_126v_s : List vG := [([(80, [0, 13, 12], [4, 3], 0), (0, [13], [], 4), (1, [12, 10, 11], [], 0), (0, [11], [], 1), (20, [10, 0], [3], 4), (90, [10], [], -2147483648), (91, [10], [], 2147483647), (1202, [8, 9, 3], [2, 3], 0), (20, [9, 0], [2], 4), (90, [9], [], -2147483648), (91, [9], [], 2147483647), (20, [8, 0], [2], 3), (0, [8], [], 35), (1201, [6, 7, 2], [1, 2], 0), (20, [7, 0], [1], 4), (90, [7], [], -2147483648), (91, [7], [], 2147483647), (20, [6, 0], [1], 2), (0, [6], [], 34), (1201, [4, 5, 1], [0, 1], 0), (20, [5, 0], [0], 4), (90, [5], [], -2147483648), (91, [5], [], 2147483647), (20, [4, 0], [0], 1), (0, [4], [], 33), (6000, [0, 1, 2, 3], [0], 0), (0, [0], [], 31), (90, [1], [], -2147483648), (91, [1], [], 2147483647), (90, [2], [], -2147483648), (91, [2], [], 2147483647)], (3000, [], [4], 46))]
theorem r_126v_s : vCovO false (eR0 e_126v L_126v cs_126v 2000) p_126v_s = true := by decide +kernel
theorem m_126v (d : Nat) : eC e_126v (d + 2) := eC_ok (e := e_126v) (L := L_126v) (cs := cs_126v) (n := 2000) (d := d + 1) (A := A_126v) (μ := mu_126v) (tp := false) (p0 := p_126v_s) rfl ⟨m_201vk716 d, ⟨m_202vk725 d, trivial⟩⟩ rfl (.inl rfl) (by decide +kernel) (fun z => nomatch z) r_126v_s (allC c_126v_s_0 allN) allN
