/-! CONTRACTS of methods told more fully. -/
/- MixStage.at ([II)I -/
noncomputable def s_199vk772 : vM := ([(2, 772, -1, 0), (0, -2147483648, 2147483647, 0)], (0, -2147483648, 2147483647, 0), 0, 0, [])
def postb_199vk772 (r a0 a1 : Int) (h0 h : gH) : Prop := r = atQ h0 a0 a1
def post_199vk772 : List Int → gH → gH → Prop := fun xs h0 h => match xs with
  | [r, a0, a1] => postb_199vk772 r a0 a1 h0 h
  | _ => True
noncomputable def e_199vk772 : vE := (199, s_199vk772, pre0, post_199vk772)
noncomputable def L_199vk772 : List vE := []
def cs_199vk772 : List vC := []
def A_199vk772 : Int → List Int → gH → gH → Prop := fun c xs h0 h => True
def mu_199vk772 : Int → List Int → gH → gH → Nat := fun c xs h0 h => 0
theorem q_199vk772_0 {n0 n1 n2 : Int} {H0 : gH} (f0 : n0 ≤ 2147483647) (f1 : (-2147483648) ≤ n0) (f2 : hWt T0 H0 ∧ True) (f3 : n1 = -1) (f4 : n2 = 0) : postb_199vk772 n2 n1 n0 H0 H0 := by
  unfold postb_199vk772

  unfold atQ
  first
  | (rw [if_neg (by omega)] <;> omega)
  | (rw [if_pos (by omega)] <;> omega)
theorem c_199vk772_s_0 : vOkm T0 (eP e_199vk772 L_199vk772 A_199vk772 mu_199vk772 none) 2 ([(0, [2], [], 0), (50, [0], [], 0), (6000, [0, 1], [0], 0), (90, [1], [], -2147483648), (91, [1], [], 2147483647)], (3000, [2], [0], 21)) := vOk_in fun ρ η h => by
  obtain ⟨f0, f1, f2, f3, f4, _⟩ := h
  exact q_199vk772_0 (n0 := ρ 1) (n1 := ρ 0) (n2 := ρ 2) (H0 := η 0) f4 f3 f2 f1 f0
theorem q_199vk772_1 {n0 n1 n2 : Int} {H0 : gH} (f0 : n0 ≤ 2147483647) (f1 : (-2147483648) ≤ n0) (f2 : hWt T0 H0 ∧ True) (f3 : 0 ≤ n1) (f4 : n0 < 0) (f5 : n2 = 0) : postb_199vk772 n2 n1 n0 H0 H0 := by
  unfold postb_199vk772

  unfold atQ
  first
  | (rw [if_neg (by omega)] <;> omega)
  | (rw [if_pos (by omega)] <;> omega)
theorem c_199vk772_s_1 : vOkm T0 (eP e_199vk772 L_199vk772 A_199vk772 mu_199vk772 none) 2 ([(0, [2], [], 0), (32, [1], [], 0), (51, [0], [], 0), (6000, [0, 1], [0], 0), (90, [1], [], -2147483648), (91, [1], [], 2147483647)], (3000, [2], [0], 21)) := vOk_in fun ρ η h => by
  obtain ⟨f0, f1, f2, f3, f4, f5, _⟩ := h
  exact q_199vk772_1 (n0 := ρ 1) (n1 := ρ 0) (n2 := ρ 2) (H0 := η 0) f5 f4 f3 f2 f1 f0
theorem q_199vk772_2 {n0 n1 n2 n3 : Int} {H0 : gH} (f0 : n0 ≤ 2147483647) (f1 : (-2147483648) ≤ n0) (f2 : hWt T0 H0 ∧ True) (f3 : 0 ≤ n1) (f4 : 0 ≤ n0) (f5 : n2 = (hN H0 (n1).toNat : Int)) (f6 : n0 < n2) (f7 : n3 ≤ 2147483647) (f8 : (-2147483648) ≤ n3) (f9 : n3 = hV H0 (n1).toNat (n0).toNat) : postb_199vk772 n3 n1 n0 H0 H0 := by
  unfold postb_199vk772

  unfold atQ
  first
  | (rw [if_neg (by omega)] <;> omega)
  | (rw [if_pos (by omega)] <;> omega)
theorem c_199vk772_s_2 : vOkm T0 (eP e_199vk772 L_199vk772 A_199vk772 mu_199vk772 none) 2 ([(22, [3, 0, 1], [0], 0), (90, [3], [], -2147483648), (91, [3], [], 2147483647), (42, [1, 2], [], 0), (21, [2, 0], [0], 0), (33, [1], [], 0), (51, [0], [], 0), (6000, [0, 1], [0], 0), (90, [1], [], -2147483648), (91, [1], [], 2147483647)], (3000, [3], [0], 21)) := vOk_in fun ρ η h => by
  obtain ⟨f0, f1, f2, f3, f4, f5, f6, f7, f8, f9, _⟩ := h
  exact q_199vk772_2 (n0 := ρ 1) (n1 := ρ 0) (n2 := ρ 2) (n3 := ρ 3) (H0 := η 0) f9 f8 f7 f6 f5 f4 f3 f2 f1 f0
theorem q_199vk772_3 {n0 n1 n2 n3 : Int} {H0 : gH} (f0 : n0 ≤ 2147483647) (f1 : (-2147483648) ≤ n0) (f2 : hWt T0 H0 ∧ True) (f3 : 0 ≤ n1) (f4 : 0 ≤ n0) (f5 : n2 = (hN H0 (n1).toNat : Int)) (f6 : n2 ≤ n0) (f7 : n3 = 0) : postb_199vk772 n3 n1 n0 H0 H0 := by
  unfold postb_199vk772

  unfold atQ
  first
  | (rw [if_neg (by omega)] <;> omega)
  | (rw [if_pos (by omega)] <;> omega)
theorem c_199vk772_s_3 : vOkm T0 (eP e_199vk772 L_199vk772 A_199vk772 mu_199vk772 none) 2 ([(0, [3], [], 0), (43, [1, 2], [], 0), (21, [2, 0], [0], 0), (33, [1], [], 0), (51, [0], [], 0), (6000, [0, 1], [0], 0), (90, [1], [], -2147483648), (91, [1], [], 2147483647)], (3000, [3], [0], 21)) := vOk_in fun ρ η h => by
  obtain ⟨f0, f1, f2, f3, f4, f5, f6, f7, _⟩ := h
  exact q_199vk772_3 (n0 := ρ 1) (n1 := ρ 0) (n2 := ρ 2) (n3 := ρ 3) (H0 := η 0) f7 f6 f5 f4 f3 f2 f1 f0
def p_199vk772_s : List vG := [([(0, [2], [], 0), (50, [0], [], 0), (6000, [0, 1], [0], 0), (90, [1], [], -2147483648), (91, [1], [], 2147483647)], (3000, [2], [0], 21)),
  ([(0, [2], [], 0), (32, [1], [], 0), (51, [0], [], 0), (6000, [0, 1], [0], 0), (90, [1], [], -2147483648), (91, [1], [], 2147483647)], (3000, [2], [0], 21)),
  ([(22, [3, 0, 1], [0], 0), (90, [3], [], -2147483648), (91, [3], [], 2147483647), (42, [1, 2], [], 0), (21, [2, 0], [0], 0), (33, [1], [], 0), (51, [0], [], 0), (6000, [0, 1], [0], 0), (90, [1], [], -2147483648), (91, [1], [], 2147483647)], (3000, [3], [0], 21)),
  ([(0, [3], [], 0), (43, [1, 2], [], 0), (21, [2, 0], [0], 0), (33, [1], [], 0), (51, [0], [], 0), (6000, [0, 1], [0], 0), (90, [1], [], -2147483648), (91, [1], [], 2147483647)], (3000, [3], [0], 21))]
theorem r_199vk772_s : vCovO false (eR0 e_199vk772 L_199vk772 cs_199vk772 2000) p_199vk772_s = true := by decide +kernel
theorem m_199vk772 (d : Nat) : eC e_199vk772 (d + 1) := eC_ok (e := e_199vk772) (L := L_199vk772) (cs := cs_199vk772) (n := 2000) (d := d + 0) (A := A_199vk772) (μ := mu_199vk772) (tp := false) (p0 := p_199vk772_s) rfl trivial rfl (.inr pre0_ok) (by decide +kernel) (fun z => nomatch z) r_199vk772_s (allC c_199vk772_s_0 (allC c_199vk772_s_1 (allC c_199vk772_s_2 (allC c_199vk772_s_3 allN)))) allN
/- MixStage.put ([III)V -/
noncomputable def s_201vk772 : vM := ([(2, 772, -1, 0), (0, -2147483648, 2147483647, 0), (0, -2147483648, 2147483647, 0)], (9, 0, 0, 0), 0, 0, [(772, 0)])
def postb_201vk772 (a0 a1 a2 : Int) (h0 h : gH) : Prop := putQ a0 a1 a2 h0 h
def post_201vk772 : List Int → gH → gH → Prop := fun xs h0 h => match xs with
  | [a0, a1, a2] => postb_201vk772 a0 a1 a2 h0 h
  | _ => True
noncomputable def e_201vk772 : vE := (201, s_201vk772, pre0, post_201vk772)
noncomputable def L_201vk772 : List vE := []
def cs_201vk772 : List vC := []
def A_201vk772 : Int → List Int → gH → gH → Prop := fun c xs h0 h => True
def mu_201vk772 : Int → List Int → gH → gH → Nat := fun c xs h0 h => 0
theorem q_201vk772_0 {n0 n1 n2 : Int} {H0 : gH} (f0 : n0 ≤ 2147483647) (f1 : (-2147483648) ≤ n0) (f2 : n1 ≤ 2147483647) (f3 : (-2147483648) ≤ n1) (f4 : hWt T0 H0 ∧ True) (f5 : n2 = -1) : postb_201vk772 n2 n1 n0 H0 H0 := by
  unfold postb_201vk772

  exact putQ_same (by omega)
theorem c_201vk772_s_0 : vOkm T0 (eP e_201vk772 L_201vk772 A_201vk772 mu_201vk772 none) 3 ([(50, [0], [], 0), (6000, [0, 1, 2], [0], 0), (90, [1], [], -2147483648), (91, [1], [], 2147483647), (90, [2], [], -2147483648), (91, [2], [], 2147483647)], (3000, [], [0], 18)) := vOk_in fun ρ η h => by
  obtain ⟨f0, f1, f2, f3, f4, f5, _⟩ := h
  exact q_201vk772_0 (n0 := ρ 2) (n1 := ρ 1) (n2 := ρ 0) (H0 := η 0) f5 f4 f3 f2 f1 f0
theorem q_201vk772_1 {n0 n1 n2 : Int} {H0 : gH} (f0 : n0 ≤ 2147483647) (f1 : (-2147483648) ≤ n0) (f2 : n1 ≤ 2147483647) (f3 : (-2147483648) ≤ n1) (f4 : hWt T0 H0 ∧ True) (f5 : 0 ≤ n2) (f6 : n1 < 0) : postb_201vk772 n2 n1 n0 H0 H0 := by
  unfold postb_201vk772

  exact putQ_same (by omega)
theorem c_201vk772_s_1 : vOkm T0 (eP e_201vk772 L_201vk772 A_201vk772 mu_201vk772 none) 3 ([(32, [1], [], 0), (51, [0], [], 0), (6000, [0, 1, 2], [0], 0), (90, [1], [], -2147483648), (91, [1], [], 2147483647), (90, [2], [], -2147483648), (91, [2], [], 2147483647)], (3000, [], [0], 18)) := vOk_in fun ρ η h => by
  obtain ⟨f0, f1, f2, f3, f4, f5, f6, _⟩ := h
  exact q_201vk772_1 (n0 := ρ 2) (n1 := ρ 1) (n2 := ρ 0) (H0 := η 0) f6 f5 f4 f3 f2 f1 f0
theorem q_201vk772_2 {n0 n1 n2 n3 : Int} {H0 : gH} (f0 : n0 ≤ 2147483647) (f1 : (-2147483648) ≤ n0) (f2 : n1 ≤ 2147483647) (f3 : (-2147483648) ≤ n1) (f4 : hWt T0 H0 ∧ True) (f5 : 0 ≤ n2) (f6 : 0 ≤ n1) (f7 : n3 = (hN H0 (n2).toNat : Int)) (f8 : n3 ≤ n1) : postb_201vk772 n2 n1 n0 H0 H0 := by
  unfold postb_201vk772

  exact putQ_same (by omega)
theorem c_201vk772_s_2 : vOkm T0 (eP e_201vk772 L_201vk772 A_201vk772 mu_201vk772 none) 3 ([(43, [1, 3], [], 0), (21, [3, 0], [0], 0), (33, [1], [], 0), (51, [0], [], 0), (6000, [0, 1, 2], [0], 0), (90, [1], [], -2147483648), (91, [1], [], 2147483647), (90, [2], [], -2147483648), (91, [2], [], 2147483647)], (3000, [], [0], 18)) := vOk_in fun ρ η h => by
  obtain ⟨f0, f1, f2, f3, f4, f5, f6, f7, f8, _⟩ := h
  exact q_201vk772_2 (n0 := ρ 2) (n1 := ρ 1) (n2 := ρ 0) (n3 := ρ 3) (H0 := η 0) f8 f7 f6 f5 f4 f3 f2 f1 f0
theorem q_201vk772_3 {n0 n1 n2 n3 : Int} {H0 H1 : gH} (f0 : n0 ≤ 2147483647) (f1 : (-2147483648) ≤ n0) (f2 : n1 ≤ 2147483647) (f3 : (-2147483648) ≤ n1) (f4 : hWt T0 H0 ∧ True) (f5 : 0 ≤ n2) (f6 : 0 ≤ n1) (f7 : n3 = (hN H0 (n2).toNat : Int)) (f8 : n1 < n3) (f9 : hK H0 (n2).toNat = 772) (f10 : hUpd H1 H0 n2 n1 n0) : postb_201vk772 n2 n1 n0 H0 H1 := by
  unfold postb_201vk772

  exact putQ_upd f10 (by omega)
theorem c_201vk772_s_3 : vOkm T0 (eP e_201vk772 L_201vk772 A_201vk772 mu_201vk772 none) 3 ([(80, [0, 1, 2], [1, 0], 0), (23, [0], [0], 772), (42, [1, 3], [], 0), (21, [3, 0], [0], 0), (33, [1], [], 0), (51, [0], [], 0), (6000, [0, 1, 2], [0], 0), (90, [1], [], -2147483648), (91, [1], [], 2147483647), (90, [2], [], -2147483648), (91, [2], [], 2147483647)], (3000, [], [1], 18)) := vOk_in fun ρ η h => by
  obtain ⟨f0, f1, f2, f3, f4, f5, f6, f7, f8, f9, f10, _⟩ := h
  exact q_201vk772_3 (n0 := ρ 2) (n1 := ρ 1) (n2 := ρ 0) (n3 := ρ 3) (H0 := η 0) (H1 := η 1) f10 f9 f8 f7 f6 f5 f4 f3 f2 f1 f0
def p_201vk772_s : List vG := [([(50, [0], [], 0), (6000, [0, 1, 2], [0], 0), (90, [1], [], -2147483648), (91, [1], [], 2147483647), (90, [2], [], -2147483648), (91, [2], [], 2147483647)], (3000, [], [0], 18)),
  ([(32, [1], [], 0), (51, [0], [], 0), (6000, [0, 1, 2], [0], 0), (90, [1], [], -2147483648), (91, [1], [], 2147483647), (90, [2], [], -2147483648), (91, [2], [], 2147483647)], (3000, [], [0], 18)),
  ([(43, [1, 3], [], 0), (21, [3, 0], [0], 0), (33, [1], [], 0), (51, [0], [], 0), (6000, [0, 1, 2], [0], 0), (90, [1], [], -2147483648), (91, [1], [], 2147483647), (90, [2], [], -2147483648), (91, [2], [], 2147483647)], (3000, [], [0], 18)),
  ([(80, [0, 1, 2], [1, 0], 0), (23, [0], [0], 772), (42, [1, 3], [], 0), (21, [3, 0], [0], 0), (33, [1], [], 0), (51, [0], [], 0), (6000, [0, 1, 2], [0], 0), (90, [1], [], -2147483648), (91, [1], [], 2147483647), (90, [2], [], -2147483648), (91, [2], [], 2147483647)], (3000, [], [1], 18))]
theorem r_201vk772_s : vCovO false (eR0 e_201vk772 L_201vk772 cs_201vk772 2000) p_201vk772_s = true := by decide +kernel
theorem m_201vk772 (d : Nat) : eC e_201vk772 (d + 1) := eC_ok (e := e_201vk772) (L := L_201vk772) (cs := cs_201vk772) (n := 2000) (d := d + 0) (A := A_201vk772) (μ := mu_201vk772) (tp := false) (p0 := p_201vk772_s) rfl trivial rfl (.inr pre0_ok) (by decide +kernel) (fun z => nomatch z) r_201vk772_s (allC c_201vk772_s_0 (allC c_201vk772_s_1 (allC c_201vk772_s_2 (allC c_201vk772_s_3 allN)))) allN
/- java/util/Arrays.fill ([II)V, more fully -/
def nb_331 (a0 a1 : Int) (h0 h : gH) : Prop := 0 ≤ a0 → ∀ i : Nat, (i : Int) < (hN h0 (a0).toNat : Int) → hV h (a0).toNat i = a1
def n_331 : List Int → gH → gH → Prop := fun xs h0 h => match xs with
  | [a0, a1] => nb_331 a0 a1 h0 h
  | _ => True
noncomputable def e_331w : vE := eV e_331k772 n_331
noncomputable def L_331w : List vE := []
def Bb_331_5 (a0 a1 x0 x1 x2 x3 : Int) (h0 h : gH) : Prop := x0 = a0 ∧ x1 = a1 ∧ 0 ≤ x2 ∧ x3 = (hN h0 (a0).toNat : Int) ∧ ∀ i : Nat, (i : Int) < x2 → hV h (a0).toNat i = a1
def B_331 : Int → List Int → gH → gH → Prop := fun c xs h0 h => match c.toNat with
  | 5 => (match xs with
    | [a0, a1, x0, x1, x2, x3] => Bb_331_5 a0 a1 x0 x1 x2 x3 h0 h
    | _ => False)
  | _ => True
theorem q_331w_0 {n0 n1 n2 n3 : Int} {H0 : gH} (f0 : n0 ≤ 2147483647) (f1 : (-2147483648) ≤ n0) (f2 : 0 ≤ n1) (f3 : hWt T0 H0 ∧ True) (f4 : n2 = 0) (f5 : n3 = (hN H0 (n1).toNat : Int)) : Bb_331_5 n1 n0 n1 n0 n2 n3 H0 H0 := by
  unfold Bb_331_5
  exact ⟨rfl, rfl, by omega, f5, fun i hi => by omega⟩
def g_331w_s_0 : vG := ([(21, [3, 0], [0], 0), (0, [2], [], 0), (6000, [0, 1], [0], 0), (51, [0], [], 0), (90, [1], [], -2147483648), (91, [1], [], 2147483647)], (4000, [0, 1, 2, 3], [0], 5))
theorem c_331w_s_0 : vOkm T0 (eN e_331k772 L_331w A_331k772 mu_331k772 n_331 B_331 none) 2 g_331w_s_0 := vOk_inI fun ρ η f0 f1 f2 f3 f4 f5 => q_331w_0 (n0 := ρ 1) (n1 := ρ 0) (n2 := ρ 2) (n3 := ρ 3) (H0 := η 0) f5 f4 f3 f2 f1 f0
def p_331w_s : List vG := [g_331w_s_0]
theorem r_331w_s : vCovBO (eR0 e_331k772 L_331k772 cs_331k772 2000) p_331w_s = true := by decide +kernel
theorem q_331w_1 {q0 : Nat} {n0 n1 n2 n3 n4 n5 : Int} {H0 H1 : gH} (f0 : n0 ≤ 2147483647) (f1 : (-2147483648) ≤ n0) (f2 : n1 ≤ 2147483647) (f3 : 0 ≤ n1) (f4 : n2 ≤ 2147483647) (f5 : (-2147483648) ≤ n2) (f6 : 0 ≤ n3) (f7 : n4 ≤ 2147483647) (f8 : (-2147483648) ≤ n4) (f9 : 0 ≤ n5) (f10 : (hLe T0 H0 H1 ∧ hFr s_331k772.2.2.2.2 H0 H1 ∧ hWt T0 H1) ∧ ((Ab_331k772_5 n5 n4 n3 n2 n1 n0 H0 H1 ∧ Bb_331_5 n5 n4 n3 n2 n1 n0 H0 H1) ∧ True) ∧ some q0 = some (mub_331k772_5 n5 n4 n3 n2 n1 n0 H0 H1)) (f11 : n0 ≤ n1) : nb_331 n5 n4 H0 H1 := by
  have gb := f10.2.1.1.2
  unfold Bb_331_5 at gb
  obtain ⟨e0, e1, e2, e3, e4⟩ := gb
  unfold nb_331
  exact fun p i hi => e4 i (by omega)
def g_331w_5_0 : vG := ([(43, [4, 5], [], 0), (5000, [0, 1, 2, 3, 4, 5], [0, 1], 5), (51, [0], [], 0), (90, [1], [], -2147483648), (91, [1], [], 2147483647), (51, [2], [], 0), (90, [3], [], -2147483648), (91, [3], [], 2147483647), (90, [4], [], 0), (91, [4], [], 2147483647), (90, [5], [], -2147483648), (91, [5], [], 2147483647)], (3000, [], [1], 20))
theorem c_331w_5_0 {q0 : Nat} : vOkm T0 (eN e_331k772 L_331w A_331k772 mu_331k772 n_331 B_331 (some q0)) 2 g_331w_5_0 := vOk_inI fun ρ η f0 f1 f2 f3 f4 f5 f6 f7 f8 f9 f10 f11 => q_331w_1 (q0 := q0) (n0 := ρ 5) (n1 := ρ 4) (n2 := ρ 3) (n3 := ρ 2) (n4 := ρ 1) (n5 := ρ 0) (H0 := η 0) (H1 := η 1) f11 f10 f9 f8 f7 f6 f5 f4 f3 f2 f1 f0
theorem q_331w_2 {q0 : Nat} {n0 n1 n2 n3 n4 n5 n6 : Int} {H0 H1 H2 : gH} (f0 : n0 ≤ 2147483647) (f1 : (-2147483648) ≤ n0) (f2 : n1 ≤ 2147483647) (f3 : 0 ≤ n1) (f4 : n2 ≤ 2147483647) (f5 : (-2147483648) ≤ n2) (f6 : 0 ≤ n3) (f7 : n4 ≤ 2147483647) (f8 : (-2147483648) ≤ n4) (f9 : 0 ≤ n5) (f10 : (hLe T0 H0 H1 ∧ hFr s_331k772.2.2.2.2 H0 H1 ∧ hWt T0 H1) ∧ ((Ab_331k772_5 n5 n4 n3 n2 n1 n0 H0 H1 ∧ Bb_331_5 n5 n4 n3 n2 n1 n0 H0 H1) ∧ True) ∧ some q0 = some (mub_331k772_5 n5 n4 n3 n2 n1 n0 H0 H1)) (f11 : n1 < n0) (f12 : hK H1 (n3).toNat = 772) (f13 : hUpd H2 H1 n3 n1 n2) (f14 : n6 = w32 (n1 + 1)) : Bb_331_5 n5 n4 n3 n2 n6 n0 H0 H2 := by
  have gb := f10.2.1.1.2
  unfold Bb_331_5 at gb
  obtain ⟨e0, e1, e2, e3, e4⟩ := gb
  have w14 := f14
  unfold w32 at w14
  have p0 : 0 ≤ n5 := by omega
  unfold Bb_331_5
  refine ⟨e0, e1, by omega, e3, fun i hi => ?_⟩
  rw [uRow f13 (n5).toNat (by omega), uF_at]
  by_cases c : (i : Int) = n1
  · rw [if_pos c]
    exact e1
  · rw [if_neg c]
    exact e4 i (by omega)
def g_331w_5_1 : vG := ([(10, [6, 4], [], 1), (80, [2, 4, 3], [2, 1], 0), (23, [2], [1], 772), (42, [4, 5], [], 0), (5000, [0, 1, 2, 3, 4, 5], [0, 1], 5), (51, [0], [], 0), (90, [1], [], -2147483648), (91, [1], [], 2147483647), (51, [2], [], 0), (90, [3], [], -2147483648), (91, [3], [], 2147483647), (90, [4], [], 0), (91, [4], [], 2147483647), (90, [5], [], -2147483648), (91, [5], [], 2147483647)], (4000, [2, 3, 6, 5], [2], 5))
theorem c_331w_5_1 {q0 : Nat} : vOkm T0 (eN e_331k772 L_331w A_331k772 mu_331k772 n_331 B_331 (some q0)) 2 g_331w_5_1 := vOk_inI fun ρ η f0 f1 f2 f3 f4 f5 f6 f7 f8 f9 f10 f11 f12 f13 f14 => q_331w_2 (q0 := q0) (n0 := ρ 5) (n1 := ρ 4) (n2 := ρ 3) (n3 := ρ 2) (n4 := ρ 1) (n5 := ρ 0) (n6 := ρ 6) (H0 := η 0) (H1 := η 1) (H2 := η 2) f14 f13 f12 f11 f10 f9 f8 f7 f6 f5 f4 f3 f2 f1 f0
def p_331w_5 : List vG := [g_331w_5_0,
  g_331w_5_1]
theorem r_331w_5 : vCovBO (eRc e_331k772 L_331k772 cs_331k772 2000 (5, [(0, (3, 772, -1, 0)), (1, (0, -2147483648, 2147483647, 0)), (2, (0, 0, 2147483647, 0)), (3, (0, -2147483648, 2147483647, 0))])) p_331w_5 = true := by decide +kernel
theorem m_331w (d : Nat) : eC e_331w (d + 1) := eC_ref (e := e_331k772) (L := L_331k772) (L' := L_331w) (cs := cs_331k772) (n := 2000) (d := d + 0) (A := A_331k772) (μ := mu_331k772) (tp := true) (p0 := p_331k772_s) (p1 := p_331w_s) (N := n_331) (B := B_331) rfl trivial rfl (.inr pre0_ok) (by decide +kernel) (fun _ => post0_ok) r_331k772_s (allC c_331k772_s_0 allN) (allC (.inl ⟨p_331k772_5, r_331k772_5, fun q0 => (allC c_331k772_5_0 (allC c_331k772_5_1 (allC c_331k772_5_2 (allC c_331k772_5_3 allN))))⟩) allN) trivial r_331w_s (allC c_331w_s_0 allN) (allC ⟨p_331w_5, r_331w_5, fun q0 => (allC c_331w_5_0 (allC c_331w_5_1 allN))⟩ allN)
/- MixStage.clear ([II)V, more fully -/
def nb_203 (a0 a1 : Int) (h0 h : gH) : Prop := 0 ≤ a0 → ∀ i : Nat, (i : Int) < (hN h0 (a0).toNat : Int) → hV h (a0).toNat i = a1
def n_203 : List Int → gH → gH → Prop := fun xs h0 h => match xs with
  | [a0, a1] => nb_203 a0 a1 h0 h
  | _ => True
noncomputable def e_203w : vE := eV e_203k772 n_203
noncomputable def L_203w : List vE := [e_331w]
def B_203 : Int → List Int → gH → gH → Prop := fun c xs h0 h => True
theorem q_203w_0 {n0 n1 : Int} {H0 : gH} (f0 : n0 ≤ 2147483647) (f1 : (-2147483648) ≤ n0) (f2 : hWt T0 H0 ∧ True) (f3 : n1 = -1) : nb_203 n1 n0 H0 H0 := by
  unfold nb_203
  intro p
  exfalso
  omega
def g_203w_s_0 : vG := ([(50, [0], [], 0), (6000, [0, 1], [0], 0), (90, [1], [], -2147483648), (91, [1], [], 2147483647)], (3000, [], [0], 9))
theorem c_203w_s_0 : vOkm T0 (eN e_203k772 L_203w A_203k772 mu_203k772 n_203 B_203 none) 2 g_203w_s_0 := vOk_inI fun ρ η f0 f1 f2 f3 => q_203w_0 (n0 := ρ 1) (n1 := ρ 0) (H0 := η 0) f3 f2 f1 f0
theorem q_203w_1 {n0 n1 : Int} {H0 H1 : gH} (f0 : n0 ≤ 2147483647) (f1 : (-2147483648) ≤ n0) (f2 : hWt T0 H0 ∧ True) (f3 : 0 ≤ n1) (f4 : (hLe T0 H0 H1 ∧ hFr s_331k772.2.2.2.2 H0 H1 ∧ ((0 : Int) = 0 → H1.length = H0.length) ∧ hWt T0 H1) ∧ (True ∧ nb_331 n1 n0 H0 H1)) : nb_203 n1 n0 H0 H1 := by
  unfold nb_203
  intro p
  have q := f4.2.2
  unfold nb_331 at q
  exact q p
def g_203w_s_1 : vG := ([(1331, [0, 1], [0, 1], 0), (51, [0], [], 0), (6000, [0, 1], [0], 0), (90, [1], [], -2147483648), (91, [1], [], 2147483647)], (3000, [], [1], 9))
theorem c_203w_s_1 : vOkm T0 (eN e_203k772 L_203w A_203k772 mu_203k772 n_203 B_203 none) 2 g_203w_s_1 := vOk_inI fun ρ η f0 f1 f2 f3 f4 => q_203w_1 (n0 := ρ 1) (n1 := ρ 0) (H0 := η 0) (H1 := η 1) f4 f3 f2 f1 f0
def p_203w_s : List vG := [g_203w_s_0,
  g_203w_s_1]
theorem r_203w_s : vCovBO (eR0 e_203k772 L_203k772 cs_203k772 2000) p_203w_s = true := by decide +kernel
theorem m_203w (d : Nat) : eC e_203w (d + 2) := eC_ref (e := e_203k772) (L := L_203k772) (L' := L_203w) (cs := cs_203k772) (n := 2000) (d := d + 1) (A := A_203k772) (μ := mu_203k772) (tp := true) (p0 := p_203k772_s) (p1 := p_203w_s) (N := n_203) (B := B_203) rfl ⟨m_331w d, trivial⟩ rfl (.inr pre0_ok) (by decide +kernel) (fun _ => post0_ok) r_203k772_s allN allN (sub1 trivial) r_203w_s (allC c_203w_s_0 (allC c_203w_s_1 allN)) allN
/- Bank.joined ([II)I, more fully -/
def nb_11 (r a0 a1 : Int) (h0 h : gH) : Prop := (hK h0 (a0).toNat = 772 → 0 ≤ a0 → 20 ≤ (hN h0 (a0).toNat : Int) → BTS r (JNp (hV h0 (a0).toNat) a1 20))
def n_11 : List Int → gH → gH → Prop := fun xs h0 h => match xs with
  | [r, a0, a1] => nb_11 r a0 a1 h0 h
  | _ => True
noncomputable def e_11w : vE := eV e_11 n_11
noncomputable def L_11w : List vE := [e_199vk772]
def Bb_11_4 (a0 a1 x0 x1 x2 x3 : Int) (h0 h : gH) : Prop := x0 = a0 ∧ x1 = a1 ∧ 0 ≤ x3 ∧ x3 ≤ 20 ∧ (hK h0 (a0).toNat = 772 → 0 ≤ a0 → 20 ≤ (hN h0 (a0).toNat : Int) → BTS x2 (JNp (hV h0 (a0).toNat) a1 x3))
def B_11 : Int → List Int → gH → gH → Prop := fun c xs h0 h => match c.toNat with
  | 4 => (match xs with
    | [a0, a1, x0, x1, x2, x3] => Bb_11_4 a0 a1 x0 x1 x2 x3 h0 h
    | _ => False)
  | _ => True
theorem q_11w_0 {n0 n1 n2 n3 : Int} {H0 : gH} (f0 : n0 ≤ 2147483647) (f1 : (-2147483648) ≤ n0) (f2 : hWt T0 H0 ∧ True) (f3 : n2 = 0) (f4 : n3 = 0) : Bb_11_4 n1 n0 n1 n0 n2 n3 H0 H0 := by
  unfold Bb_11_4
  exact ⟨rfl, rfl, by omega, by omega, fun _ _ _ => JN_0 (by omega) (by omega)⟩
def g_11w_s_0 : vG := ([(0, [3], [], 0), (0, [2], [], 0), (6000, [0, 1], [0], 0), (90, [1], [], -2147483648), (91, [1], [], 2147483647)], (4000, [0, 1, 2, 3], [0], 4))
theorem c_11w_s_0 : vOkm T0 (eN e_11 L_11w A_11 mu_11 n_11 B_11 none) 2 g_11w_s_0 := vOk_inI fun ρ η f0 f1 f2 f3 f4 => q_11w_0 (n0 := ρ 1) (n1 := ρ 0) (n2 := ρ 2) (n3 := ρ 3) (H0 := η 0) f4 f3 f2 f1 f0
def p_11w_s : List vG := [g_11w_s_0]
theorem r_11w_s : vCovBO (eR0 e_11 L_11 cs_11 2000) p_11w_s = true := by decide +kernel
theorem q_11w_1 {q0 : Nat} {n0 n1 n2 n3 n4 n5 n6 : Int} {H0 H1 : gH} (f0 : n0 ≤ 2147483647) (f1 : (-2147483648) ≤ n0) (f2 : n1 ≤ 2147483647) (f3 : (-2147483648) ≤ n1) (f4 : n2 ≤ 2147483647) (f5 : (-2147483648) ≤ n2) (f6 : n3 ≤ 2147483647) (f7 : (-2147483648) ≤ n3) (f8 : (hLe T0 H0 H1 ∧ hFr s_11.2.2.2.2 H0 H1 ∧ hWt T0 H1) ∧ ((True ∧ Bb_11_4 n4 n3 n5 n2 n1 n0 H0 H1) ∧ True) ∧ some q0 = some (mub_11_4 n4 n3 n5 n2 n1 n0 H0 H1)) (f9 : n6 = 20) (f10 : n6 ≤ n0) : nb_11 n1 n4 n3 H0 H1 := by
  have gb := f8.2.1.1.2
  unfold Bb_11_4 at gb
  obtain ⟨e0, e1, e2, e3, e4⟩ := gb
  have c9 := f9
  unfold nb_11
  intro k p n
  have q := e4 k p n
  rw [show n0 = 20 by omega] at q
  exact q
def g_11w_4_0 : vG := ([(43, [5, 6], [], 0), (0, [6], [], 20), (5000, [0, 1, 2, 3, 4, 5], [0, 1], 4), (90, [1], [], -2147483648), (91, [1], [], 2147483647), (90, [3], [], -2147483648), (91, [3], [], 2147483647), (90, [4], [], -2147483648), (91, [4], [], 2147483647), (90, [5], [], -2147483648), (91, [5], [], 2147483647)], (3000, [4], [1], 33))
theorem c_11w_4_0 {q0 : Nat} : vOkm T0 (eN e_11 L_11w A_11 mu_11 n_11 B_11 (some q0)) 2 g_11w_4_0 := vOk_inI fun ρ η f0 f1 f2 f3 f4 f5 f6 f7 f8 f9 f10 => q_11w_1 (q0 := q0) (n0 := ρ 5) (n1 := ρ 4) (n2 := ρ 3) (n3 := ρ 1) (n4 := ρ 0) (n5 := ρ 2) (n6 := ρ 6) (H0 := η 0) (H1 := η 1) f10 f9 f8 f7 f6 f5 f4 f3 f2 f1 f0
theorem q_11w_2 {q0 : Nat} {n0 n1 n2 n3 n4 n5 n6 n7 n8 n9 n10 : Int} {H0 H1 : gH} (f0 : n0 ≤ 2147483647) (f1 : (-2147483648) ≤ n0) (f2 : n1 ≤ 2147483647) (f3 : (-2147483648) ≤ n1) (f4 : n2 ≤ 2147483647) (f5 : (-2147483648) ≤ n2) (f6 : n3 ≤ 2147483647) (f7 : (-2147483648) ≤ n3) (f8 : (hLe T0 H0 H1 ∧ hFr s_11.2.2.2.2 H0 H1 ∧ hWt T0 H1) ∧ ((True ∧ Bb_11_4 n4 n3 n5 n2 n1 n0 H0 H1) ∧ True) ∧ some q0 = some (mub_11_4 n4 n3 n5 n2 n1 n0 H0 H1)) (f9 : n6 = 20) (f10 : n0 < n6) (f11 : n7 = o32 (fun x y => (x.toUInt32 >>> (y.toUInt32 &&& Int32.toUInt32 31)).toInt32) n2 n0) (f12 : n8 = 1) (f13 : n9 = o32 (fun x y => x &&& y) n7 n8) (f14 : n9 = 0) (f15 : n10 = w32 (n0 + 1)) : Bb_11_4 n4 n3 n5 n2 n1 n10 H0 H1 := by
  have gb := f8.2.1.1.2
  unfold Bb_11_4 at gb
  obtain ⟨e0, e1, e2, e3, e4⟩ := gb
  have c9 := f9
  have c12 := f12
  have w15 := f15
  unfold w32 at w15
  have bu := bt_utest f11 f13 f12 (by omega) (by omega)
  rw [e1] at bu
  unfold Bb_11_4
  exact ⟨e0, e1, by omega, by omega, fun k p n => JN_skip (e4 k p n) e2 (fun w => (bu.mpr w) f14) (by omega)⟩
def g_11w_4_1 : vG := ([(10, [10, 5], [], 1), (30, [9], [], 0), (4, [9, 7, 8], [], 0), (0, [8], [], 1), (9, [7, 3, 5], [], 0), (42, [5, 6], [], 0), (0, [6], [], 20), (5000, [0, 1, 2, 3, 4, 5], [0, 1], 4), (90, [1], [], -2147483648), (91, [1], [], 2147483647), (90, [3], [], -2147483648), (91, [3], [], 2147483647), (90, [4], [], -2147483648), (91, [4], [], 2147483647), (90, [5], [], -2147483648), (91, [5], [], 2147483647)], (4000, [2, 3, 4, 10], [1], 4))
theorem c_11w_4_1 {q0 : Nat} : vOkm T0 (eN e_11 L_11w A_11 mu_11 n_11 B_11 (some q0)) 2 g_11w_4_1 := vOk_inI fun ρ η f0 f1 f2 f3 f4 f5 f6 f7 f8 f9 f10 f11 f12 f13 f14 f15 => q_11w_2 (q0 := q0) (n0 := ρ 5) (n1 := ρ 4) (n2 := ρ 3) (n3 := ρ 1) (n4 := ρ 0) (n5 := ρ 2) (n6 := ρ 6) (n7 := ρ 7) (n8 := ρ 8) (n9 := ρ 9) (n10 := ρ 10) (H0 := η 0) (H1 := η 1) f15 f14 f13 f12 f11 f10 f9 f8 f7 f6 f5 f4 f3 f2 f1 f0
theorem q_11w_3 {q0 : Nat} {n0 n1 n2 n3 n4 n5 n6 n7 n8 n9 n10 n11 n12 : Int} {H0 H1 H2 : gH} (f0 : n0 ≤ 2147483647) (f1 : (-2147483648) ≤ n0) (f2 : n1 ≤ 2147483647) (f3 : (-2147483648) ≤ n1) (f4 : n2 ≤ 2147483647) (f5 : (-2147483648) ≤ n2) (f6 : n3 ≤ 2147483647) (f7 : (-2147483648) ≤ n3) (f8 : (hLe T0 H0 H1 ∧ hFr s_11.2.2.2.2 H0 H1 ∧ hWt T0 H1) ∧ ((True ∧ Bb_11_4 n4 n3 n5 n2 n1 n0 H0 H1) ∧ True) ∧ some q0 = some (mub_11_4 n4 n3 n5 n2 n1 n0 H0 H1)) (f9 : n6 = 20) (f10 : n0 < n6) (f11 : n7 = o32 (fun x y => (x.toUInt32 >>> (y.toUInt32 &&& Int32.toUInt32 31)).toInt32) n2 n0) (f12 : n8 = 1) (f13 : n9 = o32 (fun x y => x &&& y) n7 n8) (f14 : n9 ≠ 0) (f15 : n10 ≤ 2147483647) (f16 : (-2147483648) ≤ n10) (f17 : (hLe T0 H1 H2 ∧ hFr s_199k772.2.2.2.2 H1 H2 ∧ ((0 : Int) = 0 → H2.length = H1.length) ∧ hWt T0 H2) ∧ postb_199vk772 n10 n5 n0 H1 H2) (f18 : n11 = o32 (fun x y => x ||| y) n1 n10) (f19 : n12 = w32 (n0 + 1)) : Bb_11_4 n4 n3 n5 n2 n11 n12 H0 H2 := by
  have gb := f8.2.1.1.2
  unfold Bb_11_4 at gb
  obtain ⟨e0, e1, e2, e3, e4⟩ := gb
  have c9 := f9
  have c12 := f12
  have w19 := f19
  unfold w32 at w19
  have bu := bt_utest f11 f13 f12 (by omega) (by omega)
  rw [e1] at bu
  unfold Bb_11_4
  refine ⟨e0, e1, by omega, by omega, fun k p n => ?_⟩
  have r1 := RW772 f8.1.1 f8.1.2.1 (by decide +kernel) k
  have q := f17.2
  unfold postb_199vk772 at q
  rw [e0] at q
  have q := atQ_in q p e2 (by rw [r1.2.1]; omega)
  rw [r1.1] at q
  exact JN_add (e4 k p n) e2 (bu.mp f14) f18 q (by omega)
def g_11w_4_2 : vG := ([(10, [12, 5], [], 1), (5, [11, 4, 10], [], 0), (1199, [10, 2, 5], [1, 2], 0), (90, [10], [], -2147483648), (91, [10], [], 2147483647), (31, [9], [], 0), (4, [9, 7, 8], [], 0), (0, [8], [], 1), (9, [7, 3, 5], [], 0), (42, [5, 6], [], 0), (0, [6], [], 20), (5000, [0, 1, 2, 3, 4, 5], [0, 1], 4), (90, [1], [], -2147483648), (91, [1], [], 2147483647), (90, [3], [], -2147483648), (91, [3], [], 2147483647), (90, [4], [], -2147483648), (91, [4], [], 2147483647), (90, [5], [], -2147483648), (91, [5], [], 2147483647)], (4000, [2, 3, 11, 12], [2], 4))
theorem c_11w_4_2 {q0 : Nat} : vOkm T0 (eN e_11 L_11w A_11 mu_11 n_11 B_11 (some q0)) 2 g_11w_4_2 := vOk_inI fun ρ η f0 f1 f2 f3 f4 f5 f6 f7 f8 f9 f10 f11 f12 f13 f14 f15 f16 f17 f18 f19 => q_11w_3 (q0 := q0) (n0 := ρ 5) (n1 := ρ 4) (n2 := ρ 3) (n3 := ρ 1) (n4 := ρ 0) (n5 := ρ 2) (n6 := ρ 6) (n7 := ρ 7) (n8 := ρ 8) (n9 := ρ 9) (n10 := ρ 10) (n11 := ρ 11) (n12 := ρ 12) (H0 := η 0) (H1 := η 1) (H2 := η 2) f19 f18 f17 f16 f15 f14 f13 f12 f11 f10 f9 f8 f7 f6 f5 f4 f3 f2 f1 f0
def p_11w_4 : List vG := [g_11w_4_0,
  g_11w_4_1,
  g_11w_4_2]
theorem r_11w_4 : vCovBO (eRc e_11 L_11 cs_11 2000 (4, [(0, (2, 772, -1, 0)), (1, (0, -2147483648, 2147483647, 0)), (2, (0, -2147483648, 2147483647, 0)), (3, (0, -2147483648, 2147483647, 0))])) p_11w_4 = true := by decide +kernel
theorem m_11w (d : Nat) : eC e_11w (d + 2) := eC_ref (e := e_11) (L := L_11) (L' := L_11w) (cs := cs_11) (n := 2000) (d := d + 1) (A := A_11) (μ := mu_11) (tp := true) (p0 := p_11_s) (p1 := p_11w_s) (N := n_11) (B := B_11) rfl ⟨m_199vk772 d, trivial⟩ rfl (.inr pre0_ok) (by decide +kernel) (fun _ => post0_ok) r_11_s (allC c_11_s_0 allN) (allC (.inl ⟨p_11_4, r_11_4, fun q0 => (allC c_11_4_0 (allC c_11_4_1 allN))⟩) allN) ⟨⟨rfl, rfl, rfl, fun _ _ _ _ => trivial⟩, trivial⟩ r_11w_s (allC c_11w_s_0 allN) (allC ⟨p_11w_4, r_11w_4, fun q0 => (allC c_11w_4_0 (allC c_11w_4_1 (allC c_11w_4_2 allN)))⟩ allN)
/- Bank.leansAtOnce (LMixStage$Sound;)I, more fully -/
def nb_10 (r a0 a1 : Int) (h0 h : gH) : Prop := r = LAo h0 a1
def n_10 : List Int → gH → gH → Prop := fun xs h0 h => match xs with
  | [r, a0, a1] => nb_10 r a0 a1 h0 h
  | _ => True
noncomputable def e_10w : vE := eV e_10 n_10
noncomputable def L_10w : List vE := []
def B_10 : Int → List Int → gH → gH → Prop := fun c xs h0 h => True
theorem q_10w_0 {n0 n1 n2 : Int} {H0 : gH} (f0 : n0 = 23) (f1 : hWt T0 H0 ∧ True) (f2 : n1 = -1) (f3 : n2 = 0) : nb_10 n2 n0 n1 H0 H0 := by
  unfold nb_10 LAo
  have c0 := f0
  have c3 := f3
  rw [if_pos (by omega)]
  omega
def g_10w_s_0 : vG := ([(0, [2], [], 0), (50, [1], [], 0), (6000, [0, 1], [0], 0), (0, [0], [], 23)], (3000, [2], [0], 5))
theorem c_10w_s_0 : vOkm T0 (eN e_10 L_10w A_10 mu_10 n_10 B_10 none) 2 g_10w_s_0 := vOk_inI fun ρ η f0 f1 f2 f3 => q_10w_0 (n0 := ρ 0) (n1 := ρ 1) (n2 := ρ 2) (H0 := η 0) f3 f2 f1 f0
theorem q_10w_1 {n0 n1 n2 n3 n4 n5 n6 n7 : Int} {H0 : gH} (f0 : n0 = 23) (f1 : hWt T0 H0 ∧ True) (f2 : 0 ≤ n1) (f3 : hK H0 (n1).toNat = 7) (f4 : n2 = hV H0 (n1).toNat 10) (f5 : n2 = -1) (f6 : n3 ≤ 2147483647) (f7 : (-2147483648) ≤ n3) (f8 : hK H0 (n1).toNat = 7) (f9 : n3 = hV H0 (n1).toNat 3) (f10 : n4 = (-1)) (f11 : n3 ≠ n4) (f12 : n5 = 1) (f13 : n6 ≤ 2147483647) (f14 : (-2147483648) ≤ n6) (f15 : hK H0 (n1).toNat = 7) (f16 : n6 = hV H0 (n1).toNat 3) (f17 : n7 = o32 (fun x y => x <<< (y &&& 31)) n5 n6) : nb_10 n7 n0 n1 H0 H0 := by
  unfold nb_10 LAo
  have c0 := f0
  have c10 := f10
  have c12 := f12
  rw [if_neg (by omega), ← f4]
  rw [if_neg (by omega), ← f9]
  rw [if_neg (by omega)]
  have q := f17
  rw [f12] at q
  rw [f16, ← f9] at q
  exact q
def g_10w_s_1 : vG := ([(7, [7, 5, 6], [], 0), (20, [6, 1], [0], 3), (23, [1], [0], 7), (90, [6], [], -2147483648), (91, [6], [], 2147483647), (0, [5], [], 1), (41, [3, 4], [], 0), (0, [4], [], -1), (20, [3, 1], [0], 3), (23, [1], [0], 7), (90, [3], [], -2147483648), (91, [3], [], 2147483647), (50, [2], [], 0), (20, [2, 1], [0], 10), (23, [1], [0], 7), (51, [1], [], 0), (6000, [0, 1], [0], 0), (0, [0], [], 23)], (3000, [7], [0], 38))
theorem c_10w_s_1 : vOkm T0 (eN e_10 L_10w A_10 mu_10 n_10 B_10 none) 2 g_10w_s_1 := vOk_inI fun ρ η f0 f1 f2 f3 f4 f5 f6 f7 f8 f9 f10 f11 f12 f13 f14 f15 f16 f17 => q_10w_1 (n0 := ρ 0) (n1 := ρ 1) (n2 := ρ 2) (n3 := ρ 3) (n4 := ρ 4) (n5 := ρ 5) (n6 := ρ 6) (n7 := ρ 7) (H0 := η 0) f17 f16 f15 f14 f13 f12 f11 f10 f9 f8 f7 f6 f5 f4 f3 f2 f1 f0
theorem q_10w_2 {n0 n1 n2 n3 n4 n5 : Int} {H0 : gH} (f0 : n0 = 23) (f1 : hWt T0 H0 ∧ True) (f2 : 0 ≤ n1) (f3 : hK H0 (n1).toNat = 7) (f4 : n2 = hV H0 (n1).toNat 10) (f5 : n2 = -1) (f6 : n3 ≤ 2147483647) (f7 : (-2147483648) ≤ n3) (f8 : hK H0 (n1).toNat = 7) (f9 : n3 = hV H0 (n1).toNat 3) (f10 : n4 = (-1)) (f11 : n3 = n4) (f12 : n5 = 0) : nb_10 n5 n0 n1 H0 H0 := by
  unfold nb_10 LAo
  have c0 := f0
  have c10 := f10
  have c12 := f12
  rw [if_neg (by omega), ← f4]
  rw [if_neg (by omega), ← f9]
  rw [if_pos (by omega)]
  omega
def g_10w_s_2 : vG := ([(0, [5], [], 0), (40, [3, 4], [], 0), (0, [4], [], -1), (20, [3, 1], [0], 3), (23, [1], [0], 7), (90, [3], [], -2147483648), (91, [3], [], 2147483647), (50, [2], [], 0), (20, [2, 1], [0], 10), (23, [1], [0], 7), (51, [1], [], 0), (6000, [0, 1], [0], 0), (0, [0], [], 23)], (3000, [5], [0], 38))
theorem c_10w_s_2 : vOkm T0 (eN e_10 L_10w A_10 mu_10 n_10 B_10 none) 2 g_10w_s_2 := vOk_inI fun ρ η f0 f1 f2 f3 f4 f5 f6 f7 f8 f9 f10 f11 f12 => q_10w_2 (n0 := ρ 0) (n1 := ρ 1) (n2 := ρ 2) (n3 := ρ 3) (n4 := ρ 4) (n5 := ρ 5) (H0 := η 0) f12 f11 f10 f9 f8 f7 f6 f5 f4 f3 f2 f1 f0
theorem q_10w_3 {n0 n1 n2 n3 : Int} {H0 : gH} (f0 : n0 = 23) (f1 : hWt T0 H0 ∧ True) (f2 : 0 ≤ n1) (f3 : hK H0 (n1).toNat = 7) (f4 : n2 = hV H0 (n1).toNat 10) (f5 : 0 ≤ n2) (f6 : n3 ≤ 2147483647) (f7 : (-2147483648) ≤ n3) (f8 : hK H0 (n2).toNat = 6) (f9 : n3 = hV H0 (n2).toNat 3) : nb_10 n3 n0 n1 H0 H0 := by
  unfold nb_10 LAo
  have c0 := f0
  rw [if_neg (by omega), ← f4]
  rw [if_pos (by omega)]
  first | exact f9 | omega
def g_10w_s_3 : vG := ([(20, [3, 2], [0], 3), (23, [2], [0], 6), (90, [3], [], -2147483648), (91, [3], [], 2147483647), (51, [2], [], 0), (20, [2, 1], [0], 10), (23, [1], [0], 7), (51, [1], [], 0), (6000, [0, 1], [0], 0), (0, [0], [], 23)], (3000, [3], [0], 19))
theorem c_10w_s_3 : vOkm T0 (eN e_10 L_10w A_10 mu_10 n_10 B_10 none) 2 g_10w_s_3 := vOk_inI fun ρ η f0 f1 f2 f3 f4 f5 f6 f7 f8 f9 => q_10w_3 (n0 := ρ 0) (n1 := ρ 1) (n2 := ρ 2) (n3 := ρ 3) (H0 := η 0) f9 f8 f7 f6 f5 f4 f3 f2 f1 f0
def p_10w_s : List vG := [g_10w_s_0,
  g_10w_s_1,
  g_10w_s_2,
  g_10w_s_3]
theorem r_10w_s : vCovBO (eR0 e_10 L_10 cs_10 2000) p_10w_s = true := by decide +kernel
theorem m_10w (d : Nat) : eC e_10w (d + 1) := eC_ref (e := e_10) (L := L_10) (L' := L_10w) (cs := cs_10) (n := 2000) (d := d + 0) (A := A_10) (μ := mu_10) (tp := true) (p0 := p_10_s) (p1 := p_10w_s) (N := n_10) (B := B_10) rfl trivial rfl (.inr pre0_ok) (by decide +kernel) (fun _ => post0_ok) r_10_s allN allN trivial r_10w_s (allC c_10w_s_0 (allC c_10w_s_1 (allC c_10w_s_2 (allC c_10w_s_3 allN)))) allN
/- Bank.findLeaning ()V, more fully -/
def nb_12 (a0 : Int) (h0 h : gH) : Prop := ∀ (nx : Nat → Nat → Prop) (rk : Nat → Nat), LNC h0 nx rk → ∀ i : Nat, (i : Int) < (hV h0 23 1) → BTS (hV h 28 i) (LSp (hV h0 23 1) nx i)
def n_12 : List Int → gH → gH → Prop := fun xs h0 h => match xs with
  | [a0] => nb_12 a0 h0 h
  | _ => True
noncomputable def e_12w : vE := eV e_12 n_12
noncomputable def L_12w : List vE := [e_2v, e_10w, e_11w, e_199vk772, e_201vk772, e_203w]
def Bb_12_12 (a0 x0 x1 x2 : Int) (h0 h : gH) : Prop := 0 ≤ x1 ∧ x1 ≤ 1 ∧ (∀ (nx : Nat → Nat → Prop) (rk : Nat → Nat), LNC h0 nx rk → LNO (hV h0 23 1) nx rk (hV h 28) x2 x1)
def Bb_12_26 (a0 x0 x1 x2 x3 : Int) (h0 h : gH) : Prop := 0 ≤ x1 ∧ x1 ≤ 1 ∧ (∀ (nx : Nat → Nat → Prop) (rk : Nat → Nat), LNC h0 nx rk →  x2 ≤ 20 ∧ LNI (hV h0 23 1) nx rk (hV h 28) x2 x3 x1)
def B_12 : Int → List Int → gH → gH → Prop := fun c xs h0 h => match c.toNat with
  | 12 => (match xs with
    | [a0, x0, x1, x2] => Bb_12_12 a0 x0 x1 x2 h0 h
    | _ => False)
  | 26 => (match xs with
    | [a0, x0, x1, x2, x3] => Bb_12_26 a0 x0 x1 x2 x3 h0 h
    | _ => False)
  | _ => True
theorem q_12w_0 {n0 n1 n2 n3 n4 : Int} {H0 H1 : gH} (f0 : n0 = 23) (f1 : hWt T0 H0 ∧ True) (f2 : n1 = 28) (f3 : hK H0 (n0).toNat = 0) (f4 : n1 = hV H0 (n0).toNat 6) (f5 : n2 = 0) (f6 : (hLe T0 H0 H1 ∧ hFr s_203k772.2.2.2.2 H0 H1 ∧ ((0 : Int) = 0 → H1.length = H0.length) ∧ hWt T0 H1) ∧ (True ∧ nb_203 n1 n2 H0 H1)) (f7 : n3 = 1) (f8 : n4 = 0) : Bb_12_12 n0 n0 n3 n4 H0 H1 := by
  have c0 := f0
  have c2 := f2
  have c5 := f5
  have c7 := f7
  have c8 := f8
  unfold Bb_12_12
  refine ⟨by omega, by omega, fun nx rk z => LNO_0 (fun i hi => ?_) (by omega) (by omega)⟩
  have q := f6.2.2
  unfold nb_203 at q
  rw [f2, f5] at q
  have n28 := z.1.2
  have s20 := z.2.2.1
  exact q (by decide) i (by show (i : Int) < (hN H0 28 : Int); omega)
def g_12w_s_0 : vG := ([(0, [4], [], 0), (0, [3], [], 1), (1203, [1, 2], [0, 1], 0), (0, [2], [], 0), (20, [1, 0], [0], 6), (23, [0], [0], 0), (0, [1], [], 28), (6000, [0], [0], 0), (0, [0], [], 23)], (4000, [0, 3, 4], [1], 12))
theorem c_12w_s_0 : vOkm T0 (eN e_12 L_12w A_12 mu_12 n_12 B_12 none) 1 g_12w_s_0 := vOk_inI fun ρ η f0 f1 f2 f3 f4 f5 f6 f7 f8 => q_12w_0 (n0 := ρ 0) (n1 := ρ 1) (n2 := ρ 2) (n3 := ρ 3) (n4 := ρ 4) (H0 := η 0) (H1 := η 1) f8 f7 f6 f5 f4 f3 f2 f1 f0
def p_12w_s : List vG := [g_12w_s_0]
theorem r_12w_s : vCovBO (eR0 e_12 L_12 cs_12 2000) p_12w_s = true := by decide +kernel
theorem q_12w_1 {q0 : Nat} {n0 n1 n2 n3 n4 : Int} {H0 H1 : gH} (f0 : n0 ≤ 2147483647) (f1 : (-2147483648) ≤ n0) (f2 : n1 ≤ 2147483647) (f3 : (-2147483648) ≤ n1) (f4 : n2 = 23) (f5 : n3 = 23) (f6 : (hLe T0 H0 H1 ∧ hFr s_12.2.2.2.2 H0 H1 ∧ hWt T0 H1) ∧ ((True ∧ Bb_12_12 n3 n2 n1 n0 H0 H1) ∧ True) ∧ some q0 = some (mub_12_12 n3 n2 n1 n0 H0 H1)) (f7 : n4 = 20) (f8 : n4 < n0) : nb_12 n3 H0 H1 := by
  have c4 := f4
  have c5 := f5
  have c7 := f7
  have gb := f6.2.1.1.2
  unfold Bb_12_12 at gb
  obtain ⟨b0, b1, gb⟩ := gb
  unfold nb_12
  intro nx rk z
  exact LNO_fin (gb nx rk z) z.2.2.2.2 (by omega)
def g_12w_12_0 : vG := ([(44, [3, 4], [], 0), (0, [4], [], 20), (5000, [0, 1, 2, 3], [0, 1], 12), (0, [0], [], 23), (0, [1], [], 23), (90, [2], [], -2147483648), (91, [2], [], 2147483647), (90, [3], [], -2147483648), (91, [3], [], 2147483647)], (3000, [], [1], 102))
theorem c_12w_12_0 {q0 : Nat} : vOkm T0 (eN e_12 L_12w A_12 mu_12 n_12 B_12 (some q0)) 1 g_12w_12_0 := vOk_inI fun ρ η f0 f1 f2 f3 f4 f5 f6 f7 f8 => q_12w_1 (q0 := q0) (n0 := ρ 3) (n1 := ρ 2) (n2 := ρ 1) (n3 := ρ 0) (n4 := ρ 4) (H0 := η 0) (H1 := η 1) f8 f7 f6 f5 f4 f3 f2 f1 f0
theorem q_12w_2 {q0 : Nat} {n0 n1 n2 n3 n4 : Int} {H0 H1 : gH} (f0 : n0 ≤ 2147483647) (f1 : (-2147483648) ≤ n0) (f2 : n1 ≤ 2147483647) (f3 : (-2147483648) ≤ n1) (f4 : n2 = 23) (f5 : n3 = 23) (f6 : (hLe T0 H0 H1 ∧ hFr s_12.2.2.2.2 H0 H1 ∧ hWt T0 H1) ∧ ((True ∧ Bb_12_12 n3 n2 n1 n0 H0 H1) ∧ True) ∧ some q0 = some (mub_12_12 n3 n2 n1 n0 H0 H1)) (f7 : n4 = 20) (f8 : n0 ≤ n4) (f9 : n1 = 0) : nb_12 n3 H0 H1 := by
  have c4 := f4
  have c5 := f5
  have c7 := f7
  have gb := f6.2.1.1.2
  unfold Bb_12_12 at gb
  obtain ⟨b0, b1, gb⟩ := gb
  unfold nb_12
  intro nx rk z
  exact LNO_fin (gb nx rk z) z.2.2.2.2 (by omega)
def g_12w_12_1 : vG := ([(30, [2], [], 0), (45, [3, 4], [], 0), (0, [4], [], 20), (5000, [0, 1, 2, 3], [0, 1], 12), (0, [0], [], 23), (0, [1], [], 23), (90, [2], [], -2147483648), (91, [2], [], 2147483647), (90, [3], [], -2147483648), (91, [3], [], 2147483647)], (3000, [], [1], 102))
theorem c_12w_12_1 {q0 : Nat} : vOkm T0 (eN e_12 L_12w A_12 mu_12 n_12 B_12 (some q0)) 1 g_12w_12_1 := vOk_inI fun ρ η f0 f1 f2 f3 f4 f5 f6 f7 f8 f9 => q_12w_2 (q0 := q0) (n0 := ρ 3) (n1 := ρ 2) (n2 := ρ 1) (n3 := ρ 0) (n4 := ρ 4) (H0 := η 0) (H1 := η 1) f9 f8 f7 f6 f5 f4 f3 f2 f1 f0
theorem q_12w_3 {q0 : Nat} {n0 n1 n2 n3 n4 n5 n6 : Int} {H0 H1 : gH} (f0 : n0 ≤ 2147483647) (f1 : (-2147483648) ≤ n0) (f2 : n1 ≤ 2147483647) (f3 : (-2147483648) ≤ n1) (f4 : n2 = 23) (f5 : n3 = 23) (f6 : (hLe T0 H0 H1 ∧ hFr s_12.2.2.2.2 H0 H1 ∧ hWt T0 H1) ∧ ((True ∧ Bb_12_12 n3 n2 n1 n0 H0 H1) ∧ True) ∧ some q0 = some (mub_12_12 n3 n2 n1 n0 H0 H1)) (f7 : n4 = 20) (f8 : n0 ≤ n4) (f9 : n1 ≠ 0) (f10 : n5 = 0) (f11 : n6 = 0) : Bb_12_26 n3 n2 n5 n0 n6 H0 H1 := by
  have c4 := f4
  have c5 := f5
  have c7 := f7
  have c10 := f10
  have c11 := f11
  have gb := f6.2.1.1.2
  unfold Bb_12_12 at gb
  obtain ⟨b0, b1, gb⟩ := gb
  unfold Bb_12_26
  exact ⟨by omega, by omega, fun nx rk z => ⟨by omega, LNO_in (gb nx rk z) (by omega)⟩⟩
def g_12w_12_2 : vG := ([(0, [6], [], 0), (0, [5], [], 0), (31, [2], [], 0), (45, [3, 4], [], 0), (0, [4], [], 20), (5000, [0, 1, 2, 3], [0, 1], 12), (0, [0], [], 23), (0, [1], [], 23), (90, [2], [], -2147483648), (91, [2], [], 2147483647), (90, [3], [], -2147483648), (91, [3], [], 2147483647)], (4000, [1, 5, 3, 6], [1], 26))
theorem c_12w_12_2 {q0 : Nat} : vOkm T0 (eN e_12 L_12w A_12 mu_12 n_12 B_12 (some q0)) 1 g_12w_12_2 := vOk_inI fun ρ η f0 f1 f2 f3 f4 f5 f6 f7 f8 f9 f10 f11 => q_12w_3 (q0 := q0) (n0 := ρ 3) (n1 := ρ 2) (n2 := ρ 1) (n3 := ρ 0) (n4 := ρ 4) (n5 := ρ 5) (n6 := ρ 6) (H0 := η 0) (H1 := η 1) f11 f10 f9 f8 f7 f6 f5 f4 f3 f2 f1 f0
def p_12w_12 : List vG := [g_12w_12_0,
  g_12w_12_1,
  g_12w_12_2]
theorem r_12w_12 : vCovBO (eRc e_12 L_12 cs_12 2000 (12, [(0, (3, 0, 23, 0)), (1, (0, -2147483648, 2147483647, 0)), (2, (0, -2147483648, 2147483647, 0))])) p_12w_12 = true := by decide +kernel
theorem q_12w_4 {q0 : Nat} {n0 n1 n2 n3 n4 n5 n6 : Int} {H0 H1 : gH} (f0 : n0 ≤ 2147483647) (f1 : (-2147483648) ≤ n0) (f2 : n1 ≤ 2147483646) (f3 : (-2147483648) ≤ n1) (f4 : n2 ≤ 2147483647) (f5 : (-2147483648) ≤ n2) (f6 : n3 = 23) (f7 : n4 = 23) (f8 : (hLe T0 H0 H1 ∧ hFr s_12.2.2.2.2 H0 H1 ∧ hWt T0 H1) ∧ ((True ∧ Bb_12_26 n4 n3 n2 n1 n0 H0 H1) ∧ True) ∧ some q0 = some (mub_12_26 n4 n3 n2 n1 n0 H0 H1)) (f9 : n5 ≤ 20) (f10 : 0 ≤ n5) (f11 : hK H1 (n3).toNat = 0) (f12 : n5 = hV H1 (n3).toNat 1) (f13 : n5 ≤ n0) (f14 : n6 = w32 (n1 + 1)) : Bb_12_12 n4 n3 n2 n6 H0 H1 := by
  have c6 := f6
  have c7 := f7
  have w14 := f14
  unfold w32 at w14
  have gb := f8.2.1.1.2
  unfold Bb_12_26 at gb
  obtain ⟨b0, b1, gb⟩ := gb
  have e1 : n5 = hV H0 23 1 := by
    have w := f12
    rw [f6] at w
    exact w.trans (f8.1.2.1.1 23 1 (by decide +kernel))
  unfold Bb_12_12
  refine ⟨by omega, by omega, fun nx rk z => ?_⟩
  obtain ⟨l0, l1⟩ := gb nx rk z
  exact LNI_end l1 (by omega) (by have := l1.1; omega)
def g_12w_26_0 : vG := ([(10, [6, 3], [], 1), (43, [4, 5], [], 0), (20, [5, 1], [1], 1), (23, [1], [1], 0), (90, [5], [], 0), (91, [5], [], 20), (5000, [0, 1, 2, 3, 4], [0, 1], 26), (0, [0], [], 23), (0, [1], [], 23), (90, [2], [], -2147483648), (91, [2], [], 2147483647), (90, [3], [], -2147483648), (91, [3], [], 2147483646), (90, [4], [], -2147483648), (91, [4], [], 2147483647)], (4000, [1, 2, 6], [1], 12))
theorem c_12w_26_0 {q0 : Nat} : vOkm T0 (eN e_12 L_12w A_12 mu_12 n_12 B_12 (some q0)) 1 g_12w_26_0 := vOk_inI fun ρ η f0 f1 f2 f3 f4 f5 f6 f7 f8 f9 f10 f11 f12 f13 f14 => q_12w_4 (q0 := q0) (n0 := ρ 4) (n1 := ρ 3) (n2 := ρ 2) (n3 := ρ 1) (n4 := ρ 0) (n5 := ρ 5) (n6 := ρ 6) (H0 := η 0) (H1 := η 1) f14 f13 f12 f11 f10 f9 f8 f7 f6 f5 f4 f3 f2 f1 f0
theorem q_12w_5 {q0 : Nat} {n0 n1 n2 n3 n4 n5 n6 n7 n8 n9 n10 n11 n12 n13 n14 n15 n16 : Int} {H0 H1 H2 H3 H4 H5 H6 : gH} (f0 : n0 ≤ 2147483647) (f1 : (-2147483648) ≤ n0) (f2 : n1 ≤ 2147483646) (f3 : (-2147483648) ≤ n1) (f4 : n2 ≤ 2147483647) (f5 : (-2147483648) ≤ n2) (f6 : n3 = 23) (f7 : n4 = 23) (f8 : (hLe T0 H0 H1 ∧ hFr s_12.2.2.2.2 H0 H1 ∧ hWt T0 H1) ∧ ((True ∧ Bb_12_26 n4 n3 n2 n1 n0 H0 H1) ∧ True) ∧ some q0 = some (mub_12_26 n4 n3 n2 n1 n0 H0 H1)) (f9 : n5 ≤ 20) (f10 : 0 ≤ n5) (f11 : hK H1 (n3).toNat = 0) (f12 : n5 = hV H1 (n3).toNat 1) (f13 : n0 < n5) (f14 : (hLe T0 H1 H2 ∧ hFr s_2.2.2.2.2 H1 H2 ∧ ((0 : Int) = 0 → H2.length = H1.length) ∧ hWt T0 H2) ∧ postb_2v n6 n3 n0 H1 H2) (f15 : n7 ≤ 2147483647) (f16 : (-2147483648) ≤ n7) (f17 : (hLe T0 H2 H3 ∧ hFr s_10.2.2.2.2 H2 H3 ∧ ((0 : Int) = 0 → H3.length = H2.length) ∧ hWt T0 H3) ∧ (True ∧ nb_10 n7 n3 n6 H2 H3)) (f18 : n8 = 28) (f19 : hK H3 (n3).toNat = 0) (f20 : n8 = hV H3 (n3).toNat 6) (f21 : n9 ≤ 2147483647) (f22 : (-2147483648) ≤ n9) (f23 : (hLe T0 H3 H4 ∧ hFr s_11.2.2.2.2 H3 H4 ∧ ((0 : Int) = 0 → H4.length = H3.length) ∧ hWt T0 H4) ∧ (True ∧ nb_11 n9 n8 n7 H3 H4)) (f24 : n10 = o32 (fun x y => x ||| y) n7 n9) (f25 : n11 = 28) (f26 : hK H4 (n3).toNat = 0) (f27 : n11 = hV H4 (n3).toNat 6) (f28 : n12 ≤ 2147483647) (f29 : (-2147483648) ≤ n12) (f30 : (hLe T0 H4 H5 ∧ hFr s_199k772.2.2.2.2 H4 H5 ∧ ((0 : Int) = 0 → H5.length = H4.length) ∧ hWt T0 H5) ∧ postb_199vk772 n12 n11 n0 H4 H5) (f31 : n10 = n12) (f32 : n13 = 0) (f33 : n14 = o32 (fun x y => x ||| y) n2 n13) (f34 : n15 = 28) (f35 : hK H5 (n3).toNat = 0) (f36 : n15 = hV H5 (n3).toNat 6) (f37 : (hLe T0 H5 H6 ∧ hFr s_201k772.2.2.2.2 H5 H6 ∧ ((0 : Int) = 0 → H6.length = H5.length) ∧ hWt T0 H6) ∧ postb_201vk772 n15 n0 n10 H5 H6) (f38 : n16 = w32 (n0 + 1)) : Bb_12_26 n4 n3 n14 n1 n16 H0 H6 := by
  have c6 := f6
  have c7 := f7
  have c18 := f18
  have c25 := f25
  have c32 := f32
  have c34 := f34
  have w38 := f38
  unfold w32 at w38
  have gb := f8.2.1.1.2
  unfold Bb_12_26 at gb
  obtain ⟨b0, b1, gb⟩ := gb
  have e1 : n5 = hV H0 23 1 := by
    have w := f12
    rw [f6] at w
    exact w.trans (f8.1.2.1.1 23 1 (by decide +kernel))
  have mb := or_b f33 b0 b1 (by omega) (by omega)
  unfold Bb_12_26
  refine ⟨by omega, by omega, fun nx rk z => ?_⟩
  obtain ⟨l0, l1⟩ := gb nx rk z
  have n0_ := l1.2.1
  have s20 := z.2.2.1
  refine ⟨by omega, ?_⟩
  have z1 := LNC_fr f8.1.1 f8.1.2.1 (by decide +kernel) z
  have y1 : hV H1 23 1 = hV H0 23 1 := f8.1.2.1.1 23 1 (by decide +kernel)
  have qg := f14.2
  unfold postb_2v at qg
  have eg : n6 = hV H1 24 (n0).toNat := by
    rcases qg with w | w
    · exact w.2.2
    · exact absurd ⟨n0_, by omega⟩ w.2
  have sk := (z1.2.1 (n0).toNat (by omega)).2
  rw [← eg] at sk
  have onc := z1.2.2.2.1 (n0).toNat (by omega)
  rw [← eg] at onc
  have ql := f17.2
  have ql := ql.2
  unfold nb_10 at ql
  rw [show LAo H2 n6 = LAo H1 n6 from LAo_fr f14.1.2.1 (by decide +kernel) sk] at ql
  rw [← ql] at onc
  have k28 := z1.1.1
  have n28 := z1.1.2
  have qj := f23.2.2
  unfold nb_11 at qj
  rw [f18] at qj
  have qj := qj (RW772 f17.1.1 f17.1.2.1 (by decide +kernel) (RW772 f14.1.1 f14.1.2.1 (by decide +kernel) k28).2.2).2.2 (by decide) (by rw [show hN H3 ((28 : Int)).toNat = hN H1 28 from ((RW772 f17.1.1 f17.1.2.1 (by decide +kernel) (RW772 f14.1.1 f14.1.2.1 (by decide +kernel) k28).2.2).2.1).trans ((RW772 f14.1.1 f14.1.2.1 (by decide +kernel) k28).2.1)]; omega)
  rw [show hV H3 ((28 : Int)).toNat = hV H1 28 from ((RW772 f17.1.1 f17.1.2.1 (by decide +kernel) (RW772 f14.1.1 f14.1.2.1 (by decide +kernel) k28).2.2).1).trans ((RW772 f14.1.1 f14.1.2.1 (by decide +kernel) k28).1)] at qj
  have qp := f37.2
  unfold postb_201vk772 at qp
  rw [f34] at qp
  have rp := putQ_rowN (q := 28) qp (by omega) (by rw [show hN H5 28 = hN H1 28 from ((RW772 f30.1.1 f30.1.2.1 (by decide +kernel) (RW772 f23.1.1 f23.1.2.1 (by decide +kernel) (RW772 f17.1.1 f17.1.2.1 (by decide +kernel) (RW772 f14.1.1 f14.1.2.1 (by decide +kernel) k28).2.2).2.2).2.2).2.1).trans (((RW772 f23.1.1 f23.1.2.1 (by decide +kernel) (RW772 f17.1.1 f17.1.2.1 (by decide +kernel) (RW772 f14.1.1 f14.1.2.1 (by decide +kernel) k28).2.2).2.2).2.1).trans (((RW772 f17.1.1 f17.1.2.1 (by decide +kernel) (RW772 f14.1.1 f14.1.2.1 (by decide +kernel) k28).2.2).2.1).trans ((RW772 f14.1.1 f14.1.2.1 (by decide +kernel) k28).2.1)))]; omega)
  rw [show hV H5 28 = hV H1 28 from ((RW772 f30.1.1 f30.1.2.1 (by decide +kernel) (RW772 f23.1.1 f23.1.2.1 (by decide +kernel) (RW772 f17.1.1 f17.1.2.1 (by decide +kernel) (RW772 f14.1.1 f14.1.2.1 (by decide +kernel) k28).2.2).2.2).2.2).1).trans (((RW772 f23.1.1 f23.1.2.1 (by decide +kernel) (RW772 f17.1.1 f17.1.2.1 (by decide +kernel) (RW772 f14.1.1 f14.1.2.1 (by decide +kernel) k28).2.2).2.2).1).trans (((RW772 f17.1.1 f17.1.2.1 (by decide +kernel) (RW772 f14.1.1 f14.1.2.1 (by decide +kernel) k28).2.2).1).trans ((RW772 f14.1.1 f14.1.2.1 (by decide +kernel) k28).1)))] at rp
  have qa := f30.2
  unfold postb_199vk772 at qa
  rw [f25] at qa
  have qa := atQ_in qa (by decide) n0_ (by rw [show hN H4 ((28 : Int)).toNat = hN H1 28 from ((RW772 f23.1.1 f23.1.2.1 (by decide +kernel) (RW772 f17.1.1 f17.1.2.1 (by decide +kernel) (RW772 f14.1.1 f14.1.2.1 (by decide +kernel) k28).2.2).2.2).2.1).trans (((RW772 f17.1.1 f17.1.2.1 (by decide +kernel) (RW772 f14.1.1 f14.1.2.1 (by decide +kernel) k28).2.2).2.1).trans ((RW772 f14.1.1 f14.1.2.1 (by decide +kernel) k28).2.1))]; omega)
  rw [show hV H4 ((28 : Int)).toNat = hV H1 28 from ((RW772 f23.1.1 f23.1.2.1 (by decide +kernel) (RW772 f17.1.1 f17.1.2.1 (by decide +kernel) (RW772 f14.1.1 f14.1.2.1 (by decide +kernel) k28).2.2).2.2).1).trans (((RW772 f17.1.1 f17.1.2.1 (by decide +kernel) (RW772 f14.1.1 f14.1.2.1 (by decide +kernel) k28).2.2).1).trans ((RW772 f14.1.1 f14.1.2.1 (by decide +kernel) k28).1))] at qa
  have all := ALL_of (f := hV H1 28) (S := hV H0 23 1) (n := n0) s20 onc qj f24 (fun q hq => ((z.2.2.2.2 (n0).toNat (by omega)).2 q hq).1)
  refine LNI_step l1 z.2.2.2.2 (by omega) (by omega) all rp (fun w => ?_)
  have o0 := or_0 f33 b0 b1 f32 (by decide) (by decide) w
  exact ⟨o0.1, by rw [← qa]; omega⟩
def g_12w_26_1 : vG := ([(10, [16, 4], [], 1), (1201, [15, 4, 10], [5, 6], 0), (20, [15, 1], [5], 6), (23, [1], [5], 0), (0, [15], [], 28), (5, [14, 2, 13], [], 0), (0, [13], [], 0), (40, [10, 12], [], 0), (1199, [12, 11, 4], [4, 5], 0), (90, [12], [], -2147483648), (91, [12], [], 2147483647), (20, [11, 1], [4], 6), (23, [1], [4], 0), (0, [11], [], 28), (5, [10, 7, 9], [], 0), (1011, [9, 8, 7], [3, 4], 0), (90, [9], [], -2147483648), (91, [9], [], 2147483647), (20, [8, 1], [3], 6), (23, [1], [3], 0), (0, [8], [], 28), (1010, [7, 1, 6], [2, 3], 0), (90, [7], [], -2147483648), (91, [7], [], 2147483647), (1002, [6, 1, 4], [1, 2], 0), (42, [4, 5], [], 0), (20, [5, 1], [1], 1), (23, [1], [1], 0), (90, [5], [], 0), (91, [5], [], 20), (5000, [0, 1, 2, 3, 4], [0, 1], 26), (0, [0], [], 23), (0, [1], [], 23), (90, [2], [], -2147483648), (91, [2], [], 2147483647), (90, [3], [], -2147483648), (91, [3], [], 2147483646), (90, [4], [], -2147483648), (91, [4], [], 2147483647)], (4000, [1, 14, 3, 16], [6], 26))
theorem c_12w_26_1 {q0 : Nat} : vOkm T0 (eN e_12 L_12w A_12 mu_12 n_12 B_12 (some q0)) 1 g_12w_26_1 := vOk_inI fun ρ η f0 f1 f2 f3 f4 f5 f6 f7 f8 f9 f10 f11 f12 f13 f14 f15 f16 f17 f18 f19 f20 f21 f22 f23 f24 f25 f26 f27 f28 f29 f30 f31 f32 f33 f34 f35 f36 f37 f38 => q_12w_5 (q0 := q0) (n0 := ρ 4) (n1 := ρ 3) (n2 := ρ 2) (n3 := ρ 1) (n4 := ρ 0) (n5 := ρ 5) (n6 := ρ 6) (n7 := ρ 7) (n8 := ρ 8) (n9 := ρ 9) (n10 := ρ 10) (n11 := ρ 11) (n12 := ρ 12) (n13 := ρ 13) (n14 := ρ 14) (n15 := ρ 15) (n16 := ρ 16) (H0 := η 0) (H1 := η 1) (H2 := η 2) (H3 := η 3) (H4 := η 4) (H5 := η 5) (H6 := η 6) f38 f37 f36 f35 f34 f33 f32 f31 f30 f29 f28 f27 f26 f25 f24 f23 f22 f21 f20 f19 f18 f17 f16 f15 f14 f13 f12 f11 f10 f9 f8 f7 f6 f5 f4 f3 f2 f1 f0
theorem q_12w_6 {q0 : Nat} {n0 n1 n2 n3 n4 n5 n6 n7 n8 n9 n10 n11 n12 n13 n14 n15 n16 : Int} {H0 H1 H2 H3 H4 H5 H6 : gH} (f0 : n0 ≤ 2147483647) (f1 : (-2147483648) ≤ n0) (f2 : n1 ≤ 2147483646) (f3 : (-2147483648) ≤ n1) (f4 : n2 ≤ 2147483647) (f5 : (-2147483648) ≤ n2) (f6 : n3 = 23) (f7 : n4 = 23) (f8 : (hLe T0 H0 H1 ∧ hFr s_12.2.2.2.2 H0 H1 ∧ hWt T0 H1) ∧ ((True ∧ Bb_12_26 n4 n3 n2 n1 n0 H0 H1) ∧ True) ∧ some q0 = some (mub_12_26 n4 n3 n2 n1 n0 H0 H1)) (f9 : n5 ≤ 20) (f10 : 0 ≤ n5) (f11 : hK H1 (n3).toNat = 0) (f12 : n5 = hV H1 (n3).toNat 1) (f13 : n0 < n5) (f14 : (hLe T0 H1 H2 ∧ hFr s_2.2.2.2.2 H1 H2 ∧ ((0 : Int) = 0 → H2.length = H1.length) ∧ hWt T0 H2) ∧ postb_2v n6 n3 n0 H1 H2) (f15 : n7 ≤ 2147483647) (f16 : (-2147483648) ≤ n7) (f17 : (hLe T0 H2 H3 ∧ hFr s_10.2.2.2.2 H2 H3 ∧ ((0 : Int) = 0 → H3.length = H2.length) ∧ hWt T0 H3) ∧ (True ∧ nb_10 n7 n3 n6 H2 H3)) (f18 : n8 = 28) (f19 : hK H3 (n3).toNat = 0) (f20 : n8 = hV H3 (n3).toNat 6) (f21 : n9 ≤ 2147483647) (f22 : (-2147483648) ≤ n9) (f23 : (hLe T0 H3 H4 ∧ hFr s_11.2.2.2.2 H3 H4 ∧ ((0 : Int) = 0 → H4.length = H3.length) ∧ hWt T0 H4) ∧ (True ∧ nb_11 n9 n8 n7 H3 H4)) (f24 : n10 = o32 (fun x y => x ||| y) n7 n9) (f25 : n11 = 28) (f26 : hK H4 (n3).toNat = 0) (f27 : n11 = hV H4 (n3).toNat 6) (f28 : n12 ≤ 2147483647) (f29 : (-2147483648) ≤ n12) (f30 : (hLe T0 H4 H5 ∧ hFr s_199k772.2.2.2.2 H4 H5 ∧ ((0 : Int) = 0 → H5.length = H4.length) ∧ hWt T0 H5) ∧ postb_199vk772 n12 n11 n0 H4 H5) (f31 : n10 ≠ n12) (f32 : n13 = 1) (f33 : n14 = o32 (fun x y => x ||| y) n2 n13) (f34 : n15 = 28) (f35 : hK H5 (n3).toNat = 0) (f36 : n15 = hV H5 (n3).toNat 6) (f37 : (hLe T0 H5 H6 ∧ hFr s_201k772.2.2.2.2 H5 H6 ∧ ((0 : Int) = 0 → H6.length = H5.length) ∧ hWt T0 H6) ∧ postb_201vk772 n15 n0 n10 H5 H6) (f38 : n16 = w32 (n0 + 1)) : Bb_12_26 n4 n3 n14 n1 n16 H0 H6 := by
  have c6 := f6
  have c7 := f7
  have c18 := f18
  have c25 := f25
  have c32 := f32
  have c34 := f34
  have w38 := f38
  unfold w32 at w38
  have gb := f8.2.1.1.2
  unfold Bb_12_26 at gb
  obtain ⟨b0, b1, gb⟩ := gb
  have e1 : n5 = hV H0 23 1 := by
    have w := f12
    rw [f6] at w
    exact w.trans (f8.1.2.1.1 23 1 (by decide +kernel))
  have mb := or_b f33 b0 b1 (by omega) (by omega)
  unfold Bb_12_26
  refine ⟨by omega, by omega, fun nx rk z => ?_⟩
  obtain ⟨l0, l1⟩ := gb nx rk z
  have n0_ := l1.2.1
  have s20 := z.2.2.1
  refine ⟨by omega, ?_⟩
  have z1 := LNC_fr f8.1.1 f8.1.2.1 (by decide +kernel) z
  have y1 : hV H1 23 1 = hV H0 23 1 := f8.1.2.1.1 23 1 (by decide +kernel)
  have qg := f14.2
  unfold postb_2v at qg
  have eg : n6 = hV H1 24 (n0).toNat := by
    rcases qg with w | w
    · exact w.2.2
    · exact absurd ⟨n0_, by omega⟩ w.2
  have sk := (z1.2.1 (n0).toNat (by omega)).2
  rw [← eg] at sk
  have onc := z1.2.2.2.1 (n0).toNat (by omega)
  rw [← eg] at onc
  have ql := f17.2
  have ql := ql.2
  unfold nb_10 at ql
  rw [show LAo H2 n6 = LAo H1 n6 from LAo_fr f14.1.2.1 (by decide +kernel) sk] at ql
  rw [← ql] at onc
  have k28 := z1.1.1
  have n28 := z1.1.2
  have qj := f23.2.2
  unfold nb_11 at qj
  rw [f18] at qj
  have qj := qj (RW772 f17.1.1 f17.1.2.1 (by decide +kernel) (RW772 f14.1.1 f14.1.2.1 (by decide +kernel) k28).2.2).2.2 (by decide) (by rw [show hN H3 ((28 : Int)).toNat = hN H1 28 from ((RW772 f17.1.1 f17.1.2.1 (by decide +kernel) (RW772 f14.1.1 f14.1.2.1 (by decide +kernel) k28).2.2).2.1).trans ((RW772 f14.1.1 f14.1.2.1 (by decide +kernel) k28).2.1)]; omega)
  rw [show hV H3 ((28 : Int)).toNat = hV H1 28 from ((RW772 f17.1.1 f17.1.2.1 (by decide +kernel) (RW772 f14.1.1 f14.1.2.1 (by decide +kernel) k28).2.2).1).trans ((RW772 f14.1.1 f14.1.2.1 (by decide +kernel) k28).1)] at qj
  have qp := f37.2
  unfold postb_201vk772 at qp
  rw [f34] at qp
  have rp := putQ_rowN (q := 28) qp (by omega) (by rw [show hN H5 28 = hN H1 28 from ((RW772 f30.1.1 f30.1.2.1 (by decide +kernel) (RW772 f23.1.1 f23.1.2.1 (by decide +kernel) (RW772 f17.1.1 f17.1.2.1 (by decide +kernel) (RW772 f14.1.1 f14.1.2.1 (by decide +kernel) k28).2.2).2.2).2.2).2.1).trans (((RW772 f23.1.1 f23.1.2.1 (by decide +kernel) (RW772 f17.1.1 f17.1.2.1 (by decide +kernel) (RW772 f14.1.1 f14.1.2.1 (by decide +kernel) k28).2.2).2.2).2.1).trans (((RW772 f17.1.1 f17.1.2.1 (by decide +kernel) (RW772 f14.1.1 f14.1.2.1 (by decide +kernel) k28).2.2).2.1).trans ((RW772 f14.1.1 f14.1.2.1 (by decide +kernel) k28).2.1)))]; omega)
  rw [show hV H5 28 = hV H1 28 from ((RW772 f30.1.1 f30.1.2.1 (by decide +kernel) (RW772 f23.1.1 f23.1.2.1 (by decide +kernel) (RW772 f17.1.1 f17.1.2.1 (by decide +kernel) (RW772 f14.1.1 f14.1.2.1 (by decide +kernel) k28).2.2).2.2).2.2).1).trans (((RW772 f23.1.1 f23.1.2.1 (by decide +kernel) (RW772 f17.1.1 f17.1.2.1 (by decide +kernel) (RW772 f14.1.1 f14.1.2.1 (by decide +kernel) k28).2.2).2.2).1).trans (((RW772 f17.1.1 f17.1.2.1 (by decide +kernel) (RW772 f14.1.1 f14.1.2.1 (by decide +kernel) k28).2.2).1).trans ((RW772 f14.1.1 f14.1.2.1 (by decide +kernel) k28).1)))] at rp
  have qa := f30.2
  unfold postb_199vk772 at qa
  rw [f25] at qa
  have qa := atQ_in qa (by decide) n0_ (by rw [show hN H4 ((28 : Int)).toNat = hN H1 28 from ((RW772 f23.1.1 f23.1.2.1 (by decide +kernel) (RW772 f17.1.1 f17.1.2.1 (by decide +kernel) (RW772 f14.1.1 f14.1.2.1 (by decide +kernel) k28).2.2).2.2).2.1).trans (((RW772 f17.1.1 f17.1.2.1 (by decide +kernel) (RW772 f14.1.1 f14.1.2.1 (by decide +kernel) k28).2.2).2.1).trans ((RW772 f14.1.1 f14.1.2.1 (by decide +kernel) k28).2.1))]; omega)
  rw [show hV H4 ((28 : Int)).toNat = hV H1 28 from ((RW772 f23.1.1 f23.1.2.1 (by decide +kernel) (RW772 f17.1.1 f17.1.2.1 (by decide +kernel) (RW772 f14.1.1 f14.1.2.1 (by decide +kernel) k28).2.2).2.2).1).trans (((RW772 f17.1.1 f17.1.2.1 (by decide +kernel) (RW772 f14.1.1 f14.1.2.1 (by decide +kernel) k28).2.2).1).trans ((RW772 f14.1.1 f14.1.2.1 (by decide +kernel) k28).1))] at qa
  have all := ALL_of (f := hV H1 28) (S := hV H0 23 1) (n := n0) s20 onc qj f24 (fun q hq => ((z.2.2.2.2 (n0).toNat (by omega)).2 q hq).1)
  refine LNI_step l1 z.2.2.2.2 (by omega) (by omega) all rp (fun w => ?_)
  have o0 := or_0 f33 b0 b1 f32 (by decide) (by decide) w
  exfalso
  omega
def g_12w_26_2 : vG := ([(10, [16, 4], [], 1), (1201, [15, 4, 10], [5, 6], 0), (20, [15, 1], [5], 6), (23, [1], [5], 0), (0, [15], [], 28), (5, [14, 2, 13], [], 0), (0, [13], [], 1), (41, [10, 12], [], 0), (1199, [12, 11, 4], [4, 5], 0), (90, [12], [], -2147483648), (91, [12], [], 2147483647), (20, [11, 1], [4], 6), (23, [1], [4], 0), (0, [11], [], 28), (5, [10, 7, 9], [], 0), (1011, [9, 8, 7], [3, 4], 0), (90, [9], [], -2147483648), (91, [9], [], 2147483647), (20, [8, 1], [3], 6), (23, [1], [3], 0), (0, [8], [], 28), (1010, [7, 1, 6], [2, 3], 0), (90, [7], [], -2147483648), (91, [7], [], 2147483647), (1002, [6, 1, 4], [1, 2], 0), (42, [4, 5], [], 0), (20, [5, 1], [1], 1), (23, [1], [1], 0), (90, [5], [], 0), (91, [5], [], 20), (5000, [0, 1, 2, 3, 4], [0, 1], 26), (0, [0], [], 23), (0, [1], [], 23), (90, [2], [], -2147483648), (91, [2], [], 2147483647), (90, [3], [], -2147483648), (91, [3], [], 2147483646), (90, [4], [], -2147483648), (91, [4], [], 2147483647)], (4000, [1, 14, 3, 16], [6], 26))
theorem c_12w_26_2 {q0 : Nat} : vOkm T0 (eN e_12 L_12w A_12 mu_12 n_12 B_12 (some q0)) 1 g_12w_26_2 := vOk_inI fun ρ η f0 f1 f2 f3 f4 f5 f6 f7 f8 f9 f10 f11 f12 f13 f14 f15 f16 f17 f18 f19 f20 f21 f22 f23 f24 f25 f26 f27 f28 f29 f30 f31 f32 f33 f34 f35 f36 f37 f38 => q_12w_6 (q0 := q0) (n0 := ρ 4) (n1 := ρ 3) (n2 := ρ 2) (n3 := ρ 1) (n4 := ρ 0) (n5 := ρ 5) (n6 := ρ 6) (n7 := ρ 7) (n8 := ρ 8) (n9 := ρ 9) (n10 := ρ 10) (n11 := ρ 11) (n12 := ρ 12) (n13 := ρ 13) (n14 := ρ 14) (n15 := ρ 15) (n16 := ρ 16) (H0 := η 0) (H1 := η 1) (H2 := η 2) (H3 := η 3) (H4 := η 4) (H5 := η 5) (H6 := η 6) f38 f37 f36 f35 f34 f33 f32 f31 f30 f29 f28 f27 f26 f25 f24 f23 f22 f21 f20 f19 f18 f17 f16 f15 f14 f13 f12 f11 f10 f9 f8 f7 f6 f5 f4 f3 f2 f1 f0
def p_12w_26 : List vG := [g_12w_26_0,
  g_12w_26_1,
  g_12w_26_2]
theorem r_12w_26 : vCovBO (eRc e_12 L_12 cs_12 2000 (26, [(0, (3, 0, 23, 0)), (1, (0, -2147483648, 2147483647, 0)), (2, (0, -2147483648, 2147483646, 0)), (3, (0, -2147483648, 2147483647, 0))])) p_12w_26 = true := by decide +kernel
theorem m_12w (d : Nat) : eC e_12w (d + 3) := eC_ref (e := e_12) (L := L_12) (L' := L_12w) (cs := cs_12) (n := 2000) (d := d + 2) (A := A_12) (μ := mu_12) (tp := true) (p0 := p_12_s) (p1 := p_12w_s) (N := n_12) (B := B_12) rfl ⟨m_2v (d + 1), ⟨m_10w (d + 1), ⟨m_11w d, ⟨m_199vk772 (d + 1), ⟨m_201vk772 (d + 1), ⟨m_203w d, trivial⟩⟩⟩⟩⟩⟩ rfl (.inr pre0_ok) (by decide +kernel) (fun _ => post0_ok) r_12_s (allC c_12_s_0 allN) (allC (.inl ⟨p_12_12, r_12_12, fun q0 => (allC c_12_12_0 (allC c_12_12_1 allN))⟩) (allC (.inl ⟨p_12_26, r_12_26, fun q0 => (allC c_12_26_0 (allC c_12_26_1 (allC c_12_26_2 allN)))⟩) allN)) ⟨⟨rfl, rfl, rfl, fun _ _ _ _ => trivial⟩, (sub1 (sub1 ⟨⟨rfl, rfl, rfl, fun _ _ _ _ => trivial⟩, ⟨⟨rfl, rfl, rfl, fun _ _ _ _ => trivial⟩, (sub1 trivial)⟩⟩))⟩ r_12w_s (allC c_12w_s_0 allN) (allC ⟨p_12w_12, r_12w_12, fun q0 => (allC c_12w_12_0 (allC c_12w_12_1 (allC c_12w_12_2 allN)))⟩ (allC ⟨p_12w_26, r_12w_26, fun q0 => (allC c_12w_26_0 (allC c_12w_26_1 (allC c_12w_26_2 allN)))⟩ allN))
/- Bank.leansOf (I)I, more fully -/
def nb_13 (r a0 a1 : Int) (h0 h : gH) : Prop := ∀ (nx : Nat → Nat → Prop) (rk : Nat → Nat), LNC h0 nx rk → 0 ≤ a1 → a1 < (hV h0 23 1) → BTS r (LSp (hV h0 23 1) nx (a1).toNat)
def n_13 : List Int → gH → gH → Prop := fun xs h0 h => match xs with
  | [r, a0, a1] => nb_13 r a0 a1 h0 h
  | _ => True
noncomputable def e_13w : vE := eV e_13 n_13
noncomputable def L_13w : List vE := [e_12w, e_199vk772]
def B_13 : Int → List Int → gH → gH → Prop := fun c xs h0 h => True
theorem q_13w_0 {n0 n1 n2 n3 : Int} {H0 H1 H2 : gH} (f0 : n0 ≤ 2147483647) (f1 : (-2147483648) ≤ n0) (f2 : n1 = 23) (f3 : hWt T0 H0 ∧ True) (f4 : (hLe T0 H0 H1 ∧ hFr s_12.2.2.2.2 H0 H1 ∧ ((0 : Int) = 0 → H1.length = H0.length) ∧ hWt T0 H1) ∧ (True ∧ nb_12 n1 H0 H1)) (f5 : n2 = 28) (f6 : hK H1 (n1).toNat = 0) (f7 : n2 = hV H1 (n1).toNat 6) (f8 : n3 ≤ 2147483647) (f9 : (-2147483648) ≤ n3) (f10 : (hLe T0 H1 H2 ∧ hFr s_199k772.2.2.2.2 H1 H2 ∧ ((0 : Int) = 0 → H2.length = H1.length) ∧ hWt T0 H2) ∧ postb_199vk772 n3 n2 n0 H1 H2) : nb_13 n3 n1 n0 H0 H2 := by
  unfold nb_13
  intro nx rk z p0 p1
  have c2 := f2
  have c5 := f5
  have s20 := z.2.2.1
  have n28 := z.1.2
  have q := f4.2.2
  unfold nb_12 at q
  have q := q nx rk z (n0).toNat (by omega)
  have k1 := K28_le f4.1.1 z.1
  have qa := f10.2
  unfold postb_199vk772 at qa
  rw [f5] at qa
  have n1 := k1.2
  have qa := atQ_in qa (by decide) p0 (by show _ < (hN H1 28 : Int); omega)
  rw [qa]
  exact q
def g_13w_s_0 : vG := ([(1199, [3, 2, 1], [1, 2], 0), (90, [3], [], -2147483648), (91, [3], [], 2147483647), (20, [2, 0], [1], 6), (23, [0], [1], 0), (0, [2], [], 28), (1012, [0], [0, 1], 0), (6000, [0, 1], [0], 0), (0, [0], [], 23), (90, [1], [], -2147483648), (91, [1], [], 2147483647)], (3000, [3], [2], 12))
theorem c_13w_s_0 : vOkm T0 (eN e_13 L_13w A_13 mu_13 n_13 B_13 none) 2 g_13w_s_0 := vOk_inI fun ρ η f0 f1 f2 f3 f4 f5 f6 f7 f8 f9 f10 => q_13w_0 (n0 := ρ 1) (n1 := ρ 0) (n2 := ρ 2) (n3 := ρ 3) (H0 := η 0) (H1 := η 1) (H2 := η 2) f10 f9 f8 f7 f6 f5 f4 f3 f2 f1 f0
def p_13w_s : List vG := [g_13w_s_0]
theorem r_13w_s : vCovBO (eR0 e_13 L_13 cs_13 2000) p_13w_s = true := by decide +kernel
theorem m_13w (d : Nat) : eC e_13w (d + 4) := eC_ref (e := e_13) (L := L_13) (L' := L_13w) (cs := cs_13) (n := 2000) (d := d + 3) (A := A_13) (μ := mu_13) (tp := true) (p0 := p_13_s) (p1 := p_13w_s) (N := n_13) (B := B_13) rfl ⟨m_12w d, ⟨m_199vk772 (d + 2), trivial⟩⟩ rfl (.inr pre0_ok) (by decide +kernel) (fun _ => post0_ok) r_13_s allN allN (sub1 ⟨⟨rfl, rfl, rfl, fun _ _ _ _ => trivial⟩, trivial⟩) r_13w_s (allC c_13w_s_0 allN) allN
/- Bank.mayLay (LMixStage$Sheet;I)Z, more fully -/
def nb_14 (r a0 a1 a2 : Int) (h0 h : gH) : Prop := ∀ (nx : Nat → Nat → Prop) (rk : Nat → Nat) (ly : Nat → Prop), LNC h0 nx rk → BTS (hV h0 (a1).toNat 3) ly → 0 ≤ a1 → hK h0 (a1).toNat = 6 → 0 ≤ a2 → a2 < (hV h0 23 1) → (r = 1 ∧ MYp (hV h0 23 1) nx ly (a2).toNat) ∨ (r = 0 ∧ ¬ MYp (hV h0 23 1) nx ly (a2).toNat)
def n_14 : List Int → gH → gH → Prop := fun xs h0 h => match xs with
  | [r, a0, a1, a2] => nb_14 r a0 a1 a2 h0 h
  | _ => True
noncomputable def e_14w : vE := eV e_14 n_14
noncomputable def L_14w : List vE := [e_11w, e_12w]
def B_14 : Int → List Int → gH → gH → Prop := fun c xs h0 h => True
theorem q_14w_0 {n0 n1 n2 n3 n4 n5 n6 n7 n8 n9 n10 n11 n12 : Int} {H0 H1 H2 : gH} (f0 : n0 ≤ 2147483647) (f1 : (-2147483648) ≤ n0) (f2 : 0 ≤ n1) (f3 : n2 = 23) (f4 : hWt T0 H0 ∧ True) (f5 : (hLe T0 H0 H1 ∧ hFr s_12.2.2.2.2 H0 H1 ∧ ((0 : Int) = 0 → H1.length = H0.length) ∧ hWt T0 H1) ∧ (True ∧ nb_12 n2 H0 H1)) (f6 : n3 ≤ 2147483647) (f7 : (-2147483648) ≤ n3) (f8 : hK H1 (n1).toNat = 6) (f9 : n3 = hV H1 (n1).toNat 3) (f10 : n4 ≤ 20) (f11 : 0 ≤ n4) (f12 : hK H1 (n2).toNat = 0) (f13 : n4 = hV H1 (n2).toNat 1) (f14 : n5 = o32 (fun x y => (x.toUInt32 >>> (y.toUInt32 &&& Int32.toUInt32 31)).toInt32) n3 n4) (f15 : n5 ≠ 0) (f16 : n6 = 0) (f17 : n7 ≤ 2147483647) (f18 : (-2147483648) ≤ n7) (f19 : hK H1 (n1).toNat = 6) (f20 : n7 = hV H1 (n1).toNat 3) (f21 : n8 = 28) (f22 : hK H1 (n2).toNat = 0) (f23 : n8 = hV H1 (n2).toNat 6) (f24 : n9 ≤ 2147483647) (f25 : (-2147483648) ≤ n9) (f26 : hK H1 (n1).toNat = 6) (f27 : n9 = hV H1 (n1).toNat 3) (f28 : n10 ≤ 2147483647) (f29 : (-2147483648) ≤ n10) (f30 : (hLe T0 H1 H2 ∧ hFr s_11.2.2.2.2 H1 H2 ∧ ((0 : Int) = 0 → H2.length = H1.length) ∧ hWt T0 H2) ∧ (True ∧ nb_11 n10 n8 n9 H1 H2)) (f31 : n11 = o32 (fun x y => x ||| y) n7 n10) (f32 : n6 = 0) (f33 : n12 = 0) : nb_14 n12 n2 n1 n0 H0 H2 := by
  unfold nb_14
  intro nx rk ly z b p0 k6 p2 p3
  have c3 := f3
  have c16 := f16
  have c21 := f21
  have c33 := f33
  have s20 := z.2.2.1
  have y1 : hV H1 23 1 = hV H0 23 1 := f5.1.2.1.1 23 1 (by decide +kernel)
  have y3 : hV H1 (n1).toNat 3 = hV H0 (n1).toNat 3 := f5.1.2.1.2.2 _ 6 k6 rfl 3 (by decide +kernel)
  have e1 : n4 = hV H0 23 1 := by
    have w := f13
    rw [f3] at w
    exact w.trans y1
  have b9 : BTS n3 ly := by
    rw [f9, y3]
    exact b
  have b20 : BTS n7 ly := by
    rw [f20, y3]
    exact b
  have b27 : BTS n9 ly := by
    rw [f27, y3]
    exact b
  have us := f14
  rw [e1] at us
  have s0 : 0 ≤ hV H0 23 1 := by omega
  have no : ¬ MYp (hV H0 23 1) nx ly (n0).toNat := MY_hi b9 us s0 s20 (by omega)
  first
  | exact .inr ⟨by omega, no⟩
  | (exfalso; omega)
def g_14w_s_0 : vG := ([(0, [12], [], 0), (30, [6], [], 0), (5, [11, 7, 10], [], 0), (1011, [10, 8, 9], [1, 2], 0), (90, [10], [], -2147483648), (91, [10], [], 2147483647), (20, [9, 1], [1], 3), (23, [1], [1], 6), (90, [9], [], -2147483648), (91, [9], [], 2147483647), (20, [8, 0], [1], 6), (23, [0], [1], 0), (0, [8], [], 28), (20, [7, 1], [1], 3), (23, [1], [1], 6), (90, [7], [], -2147483648), (91, [7], [], 2147483647), (0, [6], [], 0), (31, [5], [], 0), (9, [5, 3, 4], [], 0), (20, [4, 0], [1], 1), (23, [0], [1], 0), (90, [4], [], 0), (91, [4], [], 20), (20, [3, 1], [1], 3), (23, [1], [1], 6), (90, [3], [], -2147483648), (91, [3], [], 2147483647), (1012, [0], [0, 1], 0), (6000, [0, 1, 2], [0], 0), (0, [0], [], 23), (51, [1], [], 0), (90, [2], [], -2147483648), (91, [2], [], 2147483647)], (3000, [12], [2], 58))
theorem c_14w_s_0 : vOkm T0 (eN e_14 L_14w A_14 mu_14 n_14 B_14 none) 3 g_14w_s_0 := vOk_inI fun ρ η f0 f1 f2 f3 f4 f5 f6 f7 f8 f9 f10 f11 f12 f13 f14 f15 f16 f17 f18 f19 f20 f21 f22 f23 f24 f25 f26 f27 f28 f29 f30 f31 f32 f33 => q_14w_0 (n0 := ρ 2) (n1 := ρ 1) (n2 := ρ 0) (n3 := ρ 3) (n4 := ρ 4) (n5 := ρ 5) (n6 := ρ 6) (n7 := ρ 7) (n8 := ρ 8) (n9 := ρ 9) (n10 := ρ 10) (n11 := ρ 11) (n12 := ρ 12) (H0 := η 0) (H1 := η 1) (H2 := η 2) f33 f32 f31 f30 f29 f28 f27 f26 f25 f24 f23 f22 f21 f20 f19 f18 f17 f16 f15 f14 f13 f12 f11 f10 f9 f8 f7 f6 f5 f4 f3 f2 f1 f0
theorem q_14w_1 {n0 n1 n2 n3 n4 n5 n6 n7 n8 n9 n10 n11 n12 n13 n14 n15 : Int} {H0 H1 H2 : gH} (f0 : n0 ≤ 2147483647) (f1 : (-2147483648) ≤ n0) (f2 : 0 ≤ n1) (f3 : n2 = 23) (f4 : hWt T0 H0 ∧ True) (f5 : (hLe T0 H0 H1 ∧ hFr s_12.2.2.2.2 H0 H1 ∧ ((0 : Int) = 0 → H1.length = H0.length) ∧ hWt T0 H1) ∧ (True ∧ nb_12 n2 H0 H1)) (f6 : n3 ≤ 2147483647) (f7 : (-2147483648) ≤ n3) (f8 : hK H1 (n1).toNat = 6) (f9 : n3 = hV H1 (n1).toNat 3) (f10 : n4 ≤ 20) (f11 : 0 ≤ n4) (f12 : hK H1 (n2).toNat = 0) (f13 : n4 = hV H1 (n2).toNat 1) (f14 : n5 = o32 (fun x y => (x.toUInt32 >>> (y.toUInt32 &&& Int32.toUInt32 31)).toInt32) n3 n4) (f15 : n5 ≠ 0) (f16 : n6 = 0) (f17 : n7 ≤ 2147483647) (f18 : (-2147483648) ≤ n7) (f19 : hK H1 (n1).toNat = 6) (f20 : n7 = hV H1 (n1).toNat 3) (f21 : n8 = 28) (f22 : hK H1 (n2).toNat = 0) (f23 : n8 = hV H1 (n2).toNat 6) (f24 : n9 ≤ 2147483647) (f25 : (-2147483648) ≤ n9) (f26 : hK H1 (n1).toNat = 6) (f27 : n9 = hV H1 (n1).toNat 3) (f28 : n10 ≤ 2147483647) (f29 : (-2147483648) ≤ n10) (f30 : (hLe T0 H1 H2 ∧ hFr s_11.2.2.2.2 H1 H2 ∧ ((0 : Int) = 0 → H2.length = H1.length) ∧ hWt T0 H2) ∧ (True ∧ nb_11 n10 n8 n9 H1 H2)) (f31 : n11 = o32 (fun x y => x ||| y) n7 n10) (f32 : n6 ≠ 0) (f33 : n12 = o32 (fun x y => (x.toUInt32 >>> (y.toUInt32 &&& Int32.toUInt32 31)).toInt32) n11 n0) (f34 : n13 = 1) (f35 : n14 = o32 (fun x y => x &&& y) n12 n13) (f36 : n14 ≠ 0) (f37 : n15 = 0) : nb_14 n15 n2 n1 n0 H0 H2 := by
  exfalso
  clear f0 f1 f2 f3 f4 f5 f6 f7 f8 f9 f10 f11 f12 f13 f14 f15 f17 f18 f19 f20 f21 f22 f23 f24 f25 f26 f27 f28 f29 f30 f31 f33 f34 f35 f36 f37
  omega
def g_14w_s_1 : vG := ([(0, [15], [], 0), (31, [14], [], 0), (4, [14, 12, 13], [], 0), (0, [13], [], 1), (9, [12, 11, 2], [], 0), (31, [6], [], 0), (5, [11, 7, 10], [], 0), (1011, [10, 8, 9], [1, 2], 0), (90, [10], [], -2147483648), (91, [10], [], 2147483647), (20, [9, 1], [1], 3), (23, [1], [1], 6), (90, [9], [], -2147483648), (91, [9], [], 2147483647), (20, [8, 0], [1], 6), (23, [0], [1], 0), (0, [8], [], 28), (20, [7, 1], [1], 3), (23, [1], [1], 6), (90, [7], [], -2147483648), (91, [7], [], 2147483647), (0, [6], [], 0), (31, [5], [], 0), (9, [5, 3, 4], [], 0), (20, [4, 0], [1], 1), (23, [0], [1], 0), (90, [4], [], 0), (91, [4], [], 20), (20, [3, 1], [1], 3), (23, [1], [1], 6), (90, [3], [], -2147483648), (91, [3], [], 2147483647), (1012, [0], [0, 1], 0), (6000, [0, 1, 2], [0], 0), (0, [0], [], 23), (51, [1], [], 0), (90, [2], [], -2147483648), (91, [2], [], 2147483647)], (3000, [15], [2], 58))
theorem c_14w_s_1 : vOkm T0 (eN e_14 L_14w A_14 mu_14 n_14 B_14 none) 3 g_14w_s_1 := vOk_inI fun ρ η f0 f1 f2 f3 f4 f5 f6 f7 f8 f9 f10 f11 f12 f13 f14 f15 f16 f17 f18 f19 f20 f21 f22 f23 f24 f25 f26 f27 f28 f29 f30 f31 f32 f33 f34 f35 f36 f37 => q_14w_1 (n0 := ρ 2) (n1 := ρ 1) (n2 := ρ 0) (n3 := ρ 3) (n4 := ρ 4) (n5 := ρ 5) (n6 := ρ 6) (n7 := ρ 7) (n8 := ρ 8) (n9 := ρ 9) (n10 := ρ 10) (n11 := ρ 11) (n12 := ρ 12) (n13 := ρ 13) (n14 := ρ 14) (n15 := ρ 15) (H0 := η 0) (H1 := η 1) (H2 := η 2) f37 f36 f35 f34 f33 f32 f31 f30 f29 f28 f27 f26 f25 f24 f23 f22 f21 f20 f19 f18 f17 f16 f15 f14 f13 f12 f11 f10 f9 f8 f7 f6 f5 f4 f3 f2 f1 f0
theorem q_14w_2 {n0 n1 n2 n3 n4 n5 n6 n7 n8 n9 n10 n11 n12 n13 n14 n15 : Int} {H0 H1 H2 : gH} (f0 : n0 ≤ 2147483647) (f1 : (-2147483648) ≤ n0) (f2 : 0 ≤ n1) (f3 : n2 = 23) (f4 : hWt T0 H0 ∧ True) (f5 : (hLe T0 H0 H1 ∧ hFr s_12.2.2.2.2 H0 H1 ∧ ((0 : Int) = 0 → H1.length = H0.length) ∧ hWt T0 H1) ∧ (True ∧ nb_12 n2 H0 H1)) (f6 : n3 ≤ 2147483647) (f7 : (-2147483648) ≤ n3) (f8 : hK H1 (n1).toNat = 6) (f9 : n3 = hV H1 (n1).toNat 3) (f10 : n4 ≤ 20) (f11 : 0 ≤ n4) (f12 : hK H1 (n2).toNat = 0) (f13 : n4 = hV H1 (n2).toNat 1) (f14 : n5 = o32 (fun x y => (x.toUInt32 >>> (y.toUInt32 &&& Int32.toUInt32 31)).toInt32) n3 n4) (f15 : n5 ≠ 0) (f16 : n6 = 0) (f17 : n7 ≤ 2147483647) (f18 : (-2147483648) ≤ n7) (f19 : hK H1 (n1).toNat = 6) (f20 : n7 = hV H1 (n1).toNat 3) (f21 : n8 = 28) (f22 : hK H1 (n2).toNat = 0) (f23 : n8 = hV H1 (n2).toNat 6) (f24 : n9 ≤ 2147483647) (f25 : (-2147483648) ≤ n9) (f26 : hK H1 (n1).toNat = 6) (f27 : n9 = hV H1 (n1).toNat 3) (f28 : n10 ≤ 2147483647) (f29 : (-2147483648) ≤ n10) (f30 : (hLe T0 H1 H2 ∧ hFr s_11.2.2.2.2 H1 H2 ∧ ((0 : Int) = 0 → H2.length = H1.length) ∧ hWt T0 H2) ∧ (True ∧ nb_11 n10 n8 n9 H1 H2)) (f31 : n11 = o32 (fun x y => x ||| y) n7 n10) (f32 : n6 ≠ 0) (f33 : n12 = o32 (fun x y => (x.toUInt32 >>> (y.toUInt32 &&& Int32.toUInt32 31)).toInt32) n11 n0) (f34 : n13 = 1) (f35 : n14 = o32 (fun x y => x &&& y) n12 n13) (f36 : n14 = 0) (f37 : n15 = 1) : nb_14 n15 n2 n1 n0 H0 H2 := by
  exfalso
  clear f0 f1 f2 f3 f4 f5 f6 f7 f8 f9 f10 f11 f12 f13 f14 f15 f17 f18 f19 f20 f21 f22 f23 f24 f25 f26 f27 f28 f29 f30 f31 f33 f34 f35 f36 f37
  omega
def g_14w_s_2 : vG := ([(0, [15], [], 1), (30, [14], [], 0), (4, [14, 12, 13], [], 0), (0, [13], [], 1), (9, [12, 11, 2], [], 0), (31, [6], [], 0), (5, [11, 7, 10], [], 0), (1011, [10, 8, 9], [1, 2], 0), (90, [10], [], -2147483648), (91, [10], [], 2147483647), (20, [9, 1], [1], 3), (23, [1], [1], 6), (90, [9], [], -2147483648), (91, [9], [], 2147483647), (20, [8, 0], [1], 6), (23, [0], [1], 0), (0, [8], [], 28), (20, [7, 1], [1], 3), (23, [1], [1], 6), (90, [7], [], -2147483648), (91, [7], [], 2147483647), (0, [6], [], 0), (31, [5], [], 0), (9, [5, 3, 4], [], 0), (20, [4, 0], [1], 1), (23, [0], [1], 0), (90, [4], [], 0), (91, [4], [], 20), (20, [3, 1], [1], 3), (23, [1], [1], 6), (90, [3], [], -2147483648), (91, [3], [], 2147483647), (1012, [0], [0, 1], 0), (6000, [0, 1, 2], [0], 0), (0, [0], [], 23), (51, [1], [], 0), (90, [2], [], -2147483648), (91, [2], [], 2147483647)], (3000, [15], [2], 58))
theorem c_14w_s_2 : vOkm T0 (eN e_14 L_14w A_14 mu_14 n_14 B_14 none) 3 g_14w_s_2 := vOk_inI fun ρ η f0 f1 f2 f3 f4 f5 f6 f7 f8 f9 f10 f11 f12 f13 f14 f15 f16 f17 f18 f19 f20 f21 f22 f23 f24 f25 f26 f27 f28 f29 f30 f31 f32 f33 f34 f35 f36 f37 => q_14w_2 (n0 := ρ 2) (n1 := ρ 1) (n2 := ρ 0) (n3 := ρ 3) (n4 := ρ 4) (n5 := ρ 5) (n6 := ρ 6) (n7 := ρ 7) (n8 := ρ 8) (n9 := ρ 9) (n10 := ρ 10) (n11 := ρ 11) (n12 := ρ 12) (n13 := ρ 13) (n14 := ρ 14) (n15 := ρ 15) (H0 := η 0) (H1 := η 1) (H2 := η 2) f37 f36 f35 f34 f33 f32 f31 f30 f29 f28 f27 f26 f25 f24 f23 f22 f21 f20 f19 f18 f17 f16 f15 f14 f13 f12 f11 f10 f9 f8 f7 f6 f5 f4 f3 f2 f1 f0
theorem q_14w_3 {n0 n1 n2 n3 n4 n5 n6 n7 n8 n9 n10 n11 n12 : Int} {H0 H1 H2 : gH} (f0 : n0 ≤ 2147483647) (f1 : (-2147483648) ≤ n0) (f2 : 0 ≤ n1) (f3 : n2 = 23) (f4 : hWt T0 H0 ∧ True) (f5 : (hLe T0 H0 H1 ∧ hFr s_12.2.2.2.2 H0 H1 ∧ ((0 : Int) = 0 → H1.length = H0.length) ∧ hWt T0 H1) ∧ (True ∧ nb_12 n2 H0 H1)) (f6 : n3 ≤ 2147483647) (f7 : (-2147483648) ≤ n3) (f8 : hK H1 (n1).toNat = 6) (f9 : n3 = hV H1 (n1).toNat 3) (f10 : n4 ≤ 20) (f11 : 0 ≤ n4) (f12 : hK H1 (n2).toNat = 0) (f13 : n4 = hV H1 (n2).toNat 1) (f14 : n5 = o32 (fun x y => (x.toUInt32 >>> (y.toUInt32 &&& Int32.toUInt32 31)).toInt32) n3 n4) (f15 : n5 = 0) (f16 : n6 = 1) (f17 : n7 ≤ 2147483647) (f18 : (-2147483648) ≤ n7) (f19 : hK H1 (n1).toNat = 6) (f20 : n7 = hV H1 (n1).toNat 3) (f21 : n8 = 28) (f22 : hK H1 (n2).toNat = 0) (f23 : n8 = hV H1 (n2).toNat 6) (f24 : n9 ≤ 2147483647) (f25 : (-2147483648) ≤ n9) (f26 : hK H1 (n1).toNat = 6) (f27 : n9 = hV H1 (n1).toNat 3) (f28 : n10 ≤ 2147483647) (f29 : (-2147483648) ≤ n10) (f30 : (hLe T0 H1 H2 ∧ hFr s_11.2.2.2.2 H1 H2 ∧ ((0 : Int) = 0 → H2.length = H1.length) ∧ hWt T0 H2) ∧ (True ∧ nb_11 n10 n8 n9 H1 H2)) (f31 : n11 = o32 (fun x y => x ||| y) n7 n10) (f32 : n6 = 0) (f33 : n12 = 0) : nb_14 n12 n2 n1 n0 H0 H2 := by
  exfalso
  clear f0 f1 f2 f3 f4 f5 f6 f7 f8 f9 f10 f11 f12 f13 f14 f15 f17 f18 f19 f20 f21 f22 f23 f24 f25 f26 f27 f28 f29 f30 f31 f33
  omega
def g_14w_s_3 : vG := ([(0, [12], [], 0), (30, [6], [], 0), (5, [11, 7, 10], [], 0), (1011, [10, 8, 9], [1, 2], 0), (90, [10], [], -2147483648), (91, [10], [], 2147483647), (20, [9, 1], [1], 3), (23, [1], [1], 6), (90, [9], [], -2147483648), (91, [9], [], 2147483647), (20, [8, 0], [1], 6), (23, [0], [1], 0), (0, [8], [], 28), (20, [7, 1], [1], 3), (23, [1], [1], 6), (90, [7], [], -2147483648), (91, [7], [], 2147483647), (0, [6], [], 1), (30, [5], [], 0), (9, [5, 3, 4], [], 0), (20, [4, 0], [1], 1), (23, [0], [1], 0), (90, [4], [], 0), (91, [4], [], 20), (20, [3, 1], [1], 3), (23, [1], [1], 6), (90, [3], [], -2147483648), (91, [3], [], 2147483647), (1012, [0], [0, 1], 0), (6000, [0, 1, 2], [0], 0), (0, [0], [], 23), (51, [1], [], 0), (90, [2], [], -2147483648), (91, [2], [], 2147483647)], (3000, [12], [2], 58))
theorem c_14w_s_3 : vOkm T0 (eN e_14 L_14w A_14 mu_14 n_14 B_14 none) 3 g_14w_s_3 := vOk_inI fun ρ η f0 f1 f2 f3 f4 f5 f6 f7 f8 f9 f10 f11 f12 f13 f14 f15 f16 f17 f18 f19 f20 f21 f22 f23 f24 f25 f26 f27 f28 f29 f30 f31 f32 f33 => q_14w_3 (n0 := ρ 2) (n1 := ρ 1) (n2 := ρ 0) (n3 := ρ 3) (n4 := ρ 4) (n5 := ρ 5) (n6 := ρ 6) (n7 := ρ 7) (n8 := ρ 8) (n9 := ρ 9) (n10 := ρ 10) (n11 := ρ 11) (n12 := ρ 12) (H0 := η 0) (H1 := η 1) (H2 := η 2) f33 f32 f31 f30 f29 f28 f27 f26 f25 f24 f23 f22 f21 f20 f19 f18 f17 f16 f15 f14 f13 f12 f11 f10 f9 f8 f7 f6 f5 f4 f3 f2 f1 f0
theorem q_14w_4 {n0 n1 n2 n3 n4 n5 n6 n7 n8 n9 n10 n11 n12 n13 n14 n15 : Int} {H0 H1 H2 : gH} (f0 : n0 ≤ 2147483647) (f1 : (-2147483648) ≤ n0) (f2 : 0 ≤ n1) (f3 : n2 = 23) (f4 : hWt T0 H0 ∧ True) (f5 : (hLe T0 H0 H1 ∧ hFr s_12.2.2.2.2 H0 H1 ∧ ((0 : Int) = 0 → H1.length = H0.length) ∧ hWt T0 H1) ∧ (True ∧ nb_12 n2 H0 H1)) (f6 : n3 ≤ 2147483647) (f7 : (-2147483648) ≤ n3) (f8 : hK H1 (n1).toNat = 6) (f9 : n3 = hV H1 (n1).toNat 3) (f10 : n4 ≤ 20) (f11 : 0 ≤ n4) (f12 : hK H1 (n2).toNat = 0) (f13 : n4 = hV H1 (n2).toNat 1) (f14 : n5 = o32 (fun x y => (x.toUInt32 >>> (y.toUInt32 &&& Int32.toUInt32 31)).toInt32) n3 n4) (f15 : n5 = 0) (f16 : n6 = 1) (f17 : n7 ≤ 2147483647) (f18 : (-2147483648) ≤ n7) (f19 : hK H1 (n1).toNat = 6) (f20 : n7 = hV H1 (n1).toNat 3) (f21 : n8 = 28) (f22 : hK H1 (n2).toNat = 0) (f23 : n8 = hV H1 (n2).toNat 6) (f24 : n9 ≤ 2147483647) (f25 : (-2147483648) ≤ n9) (f26 : hK H1 (n1).toNat = 6) (f27 : n9 = hV H1 (n1).toNat 3) (f28 : n10 ≤ 2147483647) (f29 : (-2147483648) ≤ n10) (f30 : (hLe T0 H1 H2 ∧ hFr s_11.2.2.2.2 H1 H2 ∧ ((0 : Int) = 0 → H2.length = H1.length) ∧ hWt T0 H2) ∧ (True ∧ nb_11 n10 n8 n9 H1 H2)) (f31 : n11 = o32 (fun x y => x ||| y) n7 n10) (f32 : n6 ≠ 0) (f33 : n12 = o32 (fun x y => (x.toUInt32 >>> (y.toUInt32 &&& Int32.toUInt32 31)).toInt32) n11 n0) (f34 : n13 = 1) (f35 : n14 = o32 (fun x y => x &&& y) n12 n13) (f36 : n14 ≠ 0) (f37 : n15 = 0) : nb_14 n15 n2 n1 n0 H0 H2 := by
  unfold nb_14
  intro nx rk ly z b p0 k6 p2 p3
  have c3 := f3
  have c16 := f16
  have c21 := f21
  have c34 := f34
  have c37 := f37
  have s20 := z.2.2.1
  have y1 : hV H1 23 1 = hV H0 23 1 := f5.1.2.1.1 23 1 (by decide +kernel)
  have y3 : hV H1 (n1).toNat 3 = hV H0 (n1).toNat 3 := f5.1.2.1.2.2 _ 6 k6 rfl 3 (by decide +kernel)
  have e1 : n4 = hV H0 23 1 := by
    have w := f13
    rw [f3] at w
    exact w.trans y1
  have b9 : BTS n3 ly := by
    rw [f9, y3]
    exact b
  have b20 : BTS n7 ly := by
    rw [f20, y3]
    exact b
  have b27 : BTS n9 ly := by
    rw [f27, y3]
    exact b
  have us := f14
  rw [e1] at us
  have s0 : 0 ≤ hV H0 23 1 := by omega
  have lo := fun j (hj : j < 32) w => ushr_z us s0 (by omega) (by omega) j ((b9 j hj).mpr w)
  have k1 := K28_le f5.1.1 z.1
  have k28 := k1.1
  have n28 := k1.2
  have q := f5.2.2
  unfold nb_12 at q
  have rows := q nx rk z
  have qj := f30.2.2
  unfold nb_11 at qj
  rw [f21] at qj
  have qj := qj k28 (by decide) (by show 20 ≤ (hN H1 28 : Int); omega)
  rw [show n9 = n7 from f27.trans f20.symm] at qj
  have mb := MY_bit (s := n0) b20 qj f31 rows s20 lo p2 p3 f33 f35 f34
  exact .inr ⟨by omega, fun w => by have := mb.mpr w; omega⟩
def g_14w_s_4 : vG := ([(0, [15], [], 0), (31, [14], [], 0), (4, [14, 12, 13], [], 0), (0, [13], [], 1), (9, [12, 11, 2], [], 0), (31, [6], [], 0), (5, [11, 7, 10], [], 0), (1011, [10, 8, 9], [1, 2], 0), (90, [10], [], -2147483648), (91, [10], [], 2147483647), (20, [9, 1], [1], 3), (23, [1], [1], 6), (90, [9], [], -2147483648), (91, [9], [], 2147483647), (20, [8, 0], [1], 6), (23, [0], [1], 0), (0, [8], [], 28), (20, [7, 1], [1], 3), (23, [1], [1], 6), (90, [7], [], -2147483648), (91, [7], [], 2147483647), (0, [6], [], 1), (30, [5], [], 0), (9, [5, 3, 4], [], 0), (20, [4, 0], [1], 1), (23, [0], [1], 0), (90, [4], [], 0), (91, [4], [], 20), (20, [3, 1], [1], 3), (23, [1], [1], 6), (90, [3], [], -2147483648), (91, [3], [], 2147483647), (1012, [0], [0, 1], 0), (6000, [0, 1, 2], [0], 0), (0, [0], [], 23), (51, [1], [], 0), (90, [2], [], -2147483648), (91, [2], [], 2147483647)], (3000, [15], [2], 58))
theorem c_14w_s_4 : vOkm T0 (eN e_14 L_14w A_14 mu_14 n_14 B_14 none) 3 g_14w_s_4 := vOk_inI fun ρ η f0 f1 f2 f3 f4 f5 f6 f7 f8 f9 f10 f11 f12 f13 f14 f15 f16 f17 f18 f19 f20 f21 f22 f23 f24 f25 f26 f27 f28 f29 f30 f31 f32 f33 f34 f35 f36 f37 => q_14w_4 (n0 := ρ 2) (n1 := ρ 1) (n2 := ρ 0) (n3 := ρ 3) (n4 := ρ 4) (n5 := ρ 5) (n6 := ρ 6) (n7 := ρ 7) (n8 := ρ 8) (n9 := ρ 9) (n10 := ρ 10) (n11 := ρ 11) (n12 := ρ 12) (n13 := ρ 13) (n14 := ρ 14) (n15 := ρ 15) (H0 := η 0) (H1 := η 1) (H2 := η 2) f37 f36 f35 f34 f33 f32 f31 f30 f29 f28 f27 f26 f25 f24 f23 f22 f21 f20 f19 f18 f17 f16 f15 f14 f13 f12 f11 f10 f9 f8 f7 f6 f5 f4 f3 f2 f1 f0
theorem q_14w_5 {n0 n1 n2 n3 n4 n5 n6 n7 n8 n9 n10 n11 n12 n13 n14 n15 : Int} {H0 H1 H2 : gH} (f0 : n0 ≤ 2147483647) (f1 : (-2147483648) ≤ n0) (f2 : 0 ≤ n1) (f3 : n2 = 23) (f4 : hWt T0 H0 ∧ True) (f5 : (hLe T0 H0 H1 ∧ hFr s_12.2.2.2.2 H0 H1 ∧ ((0 : Int) = 0 → H1.length = H0.length) ∧ hWt T0 H1) ∧ (True ∧ nb_12 n2 H0 H1)) (f6 : n3 ≤ 2147483647) (f7 : (-2147483648) ≤ n3) (f8 : hK H1 (n1).toNat = 6) (f9 : n3 = hV H1 (n1).toNat 3) (f10 : n4 ≤ 20) (f11 : 0 ≤ n4) (f12 : hK H1 (n2).toNat = 0) (f13 : n4 = hV H1 (n2).toNat 1) (f14 : n5 = o32 (fun x y => (x.toUInt32 >>> (y.toUInt32 &&& Int32.toUInt32 31)).toInt32) n3 n4) (f15 : n5 = 0) (f16 : n6 = 1) (f17 : n7 ≤ 2147483647) (f18 : (-2147483648) ≤ n7) (f19 : hK H1 (n1).toNat = 6) (f20 : n7 = hV H1 (n1).toNat 3) (f21 : n8 = 28) (f22 : hK H1 (n2).toNat = 0) (f23 : n8 = hV H1 (n2).toNat 6) (f24 : n9 ≤ 2147483647) (f25 : (-2147483648) ≤ n9) (f26 : hK H1 (n1).toNat = 6) (f27 : n9 = hV H1 (n1).toNat 3) (f28 : n10 ≤ 2147483647) (f29 : (-2147483648) ≤ n10) (f30 : (hLe T0 H1 H2 ∧ hFr s_11.2.2.2.2 H1 H2 ∧ ((0 : Int) = 0 → H2.length = H1.length) ∧ hWt T0 H2) ∧ (True ∧ nb_11 n10 n8 n9 H1 H2)) (f31 : n11 = o32 (fun x y => x ||| y) n7 n10) (f32 : n6 ≠ 0) (f33 : n12 = o32 (fun x y => (x.toUInt32 >>> (y.toUInt32 &&& Int32.toUInt32 31)).toInt32) n11 n0) (f34 : n13 = 1) (f35 : n14 = o32 (fun x y => x &&& y) n12 n13) (f36 : n14 = 0) (f37 : n15 = 1) : nb_14 n15 n2 n1 n0 H0 H2 := by
  unfold nb_14
  intro nx rk ly z b p0 k6 p2 p3
  have c3 := f3
  have c16 := f16
  have c21 := f21
  have c34 := f34
  have c37 := f37
  have s20 := z.2.2.1
  have y1 : hV H1 23 1 = hV H0 23 1 := f5.1.2.1.1 23 1 (by decide +kernel)
  have y3 : hV H1 (n1).toNat 3 = hV H0 (n1).toNat 3 := f5.1.2.1.2.2 _ 6 k6 rfl 3 (by decide +kernel)
  have e1 : n4 = hV H0 23 1 := by
    have w := f13
    rw [f3] at w
    exact w.trans y1
  have b9 : BTS n3 ly := by
    rw [f9, y3]
    exact b
  have b20 : BTS n7 ly := by
    rw [f20, y3]
    exact b
  have b27 : BTS n9 ly := by
    rw [f27, y3]
    exact b
  have us := f14
  rw [e1] at us
  have s0 : 0 ≤ hV H0 23 1 := by omega
  have lo := fun j (hj : j < 32) w => ushr_z us s0 (by omega) (by omega) j ((b9 j hj).mpr w)
  have k1 := K28_le f5.1.1 z.1
  have k28 := k1.1
  have n28 := k1.2
  have q := f5.2.2
  unfold nb_12 at q
  have rows := q nx rk z
  have qj := f30.2.2
  unfold nb_11 at qj
  rw [f21] at qj
  have qj := qj k28 (by decide) (by show 20 ≤ (hN H1 28 : Int); omega)
  rw [show n9 = n7 from f27.trans f20.symm] at qj
  have mb := MY_bit (s := n0) b20 qj f31 rows s20 lo p2 p3 f33 f35 f34
  exact .inl ⟨by omega, mb.mp (by omega)⟩
def g_14w_s_5 : vG := ([(0, [15], [], 1), (30, [14], [], 0), (4, [14, 12, 13], [], 0), (0, [13], [], 1), (9, [12, 11, 2], [], 0), (31, [6], [], 0), (5, [11, 7, 10], [], 0), (1011, [10, 8, 9], [1, 2], 0), (90, [10], [], -2147483648), (91, [10], [], 2147483647), (20, [9, 1], [1], 3), (23, [1], [1], 6), (90, [9], [], -2147483648), (91, [9], [], 2147483647), (20, [8, 0], [1], 6), (23, [0], [1], 0), (0, [8], [], 28), (20, [7, 1], [1], 3), (23, [1], [1], 6), (90, [7], [], -2147483648), (91, [7], [], 2147483647), (0, [6], [], 1), (30, [5], [], 0), (9, [5, 3, 4], [], 0), (20, [4, 0], [1], 1), (23, [0], [1], 0), (90, [4], [], 0), (91, [4], [], 20), (20, [3, 1], [1], 3), (23, [1], [1], 6), (90, [3], [], -2147483648), (91, [3], [], 2147483647), (1012, [0], [0, 1], 0), (6000, [0, 1, 2], [0], 0), (0, [0], [], 23), (51, [1], [], 0), (90, [2], [], -2147483648), (91, [2], [], 2147483647)], (3000, [15], [2], 58))
theorem c_14w_s_5 : vOkm T0 (eN e_14 L_14w A_14 mu_14 n_14 B_14 none) 3 g_14w_s_5 := vOk_inI fun ρ η f0 f1 f2 f3 f4 f5 f6 f7 f8 f9 f10 f11 f12 f13 f14 f15 f16 f17 f18 f19 f20 f21 f22 f23 f24 f25 f26 f27 f28 f29 f30 f31 f32 f33 f34 f35 f36 f37 => q_14w_5 (n0 := ρ 2) (n1 := ρ 1) (n2 := ρ 0) (n3 := ρ 3) (n4 := ρ 4) (n5 := ρ 5) (n6 := ρ 6) (n7 := ρ 7) (n8 := ρ 8) (n9 := ρ 9) (n10 := ρ 10) (n11 := ρ 11) (n12 := ρ 12) (n13 := ρ 13) (n14 := ρ 14) (n15 := ρ 15) (H0 := η 0) (H1 := η 1) (H2 := η 2) f37 f36 f35 f34 f33 f32 f31 f30 f29 f28 f27 f26 f25 f24 f23 f22 f21 f20 f19 f18 f17 f16 f15 f14 f13 f12 f11 f10 f9 f8 f7 f6 f5 f4 f3 f2 f1 f0
def p_14w_s : List vG := [g_14w_s_0,
  g_14w_s_1,
  g_14w_s_2,
  g_14w_s_3,
  g_14w_s_4,
  g_14w_s_5]
theorem r_14w_s : vCovBO (eR0 e_14 L_14 cs_14 2000) p_14w_s = true := by decide +kernel
theorem m_14w (d : Nat) : eC e_14w (d + 4) := eC_ref (e := e_14) (L := L_14) (L' := L_14w) (cs := cs_14) (n := 2000) (d := d + 3) (A := A_14) (μ := mu_14) (tp := true) (p0 := p_14_s) (p1 := p_14w_s) (N := n_14) (B := B_14) rfl ⟨m_11w (d + 1), ⟨m_12w d, trivial⟩⟩ rfl (.inr pre0_ok) (by decide +kernel) (fun _ => post0_ok) r_14_s allN allN (sub1 (sub1 trivial)) r_14w_s (allC c_14w_s_0 (allC c_14w_s_1 (allC c_14w_s_2 (allC c_14w_s_3 (allC c_14w_s_4 (allC c_14w_s_5 allN)))))) allN
/- MixStage.leans (I)I, more fully -/
def nb_179 (r a0 a1 : Int) (h0 h : gH) : Prop := SKs h0 → (0 ≤ a1 → a1 < (hV h0 23 1) → ∀ (nx : Nat → Nat → Prop) (rk : Nat → Nat), LNC h0 nx rk → BTS r (LSp (hV h0 23 1) nx (a1).toNat)) ∧ (¬ (0 ≤ a1 ∧ a1 < (hV h0 23 1)) → r = -1)
def n_179 : List Int → gH → gH → Prop := fun xs h0 h => match xs with
  | [r, a0, a1] => nb_179 r a0 a1 h0 h
  | _ => True
noncomputable def e_179w : vE := eV e_179 n_179
noncomputable def L_179w : List vE := [e_2v, e_13w]
def B_179 : Int → List Int → gH → gH → Prop := fun c xs h0 h => True
theorem q_179w_0 {n0 n1 n2 n3 n4 : Int} {H0 H1 : gH} (f0 : n0 ≤ 2147483647) (f1 : (-2147483648) ≤ n0) (f2 : n1 = 7) (f3 : hWt T0 H0 ∧ True) (f4 : n2 = 23) (f5 : hK H0 (n1).toNat = 11) (f6 : n2 = hV H0 (n1).toNat 7) (f7 : (hLe T0 H0 H1 ∧ hFr s_2.2.2.2.2 H0 H1 ∧ ((0 : Int) = 0 → H1.length = H0.length) ∧ hWt T0 H1) ∧ postb_2v n3 n2 n0 H0 H1) (f8 : n3 = -1) (f9 : n4 = (-1)) : nb_179 n4 n1 n0 H0 H1 := by
  unfold nb_179
  intro sk
  have c2 := f2
  have c4 := f4
  have c9 := f9
  have qg := f7.2
  unfold postb_2v at qg
  refine ⟨fun p0 p1 => ?_, fun _ => by omega⟩
  exfalso
  have := (sk (n0).toNat (by omega)).1
  rcases qg with w | w
  · omega
  · exact w.2 ⟨p0, p1⟩
def g_179w_s_0 : vG := ([(0, [4], [], -1), (50, [3], [], 0), (1002, [3, 2, 1], [0, 1], 0), (20, [2, 0], [0], 7), (23, [0], [0], 11), (0, [2], [], 23), (6000, [0, 1], [0], 0), (0, [0], [], 7), (90, [1], [], -2147483648), (91, [1], [], 2147483647)], (3000, [4], [1], 23))
theorem c_179w_s_0 : vOkm T0 (eN e_179 L_179w A_179 mu_179 n_179 B_179 none) 2 g_179w_s_0 := vOk_inI fun ρ η f0 f1 f2 f3 f4 f5 f6 f7 f8 f9 => q_179w_0 (n0 := ρ 1) (n1 := ρ 0) (n2 := ρ 2) (n3 := ρ 3) (n4 := ρ 4) (H0 := η 0) (H1 := η 1) f9 f8 f7 f6 f5 f4 f3 f2 f1 f0
theorem q_179w_1 {n0 n1 n2 n3 n4 n5 : Int} {H0 H1 H2 : gH} (f0 : n0 ≤ 2147483647) (f1 : (-2147483648) ≤ n0) (f2 : n1 = 7) (f3 : hWt T0 H0 ∧ True) (f4 : n2 = 23) (f5 : hK H0 (n1).toNat = 11) (f6 : n2 = hV H0 (n1).toNat 7) (f7 : (hLe T0 H0 H1 ∧ hFr s_2.2.2.2.2 H0 H1 ∧ ((0 : Int) = 0 → H1.length = H0.length) ∧ hWt T0 H1) ∧ postb_2v n3 n2 n0 H0 H1) (f8 : 0 ≤ n3) (f9 : n4 = 23) (f10 : hK H1 (n1).toNat = 11) (f11 : n4 = hV H1 (n1).toNat 7) (f12 : n5 ≤ 2147483647) (f13 : (-2147483648) ≤ n5) (f14 : (hLe T0 H1 H2 ∧ hFr s_13.2.2.2.2 H1 H2 ∧ ((0 : Int) = 0 → H2.length = H1.length) ∧ hWt T0 H2) ∧ (True ∧ nb_13 n5 n4 n0 H1 H2)) : nb_179 n5 n1 n0 H0 H2 := by
  unfold nb_179
  intro sk
  have c2 := f2
  have c4 := f4
  have c9 := f9
  have qg := f7.2
  unfold postb_2v at qg
  refine ⟨fun p0 p1 nx rk z => ?_, fun w => ?_⟩
  · have y1 : hV H1 23 1 = hV H0 23 1 := f7.1.2.1.1 23 1 (by decide +kernel)
    have q := f14.2.2
    unfold nb_13 at q
    have q := q nx rk (LNC_fr f7.1.1 f7.1.2.1 (by decide +kernel) z) p0 (by omega)
    rw [y1] at q
    exact q
  · exfalso
    rcases qg with v | v
    · exact w ⟨v.1, v.2.1⟩
    · omega
def g_179w_s_1 : vG := ([(1013, [5, 4, 1], [1, 2], 0), (90, [5], [], -2147483648), (91, [5], [], 2147483647), (20, [4, 0], [1], 7), (23, [0], [1], 11), (0, [4], [], 23), (51, [3], [], 0), (1002, [3, 2, 1], [0, 1], 0), (20, [2, 0], [0], 7), (23, [0], [0], 11), (0, [2], [], 23), (6000, [0, 1], [0], 0), (0, [0], [], 7), (90, [1], [], -2147483648), (91, [1], [], 2147483647)], (3000, [5], [2], 23))
theorem c_179w_s_1 : vOkm T0 (eN e_179 L_179w A_179 mu_179 n_179 B_179 none) 2 g_179w_s_1 := vOk_inI fun ρ η f0 f1 f2 f3 f4 f5 f6 f7 f8 f9 f10 f11 f12 f13 f14 => q_179w_1 (n0 := ρ 1) (n1 := ρ 0) (n2 := ρ 2) (n3 := ρ 3) (n4 := ρ 4) (n5 := ρ 5) (H0 := η 0) (H1 := η 1) (H2 := η 2) f14 f13 f12 f11 f10 f9 f8 f7 f6 f5 f4 f3 f2 f1 f0
def p_179w_s : List vG := [g_179w_s_0,
  g_179w_s_1]
theorem r_179w_s : vCovBO (eR0 e_179 L_179 cs_179 2000) p_179w_s = true := by decide +kernel
theorem m_179w (d : Nat) : eC e_179w (d + 5) := eC_ref (e := e_179) (L := L_179) (L' := L_179w) (cs := cs_179) (n := 2000) (d := d + 4) (A := A_179) (μ := mu_179) (tp := true) (p0 := p_179_s) (p1 := p_179w_s) (N := n_179) (B := B_179) rfl ⟨m_2v (d + 3), ⟨m_13w d, trivial⟩⟩ rfl (.inr pre0_ok) (by decide +kernel) (fun _ => post0_ok) r_179_s allN allN ⟨⟨rfl, rfl, rfl, fun _ _ _ _ => trivial⟩, (sub1 trivial)⟩ r_179w_s (allC c_179w_s_0 (allC c_179w_s_1 allN)) allN
/- Picture.has (I)Z, more fully -/
def nb_51 (r a0 a1 : Int) (h0 h : gH) : Prop := (r = 1 ∧ 0 ≤ a1 ∧ a1 < hV h0 19 3) ∨ (r = 0 ∧ ¬ (0 ≤ a1 ∧ a1 < hV h0 19 3))
def n_51 : List Int → gH → gH → Prop := fun xs h0 h => match xs with
  | [r, a0, a1] => nb_51 r a0 a1 h0 h
  | _ => True
noncomputable def e_51w : vE := eV e_51 n_51
noncomputable def L_51w : List vE := []
def B_51 : Int → List Int → gH → gH → Prop := fun c xs h0 h => True
theorem q_51w_0 {n0 n1 n2 : Int} {H0 : gH} (f0 : n0 ≤ 2147483647) (f1 : (-2147483648) ≤ n0) (f2 : n1 = 19) (f3 : hWt T0 H0 ∧ True) (f4 : n0 < 0) (f5 : n2 = 0) : nb_51 n2 n1 n0 H0 H0 := by
  unfold nb_51
  have c2 := f2
  have c5 := f5
  omega
def g_51w_s_0 : vG := ([(0, [2], [], 0), (32, [1], [], 0), (6000, [0, 1], [0], 0), (0, [0], [], 19), (90, [1], [], -2147483648), (91, [1], [], 2147483647)], (3000, [2], [0], 17))
theorem c_51w_s_0 : vOkm T0 (eN e_51 L_51w A_51 mu_51 n_51 B_51 none) 2 g_51w_s_0 := vOk_inI fun ρ η f0 f1 f2 f3 f4 f5 => q_51w_0 (n0 := ρ 1) (n1 := ρ 0) (n2 := ρ 2) (H0 := η 0) f5 f4 f3 f2 f1 f0
theorem q_51w_1 {n0 n1 n2 n3 : Int} {H0 : gH} (f0 : n0 ≤ 2147483647) (f1 : (-2147483648) ≤ n0) (f2 : n1 = 19) (f3 : hWt T0 H0 ∧ True) (f4 : 0 ≤ n0) (f5 : n2 ≤ 2147483647) (f6 : (-2147483648) ≤ n2) (f7 : hK H0 (n1).toNat = 3) (f8 : n2 = hV H0 (n1).toNat 3) (f9 : n2 ≤ n0) (f10 : n3 = 0) : nb_51 n3 n1 n0 H0 H0 := by
  have r8 := f8
  rw [f2] at r8
  replace r8 : n2 = hV H0 19 3 := r8
  unfold nb_51
  have c2 := f2
  have c10 := f10
  omega
def g_51w_s_1 : vG := ([(0, [3], [], 0), (43, [1, 2], [], 0), (20, [2, 0], [0], 3), (23, [0], [0], 3), (90, [2], [], -2147483648), (91, [2], [], 2147483647), (33, [1], [], 0), (6000, [0, 1], [0], 0), (0, [0], [], 19), (90, [1], [], -2147483648), (91, [1], [], 2147483647)], (3000, [3], [0], 17))
theorem c_51w_s_1 : vOkm T0 (eN e_51 L_51w A_51 mu_51 n_51 B_51 none) 2 g_51w_s_1 := vOk_inI fun ρ η f0 f1 f2 f3 f4 f5 f6 f7 f8 f9 f10 => q_51w_1 (n0 := ρ 1) (n1 := ρ 0) (n2 := ρ 2) (n3 := ρ 3) (H0 := η 0) f10 f9 f8 f7 f6 f5 f4 f3 f2 f1 f0
theorem q_51w_2 {n0 n1 n2 n3 : Int} {H0 : gH} (f0 : n0 ≤ 2147483647) (f1 : (-2147483648) ≤ n0) (f2 : n1 = 19) (f3 : hWt T0 H0 ∧ True) (f4 : 0 ≤ n0) (f5 : n2 ≤ 2147483647) (f6 : (-2147483648) ≤ n2) (f7 : hK H0 (n1).toNat = 3) (f8 : n2 = hV H0 (n1).toNat 3) (f9 : n0 < n2) (f10 : n3 = 1) : nb_51 n3 n1 n0 H0 H0 := by
  have r8 := f8
  rw [f2] at r8
  replace r8 : n2 = hV H0 19 3 := r8
  unfold nb_51
  have c2 := f2
  have c10 := f10
  omega
def g_51w_s_2 : vG := ([(0, [3], [], 1), (42, [1, 2], [], 0), (20, [2, 0], [0], 3), (23, [0], [0], 3), (90, [2], [], -2147483648), (91, [2], [], 2147483647), (33, [1], [], 0), (6000, [0, 1], [0], 0), (0, [0], [], 19), (90, [1], [], -2147483648), (91, [1], [], 2147483647)], (3000, [3], [0], 17))
theorem c_51w_s_2 : vOkm T0 (eN e_51 L_51w A_51 mu_51 n_51 B_51 none) 2 g_51w_s_2 := vOk_inI fun ρ η f0 f1 f2 f3 f4 f5 f6 f7 f8 f9 f10 => q_51w_2 (n0 := ρ 1) (n1 := ρ 0) (n2 := ρ 2) (n3 := ρ 3) (H0 := η 0) f10 f9 f8 f7 f6 f5 f4 f3 f2 f1 f0
def p_51w_s : List vG := [g_51w_s_0,
  g_51w_s_1,
  g_51w_s_2]
theorem r_51w_s : vCovBO (eR0 e_51 L_51 cs_51 2000) p_51w_s = true := by decide +kernel
theorem m_51w (d : Nat) : eC e_51w (d + 1) := eC_ref (e := e_51) (L := L_51) (L' := L_51w) (cs := cs_51) (n := 2000) (d := d + 0) (A := A_51) (μ := mu_51) (tp := true) (p0 := p_51_s) (p1 := p_51w_s) (N := n_51) (B := B_51) rfl trivial rfl (.inr pre0_ok) (by decide +kernel) (fun _ => post0_ok) r_51_s allN allN trivial r_51w_s (allC c_51w_s_0 (allC c_51w_s_1 (allC c_51w_s_2 allN))) allN
/- MixStage.reaches (LMixStage$Sheet;I)Z, more fully -/
def nb_196 (r a0 a1 a2 : Int) (h0 h : gH) : Prop := (0 ≤ a1 → hK h0 (a1).toNat = 6) → (r = 1 ∧ 0 ≤ a1 ∧ 0 ≤ a2 ∧ a2 < hV h0 19 3 ∧ hV h0 (a1).toNat 0 ≤ a2) ∨ (r = 0 ∧ ¬ (0 ≤ a1 ∧ 0 ≤ a2 ∧ a2 < hV h0 19 3 ∧ hV h0 (a1).toNat 0 ≤ a2))
def n_196 : List Int → gH → gH → Prop := fun xs h0 h => match xs with
  | [r, a0, a1, a2] => nb_196 r a0 a1 a2 h0 h
  | _ => True
noncomputable def e_196w : vE := eV e_196 n_196
noncomputable def L_196w : List vE := [e_51w]
def B_196 : Int → List Int → gH → gH → Prop := fun c xs h0 h => True
theorem q_196w_0 {n0 n1 n2 n3 : Int} {H0 : gH} (f0 : n0 ≤ 2147483647) (f1 : (-2147483648) ≤ n0) (f2 : n1 = 7) (f3 : hWt T0 H0 ∧ True) (f4 : n2 = -1) (f5 : n3 = 0) : nb_196 n3 n1 n2 n0 H0 H0 := by
  unfold nb_196
  intro k6
  have c2 := f2
  have c5 := f5
  omega
def g_196w_s_0 : vG := ([(0, [3], [], 0), (50, [1], [], 0), (6000, [0, 1, 2], [0], 0), (0, [0], [], 7), (90, [2], [], -2147483648), (91, [2], [], 2147483647)], (3000, [3], [0], 28))
theorem c_196w_s_0 : vOkm T0 (eN e_196 L_196w A_196 mu_196 n_196 B_196 none) 3 g_196w_s_0 := vOk_inI fun ρ η f0 f1 f2 f3 f4 f5 => q_196w_0 (n0 := ρ 2) (n1 := ρ 0) (n2 := ρ 1) (n3 := ρ 3) (H0 := η 0) f5 f4 f3 f2 f1 f0
theorem q_196w_1 {n0 n1 n2 n3 n4 n5 : Int} {H0 H1 : gH} (f0 : n0 ≤ 2147483647) (f1 : (-2147483648) ≤ n0) (f2 : n1 = 7) (f3 : hWt T0 H0 ∧ True) (f4 : 0 ≤ n2) (f5 : n3 = 19) (f6 : hK H0 (n1).toNat = 11) (f7 : n3 = hV H0 (n1).toNat 6) (f8 : n4 ≤ 1) (f9 : 0 ≤ n4) (f10 : (hLe T0 H0 H1 ∧ hFr s_51.2.2.2.2 H0 H1 ∧ ((0 : Int) = 0 → H1.length = H0.length) ∧ hWt T0 H1) ∧ (True ∧ nb_51 n4 n3 n0 H0 H1)) (f11 : n4 = 0) (f12 : n5 = 0) : nb_196 n5 n1 n2 n0 H0 H1 := by
  unfold nb_196
  intro k6
  have c2 := f2
  have c5 := f5
  have c12 := f12
  have q := f10.2.2
  unfold nb_51 at q
  omega
def g_196w_s_1 : vG := ([(0, [5], [], 0), (30, [4], [], 0), (1051, [4, 3, 2], [0, 1], 0), (90, [4], [], 0), (91, [4], [], 1), (20, [3, 0], [0], 6), (23, [0], [0], 11), (0, [3], [], 19), (51, [1], [], 0), (6000, [0, 1, 2], [0], 0), (0, [0], [], 7), (90, [2], [], -2147483648), (91, [2], [], 2147483647)], (3000, [5], [1], 28))
theorem c_196w_s_1 : vOkm T0 (eN e_196 L_196w A_196 mu_196 n_196 B_196 none) 3 g_196w_s_1 := vOk_inI fun ρ η f0 f1 f2 f3 f4 f5 f6 f7 f8 f9 f10 f11 f12 => q_196w_1 (n0 := ρ 2) (n1 := ρ 0) (n2 := ρ 1) (n3 := ρ 3) (n4 := ρ 4) (n5 := ρ 5) (H0 := η 0) (H1 := η 1) f12 f11 f10 f9 f8 f7 f6 f5 f4 f3 f2 f1 f0
theorem q_196w_2 {n0 n1 n2 n3 n4 n5 n6 : Int} {H0 H1 : gH} (f0 : n0 ≤ 2147483647) (f1 : (-2147483648) ≤ n0) (f2 : n1 = 7) (f3 : hWt T0 H0 ∧ True) (f4 : 0 ≤ n2) (f5 : n3 = 19) (f6 : hK H0 (n1).toNat = 11) (f7 : n3 = hV H0 (n1).toNat 6) (f8 : n4 ≤ 1) (f9 : 0 ≤ n4) (f10 : (hLe T0 H0 H1 ∧ hFr s_51.2.2.2.2 H0 H1 ∧ ((0 : Int) = 0 → H1.length = H0.length) ∧ hWt T0 H1) ∧ (True ∧ nb_51 n4 n3 n0 H0 H1)) (f11 : n4 ≠ 0) (f12 : n5 ≤ 2147483647) (f13 : (-2147483648) ≤ n5) (f14 : hK H1 (n2).toNat = 6) (f15 : n5 = hV H1 (n2).toNat 0) (f16 : n0 < n5) (f17 : n6 = 0) : nb_196 n6 n1 n2 n0 H0 H1 := by
  unfold nb_196
  intro k6
  have c2 := f2
  have c5 := f5
  have c17 := f17
  have q := f10.2.2
  unfold nb_51 at q
  have y0 : hV H1 (n2).toNat 0 = hV H0 (n2).toNat 0 := f10.1.2.1.2.2 _ 6 (k6 (by omega)) rfl 0 (by decide +kernel)
  have e0 := f15
  omega
def g_196w_s_2 : vG := ([(0, [6], [], 0), (42, [2, 5], [], 0), (20, [5, 1], [1], 0), (23, [1], [1], 6), (90, [5], [], -2147483648), (91, [5], [], 2147483647), (31, [4], [], 0), (1051, [4, 3, 2], [0, 1], 0), (90, [4], [], 0), (91, [4], [], 1), (20, [3, 0], [0], 6), (23, [0], [0], 11), (0, [3], [], 19), (51, [1], [], 0), (6000, [0, 1, 2], [0], 0), (0, [0], [], 7), (90, [2], [], -2147483648), (91, [2], [], 2147483647)], (3000, [6], [1], 28))
theorem c_196w_s_2 : vOkm T0 (eN e_196 L_196w A_196 mu_196 n_196 B_196 none) 3 g_196w_s_2 := vOk_inI fun ρ η f0 f1 f2 f3 f4 f5 f6 f7 f8 f9 f10 f11 f12 f13 f14 f15 f16 f17 => q_196w_2 (n0 := ρ 2) (n1 := ρ 0) (n2 := ρ 1) (n3 := ρ 3) (n4 := ρ 4) (n5 := ρ 5) (n6 := ρ 6) (H0 := η 0) (H1 := η 1) f17 f16 f15 f14 f13 f12 f11 f10 f9 f8 f7 f6 f5 f4 f3 f2 f1 f0
theorem q_196w_3 {n0 n1 n2 n3 n4 n5 n6 : Int} {H0 H1 : gH} (f0 : n0 ≤ 2147483647) (f1 : (-2147483648) ≤ n0) (f2 : n1 = 7) (f3 : hWt T0 H0 ∧ True) (f4 : 0 ≤ n2) (f5 : n3 = 19) (f6 : hK H0 (n1).toNat = 11) (f7 : n3 = hV H0 (n1).toNat 6) (f8 : n4 ≤ 1) (f9 : 0 ≤ n4) (f10 : (hLe T0 H0 H1 ∧ hFr s_51.2.2.2.2 H0 H1 ∧ ((0 : Int) = 0 → H1.length = H0.length) ∧ hWt T0 H1) ∧ (True ∧ nb_51 n4 n3 n0 H0 H1)) (f11 : n4 ≠ 0) (f12 : n5 ≤ 2147483647) (f13 : (-2147483648) ≤ n5) (f14 : hK H1 (n2).toNat = 6) (f15 : n5 = hV H1 (n2).toNat 0) (f16 : n5 ≤ n0) (f17 : n6 = 1) : nb_196 n6 n1 n2 n0 H0 H1 := by
  unfold nb_196
  intro k6
  have c2 := f2
  have c5 := f5
  have c17 := f17
  have q := f10.2.2
  unfold nb_51 at q
  have y0 : hV H1 (n2).toNat 0 = hV H0 (n2).toNat 0 := f10.1.2.1.2.2 _ 6 (k6 (by omega)) rfl 0 (by decide +kernel)
  have e0 := f15
  omega
def g_196w_s_3 : vG := ([(0, [6], [], 1), (43, [2, 5], [], 0), (20, [5, 1], [1], 0), (23, [1], [1], 6), (90, [5], [], -2147483648), (91, [5], [], 2147483647), (31, [4], [], 0), (1051, [4, 3, 2], [0, 1], 0), (90, [4], [], 0), (91, [4], [], 1), (20, [3, 0], [0], 6), (23, [0], [0], 11), (0, [3], [], 19), (51, [1], [], 0), (6000, [0, 1, 2], [0], 0), (0, [0], [], 7), (90, [2], [], -2147483648), (91, [2], [], 2147483647)], (3000, [6], [1], 28))
theorem c_196w_s_3 : vOkm T0 (eN e_196 L_196w A_196 mu_196 n_196 B_196 none) 3 g_196w_s_3 := vOk_inI fun ρ η f0 f1 f2 f3 f4 f5 f6 f7 f8 f9 f10 f11 f12 f13 f14 f15 f16 f17 => q_196w_3 (n0 := ρ 2) (n1 := ρ 0) (n2 := ρ 1) (n3 := ρ 3) (n4 := ρ 4) (n5 := ρ 5) (n6 := ρ 6) (H0 := η 0) (H1 := η 1) f17 f16 f15 f14 f13 f12 f11 f10 f9 f8 f7 f6 f5 f4 f3 f2 f1 f0
def p_196w_s : List vG := [g_196w_s_0,
  g_196w_s_1,
  g_196w_s_2,
  g_196w_s_3]
theorem r_196w_s : vCovBO (eR0 e_196 L_196 cs_196 2000) p_196w_s = true := by decide +kernel
theorem m_196w (d : Nat) : eC e_196w (d + 2) := eC_ref (e := e_196) (L := L_196) (L' := L_196w) (cs := cs_196) (n := 2000) (d := d + 1) (A := A_196) (μ := mu_196) (tp := false) (p0 := p_196_s) (p1 := p_196w_s) (N := n_196) (B := B_196) rfl ⟨m_51w d, trivial⟩ rfl (.inr pre0_ok) (by decide +kernel) (fun z => nomatch z) r_196_s (allC c_196_s_0 (allC c_196_s_1 (allC c_196_s_2 (allC c_196_s_3 allN)))) allN (sub1 trivial) r_196w_s (allC c_196w_s_0 (allC c_196w_s_1 (allC c_196w_s_2 (allC c_196w_s_3 allN)))) allN
/- MixStage.make (III)I, more fully -/
def nb_174 (r a0 a1 a2 a3 : Int) (h0 h : gH) : Prop := ∀ (nx : Nat → Nat → Prop) (rk : Nat → Nat) (ly : Nat → Prop), LNC h0 nx rk → K79 h0 → SK9 h0 → (0 ≤ a2 → a2 < hV h0 7 4 → BTS (hV h0 (hV h0 9 (a2).toNat).toNat 3) ly) → ((CMK h0 a1 a2 a3 ∧ MYp (hV h0 23 1) nx ly (a1).toNat) ∧ MK10 (hV h0 24 (a1).toNat) (hV h0 9 (a2).toNat) h0 h) ∨ (¬ (CMK h0 a1 a2 a3 ∧ MYp (hV h0 23 1) nx ly (a1).toNat) ∧ KP10 h0 h)
def n_174 : List Int → gH → gH → Prop := fun xs h0 h => match xs with
  | [r, a0, a1, a2, a3] => nb_174 r a0 a1 a2 a3 h0 h
  | _ => True
noncomputable def e_174w : vE := eV e_174 n_174
noncomputable def L_174w : List vE := [e_3v, e_14w, e_194y, e_196w, e_197]
def B_174 : Int → List Int → gH → gH → Prop := fun c xs h0 h => True
theorem q_174w_0 {n0 n1 n2 n3 n4 n5 n6 n7 n8 : Int} {H0 H1 H2 : gH} (f0 : n0 ≤ 2147483647) (f1 : (-2147483648) ≤ n0) (f2 : n1 ≤ 2147483647) (f3 : (-2147483648) ≤ n1) (f4 : n2 ≤ 2147483647) (f5 : (-2147483648) ≤ n2) (f6 : n3 = 7) (f7 : hWt T0 H0 ∧ True) (f8 : n4 = 23) (f9 : hK H0 (n3).toNat = 11) (f10 : n4 = hV H0 (n3).toNat 7) (f11 : n5 = 6) (f12 : (hLe T0 H0 H1 ∧ hFr s_3.2.2.2.2 H0 H1 ∧ ((0 : Int) = 0 → H1.length = H0.length) ∧ hWt T0 H1) ∧ postb_3v n6 n4 n2 n5 H0 H1) (f13 : (hLe T0 H1 H2 ∧ hFr s_194.2.2.2.2 H1 H2 ∧ ((0 : Int) = 0 → H2.length = H1.length) ∧ hWt T0 H2) ∧ postb_194y n7 n3 n1 H1 H2) (f14 : n6 = -1) (f15 : n8 = (-1)) : nb_174 n8 n3 n2 n1 n0 H0 H2 := by
  unfold nb_174
  intro nx rk ly z k79 s9 hly
  have c6 := f6
  have c8 := f8
  have c11 := f11
  have c15 := f15
  have qk := f12.2
  unfold postb_3v at qk
  rw [f11] at qk
  unfold KV at qk
  have z1 := LNC_fr f12.1.1 f12.1.2.1 (by decide +kernel) z
  have qs := f13.2
  unfold postb_194y at qs
  have g74 : hV H1 7 4 = hV H0 7 4 := f12.1.2.1.1 7 4 (by decide +kernel)
  have g9 : hV H1 9 = hV H0 9 := fRow f12.1.2.1 9 (by decide +kernel)
  rw [g74, g9] at qs
  obtain ⟨qs1, qs2⟩ := qs (K79_le f12.1.1 k79)
  refine .inr ⟨fun w => ?_, fun q hq => (f13.1.2.1.2.2 q 7 (kLe f12.1.1 hq rfl) rfl 10 (by decide +kernel)).trans (f12.1.2.1.2.2 q 7 hq rfl 10 (by decide +kernel))⟩
  have w1 := w.1.1
  have := (z.2.1 (n2).toNat (by omega)).1
  rcases qk with v | v
  · omega
  · exact v.2 ⟨w1.1, w1.2.1, this, w1.2.2⟩
def g_174w_s_0 : vG := ([(0, [8], [], -1), (50, [6], [], 0), (1194, [7, 0, 2], [1, 2], 0), (1003, [6, 4, 1, 5], [0, 1], 0), (0, [5], [], 6), (20, [4, 0], [0], 7), (23, [0], [0], 11), (0, [4], [], 23), (6000, [0, 1, 2, 3], [0], 0), (0, [0], [], 7), (90, [1], [], -2147483648), (91, [1], [], 2147483647), (90, [2], [], -2147483648), (91, [2], [], 2147483647), (90, [3], [], -2147483648), (91, [3], [], 2147483647)], (3000, [8], [2], 35))
theorem c_174w_s_0 : vOkm T0 (eN e_174 L_174w A_174 mu_174 n_174 B_174 none) 4 g_174w_s_0 := vOk_inI fun ρ η f0 f1 f2 f3 f4 f5 f6 f7 f8 f9 f10 f11 f12 f13 f14 f15 => q_174w_0 (n0 := ρ 3) (n1 := ρ 2) (n2 := ρ 1) (n3 := ρ 0) (n4 := ρ 4) (n5 := ρ 5) (n6 := ρ 6) (n7 := ρ 7) (n8 := ρ 8) (H0 := η 0) (H1 := η 1) (H2 := η 2) f15 f14 f13 f12 f11 f10 f9 f8 f7 f6 f5 f4 f3 f2 f1 f0
theorem q_174w_1 {n0 n1 n2 n3 n4 n5 n6 n7 n8 n9 n10 n11 n12 n13 n14 : Int} {H0 H1 H2 H3 H4 H5 H6 H7 H8 : gH} (f0 : n0 ≤ 2147483647) (f1 : (-2147483648) ≤ n0) (f2 : n1 ≤ 2147483647) (f3 : (-2147483648) ≤ n1) (f4 : n2 ≤ 2147483647) (f5 : (-2147483648) ≤ n2) (f6 : n3 = 7) (f7 : hWt T0 H0 ∧ True) (f8 : n4 = 23) (f9 : hK H0 (n3).toNat = 11) (f10 : n4 = hV H0 (n3).toNat 7) (f11 : n5 = 6) (f12 : (hLe T0 H0 H1 ∧ hFr s_3.2.2.2.2 H0 H1 ∧ ((0 : Int) = 0 → H1.length = H0.length) ∧ hWt T0 H1) ∧ postb_3v n6 n4 n2 n5 H0 H1) (f13 : (hLe T0 H1 H2 ∧ hFr s_194.2.2.2.2 H1 H2 ∧ ((0 : Int) = 0 → H2.length = H1.length) ∧ hWt T0 H2) ∧ postb_194y n7 n3 n1 H1 H2) (f14 : 0 ≤ n6) (f15 : n8 ≤ 1) (f16 : 0 ≤ n8) (f17 : (hLe T0 H2 H3 ∧ hFr s_196.2.2.2.2 H2 H3 ∧ ((0 : Int) = 0 → H3.length = H2.length) ∧ hWt T0 H3) ∧ (postb_196 n8 n3 n7 n0 H2 H3 ∧ nb_196 n8 n3 n7 n0 H2 H3)) (f18 : n8 ≠ 0) (f19 : n9 = 23) (f20 : hK H3 (n3).toNat = 11) (f21 : n9 = hV H3 (n3).toNat 7) (f22 : n10 ≤ 1) (f23 : 0 ≤ n10) (f24 : (hLe T0 H3 H4 ∧ hFr s_14.2.2.2.2 H3 H4 ∧ ((0 : Int) = 0 → H4.length = H3.length) ∧ hWt T0 H4) ∧ (True ∧ nb_14 n10 n9 n7 n2 H3 H4)) (f25 : n10 ≠ 0) (f26 : hK H4 (n6).toNat = 7) (f27 : n11 = 10) (f28 : hUpd H5 H4 n6 n11 n7) (f29 : hK H5 (n6).toNat = 7) (f30 : n12 = 11) (f31 : hUpd H6 H5 n6 n12 n1) (f32 : hK H6 (n6).toNat = 7) (f33 : n13 = 12) (f34 : hUpd H7 H6 n6 n13 n0) (f35 : (hLe T0 H7 H8 ∧ hFr s_197.2.2.2.2 H7 H8 ∧ ((0 : Int) = 0 → H8.length = H7.length) ∧ hWt T0 H8) ∧ True) (f36 : n14 ≤ 2147483647) (f37 : (-2147483648) ≤ n14) (f38 : hK H8 (n6).toNat = 7) (f39 : n14 = hV H8 (n6).toNat 8) : nb_174 n14 n3 n2 n1 n0 H0 H8 := by
  unfold nb_174
  intro nx rk ly z k79 s9 hly
  have c6 := f6
  have c8 := f8
  have c11 := f11
  have c19 := f19
  have c27 := f27
  have c30 := f30
  have c33 := f33
  have qk := f12.2
  unfold postb_3v at qk
  rw [f11] at qk
  unfold KV at qk
  have z1 := LNC_fr f12.1.1 f12.1.2.1 (by decide +kernel) z
  have qs := f13.2
  unfold postb_194y at qs
  have g74 : hV H1 7 4 = hV H0 7 4 := f12.1.2.1.1 7 4 (by decide +kernel)
  have g9 : hV H1 9 = hV H0 9 := fRow f12.1.2.1 9 (by decide +kernel)
  rw [g74, g9] at qs
  obtain ⟨qs1, qs2⟩ := qs (K79_le f12.1.1 k79)
  have kk : 0 ≤ n2 ∧ n2 < hV H0 23 1 ∧ n6 = hV H0 24 (n2).toNat ∧ hV H0 (hV H0 24 (n2).toNat).toNat 0 = 6 ∧ hK H0 (n6).toNat = 7 := by
    rcases qk with v | v
    · exact ⟨v.1, v.2.1, v.2.2.2.1, v.2.2.2.2.1, v.2.2.2.2.2⟩
    · exfalso
      omega
  have ks : 0 ≤ n7 → (0 ≤ n1 ∧ n1 < hV H0 7 4) ∧ n7 = hV H0 9 (n1).toNat ∧ hK H0 (n7).toNat = 6 := fun w => by
    have v : 0 ≤ n1 ∧ n1 < hV H0 7 4 := Classical.byContradiction fun v => by have := qs2 v; omega
    have e := qs1 v.1 v.2
    exact ⟨v, e, by rw [e]; exact (s9 _ (by omega)).2⟩
  have qr := f17.2.2
  unfold nb_196 at qr
  have qr := qr (fun w => (kLe f13.1.1 (kLe f12.1.1 (ks w).2.2 rfl) rfl))
  have g193 : hV H2 19 3 = hV H0 19 3 := (f13.1.2.1.1 19 3 (by decide +kernel)).trans (f12.1.2.1.1 19 3 (by decide +kernel))
  rw [g193] at qr
  have g0 : 0 ≤ n7 → hV H2 (n7).toNat 0 = hV H0 (n7).toNat 0 := fun w => (f13.1.2.1.2.2 _ 6 (kLe f12.1.1 (ks w).2.2 rfl) rfl 0 (by decide +kernel)).trans (f12.1.2.1.2.2 _ 6 (ks w).2.2 rfl 0 (by decide +kernel))
  have rr := (qr.resolve_right (fun w => by have := w.1; omega)).2
  obtain ⟨a0_, a1_, a2_, a3_⟩ := rr
  obtain ⟨ks1, ks2, ks3⟩ := ks a0_
  rw [g0 a0_] at a3_
  have cm : CMK H0 n2 n1 n0 := ⟨⟨kk.1, kk.2.1, kk.2.2.2.1⟩, ks1, a1_, a2_, by rw [← ks2]; exact a3_⟩
  have bl : BTS (hV H3 (n7).toNat 3) ly := by
    rw [show hV H3 (n7).toNat 3 = hV H0 (n7).toNat 3 from (f17.1.2.1.2.2 _ 6 (kLe f13.1.1 (kLe f12.1.1 ks3 rfl) rfl) rfl 3 (by decide +kernel)).trans ((f13.1.2.1.2.2 _ 6 (kLe f12.1.1 ks3 rfl) rfl 3 (by decide +kernel)).trans (f12.1.2.1.2.2 _ 6 ks3 rfl 3 (by decide +kernel))), ks2]
    exact hly ks1.1 ks1.2
  have y231 : hV H3 23 1 = hV H0 23 1 := (f17.1.2.1.1 23 1 (by decide +kernel)).trans ((f13.1.2.1.1 23 1 (by decide +kernel)).trans (f12.1.2.1.1 23 1 (by decide +kernel)))
  have qm := f24.2.2
  unfold nb_14 at qm
  have qm := qm nx rk ly (LNC_fr f17.1.1 f17.1.2.1 (by decide +kernel) (LNC_fr f13.1.1 f13.1.2.1 (by decide +kernel) (LNC_fr f12.1.1 f12.1.2.1 (by decide +kernel) z))) bl a0_ (kLe f17.1.1 (kLe f13.1.1 (kLe f12.1.1 ks3 rfl) rfl) rfl) kk.1 (by omega)
  rw [y231] at qm
  have my := (qm.resolve_right (fun w => by have := w.1; omega)).2
  refine .inl ⟨⟨cm, my⟩, ?_, fun q hq hn => ?_⟩
  · rw [← kk.2.2.1, ← ks2]
    exact (f35.1.2.1.2.2 _ 7 (kUp f34 (kUp f31 (kUp f28 (kLe f24.1.1 (kLe f17.1.1 (kLe f13.1.1 (kLe f12.1.1 kk.2.2.2.2 rfl) rfl) rfl) rfl)))) rfl 10 (by decide +kernel)).trans ((uSlot f34 _ 10 (by omega)).trans ((uSlot f31 _ 10 (by omega)).trans (uSame f28 _ 10 (by omega) (by omega))))
  · have hn : ¬ (q : Int) = n6 := by
      rw [kk.2.2.1]
      exact hn
    exact (f35.1.2.1.2.2 q 7 (kUp f34 (kUp f31 (kUp f28 (kLe f24.1.1 (kLe f17.1.1 (kLe f13.1.1 (kLe f12.1.1 hq rfl) rfl) rfl) rfl)))) rfl 10 (by decide +kernel)).trans ((uPlace f34 q 10 (by omega)).trans ((uPlace f31 q 10 (by omega)).trans ((uPlace f28 q 10 (by omega)).trans ((f24.1.2.1.2.2 q 7 (kLe f17.1.1 (kLe f13.1.1 (kLe f12.1.1 hq rfl) rfl) rfl) rfl 10 (by decide +kernel)).trans ((f17.1.2.1.2.2 q 7 (kLe f13.1.1 (kLe f12.1.1 hq rfl) rfl) rfl 10 (by decide +kernel)).trans ((f13.1.2.1.2.2 q 7 (kLe f12.1.1 hq rfl) rfl 10 (by decide +kernel)).trans (f12.1.2.1.2.2 q 7 hq rfl 10 (by decide +kernel))))))))
def g_174w_s_1 : vG := ([(20, [14, 6], [8], 8), (23, [6], [8], 7), (90, [14], [], -2147483648), (91, [14], [], 2147483647), (1197, [0, 6], [7, 8], 0), (80, [6, 13, 3], [7, 6], 0), (0, [13], [], 12), (23, [6], [6], 7), (80, [6, 12, 2], [6, 5], 0), (0, [12], [], 11), (23, [6], [5], 7), (80, [6, 11, 7], [5, 4], 2), (0, [11], [], 10), (23, [6], [4], 7), (31, [10], [], 0), (1014, [10, 9, 7, 1], [3, 4], 0), (90, [10], [], 0), (91, [10], [], 1), (20, [9, 0], [3], 7), (23, [0], [3], 11), (0, [9], [], 23), (31, [8], [], 0), (1196, [8, 0, 7, 3], [2, 3], 0), (90, [8], [], 0), (91, [8], [], 1), (51, [6], [], 0), (1194, [7, 0, 2], [1, 2], 0), (1003, [6, 4, 1, 5], [0, 1], 0), (0, [5], [], 6), (20, [4, 0], [0], 7), (23, [0], [0], 11), (0, [4], [], 23), (6000, [0, 1, 2, 3], [0], 0), (0, [0], [], 7), (90, [1], [], -2147483648), (91, [1], [], 2147483647), (90, [2], [], -2147483648), (91, [2], [], 2147483647), (90, [3], [], -2147483648), (91, [3], [], 2147483647)], (3000, [14], [8], 82))
theorem c_174w_s_1 : vOkm T0 (eN e_174 L_174w A_174 mu_174 n_174 B_174 none) 4 g_174w_s_1 := vOk_inI fun ρ η f0 f1 f2 f3 f4 f5 f6 f7 f8 f9 f10 f11 f12 f13 f14 f15 f16 f17 f18 f19 f20 f21 f22 f23 f24 f25 f26 f27 f28 f29 f30 f31 f32 f33 f34 f35 f36 f37 f38 f39 => q_174w_1 (n0 := ρ 3) (n1 := ρ 2) (n2 := ρ 1) (n3 := ρ 0) (n4 := ρ 4) (n5 := ρ 5) (n6 := ρ 6) (n7 := ρ 7) (n8 := ρ 8) (n9 := ρ 9) (n10 := ρ 10) (n11 := ρ 11) (n12 := ρ 12) (n13 := ρ 13) (n14 := ρ 14) (H0 := η 0) (H1 := η 1) (H2 := η 2) (H3 := η 3) (H4 := η 4) (H5 := η 5) (H6 := η 6) (H7 := η 7) (H8 := η 8) f39 f38 f37 f36 f35 f34 f33 f32 f31 f30 f29 f28 f27 f26 f25 f24 f23 f22 f21 f20 f19 f18 f17 f16 f15 f14 f13 f12 f11 f10 f9 f8 f7 f6 f5 f4 f3 f2 f1 f0
theorem q_174w_2 {n0 n1 n2 n3 n4 n5 n6 n7 n8 n9 n10 n11 : Int} {H0 H1 H2 H3 H4 : gH} (f0 : n0 ≤ 2147483647) (f1 : (-2147483648) ≤ n0) (f2 : n1 ≤ 2147483647) (f3 : (-2147483648) ≤ n1) (f4 : n2 ≤ 2147483647) (f5 : (-2147483648) ≤ n2) (f6 : n3 = 7) (f7 : hWt T0 H0 ∧ True) (f8 : n4 = 23) (f9 : hK H0 (n3).toNat = 11) (f10 : n4 = hV H0 (n3).toNat 7) (f11 : n5 = 6) (f12 : (hLe T0 H0 H1 ∧ hFr s_3.2.2.2.2 H0 H1 ∧ ((0 : Int) = 0 → H1.length = H0.length) ∧ hWt T0 H1) ∧ postb_3v n6 n4 n2 n5 H0 H1) (f13 : (hLe T0 H1 H2 ∧ hFr s_194.2.2.2.2 H1 H2 ∧ ((0 : Int) = 0 → H2.length = H1.length) ∧ hWt T0 H2) ∧ postb_194y n7 n3 n1 H1 H2) (f14 : 0 ≤ n6) (f15 : n8 ≤ 1) (f16 : 0 ≤ n8) (f17 : (hLe T0 H2 H3 ∧ hFr s_196.2.2.2.2 H2 H3 ∧ ((0 : Int) = 0 → H3.length = H2.length) ∧ hWt T0 H3) ∧ (postb_196 n8 n3 n7 n0 H2 H3 ∧ nb_196 n8 n3 n7 n0 H2 H3)) (f18 : n8 ≠ 0) (f19 : n9 = 23) (f20 : hK H3 (n3).toNat = 11) (f21 : n9 = hV H3 (n3).toNat 7) (f22 : n10 ≤ 1) (f23 : 0 ≤ n10) (f24 : (hLe T0 H3 H4 ∧ hFr s_14.2.2.2.2 H3 H4 ∧ ((0 : Int) = 0 → H4.length = H3.length) ∧ hWt T0 H4) ∧ (True ∧ nb_14 n10 n9 n7 n2 H3 H4)) (f25 : n10 = 0) (f26 : n11 = (-2)) : nb_174 n11 n3 n2 n1 n0 H0 H4 := by
  unfold nb_174
  intro nx rk ly z k79 s9 hly
  have c6 := f6
  have c8 := f8
  have c11 := f11
  have c19 := f19
  have c26 := f26
  have qk := f12.2
  unfold postb_3v at qk
  rw [f11] at qk
  unfold KV at qk
  have z1 := LNC_fr f12.1.1 f12.1.2.1 (by decide +kernel) z
  have qs := f13.2
  unfold postb_194y at qs
  have g74 : hV H1 7 4 = hV H0 7 4 := f12.1.2.1.1 7 4 (by decide +kernel)
  have g9 : hV H1 9 = hV H0 9 := fRow f12.1.2.1 9 (by decide +kernel)
  rw [g74, g9] at qs
  obtain ⟨qs1, qs2⟩ := qs (K79_le f12.1.1 k79)
  have kk : 0 ≤ n2 ∧ n2 < hV H0 23 1 ∧ n6 = hV H0 24 (n2).toNat ∧ hV H0 (hV H0 24 (n2).toNat).toNat 0 = 6 ∧ hK H0 (n6).toNat = 7 := by
    rcases qk with v | v
    · exact ⟨v.1, v.2.1, v.2.2.2.1, v.2.2.2.2.1, v.2.2.2.2.2⟩
    · exfalso
      omega
  have ks : 0 ≤ n7 → (0 ≤ n1 ∧ n1 < hV H0 7 4) ∧ n7 = hV H0 9 (n1).toNat ∧ hK H0 (n7).toNat = 6 := fun w => by
    have v : 0 ≤ n1 ∧ n1 < hV H0 7 4 := Classical.byContradiction fun v => by have := qs2 v; omega
    have e := qs1 v.1 v.2
    exact ⟨v, e, by rw [e]; exact (s9 _ (by omega)).2⟩
  have qr := f17.2.2
  unfold nb_196 at qr
  have qr := qr (fun w => (kLe f13.1.1 (kLe f12.1.1 (ks w).2.2 rfl) rfl))
  have g193 : hV H2 19 3 = hV H0 19 3 := (f13.1.2.1.1 19 3 (by decide +kernel)).trans (f12.1.2.1.1 19 3 (by decide +kernel))
  rw [g193] at qr
  have g0 : 0 ≤ n7 → hV H2 (n7).toNat 0 = hV H0 (n7).toNat 0 := fun w => (f13.1.2.1.2.2 _ 6 (kLe f12.1.1 (ks w).2.2 rfl) rfl 0 (by decide +kernel)).trans (f12.1.2.1.2.2 _ 6 (ks w).2.2 rfl 0 (by decide +kernel))
  have rr := (qr.resolve_right (fun w => by have := w.1; omega)).2
  obtain ⟨a0_, a1_, a2_, a3_⟩ := rr
  obtain ⟨ks1, ks2, ks3⟩ := ks a0_
  rw [g0 a0_] at a3_
  have cm : CMK H0 n2 n1 n0 := ⟨⟨kk.1, kk.2.1, kk.2.2.2.1⟩, ks1, a1_, a2_, by rw [← ks2]; exact a3_⟩
  have bl : BTS (hV H3 (n7).toNat 3) ly := by
    rw [show hV H3 (n7).toNat 3 = hV H0 (n7).toNat 3 from (f17.1.2.1.2.2 _ 6 (kLe f13.1.1 (kLe f12.1.1 ks3 rfl) rfl) rfl 3 (by decide +kernel)).trans ((f13.1.2.1.2.2 _ 6 (kLe f12.1.1 ks3 rfl) rfl 3 (by decide +kernel)).trans (f12.1.2.1.2.2 _ 6 ks3 rfl 3 (by decide +kernel))), ks2]
    exact hly ks1.1 ks1.2
  have y231 : hV H3 23 1 = hV H0 23 1 := (f17.1.2.1.1 23 1 (by decide +kernel)).trans ((f13.1.2.1.1 23 1 (by decide +kernel)).trans (f12.1.2.1.1 23 1 (by decide +kernel)))
  have qm := f24.2.2
  unfold nb_14 at qm
  have qm := qm nx rk ly (LNC_fr f17.1.1 f17.1.2.1 (by decide +kernel) (LNC_fr f13.1.1 f13.1.2.1 (by decide +kernel) (LNC_fr f12.1.1 f12.1.2.1 (by decide +kernel) z))) bl a0_ (kLe f17.1.1 (kLe f13.1.1 (kLe f12.1.1 ks3 rfl) rfl) rfl) kk.1 (by omega)
  rw [y231] at qm
  refine .inr ⟨fun w => ?_, fun q hq => (f24.1.2.1.2.2 q 7 (kLe f17.1.1 (kLe f13.1.1 (kLe f12.1.1 hq rfl) rfl) rfl) rfl 10 (by decide +kernel)).trans ((f17.1.2.1.2.2 q 7 (kLe f13.1.1 (kLe f12.1.1 hq rfl) rfl) rfl 10 (by decide +kernel)).trans ((f13.1.2.1.2.2 q 7 (kLe f12.1.1 hq rfl) rfl 10 (by decide +kernel)).trans (f12.1.2.1.2.2 q 7 hq rfl 10 (by decide +kernel))))⟩
  rcases qm with v | v
  · have := v.1
    omega
  · exact v.2 w.2
def g_174w_s_2 : vG := ([(0, [11], [], -2), (30, [10], [], 0), (1014, [10, 9, 7, 1], [3, 4], 0), (90, [10], [], 0), (91, [10], [], 1), (20, [9, 0], [3], 7), (23, [0], [3], 11), (0, [9], [], 23), (31, [8], [], 0), (1196, [8, 0, 7, 3], [2, 3], 0), (90, [8], [], 0), (91, [8], [], 1), (51, [6], [], 0), (1194, [7, 0, 2], [1, 2], 0), (1003, [6, 4, 1, 5], [0, 1], 0), (0, [5], [], 6), (20, [4, 0], [0], 7), (23, [0], [0], 11), (0, [4], [], 23), (6000, [0, 1, 2, 3], [0], 0), (0, [0], [], 7), (90, [1], [], -2147483648), (91, [1], [], 2147483647), (90, [2], [], -2147483648), (91, [2], [], 2147483647), (90, [3], [], -2147483648), (91, [3], [], 2147483647)], (3000, [11], [4], 51))
theorem c_174w_s_2 : vOkm T0 (eN e_174 L_174w A_174 mu_174 n_174 B_174 none) 4 g_174w_s_2 := vOk_inI fun ρ η f0 f1 f2 f3 f4 f5 f6 f7 f8 f9 f10 f11 f12 f13 f14 f15 f16 f17 f18 f19 f20 f21 f22 f23 f24 f25 f26 => q_174w_2 (n0 := ρ 3) (n1 := ρ 2) (n2 := ρ 1) (n3 := ρ 0) (n4 := ρ 4) (n5 := ρ 5) (n6 := ρ 6) (n7 := ρ 7) (n8 := ρ 8) (n9 := ρ 9) (n10 := ρ 10) (n11 := ρ 11) (H0 := η 0) (H1 := η 1) (H2 := η 2) (H3 := η 3) (H4 := η 4) f26 f25 f24 f23 f22 f21 f20 f19 f18 f17 f16 f15 f14 f13 f12 f11 f10 f9 f8 f7 f6 f5 f4 f3 f2 f1 f0
theorem q_174w_3 {n0 n1 n2 n3 n4 n5 n6 n7 n8 n9 : Int} {H0 H1 H2 H3 : gH} (f0 : n0 ≤ 2147483647) (f1 : (-2147483648) ≤ n0) (f2 : n1 ≤ 2147483647) (f3 : (-2147483648) ≤ n1) (f4 : n2 ≤ 2147483647) (f5 : (-2147483648) ≤ n2) (f6 : n3 = 7) (f7 : hWt T0 H0 ∧ True) (f8 : n4 = 23) (f9 : hK H0 (n3).toNat = 11) (f10 : n4 = hV H0 (n3).toNat 7) (f11 : n5 = 6) (f12 : (hLe T0 H0 H1 ∧ hFr s_3.2.2.2.2 H0 H1 ∧ ((0 : Int) = 0 → H1.length = H0.length) ∧ hWt T0 H1) ∧ postb_3v n6 n4 n2 n5 H0 H1) (f13 : (hLe T0 H1 H2 ∧ hFr s_194.2.2.2.2 H1 H2 ∧ ((0 : Int) = 0 → H2.length = H1.length) ∧ hWt T0 H2) ∧ postb_194y n7 n3 n1 H1 H2) (f14 : 0 ≤ n6) (f15 : n8 ≤ 1) (f16 : 0 ≤ n8) (f17 : (hLe T0 H2 H3 ∧ hFr s_196.2.2.2.2 H2 H3 ∧ ((0 : Int) = 0 → H3.length = H2.length) ∧ hWt T0 H3) ∧ (postb_196 n8 n3 n7 n0 H2 H3 ∧ nb_196 n8 n3 n7 n0 H2 H3)) (f18 : n8 = 0) (f19 : n9 = (-1)) : nb_174 n9 n3 n2 n1 n0 H0 H3 := by
  unfold nb_174
  intro nx rk ly z k79 s9 hly
  have c6 := f6
  have c8 := f8
  have c11 := f11
  have c19 := f19
  have qk := f12.2
  unfold postb_3v at qk
  rw [f11] at qk
  unfold KV at qk
  have z1 := LNC_fr f12.1.1 f12.1.2.1 (by decide +kernel) z
  have qs := f13.2
  unfold postb_194y at qs
  have g74 : hV H1 7 4 = hV H0 7 4 := f12.1.2.1.1 7 4 (by decide +kernel)
  have g9 : hV H1 9 = hV H0 9 := fRow f12.1.2.1 9 (by decide +kernel)
  rw [g74, g9] at qs
  obtain ⟨qs1, qs2⟩ := qs (K79_le f12.1.1 k79)
  have kk : 0 ≤ n2 ∧ n2 < hV H0 23 1 ∧ n6 = hV H0 24 (n2).toNat ∧ hV H0 (hV H0 24 (n2).toNat).toNat 0 = 6 ∧ hK H0 (n6).toNat = 7 := by
    rcases qk with v | v
    · exact ⟨v.1, v.2.1, v.2.2.2.1, v.2.2.2.2.1, v.2.2.2.2.2⟩
    · exfalso
      omega
  have ks : 0 ≤ n7 → (0 ≤ n1 ∧ n1 < hV H0 7 4) ∧ n7 = hV H0 9 (n1).toNat ∧ hK H0 (n7).toNat = 6 := fun w => by
    have v : 0 ≤ n1 ∧ n1 < hV H0 7 4 := Classical.byContradiction fun v => by have := qs2 v; omega
    have e := qs1 v.1 v.2
    exact ⟨v, e, by rw [e]; exact (s9 _ (by omega)).2⟩
  have qr := f17.2.2
  unfold nb_196 at qr
  have qr := qr (fun w => (kLe f13.1.1 (kLe f12.1.1 (ks w).2.2 rfl) rfl))
  have g193 : hV H2 19 3 = hV H0 19 3 := (f13.1.2.1.1 19 3 (by decide +kernel)).trans (f12.1.2.1.1 19 3 (by decide +kernel))
  rw [g193] at qr
  have g0 : 0 ≤ n7 → hV H2 (n7).toNat 0 = hV H0 (n7).toNat 0 := fun w => (f13.1.2.1.2.2 _ 6 (kLe f12.1.1 (ks w).2.2 rfl) rfl 0 (by decide +kernel)).trans (f12.1.2.1.2.2 _ 6 (ks w).2.2 rfl 0 (by decide +kernel))
  refine .inr ⟨fun w => ?_, fun q hq => (f17.1.2.1.2.2 q 7 (kLe f13.1.1 (kLe f12.1.1 hq rfl) rfl) rfl 10 (by decide +kernel)).trans ((f13.1.2.1.2.2 q 7 (kLe f12.1.1 hq rfl) rfl 10 (by decide +kernel)).trans (f12.1.2.1.2.2 q 7 hq rfl 10 (by decide +kernel)))⟩
  obtain ⟨⟨_, w2, w3, w4, w5⟩, _⟩ := w
  have e := qs1 w2.1 w2.2
  have := (s9 (n1).toNat (by omega)).1
  have g := g0 (by omega)
  rw [e] at g
  rcases qr with v | v
  · omega
  · refine v.2 ⟨by omega, w3, w4, ?_⟩
    rw [e, g]
    exact w5
def g_174w_s_3 : vG := ([(0, [9], [], -1), (30, [8], [], 0), (1196, [8, 0, 7, 3], [2, 3], 0), (90, [8], [], 0), (91, [8], [], 1), (51, [6], [], 0), (1194, [7, 0, 2], [1, 2], 0), (1003, [6, 4, 1, 5], [0, 1], 0), (0, [5], [], 6), (20, [4, 0], [0], 7), (23, [0], [0], 11), (0, [4], [], 23), (6000, [0, 1, 2, 3], [0], 0), (0, [0], [], 7), (90, [1], [], -2147483648), (91, [1], [], 2147483647), (90, [2], [], -2147483648), (91, [2], [], 2147483647), (90, [3], [], -2147483648), (91, [3], [], 2147483647)], (3000, [9], [3], 35))
theorem c_174w_s_3 : vOkm T0 (eN e_174 L_174w A_174 mu_174 n_174 B_174 none) 4 g_174w_s_3 := vOk_inI fun ρ η f0 f1 f2 f3 f4 f5 f6 f7 f8 f9 f10 f11 f12 f13 f14 f15 f16 f17 f18 f19 => q_174w_3 (n0 := ρ 3) (n1 := ρ 2) (n2 := ρ 1) (n3 := ρ 0) (n4 := ρ 4) (n5 := ρ 5) (n6 := ρ 6) (n7 := ρ 7) (n8 := ρ 8) (n9 := ρ 9) (H0 := η 0) (H1 := η 1) (H2 := η 2) (H3 := η 3) f19 f18 f17 f16 f15 f14 f13 f12 f11 f10 f9 f8 f7 f6 f5 f4 f3 f2 f1 f0
def p_174w_s : List vG := [g_174w_s_0,
  g_174w_s_1,
  g_174w_s_2,
  g_174w_s_3]
theorem r_174w_s : vCovBO (eR0 e_174 L_174 cs_174 2000) p_174w_s = true := by decide +kernel
theorem m_174w (d : Nat) : eC e_174w (d + 8) := eC_ref (e := e_174) (L := L_174) (L' := L_174w) (cs := cs_174) (n := 2000) (d := d + 7) (A := A_174) (μ := mu_174) (tp := true) (p0 := p_174_s) (p1 := p_174w_s) (N := n_174) (B := B_174) rfl ⟨m_3v (d + 5), ⟨m_14w (d + 3), ⟨m_194y (d + 6), ⟨m_196w (d + 5), ⟨m_197 d, trivial⟩⟩⟩⟩⟩ rfl (.inr pre0_ok) (by decide +kernel) (fun _ => post0_ok) r_174_s (allC c_174_s_0 allN) allN ⟨⟨rfl, rfl, rfl, fun _ _ _ _ => trivial⟩, (sub1 ⟨⟨rfl, rfl, rfl, fun _ _ _ _ => trivial⟩, (sub1 (sub0 trivial))⟩)⟩ r_174w_s (allC c_174w_s_0 (allC c_174w_s_1 (allC c_174w_s_2 (allC c_174w_s_3 allN)))) allN
