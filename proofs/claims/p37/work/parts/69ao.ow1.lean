/- MixStage.at ([II)I -/
noncomputable def s_199vk100 : vM := ([(2, 100, -1, 0), (0, -2147483648, 2147483647, 0)], (0, -2147483648, 2147483647, 0), 0, 0, [])
def postb_199vk100 (r a0 a1 : Int) (h0 h : gH) : Prop := r = atQ h0 a0 a1
def post_199vk100 : List Int → gH → gH → Prop := fun xs h0 h => match xs with
  | [r, a0, a1] => postb_199vk100 r a0 a1 h0 h
  | _ => True
noncomputable def e_199vk100 : vE := (199, s_199vk100, pre0, post_199vk100)
noncomputable def L_199vk100 : List vE := []
def cs_199vk100 : List vC := []
def A_199vk100 : Int → List Int → gH → gH → Prop := fun c xs h0 h => True
def mu_199vk100 : Int → List Int → gH → gH → Nat := fun c xs h0 h => 0
theorem q_199vk100_0 {n0 n1 n2 : Int} {H0 : gH} (f0 : n0 ≤ 2147483647) (f1 : (-2147483648) ≤ n0) (f2 : hWt T0 H0 ∧ True) (f3 : n1 = -1) (f4 : n2 = 0) : postb_199vk100 n2 n1 n0 H0 H0 := by
  unfold postb_199vk100

  unfold atQ
  first
  | (rw [if_neg (by omega)] <;> omega)
  | (rw [if_pos (by omega)] <;> omega)
theorem c_199vk100_s_0 : vOkm T0 (eP e_199vk100 L_199vk100 A_199vk100 mu_199vk100 none) 2 ([(0, [2], [], 0), (50, [0], [], 0), (6000, [0, 1], [0], 0), (90, [1], [], -2147483648), (91, [1], [], 2147483647)], (3000, [2], [0], 21)) := vOk_in fun ρ η h => by
  obtain ⟨f0, f1, f2, f3, f4, _⟩ := h
  exact q_199vk100_0 (n0 := ρ 1) (n1 := ρ 0) (n2 := ρ 2) (H0 := η 0) f4 f3 f2 f1 f0
theorem q_199vk100_1 {n0 n1 n2 : Int} {H0 : gH} (f0 : n0 ≤ 2147483647) (f1 : (-2147483648) ≤ n0) (f2 : hWt T0 H0 ∧ True) (f3 : 0 ≤ n1) (f4 : n0 < 0) (f5 : n2 = 0) : postb_199vk100 n2 n1 n0 H0 H0 := by
  unfold postb_199vk100

  unfold atQ
  first
  | (rw [if_neg (by omega)] <;> omega)
  | (rw [if_pos (by omega)] <;> omega)
theorem c_199vk100_s_1 : vOkm T0 (eP e_199vk100 L_199vk100 A_199vk100 mu_199vk100 none) 2 ([(0, [2], [], 0), (32, [1], [], 0), (51, [0], [], 0), (6000, [0, 1], [0], 0), (90, [1], [], -2147483648), (91, [1], [], 2147483647)], (3000, [2], [0], 21)) := vOk_in fun ρ η h => by
  obtain ⟨f0, f1, f2, f3, f4, f5, _⟩ := h
  exact q_199vk100_1 (n0 := ρ 1) (n1 := ρ 0) (n2 := ρ 2) (H0 := η 0) f5 f4 f3 f2 f1 f0
theorem q_199vk100_2 {n0 n1 n2 n3 : Int} {H0 : gH} (f0 : n0 ≤ 2147483647) (f1 : (-2147483648) ≤ n0) (f2 : hWt T0 H0 ∧ True) (f3 : 0 ≤ n1) (f4 : 0 ≤ n0) (f5 : n2 = (hN H0 (n1).toNat : Int)) (f6 : n0 < n2) (f7 : n3 ≤ 2147483647) (f8 : (-2147483648) ≤ n3) (f9 : n3 = hV H0 (n1).toNat (n0).toNat) : postb_199vk100 n3 n1 n0 H0 H0 := by
  unfold postb_199vk100

  unfold atQ
  first
  | (rw [if_neg (by omega)] <;> omega)
  | (rw [if_pos (by omega)] <;> omega)
theorem c_199vk100_s_2 : vOkm T0 (eP e_199vk100 L_199vk100 A_199vk100 mu_199vk100 none) 2 ([(22, [3, 0, 1], [0], 0), (90, [3], [], -2147483648), (91, [3], [], 2147483647), (42, [1, 2], [], 0), (21, [2, 0], [0], 0), (33, [1], [], 0), (51, [0], [], 0), (6000, [0, 1], [0], 0), (90, [1], [], -2147483648), (91, [1], [], 2147483647)], (3000, [3], [0], 21)) := vOk_in fun ρ η h => by
  obtain ⟨f0, f1, f2, f3, f4, f5, f6, f7, f8, f9, _⟩ := h
  exact q_199vk100_2 (n0 := ρ 1) (n1 := ρ 0) (n2 := ρ 2) (n3 := ρ 3) (H0 := η 0) f9 f8 f7 f6 f5 f4 f3 f2 f1 f0
theorem q_199vk100_3 {n0 n1 n2 n3 : Int} {H0 : gH} (f0 : n0 ≤ 2147483647) (f1 : (-2147483648) ≤ n0) (f2 : hWt T0 H0 ∧ True) (f3 : 0 ≤ n1) (f4 : 0 ≤ n0) (f5 : n2 = (hN H0 (n1).toNat : Int)) (f6 : n2 ≤ n0) (f7 : n3 = 0) : postb_199vk100 n3 n1 n0 H0 H0 := by
  unfold postb_199vk100

  unfold atQ
  first
  | (rw [if_neg (by omega)] <;> omega)
  | (rw [if_pos (by omega)] <;> omega)
theorem c_199vk100_s_3 : vOkm T0 (eP e_199vk100 L_199vk100 A_199vk100 mu_199vk100 none) 2 ([(0, [3], [], 0), (43, [1, 2], [], 0), (21, [2, 0], [0], 0), (33, [1], [], 0), (51, [0], [], 0), (6000, [0, 1], [0], 0), (90, [1], [], -2147483648), (91, [1], [], 2147483647)], (3000, [3], [0], 21)) := vOk_in fun ρ η h => by
  obtain ⟨f0, f1, f2, f3, f4, f5, f6, f7, _⟩ := h
  exact q_199vk100_3 (n0 := ρ 1) (n1 := ρ 0) (n2 := ρ 2) (n3 := ρ 3) (H0 := η 0) f7 f6 f5 f4 f3 f2 f1 f0
def p_199vk100_s : List vG := [([(0, [2], [], 0), (50, [0], [], 0), (6000, [0, 1], [0], 0), (90, [1], [], -2147483648), (91, [1], [], 2147483647)], (3000, [2], [0], 21)),
  ([(0, [2], [], 0), (32, [1], [], 0), (51, [0], [], 0), (6000, [0, 1], [0], 0), (90, [1], [], -2147483648), (91, [1], [], 2147483647)], (3000, [2], [0], 21)),
  ([(22, [3, 0, 1], [0], 0), (90, [3], [], -2147483648), (91, [3], [], 2147483647), (42, [1, 2], [], 0), (21, [2, 0], [0], 0), (33, [1], [], 0), (51, [0], [], 0), (6000, [0, 1], [0], 0), (90, [1], [], -2147483648), (91, [1], [], 2147483647)], (3000, [3], [0], 21)),
  ([(0, [3], [], 0), (43, [1, 2], [], 0), (21, [2, 0], [0], 0), (33, [1], [], 0), (51, [0], [], 0), (6000, [0, 1], [0], 0), (90, [1], [], -2147483648), (91, [1], [], 2147483647)], (3000, [3], [0], 21))]
theorem r_199vk100_s : vCovO false (eR0 e_199vk100 L_199vk100 cs_199vk100 2000) p_199vk100_s = true := by decide +kernel
theorem m_199vk100 (d : Nat) : eC e_199vk100 (d + 1) := eC_ok (e := e_199vk100) (L := L_199vk100) (cs := cs_199vk100) (n := 2000) (d := d + 0) (A := A_199vk100) (μ := mu_199vk100) (tp := false) (p0 := p_199vk100_s) rfl trivial rfl (.inr pre0_ok) (by decide +kernel) (fun z => nomatch z) r_199vk100_s (allC c_199vk100_s_0 (allC c_199vk100_s_1 (allC c_199vk100_s_2 (allC c_199vk100_s_3 allN)))) allN
/- Rules.push (I)V, more fully -/
def nb_110 (a0 a1 : Int) (h0 h : gH) : Prop := PUSHp h0 h a0 a1
def n_110 : List Int → gH → gH → Prop := fun xs h0 h => match xs with
  | [a0, a1] => nb_110 a0 a1 h0 h
  | _ => True
noncomputable def e_110w : vE := eV e_110 n_110
noncomputable def L_110w : List vE := [e_201vk100]
def B_110 : Int → List Int → gH → gH → Prop := fun c xs h0 h => True
theorem q_110w_0 {n0 n1 n2 n3 n4 n5 n6 n7 : Int} {H0 H1 H2 : gH} (f0 : n0 ≤ 2147483647) (f1 : (-2147483648) ≤ n0) (f2 : 0 ≤ n1) (f3 : hWt T0 H0 ∧ True) (f4 : 0 ≤ n2) (f5 : hK H0 (n1).toNat = 5) (f6 : n2 = hV H0 (n1).toNat 9) (f7 : n3 ≤ 2147483647) (f8 : (-2147483648) ≤ n3) (f9 : hK H0 (n1).toNat = 5) (f10 : n3 = hV H0 (n1).toNat 10) (f11 : (hLe T0 H0 H1 ∧ hFr s_201vk100.2.2.2.2 H0 H1 ∧ ((0 : Int) = 0 → H1.length = H0.length) ∧ hWt T0 H1) ∧ postb_201vk100 n2 n3 n0 H0 H1) (f12 : n4 ≤ 2147483647) (f13 : (-2147483648) ≤ n4) (f14 : hK H1 (n1).toNat = 5) (f15 : n4 = hV H1 (n1).toNat 10) (f16 : n5 = 1) (f17 : n6 = w32 (n4 + n5)) (f18 : hK H1 (n1).toNat = 5) (f19 : n7 = 10) (f20 : hUpd H2 H1 n1 n7 n6) : nb_110 n1 n0 H0 H2 := by
  unfold nb_110
  have pp := f11.2
  unfold postb_201vk100 at pp
  have e6 := f17
  rw [f16] at e6
  exact fun z => push_at z f6 f10 f11.1.1 pp f15 e6 f20 f19
def g_110w_s_0 : vG := ([(80, [0, 7, 6], [2, 1], 0), (0, [7], [], 10), (23, [0], [1], 5), (1, [6, 4, 5], [], 0), (0, [5], [], 1), (20, [4, 0], [1], 10), (23, [0], [1], 5), (90, [4], [], -2147483648), (91, [4], [], 2147483647), (1201, [2, 3, 1], [0, 1], 0), (20, [3, 0], [0], 10), (23, [0], [0], 5), (90, [3], [], -2147483648), (91, [3], [], 2147483647), (20, [2, 0], [0], 9), (23, [0], [0], 5), (51, [2], [], 0), (6000, [0, 1], [0], 0), (51, [0], [], 0), (90, [1], [], -2147483648), (91, [1], [], 2147483647)], (3000, [], [2], 22))
theorem c_110w_s_0 : vOkm T0 (eN e_110 L_110w A_110 mu_110 n_110 B_110 none) 2 g_110w_s_0 := vOk_inI fun ρ η f0 f1 f2 f3 f4 f5 f6 f7 f8 f9 f10 f11 f12 f13 f14 f15 f16 f17 f18 f19 f20 => q_110w_0 (n0 := ρ 1) (n1 := ρ 0) (n2 := ρ 2) (n3 := ρ 3) (n4 := ρ 4) (n5 := ρ 5) (n6 := ρ 6) (n7 := ρ 7) (H0 := η 0) (H1 := η 1) (H2 := η 2) f20 f19 f18 f17 f16 f15 f14 f13 f12 f11 f10 f9 f8 f7 f6 f5 f4 f3 f2 f1 f0
def p_110w_s : List vG := [g_110w_s_0]
theorem r_110w_s : vCovBO (eR0 e_110 L_110 cs_110 2000) p_110w_s = true := by decide +kernel
theorem m_110w (d : Nat) : eC e_110w (d + 2) := eC_ref (e := e_110) (L := L_110) (L' := L_110w) (cs := cs_110) (n := 2000) (d := d + 1) (A := A_110) (μ := mu_110) (tp := true) (p0 := p_110_s) (p1 := p_110w_s) (N := n_110) (B := B_110) rfl ⟨m_201vk100 d, trivial⟩ rfl (.inr pre0_ok) (by decide +kernel) (fun _ => post0_ok) r_110_s allN allN ⟨⟨rfl, rfl, rfl, fun _ _ _ _ => trivial⟩, trivial⟩ r_110w_s (allC c_110w_s_0 allN) allN
/- Rules.pop ()I, more fully -/
def nb_111 (r a0 : Int) (h0 h : gH) : Prop := POPp h0 h a0 r
def n_111 : List Int → gH → gH → Prop := fun xs h0 h => match xs with
  | [r, a0] => nb_111 r a0 h0 h
  | _ => True
noncomputable def e_111w : vE := eV e_111 n_111
noncomputable def L_111w : List vE := [e_199vk100, e_317]
def B_111 : Int → List Int → gH → gH → Prop := fun c xs h0 h => True
theorem q_111w_0 {n0 n1 n2 n3 n4 n5 n6 n7 n8 n9 : Int} {H0 H1 H2 H3 : gH} (f0 : 0 ≤ n0) (f1 : hWt T0 H0 ∧ True) (f2 : n1 = 0) (f3 : n2 ≤ 2147483647) (f4 : (-2147483648) ≤ n2) (f5 : hK H0 (n0).toNat = 5) (f6 : n2 = hV H0 (n0).toNat 10) (f7 : n3 = 1) (f8 : n4 = w32 (n2 - n3)) (f9 : n5 ≤ 2147483647) (f10 : (-2147483648) ≤ n5) (f11 : (hLe T0 H0 H1 ∧ hFr s_317.2.2.2.2 H0 H1 ∧ ((0 : Int) = 0 → H1.length = H0.length) ∧ hWt T0 H1) ∧ postb_317 n5 n1 n4 H0 H1) (f12 : hK H1 (n0).toNat = 5) (f13 : n6 = 10) (f14 : hUpd H2 H1 n0 n6 n5) (f15 : 0 ≤ n7) (f16 : hK H2 (n0).toNat = 5) (f17 : n7 = hV H2 (n0).toNat 9) (f18 : n8 ≤ 2147483647) (f19 : (-2147483648) ≤ n8) (f20 : hK H2 (n0).toNat = 5) (f21 : n8 = hV H2 (n0).toNat 10) (f22 : n9 ≤ 2147483647) (f23 : (-2147483648) ≤ n9) (f24 : (hLe T0 H2 H3 ∧ hFr s_199vk100.2.2.2.2 H2 H3 ∧ ((0 : Int) = 0 → H3.length = H2.length) ∧ hWt T0 H3) ∧ postb_199vk100 n9 n7 n8 H2 H3) : nb_111 n9 n0 H0 H3 := by
  unfold nb_111
  have pm := f11.2
  unfold postb_317 at pm
  rw [f2] at pm
  have pa := f24.2
  unfold postb_199vk100 at pa
  have e4 := f8
  rw [f7] at e4
  exact fun z => pop_at z f6 e4 (SMf_fr f11.1.1 f11.1.2.1 (by decide +kernel) (by decide +kernel)) pm f14 f13 f17 f21 pa (SMf_fr f24.1.1 f24.1.2.1 (by decide +kernel) (by decide +kernel))
def g_111w_s_0 : vG := ([(1199, [9, 7, 8], [2, 3], 0), (90, [9], [], -2147483648), (91, [9], [], 2147483647), (20, [8, 0], [2], 10), (23, [0], [2], 5), (90, [8], [], -2147483648), (91, [8], [], 2147483647), (20, [7, 0], [2], 9), (23, [0], [2], 5), (51, [7], [], 0), (80, [0, 6, 5], [2, 1], 0), (0, [6], [], 10), (23, [0], [1], 5), (1317, [5, 1, 4], [0, 1], 0), (90, [5], [], -2147483648), (91, [5], [], 2147483647), (2, [4, 2, 3], [], 0), (0, [3], [], 1), (20, [2, 0], [0], 10), (23, [0], [0], 5), (90, [2], [], -2147483648), (91, [2], [], 2147483647), (0, [1], [], 0), (6000, [0], [0], 0), (51, [0], [], 0)], (3000, [9], [3], 25))
theorem c_111w_s_0 : vOkm T0 (eN e_111 L_111w A_111 mu_111 n_111 B_111 none) 1 g_111w_s_0 := vOk_inI fun ρ η f0 f1 f2 f3 f4 f5 f6 f7 f8 f9 f10 f11 f12 f13 f14 f15 f16 f17 f18 f19 f20 f21 f22 f23 f24 => q_111w_0 (n0 := ρ 0) (n1 := ρ 1) (n2 := ρ 2) (n3 := ρ 3) (n4 := ρ 4) (n5 := ρ 5) (n6 := ρ 6) (n7 := ρ 7) (n8 := ρ 8) (n9 := ρ 9) (H0 := η 0) (H1 := η 1) (H2 := η 2) (H3 := η 3) f24 f23 f22 f21 f20 f19 f18 f17 f16 f15 f14 f13 f12 f11 f10 f9 f8 f7 f6 f5 f4 f3 f2 f1 f0
def p_111w_s : List vG := [g_111w_s_0]
theorem r_111w_s : vCovBO (eR0 e_111 L_111 cs_111 2000) p_111w_s = true := by decide +kernel
theorem m_111w (d : Nat) : eC e_111w (d + 2) := eC_ref (e := e_111) (L := L_111) (L' := L_111w) (cs := cs_111) (n := 2000) (d := d + 1) (A := A_111) (μ := mu_111) (tp := true) (p0 := p_111_s) (p1 := p_111w_s) (N := n_111) (B := B_111) rfl ⟨m_199vk100 d, ⟨m_317 d, trivial⟩⟩ rfl (.inr pre0_ok) (by decide +kernel) (fun _ => post0_ok) r_111_s allN allN ⟨⟨rfl, rfl, rfl, fun _ _ _ _ => trivial⟩, (sub0 trivial)⟩ r_111w_s (allC c_111w_s_0 allN) allN
/- Rules.divide (II)I, more fully -/
def nb_113 (r a0 a1 a2 : Int) (h0 h : gH) : Prop := RO h0 a0 → EVs h0 h a0 ∧ ∀ q : List Int × Bool, QS h0 a0 q → r = (if a2 = 0 then 0 else o32 (fun x y => x / y) a1 a2) ∧ QS h a0 (q.1, q.2 || decide (a2 = 0))
def n_113 : List Int → gH → gH → Prop := fun xs h0 h => match xs with
  | [r, a0, a1, a2] => nb_113 r a0 a1 a2 h0 h
  | _ => True
noncomputable def e_113w : vE := eV e_113 n_113
noncomputable def L_113w : List vE := []
def B_113 : Int → List Int → gH → gH → Prop := fun c xs h0 h => True
theorem q_113w_0 {n0 n1 n2 n3 : Int} {H0 : gH} (f0 : n0 ≤ 2147483647) (f1 : (-2147483648) ≤ n0) (f2 : n1 ≤ 2147483647) (f3 : (-2147483648) ≤ n1) (f4 : 0 ≤ n2) (f5 : hWt T0 H0 ∧ True) (f6 : n0 ≠ 0) (f7 : n3 = o32 (fun x y => x / y) n1 n0) : nb_113 n3 n2 n1 n0 H0 H0 := by
  unfold nb_113
  intro z
  refine ⟨EVs_rfl z, fun q e => ⟨?_, ?_⟩⟩
  · rw [if_neg (by omega)]
    exact f7
  · rw [decide_eq_false (show ¬ n0 = 0 by omega), Bool.or_false]
    exact e
def g_113w_s_0 : vG := ([(11, [3, 1, 2], [], 0), (31, [2], [], 0), (6000, [0, 1, 2], [0], 0), (51, [0], [], 0), (90, [1], [], -2147483648), (91, [1], [], 2147483647), (90, [2], [], -2147483648), (91, [2], [], 2147483647)], (3000, [3], [0], 14))
theorem c_113w_s_0 : vOkm T0 (eN e_113 L_113w A_113 mu_113 n_113 B_113 none) 3 g_113w_s_0 := vOk_inI fun ρ η f0 f1 f2 f3 f4 f5 f6 f7 => q_113w_0 (n0 := ρ 2) (n1 := ρ 1) (n2 := ρ 0) (n3 := ρ 3) (H0 := η 0) f7 f6 f5 f4 f3 f2 f1 f0
theorem q_113w_1 {n0 n1 n2 n3 n4 n5 : Int} {H0 H1 : gH} (f0 : n0 ≤ 2147483647) (f1 : (-2147483648) ≤ n0) (f2 : n1 ≤ 2147483647) (f3 : (-2147483648) ≤ n1) (f4 : 0 ≤ n2) (f5 : hWt T0 H0 ∧ True) (f6 : n0 = 0) (f7 : n3 = 1) (f8 : hK H0 (n2).toNat = 5) (f9 : n4 = 11) (f10 : hUpd H1 H0 n2 n4 n3) (f11 : n5 = 0) : nb_113 n5 n2 n1 n0 H0 H1 := by
  unfold nb_113
  intro z
  refine ⟨EVs_up z f10 (.inr f9), fun q e => ⟨?_, ?_⟩⟩
  · rw [if_pos (by omega)]
    omega
  · rw [decide_eq_true (show n0 = 0 by omega), Bool.or_true]
    exact flag_up z f10 f9 e true f7
def g_113w_s_1 : vG := ([(0, [5], [], 0), (80, [0, 4, 3], [1, 0], 0), (0, [4], [], 11), (23, [0], [0], 5), (0, [3], [], 1), (30, [2], [], 0), (6000, [0, 1, 2], [0], 0), (51, [0], [], 0), (90, [1], [], -2147483648), (91, [1], [], 2147483647), (90, [2], [], -2147483648), (91, [2], [], 2147483647)], (3000, [5], [1], 10))
theorem c_113w_s_1 : vOkm T0 (eN e_113 L_113w A_113 mu_113 n_113 B_113 none) 3 g_113w_s_1 := vOk_inI fun ρ η f0 f1 f2 f3 f4 f5 f6 f7 f8 f9 f10 f11 => q_113w_1 (n0 := ρ 2) (n1 := ρ 1) (n2 := ρ 0) (n3 := ρ 3) (n4 := ρ 4) (n5 := ρ 5) (H0 := η 0) (H1 := η 1) f11 f10 f9 f8 f7 f6 f5 f4 f3 f2 f1 f0
def p_113w_s : List vG := [g_113w_s_0,
  g_113w_s_1]
theorem r_113w_s : vCovBO (eR0 e_113 L_113 cs_113 2000) p_113w_s = true := by decide +kernel
theorem m_113w (d : Nat) : eC e_113w (d + 1) := eC_ref (e := e_113) (L := L_113) (L' := L_113w) (cs := cs_113) (n := 2000) (d := d + 0) (A := A_113) (μ := mu_113) (tp := true) (p0 := p_113_s) (p1 := p_113w_s) (N := n_113) (B := B_113) rfl trivial rfl (.inr pre0_ok) (by decide +kernel) (fun _ => post0_ok) r_113_s allN allN trivial r_113w_s (allC c_113w_s_0 (allC c_113w_s_1 allN)) allN
/- Rules.join (III)I, more fully -/
def nb_112 (r a0 a1 a2 a3 : Int) (h0 h : gH) : Prop := JOINp h0 h a0 a1 a2 a3 r
def n_112 : List Int → gH → gH → Prop := fun xs h0 h => match xs with
  | [r, a0, a1, a2, a3] => nb_112 r a0 a1 a2 a3 h0 h
  | _ => True
noncomputable def e_112w : vE := eV e_112 n_112
noncomputable def L_112w : List vE := [e_113w]
def B_112 : Int → List Int → gH → gH → Prop := fun c xs h0 h => True
theorem q_112w_0 {n0 n1 n2 n3 n4 : Int} {H0 : gH} (f0 : n0 ≤ 2147483647) (f1 : (-2147483648) ≤ n0) (f2 : n1 ≤ 2147483647) (f3 : (-2147483648) ≤ n1) (f4 : n2 ≤ 2147483647) (f5 : (-2147483648) ≤ n2) (f6 : 0 ≤ n3) (f7 : hWt T0 H0 ∧ True) (f8 : n2 = 6) (f9 : n4 = w32 (n1 + n0)) : nb_112 n4 n3 n2 n1 n0 H0 H0 := by
  unfold nb_112
  intro z
  refine ⟨EVs_rfl z, fun q e => ⟨?_, ?_⟩⟩
  · rw [show n2 = 6 from f8]
    exact f9
  · rw [decide_eq_false (show ¬ n2 = 9 by omega), Bool.false_and, Bool.or_false]
    exact e
def g_112w_s_0 : vG := ([(1, [4, 2, 3], [], 0), (0, [1], [], 6), (6000, [0, 1, 2, 3], [0], 0), (51, [0], [], 0), (90, [1], [], -2147483648), (91, [1], [], 2147483647), (90, [2], [], -2147483648), (91, [2], [], 2147483647), (90, [3], [], -2147483648), (91, [3], [], 2147483647)], (3000, [4], [0], 87))
theorem c_112w_s_0 : vOkm T0 (eN e_112 L_112w A_112 mu_112 n_112 B_112 none) 4 g_112w_s_0 := vOk_inI fun ρ η f0 f1 f2 f3 f4 f5 f6 f7 f8 f9 => q_112w_0 (n0 := ρ 3) (n1 := ρ 2) (n2 := ρ 1) (n3 := ρ 0) (n4 := ρ 4) (H0 := η 0) f9 f8 f7 f6 f5 f4 f3 f2 f1 f0
theorem q_112w_1 {n0 n1 n2 n3 n4 : Int} {H0 : gH} (f0 : n0 ≤ 2147483647) (f1 : (-2147483648) ≤ n0) (f2 : n1 ≤ 2147483647) (f3 : (-2147483648) ≤ n1) (f4 : n2 ≤ 2147483647) (f5 : (-2147483648) ≤ n2) (f6 : 0 ≤ n3) (f7 : hWt T0 H0 ∧ True) (f8 : n2 ≠ 6) (f9 : n2 = 7) (f10 : n4 = w32 (n1 - n0)) : nb_112 n4 n3 n2 n1 n0 H0 H0 := by
  unfold nb_112
  intro z
  refine ⟨EVs_rfl z, fun q e => ⟨?_, ?_⟩⟩
  · rw [show n2 = 7 from f9]
    exact f10
  · rw [decide_eq_false (show ¬ n2 = 9 by omega), Bool.false_and, Bool.or_false]
    exact e
def g_112w_s_1 : vG := ([(2, [4, 2, 3], [], 0), (0, [1], [], 7), (68, [1], [], 6), (6000, [0, 1, 2, 3], [0], 0), (51, [0], [], 0), (90, [1], [], -2147483648), (91, [1], [], 2147483647), (90, [2], [], -2147483648), (91, [2], [], 2147483647), (90, [3], [], -2147483648), (91, [3], [], 2147483647)], (3000, [4], [0], 91))
theorem c_112w_s_1 : vOkm T0 (eN e_112 L_112w A_112 mu_112 n_112 B_112 none) 4 g_112w_s_1 := vOk_inI fun ρ η f0 f1 f2 f3 f4 f5 f6 f7 f8 f9 f10 => q_112w_1 (n0 := ρ 3) (n1 := ρ 2) (n2 := ρ 1) (n3 := ρ 0) (n4 := ρ 4) (H0 := η 0) f10 f9 f8 f7 f6 f5 f4 f3 f2 f1 f0
theorem q_112w_2 {n0 n1 n2 n3 n4 : Int} {H0 : gH} (f0 : n0 ≤ 2147483647) (f1 : (-2147483648) ≤ n0) (f2 : n1 ≤ 2147483647) (f3 : (-2147483648) ≤ n1) (f4 : n2 ≤ 2147483647) (f5 : (-2147483648) ≤ n2) (f6 : 0 ≤ n3) (f7 : hWt T0 H0 ∧ True) (f8 : n2 ≠ 6) (f9 : n2 ≠ 7) (f10 : n2 = 8) (f11 : n4 = w32 (n1 * n0)) : nb_112 n4 n3 n2 n1 n0 H0 H0 := by
  unfold nb_112
  intro z
  refine ⟨EVs_rfl z, fun q e => ⟨?_, ?_⟩⟩
  · rw [show n2 = 8 from f10]
    exact f11
  · rw [decide_eq_false (show ¬ n2 = 9 by omega), Bool.false_and, Bool.or_false]
    exact e
def g_112w_s_2 : vG := ([(3, [4, 2, 3], [], 0), (0, [1], [], 8), (68, [1], [], 7), (68, [1], [], 6), (6000, [0, 1, 2, 3], [0], 0), (51, [0], [], 0), (90, [1], [], -2147483648), (91, [1], [], 2147483647), (90, [2], [], -2147483648), (91, [2], [], 2147483647), (90, [3], [], -2147483648), (91, [3], [], 2147483647)], (3000, [4], [0], 95))
theorem c_112w_s_2 : vOkm T0 (eN e_112 L_112w A_112 mu_112 n_112 B_112 none) 4 g_112w_s_2 := vOk_inI fun ρ η f0 f1 f2 f3 f4 f5 f6 f7 f8 f9 f10 f11 => q_112w_2 (n0 := ρ 3) (n1 := ρ 2) (n2 := ρ 1) (n3 := ρ 0) (n4 := ρ 4) (H0 := η 0) f11 f10 f9 f8 f7 f6 f5 f4 f3 f2 f1 f0
theorem q_112w_3 {n0 n1 n2 n3 n4 : Int} {H0 H1 : gH} (f0 : n0 ≤ 2147483647) (f1 : (-2147483648) ≤ n0) (f2 : n1 ≤ 2147483647) (f3 : (-2147483648) ≤ n1) (f4 : n2 ≤ 2147483647) (f5 : (-2147483648) ≤ n2) (f6 : 0 ≤ n3) (f7 : hWt T0 H0 ∧ True) (f8 : n2 ≠ 6) (f9 : n2 ≠ 7) (f10 : n2 ≠ 8) (f11 : n2 = 9) (f12 : n4 ≤ 2147483647) (f13 : (-2147483648) ≤ n4) (f14 : (hLe T0 H0 H1 ∧ hFr s_113.2.2.2.2 H0 H1 ∧ ((0 : Int) = 0 → H1.length = H0.length) ∧ hWt T0 H1) ∧ (True ∧ nb_113 n4 n3 n1 n0 H0 H1)) : nb_112 n4 n3 n2 n1 n0 H0 H1 := by
  unfold nb_112
  intro z
  have hk : n2 = 9 := f11
  have qd := f14.2.2
  unfold nb_113 at qd
  obtain ⟨v, qd⟩ := qd z
  refine ⟨v, fun q e => ⟨(qd q e).1.trans ?_, ?_⟩⟩
  · rw [hk]
    rfl
  · rw [decide_eq_true hk, Bool.true_and]
    exact (qd q e).2
def g_112w_s_3 : vG := ([(1113, [4, 0, 2, 3], [0, 1], 0), (90, [4], [], -2147483648), (91, [4], [], 2147483647), (0, [1], [], 9), (68, [1], [], 8), (68, [1], [], 7), (68, [1], [], 6), (6000, [0, 1, 2, 3], [0], 0), (51, [0], [], 0), (90, [1], [], -2147483648), (91, [1], [], 2147483647), (90, [2], [], -2147483648), (91, [2], [], 2147483647), (90, [3], [], -2147483648), (91, [3], [], 2147483647)], (3000, [4], [1], 102))
theorem c_112w_s_3 : vOkm T0 (eN e_112 L_112w A_112 mu_112 n_112 B_112 none) 4 g_112w_s_3 := vOk_inI fun ρ η f0 f1 f2 f3 f4 f5 f6 f7 f8 f9 f10 f11 f12 f13 f14 => q_112w_3 (n0 := ρ 3) (n1 := ρ 2) (n2 := ρ 1) (n3 := ρ 0) (n4 := ρ 4) (H0 := η 0) (H1 := η 1) f14 f13 f12 f11 f10 f9 f8 f7 f6 f5 f4 f3 f2 f1 f0
theorem q_112w_4 {n0 n1 n2 n3 n4 : Int} {H0 : gH} (f0 : n0 ≤ 2147483647) (f1 : (-2147483648) ≤ n0) (f2 : n1 ≤ 2147483647) (f3 : (-2147483648) ≤ n1) (f4 : n2 ≤ 2147483647) (f5 : (-2147483648) ≤ n2) (f6 : 0 ≤ n3) (f7 : hWt T0 H0 ∧ True) (f8 : n2 ≠ 6) (f9 : n2 ≠ 7) (f10 : n2 ≠ 8) (f11 : n2 ≠ 9) (f12 : n2 = 12) (f13 : n1 ≠ n0) (f14 : n4 = 0) : nb_112 n4 n3 n2 n1 n0 H0 H0 := by
  unfold nb_112
  intro z
  refine ⟨EVs_rfl z, fun q e => ⟨?_, ?_⟩⟩
  · rw [show n2 = 12 from f12]
    show n4 = b2i (decide (n1 = n0))
    rw [decide_eq_false (show ¬ (n1 = n0) by omega)]
    exact f14
  · rw [decide_eq_false (show ¬ n2 = 9 by omega), Bool.false_and, Bool.or_false]
    exact e
def g_112w_s_4 : vG := ([(0, [4], [], 0), (41, [2, 3], [], 0), (0, [1], [], 12), (68, [1], [], 9), (68, [1], [], 8), (68, [1], [], 7), (68, [1], [], 6), (6000, [0, 1, 2, 3], [0], 0), (51, [0], [], 0), (90, [1], [], -2147483648), (91, [1], [], 2147483647), (90, [2], [], -2147483648), (91, [2], [], 2147483647), (90, [3], [], -2147483648), (91, [3], [], 2147483647)], (3000, [4], [0], 113))
theorem c_112w_s_4 : vOkm T0 (eN e_112 L_112w A_112 mu_112 n_112 B_112 none) 4 g_112w_s_4 := vOk_inI fun ρ η f0 f1 f2 f3 f4 f5 f6 f7 f8 f9 f10 f11 f12 f13 f14 => q_112w_4 (n0 := ρ 3) (n1 := ρ 2) (n2 := ρ 1) (n3 := ρ 0) (n4 := ρ 4) (H0 := η 0) f14 f13 f12 f11 f10 f9 f8 f7 f6 f5 f4 f3 f2 f1 f0
theorem q_112w_5 {n0 n1 n2 n3 n4 : Int} {H0 : gH} (f0 : n0 ≤ 2147483647) (f1 : (-2147483648) ≤ n0) (f2 : n1 ≤ 2147483647) (f3 : (-2147483648) ≤ n1) (f4 : n2 ≤ 2147483647) (f5 : (-2147483648) ≤ n2) (f6 : 0 ≤ n3) (f7 : hWt T0 H0 ∧ True) (f8 : n2 ≠ 6) (f9 : n2 ≠ 7) (f10 : n2 ≠ 8) (f11 : n2 ≠ 9) (f12 : n2 = 12) (f13 : n1 = n0) (f14 : n4 = 1) : nb_112 n4 n3 n2 n1 n0 H0 H0 := by
  unfold nb_112
  intro z
  refine ⟨EVs_rfl z, fun q e => ⟨?_, ?_⟩⟩
  · rw [show n2 = 12 from f12]
    show n4 = b2i (decide (n1 = n0))
    rw [decide_eq_true (show n1 = n0 by omega)]
    exact f14
  · rw [decide_eq_false (show ¬ n2 = 9 by omega), Bool.false_and, Bool.or_false]
    exact e
def g_112w_s_5 : vG := ([(0, [4], [], 1), (40, [2, 3], [], 0), (0, [1], [], 12), (68, [1], [], 9), (68, [1], [], 8), (68, [1], [], 7), (68, [1], [], 6), (6000, [0, 1, 2, 3], [0], 0), (51, [0], [], 0), (90, [1], [], -2147483648), (91, [1], [], 2147483647), (90, [2], [], -2147483648), (91, [2], [], 2147483647), (90, [3], [], -2147483648), (91, [3], [], 2147483647)], (3000, [4], [0], 113))
theorem c_112w_s_5 : vOkm T0 (eN e_112 L_112w A_112 mu_112 n_112 B_112 none) 4 g_112w_s_5 := vOk_inI fun ρ η f0 f1 f2 f3 f4 f5 f6 f7 f8 f9 f10 f11 f12 f13 f14 => q_112w_5 (n0 := ρ 3) (n1 := ρ 2) (n2 := ρ 1) (n3 := ρ 0) (n4 := ρ 4) (H0 := η 0) f14 f13 f12 f11 f10 f9 f8 f7 f6 f5 f4 f3 f2 f1 f0
theorem q_112w_6 {n0 n1 n2 n3 n4 : Int} {H0 : gH} (f0 : n0 ≤ 2147483647) (f1 : (-2147483648) ≤ n0) (f2 : n1 ≤ 2147483647) (f3 : (-2147483648) ≤ n1) (f4 : n2 ≤ 2147483647) (f5 : (-2147483648) ≤ n2) (f6 : 0 ≤ n3) (f7 : hWt T0 H0 ∧ True) (f8 : n2 ≠ 6) (f9 : n2 ≠ 7) (f10 : n2 ≠ 8) (f11 : n2 ≠ 9) (f12 : n2 ≠ 12) (f13 : n2 = 13) (f14 : n1 = n0) (f15 : n4 = 0) : nb_112 n4 n3 n2 n1 n0 H0 H0 := by
  unfold nb_112
  intro z
  refine ⟨EVs_rfl z, fun q e => ⟨?_, ?_⟩⟩
  · rw [show n2 = 13 from f13]
    show n4 = b2i (decide (¬ n1 = n0))
    rw [decide_eq_false (show ¬ (¬ n1 = n0) by omega)]
    exact f15
  · rw [decide_eq_false (show ¬ n2 = 9 by omega), Bool.false_and, Bool.or_false]
    exact e
def g_112w_s_6 : vG := ([(0, [4], [], 0), (40, [2, 3], [], 0), (0, [1], [], 13), (68, [1], [], 12), (68, [1], [], 9), (68, [1], [], 8), (68, [1], [], 7), (68, [1], [], 6), (6000, [0, 1, 2, 3], [0], 0), (51, [0], [], 0), (90, [1], [], -2147483648), (91, [1], [], 2147483647), (90, [2], [], -2147483648), (91, [2], [], 2147483647), (90, [3], [], -2147483648), (91, [3], [], 2147483647)], (3000, [4], [0], 124))
theorem c_112w_s_6 : vOkm T0 (eN e_112 L_112w A_112 mu_112 n_112 B_112 none) 4 g_112w_s_6 := vOk_inI fun ρ η f0 f1 f2 f3 f4 f5 f6 f7 f8 f9 f10 f11 f12 f13 f14 f15 => q_112w_6 (n0 := ρ 3) (n1 := ρ 2) (n2 := ρ 1) (n3 := ρ 0) (n4 := ρ 4) (H0 := η 0) f15 f14 f13 f12 f11 f10 f9 f8 f7 f6 f5 f4 f3 f2 f1 f0
theorem q_112w_7 {n0 n1 n2 n3 n4 : Int} {H0 : gH} (f0 : n0 ≤ 2147483647) (f1 : (-2147483648) ≤ n0) (f2 : n1 ≤ 2147483647) (f3 : (-2147483648) ≤ n1) (f4 : n2 ≤ 2147483647) (f5 : (-2147483648) ≤ n2) (f6 : 0 ≤ n3) (f7 : hWt T0 H0 ∧ True) (f8 : n2 ≠ 6) (f9 : n2 ≠ 7) (f10 : n2 ≠ 8) (f11 : n2 ≠ 9) (f12 : n2 ≠ 12) (f13 : n2 = 13) (f14 : n1 ≠ n0) (f15 : n4 = 1) : nb_112 n4 n3 n2 n1 n0 H0 H0 := by
  unfold nb_112
  intro z
  refine ⟨EVs_rfl z, fun q e => ⟨?_, ?_⟩⟩
  · rw [show n2 = 13 from f13]
    show n4 = b2i (decide (¬ n1 = n0))
    rw [decide_eq_true (show ¬ n1 = n0 by omega)]
    exact f15
  · rw [decide_eq_false (show ¬ n2 = 9 by omega), Bool.false_and, Bool.or_false]
    exact e
def g_112w_s_7 : vG := ([(0, [4], [], 1), (41, [2, 3], [], 0), (0, [1], [], 13), (68, [1], [], 12), (68, [1], [], 9), (68, [1], [], 8), (68, [1], [], 7), (68, [1], [], 6), (6000, [0, 1, 2, 3], [0], 0), (51, [0], [], 0), (90, [1], [], -2147483648), (91, [1], [], 2147483647), (90, [2], [], -2147483648), (91, [2], [], 2147483647), (90, [3], [], -2147483648), (91, [3], [], 2147483647)], (3000, [4], [0], 124))
theorem c_112w_s_7 : vOkm T0 (eN e_112 L_112w A_112 mu_112 n_112 B_112 none) 4 g_112w_s_7 := vOk_inI fun ρ η f0 f1 f2 f3 f4 f5 f6 f7 f8 f9 f10 f11 f12 f13 f14 f15 => q_112w_7 (n0 := ρ 3) (n1 := ρ 2) (n2 := ρ 1) (n3 := ρ 0) (n4 := ρ 4) (H0 := η 0) f15 f14 f13 f12 f11 f10 f9 f8 f7 f6 f5 f4 f3 f2 f1 f0
theorem q_112w_8 {n0 n1 n2 n3 n4 : Int} {H0 : gH} (f0 : n0 ≤ 2147483647) (f1 : (-2147483648) ≤ n0) (f2 : n1 ≤ 2147483647) (f3 : (-2147483648) ≤ n1) (f4 : n2 ≤ 2147483647) (f5 : (-2147483648) ≤ n2) (f6 : 0 ≤ n3) (f7 : hWt T0 H0 ∧ True) (f8 : n2 ≠ 6) (f9 : n2 ≠ 7) (f10 : n2 ≠ 8) (f11 : n2 ≠ 9) (f12 : n2 ≠ 12) (f13 : n2 ≠ 13) (f14 : n2 = 14) (f15 : n0 ≤ n1) (f16 : n4 = 0) : nb_112 n4 n3 n2 n1 n0 H0 H0 := by
  unfold nb_112
  intro z
  refine ⟨EVs_rfl z, fun q e => ⟨?_, ?_⟩⟩
  · rw [show n2 = 14 from f14]
    show n4 = b2i (decide (n1 < n0))
    rw [decide_eq_false (show ¬ (n1 < n0) by omega)]
    exact f16
  · rw [decide_eq_false (show ¬ n2 = 9 by omega), Bool.false_and, Bool.or_false]
    exact e
def g_112w_s_8 : vG := ([(0, [4], [], 0), (43, [2, 3], [], 0), (0, [1], [], 14), (68, [1], [], 13), (68, [1], [], 12), (68, [1], [], 9), (68, [1], [], 8), (68, [1], [], 7), (68, [1], [], 6), (6000, [0, 1, 2, 3], [0], 0), (51, [0], [], 0), (90, [1], [], -2147483648), (91, [1], [], 2147483647), (90, [2], [], -2147483648), (91, [2], [], 2147483647), (90, [3], [], -2147483648), (91, [3], [], 2147483647)], (3000, [4], [0], 135))
theorem c_112w_s_8 : vOkm T0 (eN e_112 L_112w A_112 mu_112 n_112 B_112 none) 4 g_112w_s_8 := vOk_inI fun ρ η f0 f1 f2 f3 f4 f5 f6 f7 f8 f9 f10 f11 f12 f13 f14 f15 f16 => q_112w_8 (n0 := ρ 3) (n1 := ρ 2) (n2 := ρ 1) (n3 := ρ 0) (n4 := ρ 4) (H0 := η 0) f16 f15 f14 f13 f12 f11 f10 f9 f8 f7 f6 f5 f4 f3 f2 f1 f0
theorem q_112w_9 {n0 n1 n2 n3 n4 : Int} {H0 : gH} (f0 : n0 ≤ 2147483647) (f1 : (-2147483648) ≤ n0) (f2 : n1 ≤ 2147483647) (f3 : (-2147483648) ≤ n1) (f4 : n2 ≤ 2147483647) (f5 : (-2147483648) ≤ n2) (f6 : 0 ≤ n3) (f7 : hWt T0 H0 ∧ True) (f8 : n2 ≠ 6) (f9 : n2 ≠ 7) (f10 : n2 ≠ 8) (f11 : n2 ≠ 9) (f12 : n2 ≠ 12) (f13 : n2 ≠ 13) (f14 : n2 = 14) (f15 : n1 < n0) (f16 : n4 = 1) : nb_112 n4 n3 n2 n1 n0 H0 H0 := by
  unfold nb_112
  intro z
  refine ⟨EVs_rfl z, fun q e => ⟨?_, ?_⟩⟩
  · rw [show n2 = 14 from f14]
    show n4 = b2i (decide (n1 < n0))
    rw [decide_eq_true (show n1 < n0 by omega)]
    exact f16
  · rw [decide_eq_false (show ¬ n2 = 9 by omega), Bool.false_and, Bool.or_false]
    exact e
def g_112w_s_9 : vG := ([(0, [4], [], 1), (42, [2, 3], [], 0), (0, [1], [], 14), (68, [1], [], 13), (68, [1], [], 12), (68, [1], [], 9), (68, [1], [], 8), (68, [1], [], 7), (68, [1], [], 6), (6000, [0, 1, 2, 3], [0], 0), (51, [0], [], 0), (90, [1], [], -2147483648), (91, [1], [], 2147483647), (90, [2], [], -2147483648), (91, [2], [], 2147483647), (90, [3], [], -2147483648), (91, [3], [], 2147483647)], (3000, [4], [0], 135))
theorem c_112w_s_9 : vOkm T0 (eN e_112 L_112w A_112 mu_112 n_112 B_112 none) 4 g_112w_s_9 := vOk_inI fun ρ η f0 f1 f2 f3 f4 f5 f6 f7 f8 f9 f10 f11 f12 f13 f14 f15 f16 => q_112w_9 (n0 := ρ 3) (n1 := ρ 2) (n2 := ρ 1) (n3 := ρ 0) (n4 := ρ 4) (H0 := η 0) f16 f15 f14 f13 f12 f11 f10 f9 f8 f7 f6 f5 f4 f3 f2 f1 f0
theorem q_112w_10 {n0 n1 n2 n3 n4 : Int} {H0 : gH} (f0 : n0 ≤ 2147483647) (f1 : (-2147483648) ≤ n0) (f2 : n1 ≤ 2147483647) (f3 : (-2147483648) ≤ n1) (f4 : n2 ≤ 2147483647) (f5 : (-2147483648) ≤ n2) (f6 : 0 ≤ n3) (f7 : hWt T0 H0 ∧ True) (f8 : n2 ≠ 6) (f9 : n2 ≠ 7) (f10 : n2 ≠ 8) (f11 : n2 ≠ 9) (f12 : n2 ≠ 12) (f13 : n2 ≠ 13) (f14 : n2 ≠ 14) (f15 : n2 = 15) (f16 : n0 < n1) (f17 : n4 = 0) : nb_112 n4 n3 n2 n1 n0 H0 H0 := by
  unfold nb_112
  intro z
  refine ⟨EVs_rfl z, fun q e => ⟨?_, ?_⟩⟩
  · rw [show n2 = 15 from f15]
    show n4 = b2i (decide (n1 ≤ n0))
    rw [decide_eq_false (show ¬ (n1 ≤ n0) by omega)]
    exact f17
  · rw [decide_eq_false (show ¬ n2 = 9 by omega), Bool.false_and, Bool.or_false]
    exact e
def g_112w_s_10 : vG := ([(0, [4], [], 0), (44, [2, 3], [], 0), (0, [1], [], 15), (68, [1], [], 14), (68, [1], [], 13), (68, [1], [], 12), (68, [1], [], 9), (68, [1], [], 8), (68, [1], [], 7), (68, [1], [], 6), (6000, [0, 1, 2, 3], [0], 0), (51, [0], [], 0), (90, [1], [], -2147483648), (91, [1], [], 2147483647), (90, [2], [], -2147483648), (91, [2], [], 2147483647), (90, [3], [], -2147483648), (91, [3], [], 2147483647)], (3000, [4], [0], 146))
theorem c_112w_s_10 : vOkm T0 (eN e_112 L_112w A_112 mu_112 n_112 B_112 none) 4 g_112w_s_10 := vOk_inI fun ρ η f0 f1 f2 f3 f4 f5 f6 f7 f8 f9 f10 f11 f12 f13 f14 f15 f16 f17 => q_112w_10 (n0 := ρ 3) (n1 := ρ 2) (n2 := ρ 1) (n3 := ρ 0) (n4 := ρ 4) (H0 := η 0) f17 f16 f15 f14 f13 f12 f11 f10 f9 f8 f7 f6 f5 f4 f3 f2 f1 f0
theorem q_112w_11 {n0 n1 n2 n3 n4 : Int} {H0 : gH} (f0 : n0 ≤ 2147483647) (f1 : (-2147483648) ≤ n0) (f2 : n1 ≤ 2147483647) (f3 : (-2147483648) ≤ n1) (f4 : n2 ≤ 2147483647) (f5 : (-2147483648) ≤ n2) (f6 : 0 ≤ n3) (f7 : hWt T0 H0 ∧ True) (f8 : n2 ≠ 6) (f9 : n2 ≠ 7) (f10 : n2 ≠ 8) (f11 : n2 ≠ 9) (f12 : n2 ≠ 12) (f13 : n2 ≠ 13) (f14 : n2 ≠ 14) (f15 : n2 = 15) (f16 : n1 ≤ n0) (f17 : n4 = 1) : nb_112 n4 n3 n2 n1 n0 H0 H0 := by
  unfold nb_112
  intro z
  refine ⟨EVs_rfl z, fun q e => ⟨?_, ?_⟩⟩
  · rw [show n2 = 15 from f15]
    show n4 = b2i (decide (n1 ≤ n0))
    rw [decide_eq_true (show n1 ≤ n0 by omega)]
    exact f17
  · rw [decide_eq_false (show ¬ n2 = 9 by omega), Bool.false_and, Bool.or_false]
    exact e
def g_112w_s_11 : vG := ([(0, [4], [], 1), (45, [2, 3], [], 0), (0, [1], [], 15), (68, [1], [], 14), (68, [1], [], 13), (68, [1], [], 12), (68, [1], [], 9), (68, [1], [], 8), (68, [1], [], 7), (68, [1], [], 6), (6000, [0, 1, 2, 3], [0], 0), (51, [0], [], 0), (90, [1], [], -2147483648), (91, [1], [], 2147483647), (90, [2], [], -2147483648), (91, [2], [], 2147483647), (90, [3], [], -2147483648), (91, [3], [], 2147483647)], (3000, [4], [0], 146))
theorem c_112w_s_11 : vOkm T0 (eN e_112 L_112w A_112 mu_112 n_112 B_112 none) 4 g_112w_s_11 := vOk_inI fun ρ η f0 f1 f2 f3 f4 f5 f6 f7 f8 f9 f10 f11 f12 f13 f14 f15 f16 f17 => q_112w_11 (n0 := ρ 3) (n1 := ρ 2) (n2 := ρ 1) (n3 := ρ 0) (n4 := ρ 4) (H0 := η 0) f17 f16 f15 f14 f13 f12 f11 f10 f9 f8 f7 f6 f5 f4 f3 f2 f1 f0
theorem q_112w_12 {n0 n1 n2 n3 n4 : Int} {H0 : gH} (f0 : n0 ≤ 2147483647) (f1 : (-2147483648) ≤ n0) (f2 : n1 ≤ 2147483647) (f3 : (-2147483648) ≤ n1) (f4 : n2 ≤ 2147483647) (f5 : (-2147483648) ≤ n2) (f6 : 0 ≤ n3) (f7 : hWt T0 H0 ∧ True) (f8 : n2 ≠ 6) (f9 : n2 ≠ 7) (f10 : n2 ≠ 8) (f11 : n2 ≠ 9) (f12 : n2 ≠ 12) (f13 : n2 ≠ 13) (f14 : n2 ≠ 14) (f15 : n2 ≠ 15) (f16 : n2 = 43) (f17 : n4 = o32 (fun x y => x &&& y) n1 n0) : nb_112 n4 n3 n2 n1 n0 H0 H0 := by
  unfold nb_112
  intro z
  refine ⟨EVs_rfl z, fun q e => ⟨?_, ?_⟩⟩
  · rw [show n2 = 43 from f16]
    exact f17
  · rw [decide_eq_false (show ¬ n2 = 9 by omega), Bool.false_and, Bool.or_false]
    exact e
def g_112w_s_12 : vG := ([(4, [4, 2, 3], [], 0), (0, [1], [], 43), (68, [1], [], 15), (68, [1], [], 14), (68, [1], [], 13), (68, [1], [], 12), (68, [1], [], 9), (68, [1], [], 8), (68, [1], [], 7), (68, [1], [], 6), (6000, [0, 1, 2, 3], [0], 0), (51, [0], [], 0), (90, [1], [], -2147483648), (91, [1], [], 2147483647), (90, [2], [], -2147483648), (91, [2], [], 2147483647), (90, [3], [], -2147483648), (91, [3], [], 2147483647)], (3000, [4], [0], 150))
theorem c_112w_s_12 : vOkm T0 (eN e_112 L_112w A_112 mu_112 n_112 B_112 none) 4 g_112w_s_12 := vOk_inI fun ρ η f0 f1 f2 f3 f4 f5 f6 f7 f8 f9 f10 f11 f12 f13 f14 f15 f16 f17 => q_112w_12 (n0 := ρ 3) (n1 := ρ 2) (n2 := ρ 1) (n3 := ρ 0) (n4 := ρ 4) (H0 := η 0) f17 f16 f15 f14 f13 f12 f11 f10 f9 f8 f7 f6 f5 f4 f3 f2 f1 f0
theorem q_112w_13 {n0 n1 n2 n3 n4 : Int} {H0 : gH} (f0 : n0 ≤ 2147483647) (f1 : (-2147483648) ≤ n0) (f2 : n1 ≤ 2147483647) (f3 : (-2147483648) ≤ n1) (f4 : n2 ≤ 2147483647) (f5 : (-2147483648) ≤ n2) (f6 : 0 ≤ n3) (f7 : hWt T0 H0 ∧ True) (f8 : n2 ≠ 6) (f9 : n2 ≠ 7) (f10 : n2 ≠ 8) (f11 : n2 ≠ 9) (f12 : n2 ≠ 12) (f13 : n2 ≠ 13) (f14 : n2 ≠ 14) (f15 : n2 ≠ 15) (f16 : n2 ≠ 43) (f17 : n4 = o32 (fun x y => x ||| y) n1 n0) : nb_112 n4 n3 n2 n1 n0 H0 H0 := by
  unfold nb_112
  intro z
  refine ⟨EVs_rfl z, fun q e => ⟨?_, ?_⟩⟩
  · unfold cOp
    rw [if_neg (show ¬ n2 = 6 by omega), if_neg (show ¬ n2 = 7 by omega), if_neg (show ¬ n2 = 8 by omega), if_neg (show ¬ n2 = 9 by omega), if_neg (show ¬ n2 = 12 by omega), if_neg (show ¬ n2 = 13 by omega), if_neg (show ¬ n2 = 14 by omega), if_neg (show ¬ n2 = 15 by omega), if_neg (show ¬ n2 = 43 by omega)]
    exact f17
  · rw [decide_eq_false (show ¬ n2 = 9 by omega), Bool.false_and, Bool.or_false]
    exact e
def g_112w_s_13 : vG := ([(5, [4, 2, 3], [], 0), (68, [1], [], 43), (68, [1], [], 15), (68, [1], [], 14), (68, [1], [], 13), (68, [1], [], 12), (68, [1], [], 9), (68, [1], [], 8), (68, [1], [], 7), (68, [1], [], 6), (6000, [0, 1, 2, 3], [0], 0), (51, [0], [], 0), (90, [1], [], -2147483648), (91, [1], [], 2147483647), (90, [2], [], -2147483648), (91, [2], [], 2147483647), (90, [3], [], -2147483648), (91, [3], [], 2147483647)], (3000, [4], [0], 154))
theorem c_112w_s_13 : vOkm T0 (eN e_112 L_112w A_112 mu_112 n_112 B_112 none) 4 g_112w_s_13 := vOk_inI fun ρ η f0 f1 f2 f3 f4 f5 f6 f7 f8 f9 f10 f11 f12 f13 f14 f15 f16 f17 => q_112w_13 (n0 := ρ 3) (n1 := ρ 2) (n2 := ρ 1) (n3 := ρ 0) (n4 := ρ 4) (H0 := η 0) f17 f16 f15 f14 f13 f12 f11 f10 f9 f8 f7 f6 f5 f4 f3 f2 f1 f0
def p_112w_s : List vG := [g_112w_s_0,
  g_112w_s_1,
  g_112w_s_2,
  g_112w_s_3,
  g_112w_s_4,
  g_112w_s_5,
  g_112w_s_6,
  g_112w_s_7,
  g_112w_s_8,
  g_112w_s_9,
  g_112w_s_10,
  g_112w_s_11,
  g_112w_s_12,
  g_112w_s_13]
theorem r_112w_s : vCovBO (eR0 e_112 L_112 cs_112 2000) p_112w_s = true := by decide +kernel
theorem m_112w (d : Nat) : eC e_112w (d + 2) := eC_ref (e := e_112) (L := L_112) (L' := L_112w) (cs := cs_112) (n := 2000) (d := d + 1) (A := A_112) (μ := mu_112) (tp := true) (p0 := p_112_s) (p1 := p_112w_s) (N := n_112) (B := B_112) rfl ⟨m_113w d, trivial⟩ rfl (.inr pre0_ok) (by decide +kernel) (fun _ => post0_ok) r_112_s allN allN (sub1 trivial) r_112w_s (allC c_112w_s_0 (allC c_112w_s_1 (allC c_112w_s_2 (allC c_112w_s_3 (allC c_112w_s_4 (allC c_112w_s_5 (allC c_112w_s_6 (allC c_112w_s_7 (allC c_112w_s_8 (allC c_112w_s_9 (allC c_112w_s_10 (allC c_112w_s_11 (allC c_112w_s_12 (allC c_112w_s_13 allN)))))))))))))) allN
/- Rules.step (I)V, more fully -/
def nb_109 (a0 a1 : Int) (h0 h : gH) : Prop := STEPp h0 h a0 a1
def n_109 : List Int → gH → gH → Prop := fun xs h0 h => match xs with
  | [a0, a1] => nb_109 a0 a1 h0 h
  | _ => True
noncomputable def e_109w : vE := eV e_109 n_109
noncomputable def L_109w : List vE := [e_110w, e_111w, e_112w, e_199vk100]
def B_109 : Int → List Int → gH → gH → Prop := fun c xs h0 h => True
theorem q_109w_0 {n0 n1 n2 n3 n4 n5 n6 n7 n8 : Int} {H0 H1 H2 H3 H4 : gH} (f0 : n0 ≤ 2147483647) (f1 : (-2147483648) ≤ n0) (f2 : 0 ≤ n1) (f3 : hWt T0 H0 ∧ True) (f4 : n2 = 10000) (f5 : n3 = w32 (n0 - n2)) (f6 : 0 ≤ n3) (f7 : n4 = 45) (f8 : n3 < n4) (f9 : n5 = 44) (f10 : n3 ≠ n5) (f11 : n6 ≤ 2147483647) (f12 : (-2147483648) ≤ n6) (f13 : (hLe T0 H0 H1 ∧ hFr s_111.2.2.2.2 H0 H1 ∧ ((0 : Int) = 0 → H1.length = H0.length) ∧ hWt T0 H1) ∧ (True ∧ nb_111 n6 n1 H0 H1)) (f14 : n7 ≤ 2147483647) (f15 : (-2147483648) ≤ n7) (f16 : (hLe T0 H1 H2 ∧ hFr s_111.2.2.2.2 H1 H2 ∧ ((0 : Int) = 0 → H2.length = H1.length) ∧ hWt T0 H2) ∧ (True ∧ nb_111 n7 n1 H1 H2)) (f17 : n8 ≤ 2147483647) (f18 : (-2147483648) ≤ n8) (f19 : (hLe T0 H2 H3 ∧ hFr s_112.2.2.2.2 H2 H3 ∧ ((0 : Int) = 0 → H3.length = H2.length) ∧ hWt T0 H3) ∧ (True ∧ nb_112 n8 n1 n3 n7 n6 H2 H3)) (f20 : (hLe T0 H3 H4 ∧ hFr s_110.2.2.2.2 H3 H4 ∧ ((0 : Int) = 0 → H4.length = H3.length) ∧ hWt T0 H4) ∧ (True ∧ nb_110 n1 n8 H3 H4)) : nb_109 n1 n0 H0 H4 := by
  unfold nb_109
  have w3 := f5
  rw [f4] at w3
  have q13 := f13.2.2
  unfold nb_111 at q13
  have q16 := f16.2.2
  unfold nb_111 at q16
  have q19 := f19.2.2
  unfold nb_112 at q19
  have q20 := f20.2.2
  unfold nb_110 at q20
  exact STEP_bin w3 (by omega) (by omega) (by omega) ⟨by omega, by omega⟩ q13 q16 q19 q20
def g_109w_s_0 : vG := ([(1110, [0, 8], [3, 4], 0), (1112, [8, 0, 3, 7, 6], [2, 3], 0), (90, [8], [], -2147483648), (91, [8], [], 2147483647), (1111, [7, 0], [1, 2], 0), (90, [7], [], -2147483648), (91, [7], [], 2147483647), (1111, [6, 0], [0, 1], 0), (90, [6], [], -2147483648), (91, [6], [], 2147483647), (41, [3, 5], [], 0), (0, [5], [], 44), (42, [3, 4], [], 0), (0, [4], [], 45), (33, [3], [], 0), (2, [3, 1, 2], [], 0), (0, [2], [], 10000), (6000, [0, 1], [0], 0), (51, [0], [], 0), (90, [1], [], -2147483648), (91, [1], [], 2147483647)], (3000, [], [4], 90))
theorem c_109w_s_0 : vOkm T0 (eN e_109 L_109w A_109 mu_109 n_109 B_109 none) 2 g_109w_s_0 := vOk_inI fun ρ η f0 f1 f2 f3 f4 f5 f6 f7 f8 f9 f10 f11 f12 f13 f14 f15 f16 f17 f18 f19 f20 => q_109w_0 (n0 := ρ 1) (n1 := ρ 0) (n2 := ρ 2) (n3 := ρ 3) (n4 := ρ 4) (n5 := ρ 5) (n6 := ρ 6) (n7 := ρ 7) (n8 := ρ 8) (H0 := η 0) (H1 := η 1) (H2 := η 2) (H3 := η 3) (H4 := η 4) f20 f19 f18 f17 f16 f15 f14 f13 f12 f11 f10 f9 f8 f7 f6 f5 f4 f3 f2 f1 f0
theorem q_109w_1 {n0 n1 n2 n3 n4 n5 n6 n7 : Int} {H0 H1 H2 : gH} (f0 : n0 ≤ 2147483647) (f1 : (-2147483648) ≤ n0) (f2 : 0 ≤ n1) (f3 : hWt T0 H0 ∧ True) (f4 : n2 = 10000) (f5 : n3 = w32 (n0 - n2)) (f6 : 0 ≤ n3) (f7 : n4 = 45) (f8 : n3 < n4) (f9 : n5 = 44) (f10 : n3 = n5) (f11 : n6 ≤ 2147483647) (f12 : (-2147483648) ≤ n6) (f13 : (hLe T0 H0 H1 ∧ hFr s_111.2.2.2.2 H0 H1 ∧ ((0 : Int) = 0 → H1.length = H0.length) ∧ hWt T0 H1) ∧ (True ∧ nb_111 n6 n1 H0 H1)) (f14 : n6 ≠ 0) (f15 : n7 = 0) (f16 : (hLe T0 H1 H2 ∧ hFr s_110.2.2.2.2 H1 H2 ∧ ((0 : Int) = 0 → H2.length = H1.length) ∧ hWt T0 H2) ∧ (True ∧ nb_110 n1 n7 H1 H2)) : nb_109 n1 n0 H0 H2 := by
  unfold nb_109
  have w3 := f5
  rw [f4] at w3
  have q13 := f13.2.2
  unfold nb_111 at q13
  have q16 := f16.2.2
  unfold nb_110 at q16
  have ey : n7 = b2i (decide (n6 = 0)) := by
    rw [decide_eq_false (show ¬ n6 = 0 by omega)]
    exact f15
  exact STEP_not w3 (by omega) ⟨by omega, by omega⟩ q13 ey q16
def g_109w_s_1 : vG := ([(1110, [0, 7], [1, 2], 0), (0, [7], [], 0), (31, [6], [], 0), (1111, [6, 0], [0, 1], 0), (90, [6], [], -2147483648), (91, [6], [], 2147483647), (40, [3, 5], [], 0), (0, [5], [], 44), (42, [3, 4], [], 0), (0, [4], [], 45), (33, [3], [], 0), (2, [3, 1, 2], [], 0), (0, [2], [], 10000), (6000, [0, 1], [0], 0), (51, [0], [], 0), (90, [1], [], -2147483648), (91, [1], [], 2147483647)], (3000, [], [2], 90))
theorem c_109w_s_1 : vOkm T0 (eN e_109 L_109w A_109 mu_109 n_109 B_109 none) 2 g_109w_s_1 := vOk_inI fun ρ η f0 f1 f2 f3 f4 f5 f6 f7 f8 f9 f10 f11 f12 f13 f14 f15 f16 => q_109w_1 (n0 := ρ 1) (n1 := ρ 0) (n2 := ρ 2) (n3 := ρ 3) (n4 := ρ 4) (n5 := ρ 5) (n6 := ρ 6) (n7 := ρ 7) (H0 := η 0) (H1 := η 1) (H2 := η 2) f16 f15 f14 f13 f12 f11 f10 f9 f8 f7 f6 f5 f4 f3 f2 f1 f0
theorem q_109w_2 {n0 n1 n2 n3 n4 n5 n6 n7 : Int} {H0 H1 H2 : gH} (f0 : n0 ≤ 2147483647) (f1 : (-2147483648) ≤ n0) (f2 : 0 ≤ n1) (f3 : hWt T0 H0 ∧ True) (f4 : n2 = 10000) (f5 : n3 = w32 (n0 - n2)) (f6 : 0 ≤ n3) (f7 : n4 = 45) (f8 : n3 < n4) (f9 : n5 = 44) (f10 : n3 = n5) (f11 : n6 ≤ 2147483647) (f12 : (-2147483648) ≤ n6) (f13 : (hLe T0 H0 H1 ∧ hFr s_111.2.2.2.2 H0 H1 ∧ ((0 : Int) = 0 → H1.length = H0.length) ∧ hWt T0 H1) ∧ (True ∧ nb_111 n6 n1 H0 H1)) (f14 : n6 = 0) (f15 : n7 = 1) (f16 : (hLe T0 H1 H2 ∧ hFr s_110.2.2.2.2 H1 H2 ∧ ((0 : Int) = 0 → H2.length = H1.length) ∧ hWt T0 H2) ∧ (True ∧ nb_110 n1 n7 H1 H2)) : nb_109 n1 n0 H0 H2 := by
  unfold nb_109
  have w3 := f5
  rw [f4] at w3
  have q13 := f13.2.2
  unfold nb_111 at q13
  have q16 := f16.2.2
  unfold nb_110 at q16
  have ey : n7 = b2i (decide (n6 = 0)) := by
    rw [decide_eq_true (show n6 = 0 by omega)]
    exact f15
  exact STEP_not w3 (by omega) ⟨by omega, by omega⟩ q13 ey q16
def g_109w_s_2 : vG := ([(1110, [0, 7], [1, 2], 0), (0, [7], [], 1), (30, [6], [], 0), (1111, [6, 0], [0, 1], 0), (90, [6], [], -2147483648), (91, [6], [], 2147483647), (40, [3, 5], [], 0), (0, [5], [], 44), (42, [3, 4], [], 0), (0, [4], [], 45), (33, [3], [], 0), (2, [3, 1, 2], [], 0), (0, [2], [], 10000), (6000, [0, 1], [0], 0), (51, [0], [], 0), (90, [1], [], -2147483648), (91, [1], [], 2147483647)], (3000, [], [2], 90))
theorem c_109w_s_2 : vOkm T0 (eN e_109 L_109w A_109 mu_109 n_109 B_109 none) 2 g_109w_s_2 := vOk_inI fun ρ η f0 f1 f2 f3 f4 f5 f6 f7 f8 f9 f10 f11 f12 f13 f14 f15 f16 => q_109w_2 (n0 := ρ 1) (n1 := ρ 0) (n2 := ρ 2) (n3 := ρ 3) (n4 := ρ 4) (n5 := ρ 5) (n6 := ρ 6) (n7 := ρ 7) (H0 := η 0) (H1 := η 1) (H2 := η 2) f16 f15 f14 f13 f12 f11 f10 f9 f8 f7 f6 f5 f4 f3 f2 f1 f0
theorem q_109w_3 {n0 n1 n2 n3 n4 n5 n6 n7 n8 : Int} {H0 H1 H2 : gH} (f0 : n0 ≤ 2147483647) (f1 : (-2147483648) ≤ n0) (f2 : 0 ≤ n1) (f3 : hWt T0 H0 ∧ True) (f4 : n2 = 10000) (f5 : n3 = w32 (n0 - n2)) (f6 : 0 ≤ n3) (f7 : n4 = 45) (f8 : n4 ≤ n3) (f9 : 0 ≤ n5) (f10 : hK H0 (n1).toNat = 5) (f11 : n5 = hV H0 (n1).toNat 8) (f12 : n6 = 45) (f13 : n7 = w32 (n3 - n6)) (f14 : n8 ≤ 2147483647) (f15 : (-2147483648) ≤ n8) (f16 : (hLe T0 H0 H1 ∧ hFr s_199vk100.2.2.2.2 H0 H1 ∧ ((0 : Int) = 0 → H1.length = H0.length) ∧ hWt T0 H1) ∧ postb_199vk100 n8 n5 n7 H0 H1) (f17 : (hLe T0 H1 H2 ∧ hFr s_110.2.2.2.2 H1 H2 ∧ ((0 : Int) = 0 → H2.length = H1.length) ∧ hWt T0 H2) ∧ (True ∧ nb_110 n1 n8 H1 H2)) : nb_109 n1 n0 H0 H2 := by
  unfold nb_109
  have w3 := f5
  rw [f4] at w3
  have q17 := f17.2.2
  unfold nb_110 at q17
  have w7 := f13
  rw [f12] at w7
  have pa := f16.2
  unfold postb_199vk100 at pa
  exact STEP_var w3 (by omega) ⟨by omega, by omega⟩ w7 f11 pa (SMf_fr f16.1.1 f16.1.2.1 (by decide +kernel) (by decide +kernel)) q17
def g_109w_s_3 : vG := ([(1110, [0, 8], [1, 2], 0), (1199, [8, 5, 7], [0, 1], 0), (90, [8], [], -2147483648), (91, [8], [], 2147483647), (2, [7, 3, 6], [], 0), (0, [6], [], 45), (20, [5, 0], [0], 8), (23, [0], [0], 5), (51, [5], [], 0), (43, [3, 4], [], 0), (0, [4], [], 45), (33, [3], [], 0), (2, [3, 1, 2], [], 0), (0, [2], [], 10000), (6000, [0, 1], [0], 0), (51, [0], [], 0), (90, [1], [], -2147483648), (91, [1], [], 2147483647)], (3000, [], [2], 90))
theorem c_109w_s_3 : vOkm T0 (eN e_109 L_109w A_109 mu_109 n_109 B_109 none) 2 g_109w_s_3 := vOk_inI fun ρ η f0 f1 f2 f3 f4 f5 f6 f7 f8 f9 f10 f11 f12 f13 f14 f15 f16 f17 => q_109w_3 (n0 := ρ 1) (n1 := ρ 0) (n2 := ρ 2) (n3 := ρ 3) (n4 := ρ 4) (n5 := ρ 5) (n6 := ρ 6) (n7 := ρ 7) (n8 := ρ 8) (H0 := η 0) (H1 := η 1) (H2 := η 2) f17 f16 f15 f14 f13 f12 f11 f10 f9 f8 f7 f6 f5 f4 f3 f2 f1 f0
theorem q_109w_4 {n0 n1 n2 n3 : Int} {H0 H1 : gH} (f0 : n0 ≤ 2147483647) (f1 : (-2147483648) ≤ n0) (f2 : 0 ≤ n1) (f3 : hWt T0 H0 ∧ True) (f4 : n2 = 10000) (f5 : n3 = w32 (n0 - n2)) (f6 : n3 < 0) (f7 : (hLe T0 H0 H1 ∧ hFr s_110.2.2.2.2 H0 H1 ∧ ((0 : Int) = 0 → H1.length = H0.length) ∧ hWt T0 H1) ∧ (True ∧ nb_110 n1 n0 H0 H1)) : nb_109 n1 n0 H0 H1 := by
  unfold nb_109
  have w3 := f5
  rw [f4] at w3
  have q7 := f7.2.2
  unfold nb_110 at q7
  exact STEP_int w3 (by omega) ⟨by omega, by omega⟩ q7
def g_109w_s_4 : vG := ([(1110, [0, 1], [0, 1], 0), (32, [3], [], 0), (2, [3, 1, 2], [], 0), (0, [2], [], 10000), (6000, [0, 1], [0], 0), (51, [0], [], 0), (90, [1], [], -2147483648), (91, [1], [], 2147483647)], (3000, [], [1], 90))
theorem c_109w_s_4 : vOkm T0 (eN e_109 L_109w A_109 mu_109 n_109 B_109 none) 2 g_109w_s_4 := vOk_inI fun ρ η f0 f1 f2 f3 f4 f5 f6 f7 => q_109w_4 (n0 := ρ 1) (n1 := ρ 0) (n2 := ρ 2) (n3 := ρ 3) (H0 := η 0) (H1 := η 1) f7 f6 f5 f4 f3 f2 f1 f0
def p_109w_s : List vG := [g_109w_s_0,
  g_109w_s_1,
  g_109w_s_2,
  g_109w_s_3,
  g_109w_s_4]
theorem r_109w_s : vCovBO (eR0 e_109 L_109 cs_109 2000) p_109w_s = true := by decide +kernel
theorem m_109w (d : Nat) : eC e_109w (d + 3) := eC_ref (e := e_109) (L := L_109) (L' := L_109w) (cs := cs_109) (n := 2000) (d := d + 2) (A := A_109) (μ := mu_109) (tp := true) (p0 := p_109_s) (p1 := p_109w_s) (N := n_109) (B := B_109) rfl ⟨m_110w d, ⟨m_111w d, ⟨m_112w d, ⟨m_199vk100 (d + 1), trivial⟩⟩⟩⟩ rfl (.inr pre0_ok) (by decide +kernel) (fun _ => post0_ok) r_109_s allN allN (sub1 (sub1 (sub1 ⟨⟨rfl, rfl, rfl, fun _ _ _ _ => trivial⟩, trivial⟩))) r_109w_s (allC c_109w_s_0 (allC c_109w_s_1 (allC c_109w_s_2 (allC c_109w_s_3 (allC c_109w_s_4 allN))))) allN
/- Rules.work (II)I, more fully -/
def nb_108 (r a0 a1 a2 : Int) (h0 h : gH) : Prop := WORKp h0 h a0 a1 a2 r
def n_108 : List Int → gH → gH → Prop := fun xs h0 h => match xs with
  | [r, a0, a1, a2] => nb_108 r a0 a1 a2 h0 h
  | _ => True
noncomputable def e_108w : vE := eV e_108 n_108
noncomputable def L_108w : List vE := [e_109w, e_111w, e_199vk100]
def Bb_108_7 (a0 a1 a2 x0 x1 x2 x3 : Int) (h0 h : gH) : Prop := x0 = a0 ∧ x2 = a2 ∧ WKi h0 h a0 a1 a2 x3
def B_108 : Int → List Int → gH → gH → Prop := fun c xs h0 h => match c.toNat with
  | 7 => (match xs with
    | [a0, a1, a2, x0, x1, x2, x3] => Bb_108_7 a0 a1 a2 x0 x1 x2 x3 h0 h
    | _ => False)
  | _ => True
theorem q_108w_0 {n0 n1 n2 n3 n4 : Int} {H0 H1 : gH} (f0 : n0 ≤ 2147483647) (f1 : (-2147483648) ≤ n0) (f2 : n1 ≤ 2147483647) (f3 : (-2147483648) ≤ n1) (f4 : 0 ≤ n2) (f5 : hWt T0 H0 ∧ True) (f6 : n3 = 0) (f7 : hK H0 (n2).toNat = 5) (f8 : n4 = 10) (f9 : hUpd H1 H0 n2 n4 n3) : Bb_108_7 n2 n1 n0 n2 n1 n0 n1 H0 H1 := by
  unfold Bb_108_7
  exact ⟨rfl, rfl, WK_0 f9 f8 f6⟩
def g_108w_s_0 : vG := ([(80, [0, 4, 3], [1, 0], 0), (0, [4], [], 10), (23, [0], [0], 5), (0, [3], [], 0), (6000, [0, 1, 2], [0], 0), (51, [0], [], 0), (90, [1], [], -2147483648), (91, [1], [], 2147483647), (90, [2], [], -2147483648), (91, [2], [], 2147483647)], (4000, [0, 1, 2, 1], [1], 7))
theorem c_108w_s_0 : vOkm T0 (eN e_108 L_108w A_108 mu_108 n_108 B_108 none) 3 g_108w_s_0 := vOk_inI fun ρ η f0 f1 f2 f3 f4 f5 f6 f7 f8 f9 => q_108w_0 (n0 := ρ 2) (n1 := ρ 1) (n2 := ρ 0) (n3 := ρ 3) (n4 := ρ 4) (H0 := η 0) (H1 := η 1) f9 f8 f7 f6 f5 f4 f3 f2 f1 f0
def p_108w_s : List vG := [g_108w_s_0]
theorem r_108w_s : vCovBO (eR0 e_108 L_108 cs_108 2000) p_108w_s = true := by decide +kernel
theorem q_108w_1 {q0 : Nat} {n0 n1 n2 n3 n4 n5 n6 n7 : Int} {H0 H1 H2 : gH} (f0 : n0 ≤ 2147483647) (f1 : (-2147483648) ≤ n0) (f2 : n1 ≤ 2147483647) (f3 : (-2147483648) ≤ n1) (f4 : n2 ≤ 2147483647) (f5 : (-2147483648) ≤ n2) (f6 : 0 ≤ n3) (f7 : n4 ≤ 2147483647) (f8 : (-2147483648) ≤ n4) (f9 : n5 ≤ 2147483647) (f10 : (-2147483648) ≤ n5) (f11 : 0 ≤ n6) (f12 : (hLe T0 H0 H1 ∧ hFr s_108.2.2.2.2 H0 H1 ∧ hWt T0 H1) ∧ ((True ∧ Bb_108_7 n6 n5 n4 n3 n2 n1 n0 H0 H1) ∧ True) ∧ some q0 = some (mub_108_7 n6 n5 n4 n3 n2 n1 n0 H0 H1)) (f13 : n1 ≤ n0) (f14 : n7 ≤ 2147483647) (f15 : (-2147483648) ≤ n7) (f16 : (hLe T0 H1 H2 ∧ hFr s_111.2.2.2.2 H1 H2 ∧ ((0 : Int) = 0 → H2.length = H1.length) ∧ hWt T0 H2) ∧ (True ∧ nb_111 n7 n3 H1 H2)) : nb_108 n7 n6 n5 n4 H0 H2 := by
  have gb := f12.2.1.1.2
  unfold Bb_108_7 at gb
  obtain ⟨e0, e2, wk⟩ := gb
  unfold nb_108
  have q := f16.2.2
  unfold nb_111 at q
  rw [e0] at q
  exact WK_end wk (by omega) q
def g_108w_7_0 : vG := ([(1111, [7, 3], [1, 2], 0), (90, [7], [], -2147483648), (91, [7], [], 2147483647), (43, [6, 5], [], 0), (5000, [0, 1, 2, 3, 4, 5, 6], [0, 1], 7), (51, [0], [], 0), (90, [1], [], -2147483648), (91, [1], [], 2147483647), (90, [2], [], -2147483648), (91, [2], [], 2147483647), (51, [3], [], 0), (90, [4], [], -2147483648), (91, [4], [], 2147483647), (90, [5], [], -2147483648), (91, [5], [], 2147483647), (90, [6], [], -2147483648), (91, [6], [], 2147483647)], (3000, [7], [2], 34))
theorem c_108w_7_0 {q0 : Nat} : vOkm T0 (eN e_108 L_108w A_108 mu_108 n_108 B_108 (some q0)) 3 g_108w_7_0 := vOk_inI fun ρ η f0 f1 f2 f3 f4 f5 f6 f7 f8 f9 f10 f11 f12 f13 f14 f15 f16 => q_108w_1 (q0 := q0) (n0 := ρ 6) (n1 := ρ 5) (n2 := ρ 4) (n3 := ρ 3) (n4 := ρ 2) (n5 := ρ 1) (n6 := ρ 0) (n7 := ρ 7) (H0 := η 0) (H1 := η 1) (H2 := η 2) f16 f15 f14 f13 f12 f11 f10 f9 f8 f7 f6 f5 f4 f3 f2 f1 f0
theorem q_108w_2 {q0 : Nat} {n0 n1 n2 n3 n4 n5 n6 n7 n8 n9 : Int} {H0 H1 H2 H3 : gH} (f0 : n0 ≤ 2147483647) (f1 : (-2147483648) ≤ n0) (f2 : n1 ≤ 2147483647) (f3 : (-2147483648) ≤ n1) (f4 : n2 ≤ 2147483647) (f5 : (-2147483648) ≤ n2) (f6 : 0 ≤ n3) (f7 : n4 ≤ 2147483647) (f8 : (-2147483648) ≤ n4) (f9 : n5 ≤ 2147483647) (f10 : (-2147483648) ≤ n5) (f11 : 0 ≤ n6) (f12 : (hLe T0 H0 H1 ∧ hFr s_108.2.2.2.2 H0 H1 ∧ hWt T0 H1) ∧ ((True ∧ Bb_108_7 n6 n5 n4 n3 n2 n1 n0 H0 H1) ∧ True) ∧ some q0 = some (mub_108_7 n6 n5 n4 n3 n2 n1 n0 H0 H1)) (f13 : n0 < n1) (f14 : 0 ≤ n7) (f15 : hK H1 (n3).toNat = 5) (f16 : n7 = hV H1 (n3).toNat 1) (f17 : n8 ≤ 2147483647) (f18 : (-2147483648) ≤ n8) (f19 : (hLe T0 H1 H2 ∧ hFr s_199vk100.2.2.2.2 H1 H2 ∧ ((0 : Int) = 0 → H2.length = H1.length) ∧ hWt T0 H2) ∧ postb_199vk100 n8 n7 n0 H1 H2) (f20 : (hLe T0 H2 H3 ∧ hFr s_109.2.2.2.2 H2 H3 ∧ ((0 : Int) = 0 → H3.length = H2.length) ∧ hWt T0 H3) ∧ (True ∧ nb_109 n3 n8 H2 H3)) (f21 : n9 = w32 (n0 + 1)) : Bb_108_7 n6 n5 n4 n3 n2 n1 n9 H0 H3 := by
  have gb := f12.2.1.1.2
  unfold Bb_108_7 at gb
  obtain ⟨e0, e2, wk⟩ := gb
  unfold Bb_108_7
  have q := f20.2.2
  unfold nb_109 at q
  have pa := f19.2
  unfold postb_199vk100 at pa
  have e7 := f16
  rw [e0] at q e7
  exact ⟨e0, e2, WK_step wk (by omega) e7 pa (SMf_fr f19.1.1 f19.1.2.1 (by decide +kernel) (by decide +kernel)) q f21⟩
def g_108w_7_1 : vG := ([(10, [9, 6], [], 1), (1109, [3, 8], [2, 3], 0), (1199, [8, 7, 6], [1, 2], 0), (90, [8], [], -2147483648), (91, [8], [], 2147483647), (20, [7, 3], [1], 1), (23, [3], [1], 5), (51, [7], [], 0), (42, [6, 5], [], 0), (5000, [0, 1, 2, 3, 4, 5, 6], [0, 1], 7), (51, [0], [], 0), (90, [1], [], -2147483648), (91, [1], [], 2147483647), (90, [2], [], -2147483648), (91, [2], [], 2147483647), (51, [3], [], 0), (90, [4], [], -2147483648), (91, [4], [], 2147483647), (90, [5], [], -2147483648), (91, [5], [], 2147483647), (90, [6], [], -2147483648), (91, [6], [], 2147483647)], (4000, [3, 4, 5, 9], [3], 7))
theorem c_108w_7_1 {q0 : Nat} : vOkm T0 (eN e_108 L_108w A_108 mu_108 n_108 B_108 (some q0)) 3 g_108w_7_1 := vOk_inI fun ρ η f0 f1 f2 f3 f4 f5 f6 f7 f8 f9 f10 f11 f12 f13 f14 f15 f16 f17 f18 f19 f20 f21 => q_108w_2 (q0 := q0) (n0 := ρ 6) (n1 := ρ 5) (n2 := ρ 4) (n3 := ρ 3) (n4 := ρ 2) (n5 := ρ 1) (n6 := ρ 0) (n7 := ρ 7) (n8 := ρ 8) (n9 := ρ 9) (H0 := η 0) (H1 := η 1) (H2 := η 2) (H3 := η 3) f21 f20 f19 f18 f17 f16 f15 f14 f13 f12 f11 f10 f9 f8 f7 f6 f5 f4 f3 f2 f1 f0
def p_108w_7 : List vG := [g_108w_7_0,
  g_108w_7_1]
theorem r_108w_7 : vCovBO (eRc e_108 L_108 cs_108 2000 (7, [(0, (3, 5, -1, 0)), (1, (0, -2147483648, 2147483647, 0)), (2, (0, -2147483648, 2147483647, 0)), (3, (0, -2147483648, 2147483647, 0))])) p_108w_7 = true := by decide +kernel
theorem m_108w (d : Nat) : eC e_108w (d + 4) := eC_ref (e := e_108) (L := L_108) (L' := L_108w) (cs := cs_108) (n := 2000) (d := d + 3) (A := A_108) (μ := mu_108) (tp := true) (p0 := p_108_s) (p1 := p_108w_s) (N := n_108) (B := B_108) rfl ⟨m_109w d, ⟨m_111w (d + 1), ⟨m_199vk100 (d + 2), trivial⟩⟩⟩ rfl (.inr pre0_ok) (by decide +kernel) (fun _ => post0_ok) r_108_s (allC c_108_s_0 allN) (allC (.inl ⟨p_108_7, r_108_7, fun q0 => (allC c_108_7_0 allN)⟩) allN) (sub1 (sub1 ⟨⟨rfl, rfl, rfl, fun _ _ _ _ => trivial⟩, trivial⟩)) r_108w_s (allC c_108w_s_0 allN) (allC ⟨p_108w_7, r_108w_7, fun q0 => (allC c_108w_7_0 (allC c_108w_7_1 allN))⟩ allN)
/- Rules.firstRight ()I, more fully -/
def nb_107 (r a0 : Int) (h0 h : gH) : Prop := FRp h0 h a0 r
def n_107 : List Int → gH → gH → Prop := fun xs h0 h => match xs with
  | [r, a0] => nb_107 r a0 h0 h
  | _ => True
noncomputable def e_107w : vE := eV e_107 n_107
noncomputable def L_107w : List vE := [e_108w, e_199vk100]
def Bb_107_2 (a0 x0 x1 : Int) (h0 h : gH) : Prop := x0 = a0 ∧ FRi h0 h a0 x1
def B_107 : Int → List Int → gH → gH → Prop := fun c xs h0 h => match c.toNat with
  | 2 => (match xs with
    | [a0, x0, x1] => Bb_107_2 a0 x0 x1 h0 h
    | _ => False)
  | _ => True
theorem q_107w_0 {n0 n1 : Int} {H0 : gH} (f0 : 0 ≤ n0) (f1 : hWt T0 H0 ∧ True) (f2 : n1 = 0) : Bb_107_2 n0 n0 n1 H0 H0 := by
  unfold Bb_107_2
  exact ⟨rfl, FR_0 f2⟩
def g_107w_s_0 : vG := ([(0, [1], [], 0), (6000, [0], [0], 0), (51, [0], [], 0)], (4000, [0, 1], [0], 2))
theorem c_107w_s_0 : vOkm T0 (eN e_107 L_107w A_107 mu_107 n_107 B_107 none) 1 g_107w_s_0 := vOk_inI fun ρ η f0 f1 f2 => q_107w_0 (n0 := ρ 0) (n1 := ρ 1) (H0 := η 0) f2 f1 f0
def p_107w_s : List vG := [g_107w_s_0]
theorem r_107w_s : vCovBO (eR0 e_107 L_107 cs_107 2000) p_107w_s = true := by decide +kernel
theorem q_107w_1 {q0 : Nat} {n0 n1 n2 n3 n4 : Int} {H0 H1 : gH} (f0 : n0 ≤ 2147483647) (f1 : (-2147483648) ≤ n0) (f2 : 0 ≤ n1) (f3 : 0 ≤ n2) (f4 : (hLe T0 H0 H1 ∧ hFr s_107.2.2.2.2 H0 H1 ∧ hWt T0 H1) ∧ ((True ∧ Bb_107_2 n2 n1 n0 H0 H1) ∧ True) ∧ some q0 = some (mub_107_2 n2 n1 n0 H0 H1)) (f5 : n3 ≤ 2147483647) (f6 : (-2147483648) ≤ n3) (f7 : hK H1 (n1).toNat = 5) (f8 : n3 = hV H1 (n1).toNat 0) (f9 : n3 ≤ n0) (f10 : n4 = 0) : nb_107 n4 n2 H0 H1 := by
  have gb := f4.2.1.1.2
  unfold Bb_107_2 at gb
  obtain ⟨e0, z0⟩ := gb
  unfold nb_107
  subst e0
  exact FR_end z0 f8 (by omega) f10
def g_107w_2_0 : vG := ([(0, [4], [], 0), (43, [2, 3], [], 0), (20, [3, 1], [1], 0), (23, [1], [1], 5), (90, [3], [], -2147483648), (91, [3], [], 2147483647), (5000, [0, 1, 2], [0, 1], 2), (51, [0], [], 0), (51, [1], [], 0), (90, [2], [], -2147483648), (91, [2], [], 2147483647)], (3000, [4], [1], 127))
theorem c_107w_2_0 {q0 : Nat} : vOkm T0 (eN e_107 L_107w A_107 mu_107 n_107 B_107 (some q0)) 1 g_107w_2_0 := vOk_inI fun ρ η f0 f1 f2 f3 f4 f5 f6 f7 f8 f9 f10 => q_107w_1 (q0 := q0) (n0 := ρ 2) (n1 := ρ 1) (n2 := ρ 0) (n3 := ρ 3) (n4 := ρ 4) (H0 := η 0) (H1 := η 1) f10 f9 f8 f7 f6 f5 f4 f3 f2 f1 f0
theorem q_107w_2 {q0 : Nat} {n0 n1 n2 n3 n4 n5 n6 : Int} {H0 H1 H2 : gH} (f0 : n0 ≤ 2147483647) (f1 : (-2147483648) ≤ n0) (f2 : 0 ≤ n1) (f3 : 0 ≤ n2) (f4 : (hLe T0 H0 H1 ∧ hFr s_107.2.2.2.2 H0 H1 ∧ hWt T0 H1) ∧ ((True ∧ Bb_107_2 n2 n1 n0 H0 H1) ∧ True) ∧ some q0 = some (mub_107_2 n2 n1 n0 H0 H1)) (f5 : n3 ≤ 2147483647) (f6 : (-2147483648) ≤ n3) (f7 : hK H1 (n1).toNat = 5) (f8 : n3 = hV H1 (n1).toNat 0) (f9 : n0 < n3) (f10 : 0 ≤ n4) (f11 : hK H1 (n1).toNat = 5) (f12 : n4 = hV H1 (n1).toNat 7) (f13 : n5 ≤ 2147483647) (f14 : (-2147483648) ≤ n5) (f15 : (hLe T0 H1 H2 ∧ hFr s_199vk100.2.2.2.2 H1 H2 ∧ ((0 : Int) = 0 → H2.length = H1.length) ∧ hWt T0 H2) ∧ postb_199vk100 n5 n4 n0 H1 H2) (f16 : n5 ≠ 0) (f17 : n6 = w32 (n0 + 1)) : Bb_107_2 n2 n1 n6 H0 H2 := by
  have gb := f4.2.1.1.2
  unfold Bb_107_2 at gb
  obtain ⟨e0, z0⟩ := gb
  unfold Bb_107_2
  subst e0
  have a15 := f15.2
  unfold postb_199vk100 at a15
  exact ⟨rfl, FR_loud z0 f8 (by omega) f12 a15 (SMf_fr f15.1.1 f15.1.2.1 (by decide +kernel) (by decide +kernel)) (by omega) f17⟩
def g_107w_2_1 : vG := ([(10, [6, 2], [], 1), (31, [5], [], 0), (1199, [5, 4, 2], [1, 2], 0), (90, [5], [], -2147483648), (91, [5], [], 2147483647), (20, [4, 1], [1], 7), (23, [1], [1], 5), (51, [4], [], 0), (42, [2, 3], [], 0), (20, [3, 1], [1], 0), (23, [1], [1], 5), (90, [3], [], -2147483648), (91, [3], [], 2147483647), (5000, [0, 1, 2], [0, 1], 2), (51, [0], [], 0), (51, [1], [], 0), (90, [2], [], -2147483648), (91, [2], [], 2147483647)], (4000, [1, 6], [2], 2))
theorem c_107w_2_1 {q0 : Nat} : vOkm T0 (eN e_107 L_107w A_107 mu_107 n_107 B_107 (some q0)) 1 g_107w_2_1 := vOk_inI fun ρ η f0 f1 f2 f3 f4 f5 f6 f7 f8 f9 f10 f11 f12 f13 f14 f15 f16 f17 => q_107w_2 (q0 := q0) (n0 := ρ 2) (n1 := ρ 1) (n2 := ρ 0) (n3 := ρ 3) (n4 := ρ 4) (n5 := ρ 5) (n6 := ρ 6) (H0 := η 0) (H1 := η 1) (H2 := η 2) f17 f16 f15 f14 f13 f12 f11 f10 f9 f8 f7 f6 f5 f4 f3 f2 f1 f0
theorem q_107w_3 {q0 : Nat} {n0 n1 n2 n3 n4 n5 n6 n7 n8 n9 n10 n11 n12 n13 n14 n15 n16 n17 n18 n19 : Int} {H0 H1 H2 H3 H4 H5 H6 H7 H8 : gH} (f0 : n0 ≤ 2147483647) (f1 : (-2147483648) ≤ n0) (f2 : 0 ≤ n1) (f3 : 0 ≤ n2) (f4 : (hLe T0 H0 H1 ∧ hFr s_107.2.2.2.2 H0 H1 ∧ hWt T0 H1) ∧ ((True ∧ Bb_107_2 n2 n1 n0 H0 H1) ∧ True) ∧ some q0 = some (mub_107_2 n2 n1 n0 H0 H1)) (f5 : n3 ≤ 2147483647) (f6 : (-2147483648) ≤ n3) (f7 : hK H1 (n1).toNat = 5) (f8 : n3 = hV H1 (n1).toNat 0) (f9 : n0 < n3) (f10 : 0 ≤ n4) (f11 : hK H1 (n1).toNat = 5) (f12 : n4 = hV H1 (n1).toNat 7) (f13 : n5 ≤ 2147483647) (f14 : (-2147483648) ≤ n5) (f15 : (hLe T0 H1 H2 ∧ hFr s_199vk100.2.2.2.2 H1 H2 ∧ ((0 : Int) = 0 → H2.length = H1.length) ∧ hWt T0 H2) ∧ postb_199vk100 n5 n4 n0 H1 H2) (f16 : n5 = 0) (f17 : n6 = 0) (f18 : hK H2 (n1).toNat = 5) (f19 : n7 = 11) (f20 : hUpd H3 H2 n1 n7 n6) (f21 : 0 ≤ n8) (f22 : hK H3 (n1).toNat = 5) (f23 : n8 = hV H3 (n1).toNat 3) (f24 : n9 ≤ 2147483647) (f25 : (-2147483648) ≤ n9) (f26 : (hLe T0 H3 H4 ∧ hFr s_199vk100.2.2.2.2 H3 H4 ∧ ((0 : Int) = 0 → H4.length = H3.length) ∧ hWt T0 H4) ∧ postb_199vk100 n9 n8 n0 H3 H4) (f27 : 0 ≤ n10) (f28 : hK H4 (n1).toNat = 5) (f29 : n10 = hV H4 (n1).toNat 4) (f30 : n11 ≤ 2147483647) (f31 : (-2147483648) ≤ n11) (f32 : (hLe T0 H4 H5 ∧ hFr s_199vk100.2.2.2.2 H4 H5 ∧ ((0 : Int) = 0 → H5.length = H4.length) ∧ hWt T0 H5) ∧ postb_199vk100 n11 n10 n0 H4 H5) (f33 : n12 ≤ 2147483647) (f34 : (-2147483648) ≤ n12) (f35 : (hLe T0 H5 H6 ∧ hFr s_108.2.2.2.2 H5 H6 ∧ ((0 : Int) = 0 → H6.length = H5.length) ∧ hWt T0 H6) ∧ (True ∧ nb_108 n12 n1 n9 n11 H5 H6)) (f36 : 0 ≤ n13) (f37 : hK H6 (n1).toNat = 5) (f38 : n13 = hV H6 (n1).toNat 4) (f39 : n14 ≤ 2147483647) (f40 : (-2147483648) ≤ n14) (f41 : (hLe T0 H6 H7 ∧ hFr s_199vk100.2.2.2.2 H6 H7 ∧ ((0 : Int) = 0 → H7.length = H6.length) ∧ hWt T0 H7) ∧ postb_199vk100 n14 n13 n0 H6 H7) (f42 : 0 ≤ n15) (f43 : hK H7 (n1).toNat = 5) (f44 : n15 = hV H7 (n1).toNat 5) (f45 : n16 ≤ 2147483647) (f46 : (-2147483648) ≤ n16) (f47 : (hLe T0 H7 H8 ∧ hFr s_199vk100.2.2.2.2 H7 H8 ∧ ((0 : Int) = 0 → H8.length = H7.length) ∧ hWt T0 H8) ∧ postb_199vk100 n16 n15 n0 H7 H8) (f48 : n14 ≠ n16) (f49 : n17 = 0) (f50 : n17 ≠ 0) (f51 : n18 = 1) (f52 : n18 = 0) (f53 : n19 = w32 (n0 + 1)) : Bb_107_2 n2 n1 n19 H0 H8 := by
  have gb := f4.2.1.1.2
  unfold Bb_107_2 at gb
  obtain ⟨e0, z0⟩ := gb
  unfold Bb_107_2
  subst e0
  have a15 := f15.2
  unfold postb_199vk100 at a15
  have a26 := f26.2
  unfold postb_199vk100 at a26
  have a32 := f32.2
  unfold postb_199vk100 at a32
  have a41 := f41.2
  unfold postb_199vk100 at a41
  have a47 := f47.2
  unfold postb_199vk100 at a47
  have k35 := f35.2.2
  unfold nb_108 at k35
  exfalso
  omega
def g_107w_2_2 : vG := ([(10, [19, 2], [], 1), (30, [18], [], 0), (0, [18], [], 1), (31, [17], [], 0), (0, [17], [], 0), (41, [14, 16], [], 0), (1199, [16, 15, 2], [7, 8], 0), (90, [16], [], -2147483648), (91, [16], [], 2147483647), (20, [15, 1], [7], 5), (23, [1], [7], 5), (51, [15], [], 0), (1199, [14, 13, 2], [6, 7], 0), (90, [14], [], -2147483648), (91, [14], [], 2147483647), (20, [13, 1], [6], 4), (23, [1], [6], 5), (51, [13], [], 0), (1108, [12, 1, 9, 11], [5, 6], 0), (90, [12], [], -2147483648), (91, [12], [], 2147483647), (1199, [11, 10, 2], [4, 5], 0), (90, [11], [], -2147483648), (91, [11], [], 2147483647), (20, [10, 1], [4], 4), (23, [1], [4], 5), (51, [10], [], 0), (1199, [9, 8, 2], [3, 4], 0), (90, [9], [], -2147483648), (91, [9], [], 2147483647), (20, [8, 1], [3], 3), (23, [1], [3], 5), (51, [8], [], 0), (80, [1, 7, 6], [3, 2], 0), (0, [7], [], 11), (23, [1], [2], 5), (0, [6], [], 0), (30, [5], [], 0), (1199, [5, 4, 2], [1, 2], 0), (90, [5], [], -2147483648), (91, [5], [], 2147483647), (20, [4, 1], [1], 7), (23, [1], [1], 5), (51, [4], [], 0), (42, [2, 3], [], 0), (20, [3, 1], [1], 0), (23, [1], [1], 5), (90, [3], [], -2147483648), (91, [3], [], 2147483647), (5000, [0, 1, 2], [0, 1], 2), (51, [0], [], 0), (51, [1], [], 0), (90, [2], [], -2147483648), (91, [2], [], 2147483647)], (4000, [1, 19], [8], 2))
theorem c_107w_2_2 {q0 : Nat} : vOkm T0 (eN e_107 L_107w A_107 mu_107 n_107 B_107 (some q0)) 1 g_107w_2_2 := vOk_inI fun ρ η f0 f1 f2 f3 f4 f5 f6 f7 f8 f9 f10 f11 f12 f13 f14 f15 f16 f17 f18 f19 f20 f21 f22 f23 f24 f25 f26 f27 f28 f29 f30 f31 f32 f33 f34 f35 f36 f37 f38 f39 f40 f41 f42 f43 f44 f45 f46 f47 f48 f49 f50 f51 f52 f53 => q_107w_3 (q0 := q0) (n0 := ρ 2) (n1 := ρ 1) (n2 := ρ 0) (n3 := ρ 3) (n4 := ρ 4) (n5 := ρ 5) (n6 := ρ 6) (n7 := ρ 7) (n8 := ρ 8) (n9 := ρ 9) (n10 := ρ 10) (n11 := ρ 11) (n12 := ρ 12) (n13 := ρ 13) (n14 := ρ 14) (n15 := ρ 15) (n16 := ρ 16) (n17 := ρ 17) (n18 := ρ 18) (n19 := ρ 19) (H0 := η 0) (H1 := η 1) (H2 := η 2) (H3 := η 3) (H4 := η 4) (H5 := η 5) (H6 := η 6) (H7 := η 7) (H8 := η 8) f53 f52 f51 f50 f49 f48 f47 f46 f45 f44 f43 f42 f41 f40 f39 f38 f37 f36 f35 f34 f33 f32 f31 f30 f29 f28 f27 f26 f25 f24 f23 f22 f21 f20 f19 f18 f17 f16 f15 f14 f13 f12 f11 f10 f9 f8 f7 f6 f5 f4 f3 f2 f1 f0
theorem q_107w_4 {q0 : Nat} {n0 n1 n2 n3 n4 n5 n6 n7 n8 n9 n10 n11 n12 n13 n14 n15 n16 n17 n18 n19 n20 : Int} {H0 H1 H2 H3 H4 H5 H6 H7 H8 : gH} (f0 : n0 ≤ 2147483647) (f1 : (-2147483648) ≤ n0) (f2 : 0 ≤ n1) (f3 : 0 ≤ n2) (f4 : (hLe T0 H0 H1 ∧ hFr s_107.2.2.2.2 H0 H1 ∧ hWt T0 H1) ∧ ((True ∧ Bb_107_2 n2 n1 n0 H0 H1) ∧ True) ∧ some q0 = some (mub_107_2 n2 n1 n0 H0 H1)) (f5 : n3 ≤ 2147483647) (f6 : (-2147483648) ≤ n3) (f7 : hK H1 (n1).toNat = 5) (f8 : n3 = hV H1 (n1).toNat 0) (f9 : n0 < n3) (f10 : 0 ≤ n4) (f11 : hK H1 (n1).toNat = 5) (f12 : n4 = hV H1 (n1).toNat 7) (f13 : n5 ≤ 2147483647) (f14 : (-2147483648) ≤ n5) (f15 : (hLe T0 H1 H2 ∧ hFr s_199vk100.2.2.2.2 H1 H2 ∧ ((0 : Int) = 0 → H2.length = H1.length) ∧ hWt T0 H2) ∧ postb_199vk100 n5 n4 n0 H1 H2) (f16 : n5 = 0) (f17 : n6 = 0) (f18 : hK H2 (n1).toNat = 5) (f19 : n7 = 11) (f20 : hUpd H3 H2 n1 n7 n6) (f21 : 0 ≤ n8) (f22 : hK H3 (n1).toNat = 5) (f23 : n8 = hV H3 (n1).toNat 3) (f24 : n9 ≤ 2147483647) (f25 : (-2147483648) ≤ n9) (f26 : (hLe T0 H3 H4 ∧ hFr s_199vk100.2.2.2.2 H3 H4 ∧ ((0 : Int) = 0 → H4.length = H3.length) ∧ hWt T0 H4) ∧ postb_199vk100 n9 n8 n0 H3 H4) (f27 : 0 ≤ n10) (f28 : hK H4 (n1).toNat = 5) (f29 : n10 = hV H4 (n1).toNat 4) (f30 : n11 ≤ 2147483647) (f31 : (-2147483648) ≤ n11) (f32 : (hLe T0 H4 H5 ∧ hFr s_199vk100.2.2.2.2 H4 H5 ∧ ((0 : Int) = 0 → H5.length = H4.length) ∧ hWt T0 H5) ∧ postb_199vk100 n11 n10 n0 H4 H5) (f33 : n12 ≤ 2147483647) (f34 : (-2147483648) ≤ n12) (f35 : (hLe T0 H5 H6 ∧ hFr s_108.2.2.2.2 H5 H6 ∧ ((0 : Int) = 0 → H6.length = H5.length) ∧ hWt T0 H6) ∧ (True ∧ nb_108 n12 n1 n9 n11 H5 H6)) (f36 : 0 ≤ n13) (f37 : hK H6 (n1).toNat = 5) (f38 : n13 = hV H6 (n1).toNat 4) (f39 : n14 ≤ 2147483647) (f40 : (-2147483648) ≤ n14) (f41 : (hLe T0 H6 H7 ∧ hFr s_199vk100.2.2.2.2 H6 H7 ∧ ((0 : Int) = 0 → H7.length = H6.length) ∧ hWt T0 H7) ∧ postb_199vk100 n14 n13 n0 H6 H7) (f42 : 0 ≤ n15) (f43 : hK H7 (n1).toNat = 5) (f44 : n15 = hV H7 (n1).toNat 5) (f45 : n16 ≤ 2147483647) (f46 : (-2147483648) ≤ n16) (f47 : (hLe T0 H7 H8 ∧ hFr s_199vk100.2.2.2.2 H7 H8 ∧ ((0 : Int) = 0 → H8.length = H7.length) ∧ hWt T0 H8) ∧ postb_199vk100 n16 n15 n0 H7 H8) (f48 : n14 ≠ n16) (f49 : n17 = 0) (f50 : n17 ≠ 0) (f51 : n18 = 1) (f52 : n18 ≠ 0) (f53 : n19 ≤ 1) (f54 : 0 ≤ n19) (f55 : hK H8 (n1).toNat = 5) (f56 : n19 = hV H8 (n1).toNat 11) (f57 : n19 ≠ 0) (f58 : n20 = w32 (n0 + 1)) : Bb_107_2 n2 n1 n20 H0 H8 := by
  have gb := f4.2.1.1.2
  unfold Bb_107_2 at gb
  obtain ⟨e0, z0⟩ := gb
  unfold Bb_107_2
  subst e0
  have a15 := f15.2
  unfold postb_199vk100 at a15
  have a26 := f26.2
  unfold postb_199vk100 at a26
  have a32 := f32.2
  unfold postb_199vk100 at a32
  have a41 := f41.2
  unfold postb_199vk100 at a41
  have a47 := f47.2
  unfold postb_199vk100 at a47
  have k35 := f35.2.2
  unfold nb_108 at k35
  exfalso
  omega
def g_107w_2_3 : vG := ([(10, [20, 2], [], 1), (31, [19], [], 0), (20, [19, 1], [8], 11), (23, [1], [8], 5), (90, [19], [], 0), (91, [19], [], 1), (31, [18], [], 0), (0, [18], [], 1), (31, [17], [], 0), (0, [17], [], 0), (41, [14, 16], [], 0), (1199, [16, 15, 2], [7, 8], 0), (90, [16], [], -2147483648), (91, [16], [], 2147483647), (20, [15, 1], [7], 5), (23, [1], [7], 5), (51, [15], [], 0), (1199, [14, 13, 2], [6, 7], 0), (90, [14], [], -2147483648), (91, [14], [], 2147483647), (20, [13, 1], [6], 4), (23, [1], [6], 5), (51, [13], [], 0), (1108, [12, 1, 9, 11], [5, 6], 0), (90, [12], [], -2147483648), (91, [12], [], 2147483647), (1199, [11, 10, 2], [4, 5], 0), (90, [11], [], -2147483648), (91, [11], [], 2147483647), (20, [10, 1], [4], 4), (23, [1], [4], 5), (51, [10], [], 0), (1199, [9, 8, 2], [3, 4], 0), (90, [9], [], -2147483648), (91, [9], [], 2147483647), (20, [8, 1], [3], 3), (23, [1], [3], 5), (51, [8], [], 0), (80, [1, 7, 6], [3, 2], 0), (0, [7], [], 11), (23, [1], [2], 5), (0, [6], [], 0), (30, [5], [], 0), (1199, [5, 4, 2], [1, 2], 0), (90, [5], [], -2147483648), (91, [5], [], 2147483647), (20, [4, 1], [1], 7), (23, [1], [1], 5), (51, [4], [], 0), (42, [2, 3], [], 0), (20, [3, 1], [1], 0), (23, [1], [1], 5), (90, [3], [], -2147483648), (91, [3], [], 2147483647), (5000, [0, 1, 2], [0, 1], 2), (51, [0], [], 0), (51, [1], [], 0), (90, [2], [], -2147483648), (91, [2], [], 2147483647)], (4000, [1, 20], [8], 2))
theorem c_107w_2_3 {q0 : Nat} : vOkm T0 (eN e_107 L_107w A_107 mu_107 n_107 B_107 (some q0)) 1 g_107w_2_3 := vOk_inI fun ρ η f0 f1 f2 f3 f4 f5 f6 f7 f8 f9 f10 f11 f12 f13 f14 f15 f16 f17 f18 f19 f20 f21 f22 f23 f24 f25 f26 f27 f28 f29 f30 f31 f32 f33 f34 f35 f36 f37 f38 f39 f40 f41 f42 f43 f44 f45 f46 f47 f48 f49 f50 f51 f52 f53 f54 f55 f56 f57 f58 => q_107w_4 (q0 := q0) (n0 := ρ 2) (n1 := ρ 1) (n2 := ρ 0) (n3 := ρ 3) (n4 := ρ 4) (n5 := ρ 5) (n6 := ρ 6) (n7 := ρ 7) (n8 := ρ 8) (n9 := ρ 9) (n10 := ρ 10) (n11 := ρ 11) (n12 := ρ 12) (n13 := ρ 13) (n14 := ρ 14) (n15 := ρ 15) (n16 := ρ 16) (n17 := ρ 17) (n18 := ρ 18) (n19 := ρ 19) (n20 := ρ 20) (H0 := η 0) (H1 := η 1) (H2 := η 2) (H3 := η 3) (H4 := η 4) (H5 := η 5) (H6 := η 6) (H7 := η 7) (H8 := η 8) f58 f57 f56 f55 f54 f53 f52 f51 f50 f49 f48 f47 f46 f45 f44 f43 f42 f41 f40 f39 f38 f37 f36 f35 f34 f33 f32 f31 f30 f29 f28 f27 f26 f25 f24 f23 f22 f21 f20 f19 f18 f17 f16 f15 f14 f13 f12 f11 f10 f9 f8 f7 f6 f5 f4 f3 f2 f1 f0
theorem q_107w_5 {q0 : Nat} {n0 n1 n2 n3 n4 n5 n6 n7 n8 n9 n10 n11 n12 n13 n14 n15 n16 n17 n18 n19 : Int} {H0 H1 H2 H3 H4 H5 H6 H7 H8 : gH} (f0 : n0 ≤ 2147483647) (f1 : (-2147483648) ≤ n0) (f2 : 0 ≤ n1) (f3 : 0 ≤ n2) (f4 : (hLe T0 H0 H1 ∧ hFr s_107.2.2.2.2 H0 H1 ∧ hWt T0 H1) ∧ ((True ∧ Bb_107_2 n2 n1 n0 H0 H1) ∧ True) ∧ some q0 = some (mub_107_2 n2 n1 n0 H0 H1)) (f5 : n3 ≤ 2147483647) (f6 : (-2147483648) ≤ n3) (f7 : hK H1 (n1).toNat = 5) (f8 : n3 = hV H1 (n1).toNat 0) (f9 : n0 < n3) (f10 : 0 ≤ n4) (f11 : hK H1 (n1).toNat = 5) (f12 : n4 = hV H1 (n1).toNat 7) (f13 : n5 ≤ 2147483647) (f14 : (-2147483648) ≤ n5) (f15 : (hLe T0 H1 H2 ∧ hFr s_199vk100.2.2.2.2 H1 H2 ∧ ((0 : Int) = 0 → H2.length = H1.length) ∧ hWt T0 H2) ∧ postb_199vk100 n5 n4 n0 H1 H2) (f16 : n5 = 0) (f17 : n6 = 0) (f18 : hK H2 (n1).toNat = 5) (f19 : n7 = 11) (f20 : hUpd H3 H2 n1 n7 n6) (f21 : 0 ≤ n8) (f22 : hK H3 (n1).toNat = 5) (f23 : n8 = hV H3 (n1).toNat 3) (f24 : n9 ≤ 2147483647) (f25 : (-2147483648) ≤ n9) (f26 : (hLe T0 H3 H4 ∧ hFr s_199vk100.2.2.2.2 H3 H4 ∧ ((0 : Int) = 0 → H4.length = H3.length) ∧ hWt T0 H4) ∧ postb_199vk100 n9 n8 n0 H3 H4) (f27 : 0 ≤ n10) (f28 : hK H4 (n1).toNat = 5) (f29 : n10 = hV H4 (n1).toNat 4) (f30 : n11 ≤ 2147483647) (f31 : (-2147483648) ≤ n11) (f32 : (hLe T0 H4 H5 ∧ hFr s_199vk100.2.2.2.2 H4 H5 ∧ ((0 : Int) = 0 → H5.length = H4.length) ∧ hWt T0 H5) ∧ postb_199vk100 n11 n10 n0 H4 H5) (f33 : n12 ≤ 2147483647) (f34 : (-2147483648) ≤ n12) (f35 : (hLe T0 H5 H6 ∧ hFr s_108.2.2.2.2 H5 H6 ∧ ((0 : Int) = 0 → H6.length = H5.length) ∧ hWt T0 H6) ∧ (True ∧ nb_108 n12 n1 n9 n11 H5 H6)) (f36 : 0 ≤ n13) (f37 : hK H6 (n1).toNat = 5) (f38 : n13 = hV H6 (n1).toNat 4) (f39 : n14 ≤ 2147483647) (f40 : (-2147483648) ≤ n14) (f41 : (hLe T0 H6 H7 ∧ hFr s_199vk100.2.2.2.2 H6 H7 ∧ ((0 : Int) = 0 → H7.length = H6.length) ∧ hWt T0 H7) ∧ postb_199vk100 n14 n13 n0 H6 H7) (f42 : 0 ≤ n15) (f43 : hK H7 (n1).toNat = 5) (f44 : n15 = hV H7 (n1).toNat 5) (f45 : n16 ≤ 2147483647) (f46 : (-2147483648) ≤ n16) (f47 : (hLe T0 H7 H8 ∧ hFr s_199vk100.2.2.2.2 H7 H8 ∧ ((0 : Int) = 0 → H8.length = H7.length) ∧ hWt T0 H8) ∧ postb_199vk100 n16 n15 n0 H7 H8) (f48 : n14 ≠ n16) (f49 : n17 = 0) (f50 : n17 ≠ 0) (f51 : n18 = 1) (f52 : n18 ≠ 0) (f53 : n19 ≤ 1) (f54 : 0 ≤ n19) (f55 : hK H8 (n1).toNat = 5) (f56 : n19 = hV H8 (n1).toNat 11) (f57 : n19 = 0) : nb_107 n12 n2 H0 H8 := by
  have gb := f4.2.1.1.2
  unfold Bb_107_2 at gb
  obtain ⟨e0, z0⟩ := gb
  unfold nb_107
  subst e0
  have a15 := f15.2
  unfold postb_199vk100 at a15
  have a26 := f26.2
  unfold postb_199vk100 at a26
  have a32 := f32.2
  unfold postb_199vk100 at a32
  have a41 := f41.2
  unfold postb_199vk100 at a41
  have a47 := f47.2
  unfold postb_199vk100 at a47
  have k35 := f35.2.2
  unfold nb_108 at k35
  exfalso
  omega
def g_107w_2_4 : vG := ([(30, [19], [], 0), (20, [19, 1], [8], 11), (23, [1], [8], 5), (90, [19], [], 0), (91, [19], [], 1), (31, [18], [], 0), (0, [18], [], 1), (31, [17], [], 0), (0, [17], [], 0), (41, [14, 16], [], 0), (1199, [16, 15, 2], [7, 8], 0), (90, [16], [], -2147483648), (91, [16], [], 2147483647), (20, [15, 1], [7], 5), (23, [1], [7], 5), (51, [15], [], 0), (1199, [14, 13, 2], [6, 7], 0), (90, [14], [], -2147483648), (91, [14], [], 2147483647), (20, [13, 1], [6], 4), (23, [1], [6], 5), (51, [13], [], 0), (1108, [12, 1, 9, 11], [5, 6], 0), (90, [12], [], -2147483648), (91, [12], [], 2147483647), (1199, [11, 10, 2], [4, 5], 0), (90, [11], [], -2147483648), (91, [11], [], 2147483647), (20, [10, 1], [4], 4), (23, [1], [4], 5), (51, [10], [], 0), (1199, [9, 8, 2], [3, 4], 0), (90, [9], [], -2147483648), (91, [9], [], 2147483647), (20, [8, 1], [3], 3), (23, [1], [3], 5), (51, [8], [], 0), (80, [1, 7, 6], [3, 2], 0), (0, [7], [], 11), (23, [1], [2], 5), (0, [6], [], 0), (30, [5], [], 0), (1199, [5, 4, 2], [1, 2], 0), (90, [5], [], -2147483648), (91, [5], [], 2147483647), (20, [4, 1], [1], 7), (23, [1], [1], 5), (51, [4], [], 0), (42, [2, 3], [], 0), (20, [3, 1], [1], 0), (23, [1], [1], 5), (90, [3], [], -2147483648), (91, [3], [], 2147483647), (5000, [0, 1, 2], [0, 1], 2), (51, [0], [], 0), (51, [1], [], 0), (90, [2], [], -2147483648), (91, [2], [], 2147483647)], (3000, [12], [8], 119))
theorem c_107w_2_4 {q0 : Nat} : vOkm T0 (eN e_107 L_107w A_107 mu_107 n_107 B_107 (some q0)) 1 g_107w_2_4 := vOk_inI fun ρ η f0 f1 f2 f3 f4 f5 f6 f7 f8 f9 f10 f11 f12 f13 f14 f15 f16 f17 f18 f19 f20 f21 f22 f23 f24 f25 f26 f27 f28 f29 f30 f31 f32 f33 f34 f35 f36 f37 f38 f39 f40 f41 f42 f43 f44 f45 f46 f47 f48 f49 f50 f51 f52 f53 f54 f55 f56 f57 => q_107w_5 (q0 := q0) (n0 := ρ 2) (n1 := ρ 1) (n2 := ρ 0) (n3 := ρ 3) (n4 := ρ 4) (n5 := ρ 5) (n6 := ρ 6) (n7 := ρ 7) (n8 := ρ 8) (n9 := ρ 9) (n10 := ρ 10) (n11 := ρ 11) (n12 := ρ 12) (n13 := ρ 13) (n14 := ρ 14) (n15 := ρ 15) (n16 := ρ 16) (n17 := ρ 17) (n18 := ρ 18) (n19 := ρ 19) (H0 := η 0) (H1 := η 1) (H2 := η 2) (H3 := η 3) (H4 := η 4) (H5 := η 5) (H6 := η 6) (H7 := η 7) (H8 := η 8) f57 f56 f55 f54 f53 f52 f51 f50 f49 f48 f47 f46 f45 f44 f43 f42 f41 f40 f39 f38 f37 f36 f35 f34 f33 f32 f31 f30 f29 f28 f27 f26 f25 f24 f23 f22 f21 f20 f19 f18 f17 f16 f15 f14 f13 f12 f11 f10 f9 f8 f7 f6 f5 f4 f3 f2 f1 f0
theorem q_107w_6 {q0 : Nat} {n0 n1 n2 n3 n4 n5 n6 n7 n8 n9 n10 n11 n12 n13 n14 n15 n16 n17 n18 n19 n20 n21 n22 n23 n24 : Int} {H0 H1 H2 H3 H4 H5 H6 H7 H8 H9 H10 H11 : gH} (f0 : n0 ≤ 2147483647) (f1 : (-2147483648) ≤ n0) (f2 : 0 ≤ n1) (f3 : 0 ≤ n2) (f4 : (hLe T0 H0 H1 ∧ hFr s_107.2.2.2.2 H0 H1 ∧ hWt T0 H1) ∧ ((True ∧ Bb_107_2 n2 n1 n0 H0 H1) ∧ True) ∧ some q0 = some (mub_107_2 n2 n1 n0 H0 H1)) (f5 : n3 ≤ 2147483647) (f6 : (-2147483648) ≤ n3) (f7 : hK H1 (n1).toNat = 5) (f8 : n3 = hV H1 (n1).toNat 0) (f9 : n0 < n3) (f10 : 0 ≤ n4) (f11 : hK H1 (n1).toNat = 5) (f12 : n4 = hV H1 (n1).toNat 7) (f13 : n5 ≤ 2147483647) (f14 : (-2147483648) ≤ n5) (f15 : (hLe T0 H1 H2 ∧ hFr s_199vk100.2.2.2.2 H1 H2 ∧ ((0 : Int) = 0 → H2.length = H1.length) ∧ hWt T0 H2) ∧ postb_199vk100 n5 n4 n0 H1 H2) (f16 : n5 = 0) (f17 : n6 = 0) (f18 : hK H2 (n1).toNat = 5) (f19 : n7 = 11) (f20 : hUpd H3 H2 n1 n7 n6) (f21 : 0 ≤ n8) (f22 : hK H3 (n1).toNat = 5) (f23 : n8 = hV H3 (n1).toNat 3) (f24 : n9 ≤ 2147483647) (f25 : (-2147483648) ≤ n9) (f26 : (hLe T0 H3 H4 ∧ hFr s_199vk100.2.2.2.2 H3 H4 ∧ ((0 : Int) = 0 → H4.length = H3.length) ∧ hWt T0 H4) ∧ postb_199vk100 n9 n8 n0 H3 H4) (f27 : 0 ≤ n10) (f28 : hK H4 (n1).toNat = 5) (f29 : n10 = hV H4 (n1).toNat 4) (f30 : n11 ≤ 2147483647) (f31 : (-2147483648) ≤ n11) (f32 : (hLe T0 H4 H5 ∧ hFr s_199vk100.2.2.2.2 H4 H5 ∧ ((0 : Int) = 0 → H5.length = H4.length) ∧ hWt T0 H5) ∧ postb_199vk100 n11 n10 n0 H4 H5) (f33 : n12 ≤ 2147483647) (f34 : (-2147483648) ≤ n12) (f35 : (hLe T0 H5 H6 ∧ hFr s_108.2.2.2.2 H5 H6 ∧ ((0 : Int) = 0 → H6.length = H5.length) ∧ hWt T0 H6) ∧ (True ∧ nb_108 n12 n1 n9 n11 H5 H6)) (f36 : 0 ≤ n13) (f37 : hK H6 (n1).toNat = 5) (f38 : n13 = hV H6 (n1).toNat 4) (f39 : n14 ≤ 2147483647) (f40 : (-2147483648) ≤ n14) (f41 : (hLe T0 H6 H7 ∧ hFr s_199vk100.2.2.2.2 H6 H7 ∧ ((0 : Int) = 0 → H7.length = H6.length) ∧ hWt T0 H7) ∧ postb_199vk100 n14 n13 n0 H6 H7) (f42 : 0 ≤ n15) (f43 : hK H7 (n1).toNat = 5) (f44 : n15 = hV H7 (n1).toNat 5) (f45 : n16 ≤ 2147483647) (f46 : (-2147483648) ≤ n16) (f47 : (hLe T0 H7 H8 ∧ hFr s_199vk100.2.2.2.2 H7 H8 ∧ ((0 : Int) = 0 → H8.length = H7.length) ∧ hWt T0 H8) ∧ postb_199vk100 n16 n15 n0 H7 H8) (f48 : n14 ≠ n16) (f49 : n17 = 0) (f50 : n17 = 0) (f51 : 0 ≤ n18) (f52 : hK H8 (n1).toNat = 5) (f53 : n18 = hV H8 (n1).toNat 4) (f54 : n19 ≤ 2147483647) (f55 : (-2147483648) ≤ n19) (f56 : (hLe T0 H8 H9 ∧ hFr s_199vk100.2.2.2.2 H8 H9 ∧ ((0 : Int) = 0 → H9.length = H8.length) ∧ hWt T0 H9) ∧ postb_199vk100 n19 n18 n0 H8 H9) (f57 : 0 ≤ n20) (f58 : hK H9 (n1).toNat = 5) (f59 : n20 = hV H9 (n1).toNat 5) (f60 : n21 ≤ 2147483647) (f61 : (-2147483648) ≤ n21) (f62 : (hLe T0 H9 H10 ∧ hFr s_199vk100.2.2.2.2 H9 H10 ∧ ((0 : Int) = 0 → H10.length = H9.length) ∧ hWt T0 H10) ∧ postb_199vk100 n21 n20 n0 H9 H10) (f63 : n22 ≤ 2147483647) (f64 : (-2147483648) ≤ n22) (f65 : (hLe T0 H10 H11 ∧ hFr s_108.2.2.2.2 H10 H11 ∧ ((0 : Int) = 0 → H11.length = H10.length) ∧ hWt T0 H11) ∧ (True ∧ nb_108 n22 n1 n19 n21 H10 H11)) (f66 : n22 = 0) (f67 : n23 = 0) (f68 : n23 = 0) (f69 : n24 = w32 (n0 + 1)) : Bb_107_2 n2 n1 n24 H0 H11 := by
  have gb := f4.2.1.1.2
  unfold Bb_107_2 at gb
  obtain ⟨e0, z0⟩ := gb
  unfold Bb_107_2
  subst e0
  have a15 := f15.2
  unfold postb_199vk100 at a15
  have a26 := f26.2
  unfold postb_199vk100 at a26
  have a32 := f32.2
  unfold postb_199vk100 at a32
  have a41 := f41.2
  unfold postb_199vk100 at a41
  have a47 := f47.2
  unfold postb_199vk100 at a47
  have a56 := f56.2
  unfold postb_199vk100 at a56
  have a62 := f62.2
  unfold postb_199vk100 at a62
  have k35 := f35.2.2
  unfold nb_108 at k35
  have k65 := f65.2.2
  unfold nb_108 at k65
  have go := FR_go z0 f8 (by omega) f12 a15 (SMf_fr f15.1.1 f15.1.2.1 (by decide +kernel) (by decide +kernel)) (by omega) f20 f19 f17 f23 a26 (SMf_fr f26.1.1 f26.1.2.1 (by decide +kernel) (by decide +kernel)) f29 a32 (SMf_fr f32.1.1 f32.1.2.1 (by decide +kernel) (by decide +kernel)) k35 f38 a41 (SMf_fr f41.1.1 f41.1.2.1 (by decide +kernel) (by decide +kernel)) f44 a47 (SMf_fr f47.1.1 f47.1.2.1 (by decide +kernel) (by decide +kernel))
  have gc := FR_cond go (by omega) f53 a56 (SMf_fr f56.1.1 f56.1.2.1 (by decide +kernel) (by decide +kernel)) f59 a62 (SMf_fr f62.1.1 f62.1.2.1 (by decide +kernel) (by decide +kernel)) k65
  exact ⟨rfl, FR_no (n := 0) gc (.inl (by omega)) f69⟩
def g_107w_2_5 : vG := ([(10, [24, 2], [], 1), (30, [23], [], 0), (0, [23], [], 0), (30, [22], [], 0), (1108, [22, 1, 19, 21], [10, 11], 0), (90, [22], [], -2147483648), (91, [22], [], 2147483647), (1199, [21, 20, 2], [9, 10], 0), (90, [21], [], -2147483648), (91, [21], [], 2147483647), (20, [20, 1], [9], 5), (23, [1], [9], 5), (51, [20], [], 0), (1199, [19, 18, 2], [8, 9], 0), (90, [19], [], -2147483648), (91, [19], [], 2147483647), (20, [18, 1], [8], 4), (23, [1], [8], 5), (51, [18], [], 0), (30, [17], [], 0), (0, [17], [], 0), (41, [14, 16], [], 0), (1199, [16, 15, 2], [7, 8], 0), (90, [16], [], -2147483648), (91, [16], [], 2147483647), (20, [15, 1], [7], 5), (23, [1], [7], 5), (51, [15], [], 0), (1199, [14, 13, 2], [6, 7], 0), (90, [14], [], -2147483648), (91, [14], [], 2147483647), (20, [13, 1], [6], 4), (23, [1], [6], 5), (51, [13], [], 0), (1108, [12, 1, 9, 11], [5, 6], 0), (90, [12], [], -2147483648), (91, [12], [], 2147483647), (1199, [11, 10, 2], [4, 5], 0), (90, [11], [], -2147483648), (91, [11], [], 2147483647), (20, [10, 1], [4], 4), (23, [1], [4], 5), (51, [10], [], 0), (1199, [9, 8, 2], [3, 4], 0), (90, [9], [], -2147483648), (91, [9], [], 2147483647), (20, [8, 1], [3], 3), (23, [1], [3], 5), (51, [8], [], 0), (80, [1, 7, 6], [3, 2], 0), (0, [7], [], 11), (23, [1], [2], 5), (0, [6], [], 0), (30, [5], [], 0), (1199, [5, 4, 2], [1, 2], 0), (90, [5], [], -2147483648), (91, [5], [], 2147483647), (20, [4, 1], [1], 7), (23, [1], [1], 5), (51, [4], [], 0), (42, [2, 3], [], 0), (20, [3, 1], [1], 0), (23, [1], [1], 5), (90, [3], [], -2147483648), (91, [3], [], 2147483647), (5000, [0, 1, 2], [0, 1], 2), (51, [0], [], 0), (51, [1], [], 0), (90, [2], [], -2147483648), (91, [2], [], 2147483647)], (4000, [1, 24], [11], 2))
theorem c_107w_2_5 {q0 : Nat} : vOkm T0 (eN e_107 L_107w A_107 mu_107 n_107 B_107 (some q0)) 1 g_107w_2_5 := vOk_inI fun ρ η f0 f1 f2 f3 f4 f5 f6 f7 f8 f9 f10 f11 f12 f13 f14 f15 f16 f17 f18 f19 f20 f21 f22 f23 f24 f25 f26 f27 f28 f29 f30 f31 f32 f33 f34 f35 f36 f37 f38 f39 f40 f41 f42 f43 f44 f45 f46 f47 f48 f49 f50 f51 f52 f53 f54 f55 f56 f57 f58 f59 f60 f61 f62 f63 f64 f65 f66 f67 f68 f69 => q_107w_6 (q0 := q0) (n0 := ρ 2) (n1 := ρ 1) (n2 := ρ 0) (n3 := ρ 3) (n4 := ρ 4) (n5 := ρ 5) (n6 := ρ 6) (n7 := ρ 7) (n8 := ρ 8) (n9 := ρ 9) (n10 := ρ 10) (n11 := ρ 11) (n12 := ρ 12) (n13 := ρ 13) (n14 := ρ 14) (n15 := ρ 15) (n16 := ρ 16) (n17 := ρ 17) (n18 := ρ 18) (n19 := ρ 19) (n20 := ρ 20) (n21 := ρ 21) (n22 := ρ 22) (n23 := ρ 23) (n24 := ρ 24) (H0 := η 0) (H1 := η 1) (H2 := η 2) (H3 := η 3) (H4 := η 4) (H5 := η 5) (H6 := η 6) (H7 := η 7) (H8 := η 8) (H9 := η 9) (H10 := η 10) (H11 := η 11) f69 f68 f67 f66 f65 f64 f63 f62 f61 f60 f59 f58 f57 f56 f55 f54 f53 f52 f51 f50 f49 f48 f47 f46 f45 f44 f43 f42 f41 f40 f39 f38 f37 f36 f35 f34 f33 f32 f31 f30 f29 f28 f27 f26 f25 f24 f23 f22 f21 f20 f19 f18 f17 f16 f15 f14 f13 f12 f11 f10 f9 f8 f7 f6 f5 f4 f3 f2 f1 f0
theorem q_107w_7 {q0 : Nat} {n0 n1 n2 n3 n4 n5 n6 n7 n8 n9 n10 n11 n12 n13 n14 n15 n16 n17 n18 n19 n20 n21 n22 n23 n24 n25 : Int} {H0 H1 H2 H3 H4 H5 H6 H7 H8 H9 H10 H11 : gH} (f0 : n0 ≤ 2147483647) (f1 : (-2147483648) ≤ n0) (f2 : 0 ≤ n1) (f3 : 0 ≤ n2) (f4 : (hLe T0 H0 H1 ∧ hFr s_107.2.2.2.2 H0 H1 ∧ hWt T0 H1) ∧ ((True ∧ Bb_107_2 n2 n1 n0 H0 H1) ∧ True) ∧ some q0 = some (mub_107_2 n2 n1 n0 H0 H1)) (f5 : n3 ≤ 2147483647) (f6 : (-2147483648) ≤ n3) (f7 : hK H1 (n1).toNat = 5) (f8 : n3 = hV H1 (n1).toNat 0) (f9 : n0 < n3) (f10 : 0 ≤ n4) (f11 : hK H1 (n1).toNat = 5) (f12 : n4 = hV H1 (n1).toNat 7) (f13 : n5 ≤ 2147483647) (f14 : (-2147483648) ≤ n5) (f15 : (hLe T0 H1 H2 ∧ hFr s_199vk100.2.2.2.2 H1 H2 ∧ ((0 : Int) = 0 → H2.length = H1.length) ∧ hWt T0 H2) ∧ postb_199vk100 n5 n4 n0 H1 H2) (f16 : n5 = 0) (f17 : n6 = 0) (f18 : hK H2 (n1).toNat = 5) (f19 : n7 = 11) (f20 : hUpd H3 H2 n1 n7 n6) (f21 : 0 ≤ n8) (f22 : hK H3 (n1).toNat = 5) (f23 : n8 = hV H3 (n1).toNat 3) (f24 : n9 ≤ 2147483647) (f25 : (-2147483648) ≤ n9) (f26 : (hLe T0 H3 H4 ∧ hFr s_199vk100.2.2.2.2 H3 H4 ∧ ((0 : Int) = 0 → H4.length = H3.length) ∧ hWt T0 H4) ∧ postb_199vk100 n9 n8 n0 H3 H4) (f27 : 0 ≤ n10) (f28 : hK H4 (n1).toNat = 5) (f29 : n10 = hV H4 (n1).toNat 4) (f30 : n11 ≤ 2147483647) (f31 : (-2147483648) ≤ n11) (f32 : (hLe T0 H4 H5 ∧ hFr s_199vk100.2.2.2.2 H4 H5 ∧ ((0 : Int) = 0 → H5.length = H4.length) ∧ hWt T0 H5) ∧ postb_199vk100 n11 n10 n0 H4 H5) (f33 : n12 ≤ 2147483647) (f34 : (-2147483648) ≤ n12) (f35 : (hLe T0 H5 H6 ∧ hFr s_108.2.2.2.2 H5 H6 ∧ ((0 : Int) = 0 → H6.length = H5.length) ∧ hWt T0 H6) ∧ (True ∧ nb_108 n12 n1 n9 n11 H5 H6)) (f36 : 0 ≤ n13) (f37 : hK H6 (n1).toNat = 5) (f38 : n13 = hV H6 (n1).toNat 4) (f39 : n14 ≤ 2147483647) (f40 : (-2147483648) ≤ n14) (f41 : (hLe T0 H6 H7 ∧ hFr s_199vk100.2.2.2.2 H6 H7 ∧ ((0 : Int) = 0 → H7.length = H6.length) ∧ hWt T0 H7) ∧ postb_199vk100 n14 n13 n0 H6 H7) (f42 : 0 ≤ n15) (f43 : hK H7 (n1).toNat = 5) (f44 : n15 = hV H7 (n1).toNat 5) (f45 : n16 ≤ 2147483647) (f46 : (-2147483648) ≤ n16) (f47 : (hLe T0 H7 H8 ∧ hFr s_199vk100.2.2.2.2 H7 H8 ∧ ((0 : Int) = 0 → H8.length = H7.length) ∧ hWt T0 H8) ∧ postb_199vk100 n16 n15 n0 H7 H8) (f48 : n14 ≠ n16) (f49 : n17 = 0) (f50 : n17 = 0) (f51 : 0 ≤ n18) (f52 : hK H8 (n1).toNat = 5) (f53 : n18 = hV H8 (n1).toNat 4) (f54 : n19 ≤ 2147483647) (f55 : (-2147483648) ≤ n19) (f56 : (hLe T0 H8 H9 ∧ hFr s_199vk100.2.2.2.2 H8 H9 ∧ ((0 : Int) = 0 → H9.length = H8.length) ∧ hWt T0 H9) ∧ postb_199vk100 n19 n18 n0 H8 H9) (f57 : 0 ≤ n20) (f58 : hK H9 (n1).toNat = 5) (f59 : n20 = hV H9 (n1).toNat 5) (f60 : n21 ≤ 2147483647) (f61 : (-2147483648) ≤ n21) (f62 : (hLe T0 H9 H10 ∧ hFr s_199vk100.2.2.2.2 H9 H10 ∧ ((0 : Int) = 0 → H10.length = H9.length) ∧ hWt T0 H10) ∧ postb_199vk100 n21 n20 n0 H9 H10) (f63 : n22 ≤ 2147483647) (f64 : (-2147483648) ≤ n22) (f65 : (hLe T0 H10 H11 ∧ hFr s_108.2.2.2.2 H10 H11 ∧ ((0 : Int) = 0 → H11.length = H10.length) ∧ hWt T0 H11) ∧ (True ∧ nb_108 n22 n1 n19 n21 H10 H11)) (f66 : n22 = 0) (f67 : n23 = 0) (f68 : n23 ≠ 0) (f69 : n24 ≤ 1) (f70 : 0 ≤ n24) (f71 : hK H11 (n1).toNat = 5) (f72 : n24 = hV H11 (n1).toNat 11) (f73 : n24 ≠ 0) (f74 : n25 = w32 (n0 + 1)) : Bb_107_2 n2 n1 n25 H0 H11 := by
  have gb := f4.2.1.1.2
  unfold Bb_107_2 at gb
  obtain ⟨e0, z0⟩ := gb
  unfold Bb_107_2
  subst e0
  have a15 := f15.2
  unfold postb_199vk100 at a15
  have a26 := f26.2
  unfold postb_199vk100 at a26
  have a32 := f32.2
  unfold postb_199vk100 at a32
  have a41 := f41.2
  unfold postb_199vk100 at a41
  have a47 := f47.2
  unfold postb_199vk100 at a47
  have a56 := f56.2
  unfold postb_199vk100 at a56
  have a62 := f62.2
  unfold postb_199vk100 at a62
  have k35 := f35.2.2
  unfold nb_108 at k35
  have k65 := f65.2.2
  unfold nb_108 at k65
  exfalso
  omega
def g_107w_2_6 : vG := ([(10, [25, 2], [], 1), (31, [24], [], 0), (20, [24, 1], [11], 11), (23, [1], [11], 5), (90, [24], [], 0), (91, [24], [], 1), (31, [23], [], 0), (0, [23], [], 0), (30, [22], [], 0), (1108, [22, 1, 19, 21], [10, 11], 0), (90, [22], [], -2147483648), (91, [22], [], 2147483647), (1199, [21, 20, 2], [9, 10], 0), (90, [21], [], -2147483648), (91, [21], [], 2147483647), (20, [20, 1], [9], 5), (23, [1], [9], 5), (51, [20], [], 0), (1199, [19, 18, 2], [8, 9], 0), (90, [19], [], -2147483648), (91, [19], [], 2147483647), (20, [18, 1], [8], 4), (23, [1], [8], 5), (51, [18], [], 0), (30, [17], [], 0), (0, [17], [], 0), (41, [14, 16], [], 0), (1199, [16, 15, 2], [7, 8], 0), (90, [16], [], -2147483648), (91, [16], [], 2147483647), (20, [15, 1], [7], 5), (23, [1], [7], 5), (51, [15], [], 0), (1199, [14, 13, 2], [6, 7], 0), (90, [14], [], -2147483648), (91, [14], [], 2147483647), (20, [13, 1], [6], 4), (23, [1], [6], 5), (51, [13], [], 0), (1108, [12, 1, 9, 11], [5, 6], 0), (90, [12], [], -2147483648), (91, [12], [], 2147483647), (1199, [11, 10, 2], [4, 5], 0), (90, [11], [], -2147483648), (91, [11], [], 2147483647), (20, [10, 1], [4], 4), (23, [1], [4], 5), (51, [10], [], 0), (1199, [9, 8, 2], [3, 4], 0), (90, [9], [], -2147483648), (91, [9], [], 2147483647), (20, [8, 1], [3], 3), (23, [1], [3], 5), (51, [8], [], 0), (80, [1, 7, 6], [3, 2], 0), (0, [7], [], 11), (23, [1], [2], 5), (0, [6], [], 0), (30, [5], [], 0), (1199, [5, 4, 2], [1, 2], 0), (90, [5], [], -2147483648), (91, [5], [], 2147483647), (20, [4, 1], [1], 7), (23, [1], [1], 5), (51, [4], [], 0), (42, [2, 3], [], 0), (20, [3, 1], [1], 0), (23, [1], [1], 5), (90, [3], [], -2147483648), (91, [3], [], 2147483647), (5000, [0, 1, 2], [0, 1], 2), (51, [0], [], 0), (51, [1], [], 0), (90, [2], [], -2147483648), (91, [2], [], 2147483647)], (4000, [1, 25], [11], 2))
theorem c_107w_2_6 {q0 : Nat} : vOkm T0 (eN e_107 L_107w A_107 mu_107 n_107 B_107 (some q0)) 1 g_107w_2_6 := vOk_inI fun ρ η f0 f1 f2 f3 f4 f5 f6 f7 f8 f9 f10 f11 f12 f13 f14 f15 f16 f17 f18 f19 f20 f21 f22 f23 f24 f25 f26 f27 f28 f29 f30 f31 f32 f33 f34 f35 f36 f37 f38 f39 f40 f41 f42 f43 f44 f45 f46 f47 f48 f49 f50 f51 f52 f53 f54 f55 f56 f57 f58 f59 f60 f61 f62 f63 f64 f65 f66 f67 f68 f69 f70 f71 f72 f73 f74 => q_107w_7 (q0 := q0) (n0 := ρ 2) (n1 := ρ 1) (n2 := ρ 0) (n3 := ρ 3) (n4 := ρ 4) (n5 := ρ 5) (n6 := ρ 6) (n7 := ρ 7) (n8 := ρ 8) (n9 := ρ 9) (n10 := ρ 10) (n11 := ρ 11) (n12 := ρ 12) (n13 := ρ 13) (n14 := ρ 14) (n15 := ρ 15) (n16 := ρ 16) (n17 := ρ 17) (n18 := ρ 18) (n19 := ρ 19) (n20 := ρ 20) (n21 := ρ 21) (n22 := ρ 22) (n23 := ρ 23) (n24 := ρ 24) (n25 := ρ 25) (H0 := η 0) (H1 := η 1) (H2 := η 2) (H3 := η 3) (H4 := η 4) (H5 := η 5) (H6 := η 6) (H7 := η 7) (H8 := η 8) (H9 := η 9) (H10 := η 10) (H11 := η 11) f74 f73 f72 f71 f70 f69 f68 f67 f66 f65 f64 f63 f62 f61 f60 f59 f58 f57 f56 f55 f54 f53 f52 f51 f50 f49 f48 f47 f46 f45 f44 f43 f42 f41 f40 f39 f38 f37 f36 f35 f34 f33 f32 f31 f30 f29 f28 f27 f26 f25 f24 f23 f22 f21 f20 f19 f18 f17 f16 f15 f14 f13 f12 f11 f10 f9 f8 f7 f6 f5 f4 f3 f2 f1 f0
theorem q_107w_8 {q0 : Nat} {n0 n1 n2 n3 n4 n5 n6 n7 n8 n9 n10 n11 n12 n13 n14 n15 n16 n17 n18 n19 n20 n21 n22 n23 n24 : Int} {H0 H1 H2 H3 H4 H5 H6 H7 H8 H9 H10 H11 : gH} (f0 : n0 ≤ 2147483647) (f1 : (-2147483648) ≤ n0) (f2 : 0 ≤ n1) (f3 : 0 ≤ n2) (f4 : (hLe T0 H0 H1 ∧ hFr s_107.2.2.2.2 H0 H1 ∧ hWt T0 H1) ∧ ((True ∧ Bb_107_2 n2 n1 n0 H0 H1) ∧ True) ∧ some q0 = some (mub_107_2 n2 n1 n0 H0 H1)) (f5 : n3 ≤ 2147483647) (f6 : (-2147483648) ≤ n3) (f7 : hK H1 (n1).toNat = 5) (f8 : n3 = hV H1 (n1).toNat 0) (f9 : n0 < n3) (f10 : 0 ≤ n4) (f11 : hK H1 (n1).toNat = 5) (f12 : n4 = hV H1 (n1).toNat 7) (f13 : n5 ≤ 2147483647) (f14 : (-2147483648) ≤ n5) (f15 : (hLe T0 H1 H2 ∧ hFr s_199vk100.2.2.2.2 H1 H2 ∧ ((0 : Int) = 0 → H2.length = H1.length) ∧ hWt T0 H2) ∧ postb_199vk100 n5 n4 n0 H1 H2) (f16 : n5 = 0) (f17 : n6 = 0) (f18 : hK H2 (n1).toNat = 5) (f19 : n7 = 11) (f20 : hUpd H3 H2 n1 n7 n6) (f21 : 0 ≤ n8) (f22 : hK H3 (n1).toNat = 5) (f23 : n8 = hV H3 (n1).toNat 3) (f24 : n9 ≤ 2147483647) (f25 : (-2147483648) ≤ n9) (f26 : (hLe T0 H3 H4 ∧ hFr s_199vk100.2.2.2.2 H3 H4 ∧ ((0 : Int) = 0 → H4.length = H3.length) ∧ hWt T0 H4) ∧ postb_199vk100 n9 n8 n0 H3 H4) (f27 : 0 ≤ n10) (f28 : hK H4 (n1).toNat = 5) (f29 : n10 = hV H4 (n1).toNat 4) (f30 : n11 ≤ 2147483647) (f31 : (-2147483648) ≤ n11) (f32 : (hLe T0 H4 H5 ∧ hFr s_199vk100.2.2.2.2 H4 H5 ∧ ((0 : Int) = 0 → H5.length = H4.length) ∧ hWt T0 H5) ∧ postb_199vk100 n11 n10 n0 H4 H5) (f33 : n12 ≤ 2147483647) (f34 : (-2147483648) ≤ n12) (f35 : (hLe T0 H5 H6 ∧ hFr s_108.2.2.2.2 H5 H6 ∧ ((0 : Int) = 0 → H6.length = H5.length) ∧ hWt T0 H6) ∧ (True ∧ nb_108 n12 n1 n9 n11 H5 H6)) (f36 : 0 ≤ n13) (f37 : hK H6 (n1).toNat = 5) (f38 : n13 = hV H6 (n1).toNat 4) (f39 : n14 ≤ 2147483647) (f40 : (-2147483648) ≤ n14) (f41 : (hLe T0 H6 H7 ∧ hFr s_199vk100.2.2.2.2 H6 H7 ∧ ((0 : Int) = 0 → H7.length = H6.length) ∧ hWt T0 H7) ∧ postb_199vk100 n14 n13 n0 H6 H7) (f42 : 0 ≤ n15) (f43 : hK H7 (n1).toNat = 5) (f44 : n15 = hV H7 (n1).toNat 5) (f45 : n16 ≤ 2147483647) (f46 : (-2147483648) ≤ n16) (f47 : (hLe T0 H7 H8 ∧ hFr s_199vk100.2.2.2.2 H7 H8 ∧ ((0 : Int) = 0 → H8.length = H7.length) ∧ hWt T0 H8) ∧ postb_199vk100 n16 n15 n0 H7 H8) (f48 : n14 ≠ n16) (f49 : n17 = 0) (f50 : n17 = 0) (f51 : 0 ≤ n18) (f52 : hK H8 (n1).toNat = 5) (f53 : n18 = hV H8 (n1).toNat 4) (f54 : n19 ≤ 2147483647) (f55 : (-2147483648) ≤ n19) (f56 : (hLe T0 H8 H9 ∧ hFr s_199vk100.2.2.2.2 H8 H9 ∧ ((0 : Int) = 0 → H9.length = H8.length) ∧ hWt T0 H9) ∧ postb_199vk100 n19 n18 n0 H8 H9) (f57 : 0 ≤ n20) (f58 : hK H9 (n1).toNat = 5) (f59 : n20 = hV H9 (n1).toNat 5) (f60 : n21 ≤ 2147483647) (f61 : (-2147483648) ≤ n21) (f62 : (hLe T0 H9 H10 ∧ hFr s_199vk100.2.2.2.2 H9 H10 ∧ ((0 : Int) = 0 → H10.length = H9.length) ∧ hWt T0 H10) ∧ postb_199vk100 n21 n20 n0 H9 H10) (f63 : n22 ≤ 2147483647) (f64 : (-2147483648) ≤ n22) (f65 : (hLe T0 H10 H11 ∧ hFr s_108.2.2.2.2 H10 H11 ∧ ((0 : Int) = 0 → H11.length = H10.length) ∧ hWt T0 H11) ∧ (True ∧ nb_108 n22 n1 n19 n21 H10 H11)) (f66 : n22 = 0) (f67 : n23 = 0) (f68 : n23 ≠ 0) (f69 : n24 ≤ 1) (f70 : 0 ≤ n24) (f71 : hK H11 (n1).toNat = 5) (f72 : n24 = hV H11 (n1).toNat 11) (f73 : n24 = 0) : nb_107 n12 n2 H0 H11 := by
  have gb := f4.2.1.1.2
  unfold Bb_107_2 at gb
  obtain ⟨e0, z0⟩ := gb
  unfold nb_107
  subst e0
  have a15 := f15.2
  unfold postb_199vk100 at a15
  have a26 := f26.2
  unfold postb_199vk100 at a26
  have a32 := f32.2
  unfold postb_199vk100 at a32
  have a41 := f41.2
  unfold postb_199vk100 at a41
  have a47 := f47.2
  unfold postb_199vk100 at a47
  have a56 := f56.2
  unfold postb_199vk100 at a56
  have a62 := f62.2
  unfold postb_199vk100 at a62
  have k35 := f35.2.2
  unfold nb_108 at k35
  have k65 := f65.2.2
  unfold nb_108 at k65
  exfalso
  omega
def g_107w_2_7 : vG := ([(30, [24], [], 0), (20, [24, 1], [11], 11), (23, [1], [11], 5), (90, [24], [], 0), (91, [24], [], 1), (31, [23], [], 0), (0, [23], [], 0), (30, [22], [], 0), (1108, [22, 1, 19, 21], [10, 11], 0), (90, [22], [], -2147483648), (91, [22], [], 2147483647), (1199, [21, 20, 2], [9, 10], 0), (90, [21], [], -2147483648), (91, [21], [], 2147483647), (20, [20, 1], [9], 5), (23, [1], [9], 5), (51, [20], [], 0), (1199, [19, 18, 2], [8, 9], 0), (90, [19], [], -2147483648), (91, [19], [], 2147483647), (20, [18, 1], [8], 4), (23, [1], [8], 5), (51, [18], [], 0), (30, [17], [], 0), (0, [17], [], 0), (41, [14, 16], [], 0), (1199, [16, 15, 2], [7, 8], 0), (90, [16], [], -2147483648), (91, [16], [], 2147483647), (20, [15, 1], [7], 5), (23, [1], [7], 5), (51, [15], [], 0), (1199, [14, 13, 2], [6, 7], 0), (90, [14], [], -2147483648), (91, [14], [], 2147483647), (20, [13, 1], [6], 4), (23, [1], [6], 5), (51, [13], [], 0), (1108, [12, 1, 9, 11], [5, 6], 0), (90, [12], [], -2147483648), (91, [12], [], 2147483647), (1199, [11, 10, 2], [4, 5], 0), (90, [11], [], -2147483648), (91, [11], [], 2147483647), (20, [10, 1], [4], 4), (23, [1], [4], 5), (51, [10], [], 0), (1199, [9, 8, 2], [3, 4], 0), (90, [9], [], -2147483648), (91, [9], [], 2147483647), (20, [8, 1], [3], 3), (23, [1], [3], 5), (51, [8], [], 0), (80, [1, 7, 6], [3, 2], 0), (0, [7], [], 11), (23, [1], [2], 5), (0, [6], [], 0), (30, [5], [], 0), (1199, [5, 4, 2], [1, 2], 0), (90, [5], [], -2147483648), (91, [5], [], 2147483647), (20, [4, 1], [1], 7), (23, [1], [1], 5), (51, [4], [], 0), (42, [2, 3], [], 0), (20, [3, 1], [1], 0), (23, [1], [1], 5), (90, [3], [], -2147483648), (91, [3], [], 2147483647), (5000, [0, 1, 2], [0, 1], 2), (51, [0], [], 0), (51, [1], [], 0), (90, [2], [], -2147483648), (91, [2], [], 2147483647)], (3000, [12], [11], 119))
theorem c_107w_2_7 {q0 : Nat} : vOkm T0 (eN e_107 L_107w A_107 mu_107 n_107 B_107 (some q0)) 1 g_107w_2_7 := vOk_inI fun ρ η f0 f1 f2 f3 f4 f5 f6 f7 f8 f9 f10 f11 f12 f13 f14 f15 f16 f17 f18 f19 f20 f21 f22 f23 f24 f25 f26 f27 f28 f29 f30 f31 f32 f33 f34 f35 f36 f37 f38 f39 f40 f41 f42 f43 f44 f45 f46 f47 f48 f49 f50 f51 f52 f53 f54 f55 f56 f57 f58 f59 f60 f61 f62 f63 f64 f65 f66 f67 f68 f69 f70 f71 f72 f73 => q_107w_8 (q0 := q0) (n0 := ρ 2) (n1 := ρ 1) (n2 := ρ 0) (n3 := ρ 3) (n4 := ρ 4) (n5 := ρ 5) (n6 := ρ 6) (n7 := ρ 7) (n8 := ρ 8) (n9 := ρ 9) (n10 := ρ 10) (n11 := ρ 11) (n12 := ρ 12) (n13 := ρ 13) (n14 := ρ 14) (n15 := ρ 15) (n16 := ρ 16) (n17 := ρ 17) (n18 := ρ 18) (n19 := ρ 19) (n20 := ρ 20) (n21 := ρ 21) (n22 := ρ 22) (n23 := ρ 23) (n24 := ρ 24) (H0 := η 0) (H1 := η 1) (H2 := η 2) (H3 := η 3) (H4 := η 4) (H5 := η 5) (H6 := η 6) (H7 := η 7) (H8 := η 8) (H9 := η 9) (H10 := η 10) (H11 := η 11) f73 f72 f71 f70 f69 f68 f67 f66 f65 f64 f63 f62 f61 f60 f59 f58 f57 f56 f55 f54 f53 f52 f51 f50 f49 f48 f47 f46 f45 f44 f43 f42 f41 f40 f39 f38 f37 f36 f35 f34 f33 f32 f31 f30 f29 f28 f27 f26 f25 f24 f23 f22 f21 f20 f19 f18 f17 f16 f15 f14 f13 f12 f11 f10 f9 f8 f7 f6 f5 f4 f3 f2 f1 f0
theorem q_107w_9 {q0 : Nat} {n0 n1 n2 n3 n4 n5 n6 n7 n8 n9 n10 n11 n12 n13 n14 n15 n16 n17 n18 n19 n20 n21 n22 n23 n24 : Int} {H0 H1 H2 H3 H4 H5 H6 H7 H8 H9 H10 H11 : gH} (f0 : n0 ≤ 2147483647) (f1 : (-2147483648) ≤ n0) (f2 : 0 ≤ n1) (f3 : 0 ≤ n2) (f4 : (hLe T0 H0 H1 ∧ hFr s_107.2.2.2.2 H0 H1 ∧ hWt T0 H1) ∧ ((True ∧ Bb_107_2 n2 n1 n0 H0 H1) ∧ True) ∧ some q0 = some (mub_107_2 n2 n1 n0 H0 H1)) (f5 : n3 ≤ 2147483647) (f6 : (-2147483648) ≤ n3) (f7 : hK H1 (n1).toNat = 5) (f8 : n3 = hV H1 (n1).toNat 0) (f9 : n0 < n3) (f10 : 0 ≤ n4) (f11 : hK H1 (n1).toNat = 5) (f12 : n4 = hV H1 (n1).toNat 7) (f13 : n5 ≤ 2147483647) (f14 : (-2147483648) ≤ n5) (f15 : (hLe T0 H1 H2 ∧ hFr s_199vk100.2.2.2.2 H1 H2 ∧ ((0 : Int) = 0 → H2.length = H1.length) ∧ hWt T0 H2) ∧ postb_199vk100 n5 n4 n0 H1 H2) (f16 : n5 = 0) (f17 : n6 = 0) (f18 : hK H2 (n1).toNat = 5) (f19 : n7 = 11) (f20 : hUpd H3 H2 n1 n7 n6) (f21 : 0 ≤ n8) (f22 : hK H3 (n1).toNat = 5) (f23 : n8 = hV H3 (n1).toNat 3) (f24 : n9 ≤ 2147483647) (f25 : (-2147483648) ≤ n9) (f26 : (hLe T0 H3 H4 ∧ hFr s_199vk100.2.2.2.2 H3 H4 ∧ ((0 : Int) = 0 → H4.length = H3.length) ∧ hWt T0 H4) ∧ postb_199vk100 n9 n8 n0 H3 H4) (f27 : 0 ≤ n10) (f28 : hK H4 (n1).toNat = 5) (f29 : n10 = hV H4 (n1).toNat 4) (f30 : n11 ≤ 2147483647) (f31 : (-2147483648) ≤ n11) (f32 : (hLe T0 H4 H5 ∧ hFr s_199vk100.2.2.2.2 H4 H5 ∧ ((0 : Int) = 0 → H5.length = H4.length) ∧ hWt T0 H5) ∧ postb_199vk100 n11 n10 n0 H4 H5) (f33 : n12 ≤ 2147483647) (f34 : (-2147483648) ≤ n12) (f35 : (hLe T0 H5 H6 ∧ hFr s_108.2.2.2.2 H5 H6 ∧ ((0 : Int) = 0 → H6.length = H5.length) ∧ hWt T0 H6) ∧ (True ∧ nb_108 n12 n1 n9 n11 H5 H6)) (f36 : 0 ≤ n13) (f37 : hK H6 (n1).toNat = 5) (f38 : n13 = hV H6 (n1).toNat 4) (f39 : n14 ≤ 2147483647) (f40 : (-2147483648) ≤ n14) (f41 : (hLe T0 H6 H7 ∧ hFr s_199vk100.2.2.2.2 H6 H7 ∧ ((0 : Int) = 0 → H7.length = H6.length) ∧ hWt T0 H7) ∧ postb_199vk100 n14 n13 n0 H6 H7) (f42 : 0 ≤ n15) (f43 : hK H7 (n1).toNat = 5) (f44 : n15 = hV H7 (n1).toNat 5) (f45 : n16 ≤ 2147483647) (f46 : (-2147483648) ≤ n16) (f47 : (hLe T0 H7 H8 ∧ hFr s_199vk100.2.2.2.2 H7 H8 ∧ ((0 : Int) = 0 → H8.length = H7.length) ∧ hWt T0 H8) ∧ postb_199vk100 n16 n15 n0 H7 H8) (f48 : n14 ≠ n16) (f49 : n17 = 0) (f50 : n17 = 0) (f51 : 0 ≤ n18) (f52 : hK H8 (n1).toNat = 5) (f53 : n18 = hV H8 (n1).toNat 4) (f54 : n19 ≤ 2147483647) (f55 : (-2147483648) ≤ n19) (f56 : (hLe T0 H8 H9 ∧ hFr s_199vk100.2.2.2.2 H8 H9 ∧ ((0 : Int) = 0 → H9.length = H8.length) ∧ hWt T0 H9) ∧ postb_199vk100 n19 n18 n0 H8 H9) (f57 : 0 ≤ n20) (f58 : hK H9 (n1).toNat = 5) (f59 : n20 = hV H9 (n1).toNat 5) (f60 : n21 ≤ 2147483647) (f61 : (-2147483648) ≤ n21) (f62 : (hLe T0 H9 H10 ∧ hFr s_199vk100.2.2.2.2 H9 H10 ∧ ((0 : Int) = 0 → H10.length = H9.length) ∧ hWt T0 H10) ∧ postb_199vk100 n21 n20 n0 H9 H10) (f63 : n22 ≤ 2147483647) (f64 : (-2147483648) ≤ n22) (f65 : (hLe T0 H10 H11 ∧ hFr s_108.2.2.2.2 H10 H11 ∧ ((0 : Int) = 0 → H11.length = H10.length) ∧ hWt T0 H11) ∧ (True ∧ nb_108 n22 n1 n19 n21 H10 H11)) (f66 : n22 ≠ 0) (f67 : n23 = 1) (f68 : n23 = 0) (f69 : n24 = w32 (n0 + 1)) : Bb_107_2 n2 n1 n24 H0 H11 := by
  have gb := f4.2.1.1.2
  unfold Bb_107_2 at gb
  obtain ⟨e0, z0⟩ := gb
  unfold Bb_107_2
  subst e0
  have a15 := f15.2
  unfold postb_199vk100 at a15
  have a26 := f26.2
  unfold postb_199vk100 at a26
  have a32 := f32.2
  unfold postb_199vk100 at a32
  have a41 := f41.2
  unfold postb_199vk100 at a41
  have a47 := f47.2
  unfold postb_199vk100 at a47
  have a56 := f56.2
  unfold postb_199vk100 at a56
  have a62 := f62.2
  unfold postb_199vk100 at a62
  have k35 := f35.2.2
  unfold nb_108 at k35
  have k65 := f65.2.2
  unfold nb_108 at k65
  exfalso
  omega
def g_107w_2_8 : vG := ([(10, [24, 2], [], 1), (30, [23], [], 0), (0, [23], [], 1), (31, [22], [], 0), (1108, [22, 1, 19, 21], [10, 11], 0), (90, [22], [], -2147483648), (91, [22], [], 2147483647), (1199, [21, 20, 2], [9, 10], 0), (90, [21], [], -2147483648), (91, [21], [], 2147483647), (20, [20, 1], [9], 5), (23, [1], [9], 5), (51, [20], [], 0), (1199, [19, 18, 2], [8, 9], 0), (90, [19], [], -2147483648), (91, [19], [], 2147483647), (20, [18, 1], [8], 4), (23, [1], [8], 5), (51, [18], [], 0), (30, [17], [], 0), (0, [17], [], 0), (41, [14, 16], [], 0), (1199, [16, 15, 2], [7, 8], 0), (90, [16], [], -2147483648), (91, [16], [], 2147483647), (20, [15, 1], [7], 5), (23, [1], [7], 5), (51, [15], [], 0), (1199, [14, 13, 2], [6, 7], 0), (90, [14], [], -2147483648), (91, [14], [], 2147483647), (20, [13, 1], [6], 4), (23, [1], [6], 5), (51, [13], [], 0), (1108, [12, 1, 9, 11], [5, 6], 0), (90, [12], [], -2147483648), (91, [12], [], 2147483647), (1199, [11, 10, 2], [4, 5], 0), (90, [11], [], -2147483648), (91, [11], [], 2147483647), (20, [10, 1], [4], 4), (23, [1], [4], 5), (51, [10], [], 0), (1199, [9, 8, 2], [3, 4], 0), (90, [9], [], -2147483648), (91, [9], [], 2147483647), (20, [8, 1], [3], 3), (23, [1], [3], 5), (51, [8], [], 0), (80, [1, 7, 6], [3, 2], 0), (0, [7], [], 11), (23, [1], [2], 5), (0, [6], [], 0), (30, [5], [], 0), (1199, [5, 4, 2], [1, 2], 0), (90, [5], [], -2147483648), (91, [5], [], 2147483647), (20, [4, 1], [1], 7), (23, [1], [1], 5), (51, [4], [], 0), (42, [2, 3], [], 0), (20, [3, 1], [1], 0), (23, [1], [1], 5), (90, [3], [], -2147483648), (91, [3], [], 2147483647), (5000, [0, 1, 2], [0, 1], 2), (51, [0], [], 0), (51, [1], [], 0), (90, [2], [], -2147483648), (91, [2], [], 2147483647)], (4000, [1, 24], [11], 2))
theorem c_107w_2_8 {q0 : Nat} : vOkm T0 (eN e_107 L_107w A_107 mu_107 n_107 B_107 (some q0)) 1 g_107w_2_8 := vOk_inI fun ρ η f0 f1 f2 f3 f4 f5 f6 f7 f8 f9 f10 f11 f12 f13 f14 f15 f16 f17 f18 f19 f20 f21 f22 f23 f24 f25 f26 f27 f28 f29 f30 f31 f32 f33 f34 f35 f36 f37 f38 f39 f40 f41 f42 f43 f44 f45 f46 f47 f48 f49 f50 f51 f52 f53 f54 f55 f56 f57 f58 f59 f60 f61 f62 f63 f64 f65 f66 f67 f68 f69 => q_107w_9 (q0 := q0) (n0 := ρ 2) (n1 := ρ 1) (n2 := ρ 0) (n3 := ρ 3) (n4 := ρ 4) (n5 := ρ 5) (n6 := ρ 6) (n7 := ρ 7) (n8 := ρ 8) (n9 := ρ 9) (n10 := ρ 10) (n11 := ρ 11) (n12 := ρ 12) (n13 := ρ 13) (n14 := ρ 14) (n15 := ρ 15) (n16 := ρ 16) (n17 := ρ 17) (n18 := ρ 18) (n19 := ρ 19) (n20 := ρ 20) (n21 := ρ 21) (n22 := ρ 22) (n23 := ρ 23) (n24 := ρ 24) (H0 := η 0) (H1 := η 1) (H2 := η 2) (H3 := η 3) (H4 := η 4) (H5 := η 5) (H6 := η 6) (H7 := η 7) (H8 := η 8) (H9 := η 9) (H10 := η 10) (H11 := η 11) f69 f68 f67 f66 f65 f64 f63 f62 f61 f60 f59 f58 f57 f56 f55 f54 f53 f52 f51 f50 f49 f48 f47 f46 f45 f44 f43 f42 f41 f40 f39 f38 f37 f36 f35 f34 f33 f32 f31 f30 f29 f28 f27 f26 f25 f24 f23 f22 f21 f20 f19 f18 f17 f16 f15 f14 f13 f12 f11 f10 f9 f8 f7 f6 f5 f4 f3 f2 f1 f0
theorem q_107w_10 {q0 : Nat} {n0 n1 n2 n3 n4 n5 n6 n7 n8 n9 n10 n11 n12 n13 n14 n15 n16 n17 n18 n19 n20 n21 n22 n23 n24 n25 : Int} {H0 H1 H2 H3 H4 H5 H6 H7 H8 H9 H10 H11 : gH} (f0 : n0 ≤ 2147483647) (f1 : (-2147483648) ≤ n0) (f2 : 0 ≤ n1) (f3 : 0 ≤ n2) (f4 : (hLe T0 H0 H1 ∧ hFr s_107.2.2.2.2 H0 H1 ∧ hWt T0 H1) ∧ ((True ∧ Bb_107_2 n2 n1 n0 H0 H1) ∧ True) ∧ some q0 = some (mub_107_2 n2 n1 n0 H0 H1)) (f5 : n3 ≤ 2147483647) (f6 : (-2147483648) ≤ n3) (f7 : hK H1 (n1).toNat = 5) (f8 : n3 = hV H1 (n1).toNat 0) (f9 : n0 < n3) (f10 : 0 ≤ n4) (f11 : hK H1 (n1).toNat = 5) (f12 : n4 = hV H1 (n1).toNat 7) (f13 : n5 ≤ 2147483647) (f14 : (-2147483648) ≤ n5) (f15 : (hLe T0 H1 H2 ∧ hFr s_199vk100.2.2.2.2 H1 H2 ∧ ((0 : Int) = 0 → H2.length = H1.length) ∧ hWt T0 H2) ∧ postb_199vk100 n5 n4 n0 H1 H2) (f16 : n5 = 0) (f17 : n6 = 0) (f18 : hK H2 (n1).toNat = 5) (f19 : n7 = 11) (f20 : hUpd H3 H2 n1 n7 n6) (f21 : 0 ≤ n8) (f22 : hK H3 (n1).toNat = 5) (f23 : n8 = hV H3 (n1).toNat 3) (f24 : n9 ≤ 2147483647) (f25 : (-2147483648) ≤ n9) (f26 : (hLe T0 H3 H4 ∧ hFr s_199vk100.2.2.2.2 H3 H4 ∧ ((0 : Int) = 0 → H4.length = H3.length) ∧ hWt T0 H4) ∧ postb_199vk100 n9 n8 n0 H3 H4) (f27 : 0 ≤ n10) (f28 : hK H4 (n1).toNat = 5) (f29 : n10 = hV H4 (n1).toNat 4) (f30 : n11 ≤ 2147483647) (f31 : (-2147483648) ≤ n11) (f32 : (hLe T0 H4 H5 ∧ hFr s_199vk100.2.2.2.2 H4 H5 ∧ ((0 : Int) = 0 → H5.length = H4.length) ∧ hWt T0 H5) ∧ postb_199vk100 n11 n10 n0 H4 H5) (f33 : n12 ≤ 2147483647) (f34 : (-2147483648) ≤ n12) (f35 : (hLe T0 H5 H6 ∧ hFr s_108.2.2.2.2 H5 H6 ∧ ((0 : Int) = 0 → H6.length = H5.length) ∧ hWt T0 H6) ∧ (True ∧ nb_108 n12 n1 n9 n11 H5 H6)) (f36 : 0 ≤ n13) (f37 : hK H6 (n1).toNat = 5) (f38 : n13 = hV H6 (n1).toNat 4) (f39 : n14 ≤ 2147483647) (f40 : (-2147483648) ≤ n14) (f41 : (hLe T0 H6 H7 ∧ hFr s_199vk100.2.2.2.2 H6 H7 ∧ ((0 : Int) = 0 → H7.length = H6.length) ∧ hWt T0 H7) ∧ postb_199vk100 n14 n13 n0 H6 H7) (f42 : 0 ≤ n15) (f43 : hK H7 (n1).toNat = 5) (f44 : n15 = hV H7 (n1).toNat 5) (f45 : n16 ≤ 2147483647) (f46 : (-2147483648) ≤ n16) (f47 : (hLe T0 H7 H8 ∧ hFr s_199vk100.2.2.2.2 H7 H8 ∧ ((0 : Int) = 0 → H8.length = H7.length) ∧ hWt T0 H8) ∧ postb_199vk100 n16 n15 n0 H7 H8) (f48 : n14 ≠ n16) (f49 : n17 = 0) (f50 : n17 = 0) (f51 : 0 ≤ n18) (f52 : hK H8 (n1).toNat = 5) (f53 : n18 = hV H8 (n1).toNat 4) (f54 : n19 ≤ 2147483647) (f55 : (-2147483648) ≤ n19) (f56 : (hLe T0 H8 H9 ∧ hFr s_199vk100.2.2.2.2 H8 H9 ∧ ((0 : Int) = 0 → H9.length = H8.length) ∧ hWt T0 H9) ∧ postb_199vk100 n19 n18 n0 H8 H9) (f57 : 0 ≤ n20) (f58 : hK H9 (n1).toNat = 5) (f59 : n20 = hV H9 (n1).toNat 5) (f60 : n21 ≤ 2147483647) (f61 : (-2147483648) ≤ n21) (f62 : (hLe T0 H9 H10 ∧ hFr s_199vk100.2.2.2.2 H9 H10 ∧ ((0 : Int) = 0 → H10.length = H9.length) ∧ hWt T0 H10) ∧ postb_199vk100 n21 n20 n0 H9 H10) (f63 : n22 ≤ 2147483647) (f64 : (-2147483648) ≤ n22) (f65 : (hLe T0 H10 H11 ∧ hFr s_108.2.2.2.2 H10 H11 ∧ ((0 : Int) = 0 → H11.length = H10.length) ∧ hWt T0 H11) ∧ (True ∧ nb_108 n22 n1 n19 n21 H10 H11)) (f66 : n22 ≠ 0) (f67 : n23 = 1) (f68 : n23 ≠ 0) (f69 : n24 ≤ 1) (f70 : 0 ≤ n24) (f71 : hK H11 (n1).toNat = 5) (f72 : n24 = hV H11 (n1).toNat 11) (f73 : n24 ≠ 0) (f74 : n25 = w32 (n0 + 1)) : Bb_107_2 n2 n1 n25 H0 H11 := by
  have gb := f4.2.1.1.2
  unfold Bb_107_2 at gb
  obtain ⟨e0, z0⟩ := gb
  unfold Bb_107_2
  subst e0
  have a15 := f15.2
  unfold postb_199vk100 at a15
  have a26 := f26.2
  unfold postb_199vk100 at a26
  have a32 := f32.2
  unfold postb_199vk100 at a32
  have a41 := f41.2
  unfold postb_199vk100 at a41
  have a47 := f47.2
  unfold postb_199vk100 at a47
  have a56 := f56.2
  unfold postb_199vk100 at a56
  have a62 := f62.2
  unfold postb_199vk100 at a62
  have k35 := f35.2.2
  unfold nb_108 at k35
  have k65 := f65.2.2
  unfold nb_108 at k65
  have go := FR_go z0 f8 (by omega) f12 a15 (SMf_fr f15.1.1 f15.1.2.1 (by decide +kernel) (by decide +kernel)) (by omega) f20 f19 f17 f23 a26 (SMf_fr f26.1.1 f26.1.2.1 (by decide +kernel) (by decide +kernel)) f29 a32 (SMf_fr f32.1.1 f32.1.2.1 (by decide +kernel) (by decide +kernel)) k35 f38 a41 (SMf_fr f41.1.1 f41.1.2.1 (by decide +kernel) (by decide +kernel)) f44 a47 (SMf_fr f47.1.1 f47.1.2.1 (by decide +kernel) (by decide +kernel))
  have gc := FR_cond go (by omega) f53 a56 (SMf_fr f56.1.1 f56.1.2.1 (by decide +kernel) (by decide +kernel)) f59 a62 (SMf_fr f62.1.1 f62.1.2.1 (by decide +kernel) (by decide +kernel)) k65
  exact ⟨rfl, FR_no gc (.inr ⟨f72, by omega⟩) f74⟩
def g_107w_2_9 : vG := ([(10, [25, 2], [], 1), (31, [24], [], 0), (20, [24, 1], [11], 11), (23, [1], [11], 5), (90, [24], [], 0), (91, [24], [], 1), (31, [23], [], 0), (0, [23], [], 1), (31, [22], [], 0), (1108, [22, 1, 19, 21], [10, 11], 0), (90, [22], [], -2147483648), (91, [22], [], 2147483647), (1199, [21, 20, 2], [9, 10], 0), (90, [21], [], -2147483648), (91, [21], [], 2147483647), (20, [20, 1], [9], 5), (23, [1], [9], 5), (51, [20], [], 0), (1199, [19, 18, 2], [8, 9], 0), (90, [19], [], -2147483648), (91, [19], [], 2147483647), (20, [18, 1], [8], 4), (23, [1], [8], 5), (51, [18], [], 0), (30, [17], [], 0), (0, [17], [], 0), (41, [14, 16], [], 0), (1199, [16, 15, 2], [7, 8], 0), (90, [16], [], -2147483648), (91, [16], [], 2147483647), (20, [15, 1], [7], 5), (23, [1], [7], 5), (51, [15], [], 0), (1199, [14, 13, 2], [6, 7], 0), (90, [14], [], -2147483648), (91, [14], [], 2147483647), (20, [13, 1], [6], 4), (23, [1], [6], 5), (51, [13], [], 0), (1108, [12, 1, 9, 11], [5, 6], 0), (90, [12], [], -2147483648), (91, [12], [], 2147483647), (1199, [11, 10, 2], [4, 5], 0), (90, [11], [], -2147483648), (91, [11], [], 2147483647), (20, [10, 1], [4], 4), (23, [1], [4], 5), (51, [10], [], 0), (1199, [9, 8, 2], [3, 4], 0), (90, [9], [], -2147483648), (91, [9], [], 2147483647), (20, [8, 1], [3], 3), (23, [1], [3], 5), (51, [8], [], 0), (80, [1, 7, 6], [3, 2], 0), (0, [7], [], 11), (23, [1], [2], 5), (0, [6], [], 0), (30, [5], [], 0), (1199, [5, 4, 2], [1, 2], 0), (90, [5], [], -2147483648), (91, [5], [], 2147483647), (20, [4, 1], [1], 7), (23, [1], [1], 5), (51, [4], [], 0), (42, [2, 3], [], 0), (20, [3, 1], [1], 0), (23, [1], [1], 5), (90, [3], [], -2147483648), (91, [3], [], 2147483647), (5000, [0, 1, 2], [0, 1], 2), (51, [0], [], 0), (51, [1], [], 0), (90, [2], [], -2147483648), (91, [2], [], 2147483647)], (4000, [1, 25], [11], 2))
theorem c_107w_2_9 {q0 : Nat} : vOkm T0 (eN e_107 L_107w A_107 mu_107 n_107 B_107 (some q0)) 1 g_107w_2_9 := vOk_inI fun ρ η f0 f1 f2 f3 f4 f5 f6 f7 f8 f9 f10 f11 f12 f13 f14 f15 f16 f17 f18 f19 f20 f21 f22 f23 f24 f25 f26 f27 f28 f29 f30 f31 f32 f33 f34 f35 f36 f37 f38 f39 f40 f41 f42 f43 f44 f45 f46 f47 f48 f49 f50 f51 f52 f53 f54 f55 f56 f57 f58 f59 f60 f61 f62 f63 f64 f65 f66 f67 f68 f69 f70 f71 f72 f73 f74 => q_107w_10 (q0 := q0) (n0 := ρ 2) (n1 := ρ 1) (n2 := ρ 0) (n3 := ρ 3) (n4 := ρ 4) (n5 := ρ 5) (n6 := ρ 6) (n7 := ρ 7) (n8 := ρ 8) (n9 := ρ 9) (n10 := ρ 10) (n11 := ρ 11) (n12 := ρ 12) (n13 := ρ 13) (n14 := ρ 14) (n15 := ρ 15) (n16 := ρ 16) (n17 := ρ 17) (n18 := ρ 18) (n19 := ρ 19) (n20 := ρ 20) (n21 := ρ 21) (n22 := ρ 22) (n23 := ρ 23) (n24 := ρ 24) (n25 := ρ 25) (H0 := η 0) (H1 := η 1) (H2 := η 2) (H3 := η 3) (H4 := η 4) (H5 := η 5) (H6 := η 6) (H7 := η 7) (H8 := η 8) (H9 := η 9) (H10 := η 10) (H11 := η 11) f74 f73 f72 f71 f70 f69 f68 f67 f66 f65 f64 f63 f62 f61 f60 f59 f58 f57 f56 f55 f54 f53 f52 f51 f50 f49 f48 f47 f46 f45 f44 f43 f42 f41 f40 f39 f38 f37 f36 f35 f34 f33 f32 f31 f30 f29 f28 f27 f26 f25 f24 f23 f22 f21 f20 f19 f18 f17 f16 f15 f14 f13 f12 f11 f10 f9 f8 f7 f6 f5 f4 f3 f2 f1 f0
theorem q_107w_11 {q0 : Nat} {n0 n1 n2 n3 n4 n5 n6 n7 n8 n9 n10 n11 n12 n13 n14 n15 n16 n17 n18 n19 n20 n21 n22 n23 n24 : Int} {H0 H1 H2 H3 H4 H5 H6 H7 H8 H9 H10 H11 : gH} (f0 : n0 ≤ 2147483647) (f1 : (-2147483648) ≤ n0) (f2 : 0 ≤ n1) (f3 : 0 ≤ n2) (f4 : (hLe T0 H0 H1 ∧ hFr s_107.2.2.2.2 H0 H1 ∧ hWt T0 H1) ∧ ((True ∧ Bb_107_2 n2 n1 n0 H0 H1) ∧ True) ∧ some q0 = some (mub_107_2 n2 n1 n0 H0 H1)) (f5 : n3 ≤ 2147483647) (f6 : (-2147483648) ≤ n3) (f7 : hK H1 (n1).toNat = 5) (f8 : n3 = hV H1 (n1).toNat 0) (f9 : n0 < n3) (f10 : 0 ≤ n4) (f11 : hK H1 (n1).toNat = 5) (f12 : n4 = hV H1 (n1).toNat 7) (f13 : n5 ≤ 2147483647) (f14 : (-2147483648) ≤ n5) (f15 : (hLe T0 H1 H2 ∧ hFr s_199vk100.2.2.2.2 H1 H2 ∧ ((0 : Int) = 0 → H2.length = H1.length) ∧ hWt T0 H2) ∧ postb_199vk100 n5 n4 n0 H1 H2) (f16 : n5 = 0) (f17 : n6 = 0) (f18 : hK H2 (n1).toNat = 5) (f19 : n7 = 11) (f20 : hUpd H3 H2 n1 n7 n6) (f21 : 0 ≤ n8) (f22 : hK H3 (n1).toNat = 5) (f23 : n8 = hV H3 (n1).toNat 3) (f24 : n9 ≤ 2147483647) (f25 : (-2147483648) ≤ n9) (f26 : (hLe T0 H3 H4 ∧ hFr s_199vk100.2.2.2.2 H3 H4 ∧ ((0 : Int) = 0 → H4.length = H3.length) ∧ hWt T0 H4) ∧ postb_199vk100 n9 n8 n0 H3 H4) (f27 : 0 ≤ n10) (f28 : hK H4 (n1).toNat = 5) (f29 : n10 = hV H4 (n1).toNat 4) (f30 : n11 ≤ 2147483647) (f31 : (-2147483648) ≤ n11) (f32 : (hLe T0 H4 H5 ∧ hFr s_199vk100.2.2.2.2 H4 H5 ∧ ((0 : Int) = 0 → H5.length = H4.length) ∧ hWt T0 H5) ∧ postb_199vk100 n11 n10 n0 H4 H5) (f33 : n12 ≤ 2147483647) (f34 : (-2147483648) ≤ n12) (f35 : (hLe T0 H5 H6 ∧ hFr s_108.2.2.2.2 H5 H6 ∧ ((0 : Int) = 0 → H6.length = H5.length) ∧ hWt T0 H6) ∧ (True ∧ nb_108 n12 n1 n9 n11 H5 H6)) (f36 : 0 ≤ n13) (f37 : hK H6 (n1).toNat = 5) (f38 : n13 = hV H6 (n1).toNat 4) (f39 : n14 ≤ 2147483647) (f40 : (-2147483648) ≤ n14) (f41 : (hLe T0 H6 H7 ∧ hFr s_199vk100.2.2.2.2 H6 H7 ∧ ((0 : Int) = 0 → H7.length = H6.length) ∧ hWt T0 H7) ∧ postb_199vk100 n14 n13 n0 H6 H7) (f42 : 0 ≤ n15) (f43 : hK H7 (n1).toNat = 5) (f44 : n15 = hV H7 (n1).toNat 5) (f45 : n16 ≤ 2147483647) (f46 : (-2147483648) ≤ n16) (f47 : (hLe T0 H7 H8 ∧ hFr s_199vk100.2.2.2.2 H7 H8 ∧ ((0 : Int) = 0 → H8.length = H7.length) ∧ hWt T0 H8) ∧ postb_199vk100 n16 n15 n0 H7 H8) (f48 : n14 ≠ n16) (f49 : n17 = 0) (f50 : n17 = 0) (f51 : 0 ≤ n18) (f52 : hK H8 (n1).toNat = 5) (f53 : n18 = hV H8 (n1).toNat 4) (f54 : n19 ≤ 2147483647) (f55 : (-2147483648) ≤ n19) (f56 : (hLe T0 H8 H9 ∧ hFr s_199vk100.2.2.2.2 H8 H9 ∧ ((0 : Int) = 0 → H9.length = H8.length) ∧ hWt T0 H9) ∧ postb_199vk100 n19 n18 n0 H8 H9) (f57 : 0 ≤ n20) (f58 : hK H9 (n1).toNat = 5) (f59 : n20 = hV H9 (n1).toNat 5) (f60 : n21 ≤ 2147483647) (f61 : (-2147483648) ≤ n21) (f62 : (hLe T0 H9 H10 ∧ hFr s_199vk100.2.2.2.2 H9 H10 ∧ ((0 : Int) = 0 → H10.length = H9.length) ∧ hWt T0 H10) ∧ postb_199vk100 n21 n20 n0 H9 H10) (f63 : n22 ≤ 2147483647) (f64 : (-2147483648) ≤ n22) (f65 : (hLe T0 H10 H11 ∧ hFr s_108.2.2.2.2 H10 H11 ∧ ((0 : Int) = 0 → H11.length = H10.length) ∧ hWt T0 H11) ∧ (True ∧ nb_108 n22 n1 n19 n21 H10 H11)) (f66 : n22 ≠ 0) (f67 : n23 = 1) (f68 : n23 ≠ 0) (f69 : n24 ≤ 1) (f70 : 0 ≤ n24) (f71 : hK H11 (n1).toNat = 5) (f72 : n24 = hV H11 (n1).toNat 11) (f73 : n24 = 0) : nb_107 n12 n2 H0 H11 := by
  have gb := f4.2.1.1.2
  unfold Bb_107_2 at gb
  obtain ⟨e0, z0⟩ := gb
  unfold nb_107
  subst e0
  have a15 := f15.2
  unfold postb_199vk100 at a15
  have a26 := f26.2
  unfold postb_199vk100 at a26
  have a32 := f32.2
  unfold postb_199vk100 at a32
  have a41 := f41.2
  unfold postb_199vk100 at a41
  have a47 := f47.2
  unfold postb_199vk100 at a47
  have a56 := f56.2
  unfold postb_199vk100 at a56
  have a62 := f62.2
  unfold postb_199vk100 at a62
  have k35 := f35.2.2
  unfold nb_108 at k35
  have k65 := f65.2.2
  unfold nb_108 at k65
  have go := FR_go z0 f8 (by omega) f12 a15 (SMf_fr f15.1.1 f15.1.2.1 (by decide +kernel) (by decide +kernel)) (by omega) f20 f19 f17 f23 a26 (SMf_fr f26.1.1 f26.1.2.1 (by decide +kernel) (by decide +kernel)) f29 a32 (SMf_fr f32.1.1 f32.1.2.1 (by decide +kernel) (by decide +kernel)) k35 f38 a41 (SMf_fr f41.1.1 f41.1.2.1 (by decide +kernel) (by decide +kernel)) f44 a47 (SMf_fr f47.1.1 f47.1.2.1 (by decide +kernel) (by decide +kernel))
  have gc := FR_cond go (by omega) f53 a56 (SMf_fr f56.1.1 f56.1.2.1 (by decide +kernel) (by decide +kernel)) f59 a62 (SMf_fr f62.1.1 f62.1.2.1 (by decide +kernel) (by decide +kernel)) k65
  exact FR_ret gc (by omega) f72 (by omega)
def g_107w_2_10 : vG := ([(30, [24], [], 0), (20, [24, 1], [11], 11), (23, [1], [11], 5), (90, [24], [], 0), (91, [24], [], 1), (31, [23], [], 0), (0, [23], [], 1), (31, [22], [], 0), (1108, [22, 1, 19, 21], [10, 11], 0), (90, [22], [], -2147483648), (91, [22], [], 2147483647), (1199, [21, 20, 2], [9, 10], 0), (90, [21], [], -2147483648), (91, [21], [], 2147483647), (20, [20, 1], [9], 5), (23, [1], [9], 5), (51, [20], [], 0), (1199, [19, 18, 2], [8, 9], 0), (90, [19], [], -2147483648), (91, [19], [], 2147483647), (20, [18, 1], [8], 4), (23, [1], [8], 5), (51, [18], [], 0), (30, [17], [], 0), (0, [17], [], 0), (41, [14, 16], [], 0), (1199, [16, 15, 2], [7, 8], 0), (90, [16], [], -2147483648), (91, [16], [], 2147483647), (20, [15, 1], [7], 5), (23, [1], [7], 5), (51, [15], [], 0), (1199, [14, 13, 2], [6, 7], 0), (90, [14], [], -2147483648), (91, [14], [], 2147483647), (20, [13, 1], [6], 4), (23, [1], [6], 5), (51, [13], [], 0), (1108, [12, 1, 9, 11], [5, 6], 0), (90, [12], [], -2147483648), (91, [12], [], 2147483647), (1199, [11, 10, 2], [4, 5], 0), (90, [11], [], -2147483648), (91, [11], [], 2147483647), (20, [10, 1], [4], 4), (23, [1], [4], 5), (51, [10], [], 0), (1199, [9, 8, 2], [3, 4], 0), (90, [9], [], -2147483648), (91, [9], [], 2147483647), (20, [8, 1], [3], 3), (23, [1], [3], 5), (51, [8], [], 0), (80, [1, 7, 6], [3, 2], 0), (0, [7], [], 11), (23, [1], [2], 5), (0, [6], [], 0), (30, [5], [], 0), (1199, [5, 4, 2], [1, 2], 0), (90, [5], [], -2147483648), (91, [5], [], 2147483647), (20, [4, 1], [1], 7), (23, [1], [1], 5), (51, [4], [], 0), (42, [2, 3], [], 0), (20, [3, 1], [1], 0), (23, [1], [1], 5), (90, [3], [], -2147483648), (91, [3], [], 2147483647), (5000, [0, 1, 2], [0, 1], 2), (51, [0], [], 0), (51, [1], [], 0), (90, [2], [], -2147483648), (91, [2], [], 2147483647)], (3000, [12], [11], 119))
theorem c_107w_2_10 {q0 : Nat} : vOkm T0 (eN e_107 L_107w A_107 mu_107 n_107 B_107 (some q0)) 1 g_107w_2_10 := vOk_inI fun ρ η f0 f1 f2 f3 f4 f5 f6 f7 f8 f9 f10 f11 f12 f13 f14 f15 f16 f17 f18 f19 f20 f21 f22 f23 f24 f25 f26 f27 f28 f29 f30 f31 f32 f33 f34 f35 f36 f37 f38 f39 f40 f41 f42 f43 f44 f45 f46 f47 f48 f49 f50 f51 f52 f53 f54 f55 f56 f57 f58 f59 f60 f61 f62 f63 f64 f65 f66 f67 f68 f69 f70 f71 f72 f73 => q_107w_11 (q0 := q0) (n0 := ρ 2) (n1 := ρ 1) (n2 := ρ 0) (n3 := ρ 3) (n4 := ρ 4) (n5 := ρ 5) (n6 := ρ 6) (n7 := ρ 7) (n8 := ρ 8) (n9 := ρ 9) (n10 := ρ 10) (n11 := ρ 11) (n12 := ρ 12) (n13 := ρ 13) (n14 := ρ 14) (n15 := ρ 15) (n16 := ρ 16) (n17 := ρ 17) (n18 := ρ 18) (n19 := ρ 19) (n20 := ρ 20) (n21 := ρ 21) (n22 := ρ 22) (n23 := ρ 23) (n24 := ρ 24) (H0 := η 0) (H1 := η 1) (H2 := η 2) (H3 := η 3) (H4 := η 4) (H5 := η 5) (H6 := η 6) (H7 := η 7) (H8 := η 8) (H9 := η 9) (H10 := η 10) (H11 := η 11) f73 f72 f71 f70 f69 f68 f67 f66 f65 f64 f63 f62 f61 f60 f59 f58 f57 f56 f55 f54 f53 f52 f51 f50 f49 f48 f47 f46 f45 f44 f43 f42 f41 f40 f39 f38 f37 f36 f35 f34 f33 f32 f31 f30 f29 f28 f27 f26 f25 f24 f23 f22 f21 f20 f19 f18 f17 f16 f15 f14 f13 f12 f11 f10 f9 f8 f7 f6 f5 f4 f3 f2 f1 f0
theorem q_107w_12 {q0 : Nat} {n0 n1 n2 n3 n4 n5 n6 n7 n8 n9 n10 n11 n12 n13 n14 n15 n16 n17 n18 n19 : Int} {H0 H1 H2 H3 H4 H5 H6 H7 H8 : gH} (f0 : n0 ≤ 2147483647) (f1 : (-2147483648) ≤ n0) (f2 : 0 ≤ n1) (f3 : 0 ≤ n2) (f4 : (hLe T0 H0 H1 ∧ hFr s_107.2.2.2.2 H0 H1 ∧ hWt T0 H1) ∧ ((True ∧ Bb_107_2 n2 n1 n0 H0 H1) ∧ True) ∧ some q0 = some (mub_107_2 n2 n1 n0 H0 H1)) (f5 : n3 ≤ 2147483647) (f6 : (-2147483648) ≤ n3) (f7 : hK H1 (n1).toNat = 5) (f8 : n3 = hV H1 (n1).toNat 0) (f9 : n0 < n3) (f10 : 0 ≤ n4) (f11 : hK H1 (n1).toNat = 5) (f12 : n4 = hV H1 (n1).toNat 7) (f13 : n5 ≤ 2147483647) (f14 : (-2147483648) ≤ n5) (f15 : (hLe T0 H1 H2 ∧ hFr s_199vk100.2.2.2.2 H1 H2 ∧ ((0 : Int) = 0 → H2.length = H1.length) ∧ hWt T0 H2) ∧ postb_199vk100 n5 n4 n0 H1 H2) (f16 : n5 = 0) (f17 : n6 = 0) (f18 : hK H2 (n1).toNat = 5) (f19 : n7 = 11) (f20 : hUpd H3 H2 n1 n7 n6) (f21 : 0 ≤ n8) (f22 : hK H3 (n1).toNat = 5) (f23 : n8 = hV H3 (n1).toNat 3) (f24 : n9 ≤ 2147483647) (f25 : (-2147483648) ≤ n9) (f26 : (hLe T0 H3 H4 ∧ hFr s_199vk100.2.2.2.2 H3 H4 ∧ ((0 : Int) = 0 → H4.length = H3.length) ∧ hWt T0 H4) ∧ postb_199vk100 n9 n8 n0 H3 H4) (f27 : 0 ≤ n10) (f28 : hK H4 (n1).toNat = 5) (f29 : n10 = hV H4 (n1).toNat 4) (f30 : n11 ≤ 2147483647) (f31 : (-2147483648) ≤ n11) (f32 : (hLe T0 H4 H5 ∧ hFr s_199vk100.2.2.2.2 H4 H5 ∧ ((0 : Int) = 0 → H5.length = H4.length) ∧ hWt T0 H5) ∧ postb_199vk100 n11 n10 n0 H4 H5) (f33 : n12 ≤ 2147483647) (f34 : (-2147483648) ≤ n12) (f35 : (hLe T0 H5 H6 ∧ hFr s_108.2.2.2.2 H5 H6 ∧ ((0 : Int) = 0 → H6.length = H5.length) ∧ hWt T0 H6) ∧ (True ∧ nb_108 n12 n1 n9 n11 H5 H6)) (f36 : 0 ≤ n13) (f37 : hK H6 (n1).toNat = 5) (f38 : n13 = hV H6 (n1).toNat 4) (f39 : n14 ≤ 2147483647) (f40 : (-2147483648) ≤ n14) (f41 : (hLe T0 H6 H7 ∧ hFr s_199vk100.2.2.2.2 H6 H7 ∧ ((0 : Int) = 0 → H7.length = H6.length) ∧ hWt T0 H7) ∧ postb_199vk100 n14 n13 n0 H6 H7) (f42 : 0 ≤ n15) (f43 : hK H7 (n1).toNat = 5) (f44 : n15 = hV H7 (n1).toNat 5) (f45 : n16 ≤ 2147483647) (f46 : (-2147483648) ≤ n16) (f47 : (hLe T0 H7 H8 ∧ hFr s_199vk100.2.2.2.2 H7 H8 ∧ ((0 : Int) = 0 → H8.length = H7.length) ∧ hWt T0 H8) ∧ postb_199vk100 n16 n15 n0 H7 H8) (f48 : n14 = n16) (f49 : n17 = 1) (f50 : n17 ≠ 0) (f51 : n18 = 1) (f52 : n18 = 0) (f53 : n19 = w32 (n0 + 1)) : Bb_107_2 n2 n1 n19 H0 H8 := by
  have gb := f4.2.1.1.2
  unfold Bb_107_2 at gb
  obtain ⟨e0, z0⟩ := gb
  unfold Bb_107_2
  subst e0
  have a15 := f15.2
  unfold postb_199vk100 at a15
  have a26 := f26.2
  unfold postb_199vk100 at a26
  have a32 := f32.2
  unfold postb_199vk100 at a32
  have a41 := f41.2
  unfold postb_199vk100 at a41
  have a47 := f47.2
  unfold postb_199vk100 at a47
  have k35 := f35.2.2
  unfold nb_108 at k35
  exfalso
  omega
def g_107w_2_11 : vG := ([(10, [19, 2], [], 1), (30, [18], [], 0), (0, [18], [], 1), (31, [17], [], 0), (0, [17], [], 1), (40, [14, 16], [], 0), (1199, [16, 15, 2], [7, 8], 0), (90, [16], [], -2147483648), (91, [16], [], 2147483647), (20, [15, 1], [7], 5), (23, [1], [7], 5), (51, [15], [], 0), (1199, [14, 13, 2], [6, 7], 0), (90, [14], [], -2147483648), (91, [14], [], 2147483647), (20, [13, 1], [6], 4), (23, [1], [6], 5), (51, [13], [], 0), (1108, [12, 1, 9, 11], [5, 6], 0), (90, [12], [], -2147483648), (91, [12], [], 2147483647), (1199, [11, 10, 2], [4, 5], 0), (90, [11], [], -2147483648), (91, [11], [], 2147483647), (20, [10, 1], [4], 4), (23, [1], [4], 5), (51, [10], [], 0), (1199, [9, 8, 2], [3, 4], 0), (90, [9], [], -2147483648), (91, [9], [], 2147483647), (20, [8, 1], [3], 3), (23, [1], [3], 5), (51, [8], [], 0), (80, [1, 7, 6], [3, 2], 0), (0, [7], [], 11), (23, [1], [2], 5), (0, [6], [], 0), (30, [5], [], 0), (1199, [5, 4, 2], [1, 2], 0), (90, [5], [], -2147483648), (91, [5], [], 2147483647), (20, [4, 1], [1], 7), (23, [1], [1], 5), (51, [4], [], 0), (42, [2, 3], [], 0), (20, [3, 1], [1], 0), (23, [1], [1], 5), (90, [3], [], -2147483648), (91, [3], [], 2147483647), (5000, [0, 1, 2], [0, 1], 2), (51, [0], [], 0), (51, [1], [], 0), (90, [2], [], -2147483648), (91, [2], [], 2147483647)], (4000, [1, 19], [8], 2))
theorem c_107w_2_11 {q0 : Nat} : vOkm T0 (eN e_107 L_107w A_107 mu_107 n_107 B_107 (some q0)) 1 g_107w_2_11 := vOk_inI fun ρ η f0 f1 f2 f3 f4 f5 f6 f7 f8 f9 f10 f11 f12 f13 f14 f15 f16 f17 f18 f19 f20 f21 f22 f23 f24 f25 f26 f27 f28 f29 f30 f31 f32 f33 f34 f35 f36 f37 f38 f39 f40 f41 f42 f43 f44 f45 f46 f47 f48 f49 f50 f51 f52 f53 => q_107w_12 (q0 := q0) (n0 := ρ 2) (n1 := ρ 1) (n2 := ρ 0) (n3 := ρ 3) (n4 := ρ 4) (n5 := ρ 5) (n6 := ρ 6) (n7 := ρ 7) (n8 := ρ 8) (n9 := ρ 9) (n10 := ρ 10) (n11 := ρ 11) (n12 := ρ 12) (n13 := ρ 13) (n14 := ρ 14) (n15 := ρ 15) (n16 := ρ 16) (n17 := ρ 17) (n18 := ρ 18) (n19 := ρ 19) (H0 := η 0) (H1 := η 1) (H2 := η 2) (H3 := η 3) (H4 := η 4) (H5 := η 5) (H6 := η 6) (H7 := η 7) (H8 := η 8) f53 f52 f51 f50 f49 f48 f47 f46 f45 f44 f43 f42 f41 f40 f39 f38 f37 f36 f35 f34 f33 f32 f31 f30 f29 f28 f27 f26 f25 f24 f23 f22 f21 f20 f19 f18 f17 f16 f15 f14 f13 f12 f11 f10 f9 f8 f7 f6 f5 f4 f3 f2 f1 f0
theorem q_107w_13 {q0 : Nat} {n0 n1 n2 n3 n4 n5 n6 n7 n8 n9 n10 n11 n12 n13 n14 n15 n16 n17 n18 n19 n20 : Int} {H0 H1 H2 H3 H4 H5 H6 H7 H8 : gH} (f0 : n0 ≤ 2147483647) (f1 : (-2147483648) ≤ n0) (f2 : 0 ≤ n1) (f3 : 0 ≤ n2) (f4 : (hLe T0 H0 H1 ∧ hFr s_107.2.2.2.2 H0 H1 ∧ hWt T0 H1) ∧ ((True ∧ Bb_107_2 n2 n1 n0 H0 H1) ∧ True) ∧ some q0 = some (mub_107_2 n2 n1 n0 H0 H1)) (f5 : n3 ≤ 2147483647) (f6 : (-2147483648) ≤ n3) (f7 : hK H1 (n1).toNat = 5) (f8 : n3 = hV H1 (n1).toNat 0) (f9 : n0 < n3) (f10 : 0 ≤ n4) (f11 : hK H1 (n1).toNat = 5) (f12 : n4 = hV H1 (n1).toNat 7) (f13 : n5 ≤ 2147483647) (f14 : (-2147483648) ≤ n5) (f15 : (hLe T0 H1 H2 ∧ hFr s_199vk100.2.2.2.2 H1 H2 ∧ ((0 : Int) = 0 → H2.length = H1.length) ∧ hWt T0 H2) ∧ postb_199vk100 n5 n4 n0 H1 H2) (f16 : n5 = 0) (f17 : n6 = 0) (f18 : hK H2 (n1).toNat = 5) (f19 : n7 = 11) (f20 : hUpd H3 H2 n1 n7 n6) (f21 : 0 ≤ n8) (f22 : hK H3 (n1).toNat = 5) (f23 : n8 = hV H3 (n1).toNat 3) (f24 : n9 ≤ 2147483647) (f25 : (-2147483648) ≤ n9) (f26 : (hLe T0 H3 H4 ∧ hFr s_199vk100.2.2.2.2 H3 H4 ∧ ((0 : Int) = 0 → H4.length = H3.length) ∧ hWt T0 H4) ∧ postb_199vk100 n9 n8 n0 H3 H4) (f27 : 0 ≤ n10) (f28 : hK H4 (n1).toNat = 5) (f29 : n10 = hV H4 (n1).toNat 4) (f30 : n11 ≤ 2147483647) (f31 : (-2147483648) ≤ n11) (f32 : (hLe T0 H4 H5 ∧ hFr s_199vk100.2.2.2.2 H4 H5 ∧ ((0 : Int) = 0 → H5.length = H4.length) ∧ hWt T0 H5) ∧ postb_199vk100 n11 n10 n0 H4 H5) (f33 : n12 ≤ 2147483647) (f34 : (-2147483648) ≤ n12) (f35 : (hLe T0 H5 H6 ∧ hFr s_108.2.2.2.2 H5 H6 ∧ ((0 : Int) = 0 → H6.length = H5.length) ∧ hWt T0 H6) ∧ (True ∧ nb_108 n12 n1 n9 n11 H5 H6)) (f36 : 0 ≤ n13) (f37 : hK H6 (n1).toNat = 5) (f38 : n13 = hV H6 (n1).toNat 4) (f39 : n14 ≤ 2147483647) (f40 : (-2147483648) ≤ n14) (f41 : (hLe T0 H6 H7 ∧ hFr s_199vk100.2.2.2.2 H6 H7 ∧ ((0 : Int) = 0 → H7.length = H6.length) ∧ hWt T0 H7) ∧ postb_199vk100 n14 n13 n0 H6 H7) (f42 : 0 ≤ n15) (f43 : hK H7 (n1).toNat = 5) (f44 : n15 = hV H7 (n1).toNat 5) (f45 : n16 ≤ 2147483647) (f46 : (-2147483648) ≤ n16) (f47 : (hLe T0 H7 H8 ∧ hFr s_199vk100.2.2.2.2 H7 H8 ∧ ((0 : Int) = 0 → H8.length = H7.length) ∧ hWt T0 H8) ∧ postb_199vk100 n16 n15 n0 H7 H8) (f48 : n14 = n16) (f49 : n17 = 1) (f50 : n17 ≠ 0) (f51 : n18 = 1) (f52 : n18 ≠ 0) (f53 : n19 ≤ 1) (f54 : 0 ≤ n19) (f55 : hK H8 (n1).toNat = 5) (f56 : n19 = hV H8 (n1).toNat 11) (f57 : n19 ≠ 0) (f58 : n20 = w32 (n0 + 1)) : Bb_107_2 n2 n1 n20 H0 H8 := by
  have gb := f4.2.1.1.2
  unfold Bb_107_2 at gb
  obtain ⟨e0, z0⟩ := gb
  unfold Bb_107_2
  subst e0
  have a15 := f15.2
  unfold postb_199vk100 at a15
  have a26 := f26.2
  unfold postb_199vk100 at a26
  have a32 := f32.2
  unfold postb_199vk100 at a32
  have a41 := f41.2
  unfold postb_199vk100 at a41
  have a47 := f47.2
  unfold postb_199vk100 at a47
  have k35 := f35.2.2
  unfold nb_108 at k35
  have go := FR_go z0 f8 (by omega) f12 a15 (SMf_fr f15.1.1 f15.1.2.1 (by decide +kernel) (by decide +kernel)) (by omega) f20 f19 f17 f23 a26 (SMf_fr f26.1.1 f26.1.2.1 (by decide +kernel) (by decide +kernel)) f29 a32 (SMf_fr f32.1.1 f32.1.2.1 (by decide +kernel) (by decide +kernel)) k35 f38 a41 (SMf_fr f41.1.1 f41.1.2.1 (by decide +kernel) (by decide +kernel)) f44 a47 (SMf_fr f47.1.1 f47.1.2.1 (by decide +kernel) (by decide +kernel))
  have gc := FR_bare (y := 1) go (by omega) rfl
  exact ⟨rfl, FR_no gc (.inr ⟨f56, by omega⟩) f58⟩
def g_107w_2_12 : vG := ([(10, [20, 2], [], 1), (31, [19], [], 0), (20, [19, 1], [8], 11), (23, [1], [8], 5), (90, [19], [], 0), (91, [19], [], 1), (31, [18], [], 0), (0, [18], [], 1), (31, [17], [], 0), (0, [17], [], 1), (40, [14, 16], [], 0), (1199, [16, 15, 2], [7, 8], 0), (90, [16], [], -2147483648), (91, [16], [], 2147483647), (20, [15, 1], [7], 5), (23, [1], [7], 5), (51, [15], [], 0), (1199, [14, 13, 2], [6, 7], 0), (90, [14], [], -2147483648), (91, [14], [], 2147483647), (20, [13, 1], [6], 4), (23, [1], [6], 5), (51, [13], [], 0), (1108, [12, 1, 9, 11], [5, 6], 0), (90, [12], [], -2147483648), (91, [12], [], 2147483647), (1199, [11, 10, 2], [4, 5], 0), (90, [11], [], -2147483648), (91, [11], [], 2147483647), (20, [10, 1], [4], 4), (23, [1], [4], 5), (51, [10], [], 0), (1199, [9, 8, 2], [3, 4], 0), (90, [9], [], -2147483648), (91, [9], [], 2147483647), (20, [8, 1], [3], 3), (23, [1], [3], 5), (51, [8], [], 0), (80, [1, 7, 6], [3, 2], 0), (0, [7], [], 11), (23, [1], [2], 5), (0, [6], [], 0), (30, [5], [], 0), (1199, [5, 4, 2], [1, 2], 0), (90, [5], [], -2147483648), (91, [5], [], 2147483647), (20, [4, 1], [1], 7), (23, [1], [1], 5), (51, [4], [], 0), (42, [2, 3], [], 0), (20, [3, 1], [1], 0), (23, [1], [1], 5), (90, [3], [], -2147483648), (91, [3], [], 2147483647), (5000, [0, 1, 2], [0, 1], 2), (51, [0], [], 0), (51, [1], [], 0), (90, [2], [], -2147483648), (91, [2], [], 2147483647)], (4000, [1, 20], [8], 2))
theorem c_107w_2_12 {q0 : Nat} : vOkm T0 (eN e_107 L_107w A_107 mu_107 n_107 B_107 (some q0)) 1 g_107w_2_12 := vOk_inI fun ρ η f0 f1 f2 f3 f4 f5 f6 f7 f8 f9 f10 f11 f12 f13 f14 f15 f16 f17 f18 f19 f20 f21 f22 f23 f24 f25 f26 f27 f28 f29 f30 f31 f32 f33 f34 f35 f36 f37 f38 f39 f40 f41 f42 f43 f44 f45 f46 f47 f48 f49 f50 f51 f52 f53 f54 f55 f56 f57 f58 => q_107w_13 (q0 := q0) (n0 := ρ 2) (n1 := ρ 1) (n2 := ρ 0) (n3 := ρ 3) (n4 := ρ 4) (n5 := ρ 5) (n6 := ρ 6) (n7 := ρ 7) (n8 := ρ 8) (n9 := ρ 9) (n10 := ρ 10) (n11 := ρ 11) (n12 := ρ 12) (n13 := ρ 13) (n14 := ρ 14) (n15 := ρ 15) (n16 := ρ 16) (n17 := ρ 17) (n18 := ρ 18) (n19 := ρ 19) (n20 := ρ 20) (H0 := η 0) (H1 := η 1) (H2 := η 2) (H3 := η 3) (H4 := η 4) (H5 := η 5) (H6 := η 6) (H7 := η 7) (H8 := η 8) f58 f57 f56 f55 f54 f53 f52 f51 f50 f49 f48 f47 f46 f45 f44 f43 f42 f41 f40 f39 f38 f37 f36 f35 f34 f33 f32 f31 f30 f29 f28 f27 f26 f25 f24 f23 f22 f21 f20 f19 f18 f17 f16 f15 f14 f13 f12 f11 f10 f9 f8 f7 f6 f5 f4 f3 f2 f1 f0
theorem q_107w_14 {q0 : Nat} {n0 n1 n2 n3 n4 n5 n6 n7 n8 n9 n10 n11 n12 n13 n14 n15 n16 n17 n18 n19 : Int} {H0 H1 H2 H3 H4 H5 H6 H7 H8 : gH} (f0 : n0 ≤ 2147483647) (f1 : (-2147483648) ≤ n0) (f2 : 0 ≤ n1) (f3 : 0 ≤ n2) (f4 : (hLe T0 H0 H1 ∧ hFr s_107.2.2.2.2 H0 H1 ∧ hWt T0 H1) ∧ ((True ∧ Bb_107_2 n2 n1 n0 H0 H1) ∧ True) ∧ some q0 = some (mub_107_2 n2 n1 n0 H0 H1)) (f5 : n3 ≤ 2147483647) (f6 : (-2147483648) ≤ n3) (f7 : hK H1 (n1).toNat = 5) (f8 : n3 = hV H1 (n1).toNat 0) (f9 : n0 < n3) (f10 : 0 ≤ n4) (f11 : hK H1 (n1).toNat = 5) (f12 : n4 = hV H1 (n1).toNat 7) (f13 : n5 ≤ 2147483647) (f14 : (-2147483648) ≤ n5) (f15 : (hLe T0 H1 H2 ∧ hFr s_199vk100.2.2.2.2 H1 H2 ∧ ((0 : Int) = 0 → H2.length = H1.length) ∧ hWt T0 H2) ∧ postb_199vk100 n5 n4 n0 H1 H2) (f16 : n5 = 0) (f17 : n6 = 0) (f18 : hK H2 (n1).toNat = 5) (f19 : n7 = 11) (f20 : hUpd H3 H2 n1 n7 n6) (f21 : 0 ≤ n8) (f22 : hK H3 (n1).toNat = 5) (f23 : n8 = hV H3 (n1).toNat 3) (f24 : n9 ≤ 2147483647) (f25 : (-2147483648) ≤ n9) (f26 : (hLe T0 H3 H4 ∧ hFr s_199vk100.2.2.2.2 H3 H4 ∧ ((0 : Int) = 0 → H4.length = H3.length) ∧ hWt T0 H4) ∧ postb_199vk100 n9 n8 n0 H3 H4) (f27 : 0 ≤ n10) (f28 : hK H4 (n1).toNat = 5) (f29 : n10 = hV H4 (n1).toNat 4) (f30 : n11 ≤ 2147483647) (f31 : (-2147483648) ≤ n11) (f32 : (hLe T0 H4 H5 ∧ hFr s_199vk100.2.2.2.2 H4 H5 ∧ ((0 : Int) = 0 → H5.length = H4.length) ∧ hWt T0 H5) ∧ postb_199vk100 n11 n10 n0 H4 H5) (f33 : n12 ≤ 2147483647) (f34 : (-2147483648) ≤ n12) (f35 : (hLe T0 H5 H6 ∧ hFr s_108.2.2.2.2 H5 H6 ∧ ((0 : Int) = 0 → H6.length = H5.length) ∧ hWt T0 H6) ∧ (True ∧ nb_108 n12 n1 n9 n11 H5 H6)) (f36 : 0 ≤ n13) (f37 : hK H6 (n1).toNat = 5) (f38 : n13 = hV H6 (n1).toNat 4) (f39 : n14 ≤ 2147483647) (f40 : (-2147483648) ≤ n14) (f41 : (hLe T0 H6 H7 ∧ hFr s_199vk100.2.2.2.2 H6 H7 ∧ ((0 : Int) = 0 → H7.length = H6.length) ∧ hWt T0 H7) ∧ postb_199vk100 n14 n13 n0 H6 H7) (f42 : 0 ≤ n15) (f43 : hK H7 (n1).toNat = 5) (f44 : n15 = hV H7 (n1).toNat 5) (f45 : n16 ≤ 2147483647) (f46 : (-2147483648) ≤ n16) (f47 : (hLe T0 H7 H8 ∧ hFr s_199vk100.2.2.2.2 H7 H8 ∧ ((0 : Int) = 0 → H8.length = H7.length) ∧ hWt T0 H8) ∧ postb_199vk100 n16 n15 n0 H7 H8) (f48 : n14 = n16) (f49 : n17 = 1) (f50 : n17 ≠ 0) (f51 : n18 = 1) (f52 : n18 ≠ 0) (f53 : n19 ≤ 1) (f54 : 0 ≤ n19) (f55 : hK H8 (n1).toNat = 5) (f56 : n19 = hV H8 (n1).toNat 11) (f57 : n19 = 0) : nb_107 n12 n2 H0 H8 := by
  have gb := f4.2.1.1.2
  unfold Bb_107_2 at gb
  obtain ⟨e0, z0⟩ := gb
  unfold nb_107
  subst e0
  have a15 := f15.2
  unfold postb_199vk100 at a15
  have a26 := f26.2
  unfold postb_199vk100 at a26
  have a32 := f32.2
  unfold postb_199vk100 at a32
  have a41 := f41.2
  unfold postb_199vk100 at a41
  have a47 := f47.2
  unfold postb_199vk100 at a47
  have k35 := f35.2.2
  unfold nb_108 at k35
  have go := FR_go z0 f8 (by omega) f12 a15 (SMf_fr f15.1.1 f15.1.2.1 (by decide +kernel) (by decide +kernel)) (by omega) f20 f19 f17 f23 a26 (SMf_fr f26.1.1 f26.1.2.1 (by decide +kernel) (by decide +kernel)) f29 a32 (SMf_fr f32.1.1 f32.1.2.1 (by decide +kernel) (by decide +kernel)) k35 f38 a41 (SMf_fr f41.1.1 f41.1.2.1 (by decide +kernel) (by decide +kernel)) f44 a47 (SMf_fr f47.1.1 f47.1.2.1 (by decide +kernel) (by decide +kernel))
  have gc := FR_bare (y := 1) go (by omega) rfl
  exact FR_ret gc (by omega) f56 (by omega)
def g_107w_2_13 : vG := ([(30, [19], [], 0), (20, [19, 1], [8], 11), (23, [1], [8], 5), (90, [19], [], 0), (91, [19], [], 1), (31, [18], [], 0), (0, [18], [], 1), (31, [17], [], 0), (0, [17], [], 1), (40, [14, 16], [], 0), (1199, [16, 15, 2], [7, 8], 0), (90, [16], [], -2147483648), (91, [16], [], 2147483647), (20, [15, 1], [7], 5), (23, [1], [7], 5), (51, [15], [], 0), (1199, [14, 13, 2], [6, 7], 0), (90, [14], [], -2147483648), (91, [14], [], 2147483647), (20, [13, 1], [6], 4), (23, [1], [6], 5), (51, [13], [], 0), (1108, [12, 1, 9, 11], [5, 6], 0), (90, [12], [], -2147483648), (91, [12], [], 2147483647), (1199, [11, 10, 2], [4, 5], 0), (90, [11], [], -2147483648), (91, [11], [], 2147483647), (20, [10, 1], [4], 4), (23, [1], [4], 5), (51, [10], [], 0), (1199, [9, 8, 2], [3, 4], 0), (90, [9], [], -2147483648), (91, [9], [], 2147483647), (20, [8, 1], [3], 3), (23, [1], [3], 5), (51, [8], [], 0), (80, [1, 7, 6], [3, 2], 0), (0, [7], [], 11), (23, [1], [2], 5), (0, [6], [], 0), (30, [5], [], 0), (1199, [5, 4, 2], [1, 2], 0), (90, [5], [], -2147483648), (91, [5], [], 2147483647), (20, [4, 1], [1], 7), (23, [1], [1], 5), (51, [4], [], 0), (42, [2, 3], [], 0), (20, [3, 1], [1], 0), (23, [1], [1], 5), (90, [3], [], -2147483648), (91, [3], [], 2147483647), (5000, [0, 1, 2], [0, 1], 2), (51, [0], [], 0), (51, [1], [], 0), (90, [2], [], -2147483648), (91, [2], [], 2147483647)], (3000, [12], [8], 119))
theorem c_107w_2_13 {q0 : Nat} : vOkm T0 (eN e_107 L_107w A_107 mu_107 n_107 B_107 (some q0)) 1 g_107w_2_13 := vOk_inI fun ρ η f0 f1 f2 f3 f4 f5 f6 f7 f8 f9 f10 f11 f12 f13 f14 f15 f16 f17 f18 f19 f20 f21 f22 f23 f24 f25 f26 f27 f28 f29 f30 f31 f32 f33 f34 f35 f36 f37 f38 f39 f40 f41 f42 f43 f44 f45 f46 f47 f48 f49 f50 f51 f52 f53 f54 f55 f56 f57 => q_107w_14 (q0 := q0) (n0 := ρ 2) (n1 := ρ 1) (n2 := ρ 0) (n3 := ρ 3) (n4 := ρ 4) (n5 := ρ 5) (n6 := ρ 6) (n7 := ρ 7) (n8 := ρ 8) (n9 := ρ 9) (n10 := ρ 10) (n11 := ρ 11) (n12 := ρ 12) (n13 := ρ 13) (n14 := ρ 14) (n15 := ρ 15) (n16 := ρ 16) (n17 := ρ 17) (n18 := ρ 18) (n19 := ρ 19) (H0 := η 0) (H1 := η 1) (H2 := η 2) (H3 := η 3) (H4 := η 4) (H5 := η 5) (H6 := η 6) (H7 := η 7) (H8 := η 8) f57 f56 f55 f54 f53 f52 f51 f50 f49 f48 f47 f46 f45 f44 f43 f42 f41 f40 f39 f38 f37 f36 f35 f34 f33 f32 f31 f30 f29 f28 f27 f26 f25 f24 f23 f22 f21 f20 f19 f18 f17 f16 f15 f14 f13 f12 f11 f10 f9 f8 f7 f6 f5 f4 f3 f2 f1 f0
theorem q_107w_15 {q0 : Nat} {n0 n1 n2 n3 n4 n5 n6 n7 n8 n9 n10 n11 n12 n13 n14 n15 n16 n17 n18 n19 n20 n21 n22 n23 n24 : Int} {H0 H1 H2 H3 H4 H5 H6 H7 H8 H9 H10 H11 : gH} (f0 : n0 ≤ 2147483647) (f1 : (-2147483648) ≤ n0) (f2 : 0 ≤ n1) (f3 : 0 ≤ n2) (f4 : (hLe T0 H0 H1 ∧ hFr s_107.2.2.2.2 H0 H1 ∧ hWt T0 H1) ∧ ((True ∧ Bb_107_2 n2 n1 n0 H0 H1) ∧ True) ∧ some q0 = some (mub_107_2 n2 n1 n0 H0 H1)) (f5 : n3 ≤ 2147483647) (f6 : (-2147483648) ≤ n3) (f7 : hK H1 (n1).toNat = 5) (f8 : n3 = hV H1 (n1).toNat 0) (f9 : n0 < n3) (f10 : 0 ≤ n4) (f11 : hK H1 (n1).toNat = 5) (f12 : n4 = hV H1 (n1).toNat 7) (f13 : n5 ≤ 2147483647) (f14 : (-2147483648) ≤ n5) (f15 : (hLe T0 H1 H2 ∧ hFr s_199vk100.2.2.2.2 H1 H2 ∧ ((0 : Int) = 0 → H2.length = H1.length) ∧ hWt T0 H2) ∧ postb_199vk100 n5 n4 n0 H1 H2) (f16 : n5 = 0) (f17 : n6 = 0) (f18 : hK H2 (n1).toNat = 5) (f19 : n7 = 11) (f20 : hUpd H3 H2 n1 n7 n6) (f21 : 0 ≤ n8) (f22 : hK H3 (n1).toNat = 5) (f23 : n8 = hV H3 (n1).toNat 3) (f24 : n9 ≤ 2147483647) (f25 : (-2147483648) ≤ n9) (f26 : (hLe T0 H3 H4 ∧ hFr s_199vk100.2.2.2.2 H3 H4 ∧ ((0 : Int) = 0 → H4.length = H3.length) ∧ hWt T0 H4) ∧ postb_199vk100 n9 n8 n0 H3 H4) (f27 : 0 ≤ n10) (f28 : hK H4 (n1).toNat = 5) (f29 : n10 = hV H4 (n1).toNat 4) (f30 : n11 ≤ 2147483647) (f31 : (-2147483648) ≤ n11) (f32 : (hLe T0 H4 H5 ∧ hFr s_199vk100.2.2.2.2 H4 H5 ∧ ((0 : Int) = 0 → H5.length = H4.length) ∧ hWt T0 H5) ∧ postb_199vk100 n11 n10 n0 H4 H5) (f33 : n12 ≤ 2147483647) (f34 : (-2147483648) ≤ n12) (f35 : (hLe T0 H5 H6 ∧ hFr s_108.2.2.2.2 H5 H6 ∧ ((0 : Int) = 0 → H6.length = H5.length) ∧ hWt T0 H6) ∧ (True ∧ nb_108 n12 n1 n9 n11 H5 H6)) (f36 : 0 ≤ n13) (f37 : hK H6 (n1).toNat = 5) (f38 : n13 = hV H6 (n1).toNat 4) (f39 : n14 ≤ 2147483647) (f40 : (-2147483648) ≤ n14) (f41 : (hLe T0 H6 H7 ∧ hFr s_199vk100.2.2.2.2 H6 H7 ∧ ((0 : Int) = 0 → H7.length = H6.length) ∧ hWt T0 H7) ∧ postb_199vk100 n14 n13 n0 H6 H7) (f42 : 0 ≤ n15) (f43 : hK H7 (n1).toNat = 5) (f44 : n15 = hV H7 (n1).toNat 5) (f45 : n16 ≤ 2147483647) (f46 : (-2147483648) ≤ n16) (f47 : (hLe T0 H7 H8 ∧ hFr s_199vk100.2.2.2.2 H7 H8 ∧ ((0 : Int) = 0 → H8.length = H7.length) ∧ hWt T0 H8) ∧ postb_199vk100 n16 n15 n0 H7 H8) (f48 : n14 = n16) (f49 : n17 = 1) (f50 : n17 = 0) (f51 : 0 ≤ n18) (f52 : hK H8 (n1).toNat = 5) (f53 : n18 = hV H8 (n1).toNat 4) (f54 : n19 ≤ 2147483647) (f55 : (-2147483648) ≤ n19) (f56 : (hLe T0 H8 H9 ∧ hFr s_199vk100.2.2.2.2 H8 H9 ∧ ((0 : Int) = 0 → H9.length = H8.length) ∧ hWt T0 H9) ∧ postb_199vk100 n19 n18 n0 H8 H9) (f57 : 0 ≤ n20) (f58 : hK H9 (n1).toNat = 5) (f59 : n20 = hV H9 (n1).toNat 5) (f60 : n21 ≤ 2147483647) (f61 : (-2147483648) ≤ n21) (f62 : (hLe T0 H9 H10 ∧ hFr s_199vk100.2.2.2.2 H9 H10 ∧ ((0 : Int) = 0 → H10.length = H9.length) ∧ hWt T0 H10) ∧ postb_199vk100 n21 n20 n0 H9 H10) (f63 : n22 ≤ 2147483647) (f64 : (-2147483648) ≤ n22) (f65 : (hLe T0 H10 H11 ∧ hFr s_108.2.2.2.2 H10 H11 ∧ ((0 : Int) = 0 → H11.length = H10.length) ∧ hWt T0 H11) ∧ (True ∧ nb_108 n22 n1 n19 n21 H10 H11)) (f66 : n22 = 0) (f67 : n23 = 0) (f68 : n23 = 0) (f69 : n24 = w32 (n0 + 1)) : Bb_107_2 n2 n1 n24 H0 H11 := by
  have gb := f4.2.1.1.2
  unfold Bb_107_2 at gb
  obtain ⟨e0, z0⟩ := gb
  unfold Bb_107_2
  subst e0
  have a15 := f15.2
  unfold postb_199vk100 at a15
  have a26 := f26.2
  unfold postb_199vk100 at a26
  have a32 := f32.2
  unfold postb_199vk100 at a32
  have a41 := f41.2
  unfold postb_199vk100 at a41
  have a47 := f47.2
  unfold postb_199vk100 at a47
  have a56 := f56.2
  unfold postb_199vk100 at a56
  have a62 := f62.2
  unfold postb_199vk100 at a62
  have k35 := f35.2.2
  unfold nb_108 at k35
  have k65 := f65.2.2
  unfold nb_108 at k65
  exfalso
  omega
def g_107w_2_14 : vG := ([(10, [24, 2], [], 1), (30, [23], [], 0), (0, [23], [], 0), (30, [22], [], 0), (1108, [22, 1, 19, 21], [10, 11], 0), (90, [22], [], -2147483648), (91, [22], [], 2147483647), (1199, [21, 20, 2], [9, 10], 0), (90, [21], [], -2147483648), (91, [21], [], 2147483647), (20, [20, 1], [9], 5), (23, [1], [9], 5), (51, [20], [], 0), (1199, [19, 18, 2], [8, 9], 0), (90, [19], [], -2147483648), (91, [19], [], 2147483647), (20, [18, 1], [8], 4), (23, [1], [8], 5), (51, [18], [], 0), (30, [17], [], 0), (0, [17], [], 1), (40, [14, 16], [], 0), (1199, [16, 15, 2], [7, 8], 0), (90, [16], [], -2147483648), (91, [16], [], 2147483647), (20, [15, 1], [7], 5), (23, [1], [7], 5), (51, [15], [], 0), (1199, [14, 13, 2], [6, 7], 0), (90, [14], [], -2147483648), (91, [14], [], 2147483647), (20, [13, 1], [6], 4), (23, [1], [6], 5), (51, [13], [], 0), (1108, [12, 1, 9, 11], [5, 6], 0), (90, [12], [], -2147483648), (91, [12], [], 2147483647), (1199, [11, 10, 2], [4, 5], 0), (90, [11], [], -2147483648), (91, [11], [], 2147483647), (20, [10, 1], [4], 4), (23, [1], [4], 5), (51, [10], [], 0), (1199, [9, 8, 2], [3, 4], 0), (90, [9], [], -2147483648), (91, [9], [], 2147483647), (20, [8, 1], [3], 3), (23, [1], [3], 5), (51, [8], [], 0), (80, [1, 7, 6], [3, 2], 0), (0, [7], [], 11), (23, [1], [2], 5), (0, [6], [], 0), (30, [5], [], 0), (1199, [5, 4, 2], [1, 2], 0), (90, [5], [], -2147483648), (91, [5], [], 2147483647), (20, [4, 1], [1], 7), (23, [1], [1], 5), (51, [4], [], 0), (42, [2, 3], [], 0), (20, [3, 1], [1], 0), (23, [1], [1], 5), (90, [3], [], -2147483648), (91, [3], [], 2147483647), (5000, [0, 1, 2], [0, 1], 2), (51, [0], [], 0), (51, [1], [], 0), (90, [2], [], -2147483648), (91, [2], [], 2147483647)], (4000, [1, 24], [11], 2))
theorem c_107w_2_14 {q0 : Nat} : vOkm T0 (eN e_107 L_107w A_107 mu_107 n_107 B_107 (some q0)) 1 g_107w_2_14 := vOk_inI fun ρ η f0 f1 f2 f3 f4 f5 f6 f7 f8 f9 f10 f11 f12 f13 f14 f15 f16 f17 f18 f19 f20 f21 f22 f23 f24 f25 f26 f27 f28 f29 f30 f31 f32 f33 f34 f35 f36 f37 f38 f39 f40 f41 f42 f43 f44 f45 f46 f47 f48 f49 f50 f51 f52 f53 f54 f55 f56 f57 f58 f59 f60 f61 f62 f63 f64 f65 f66 f67 f68 f69 => q_107w_15 (q0 := q0) (n0 := ρ 2) (n1 := ρ 1) (n2 := ρ 0) (n3 := ρ 3) (n4 := ρ 4) (n5 := ρ 5) (n6 := ρ 6) (n7 := ρ 7) (n8 := ρ 8) (n9 := ρ 9) (n10 := ρ 10) (n11 := ρ 11) (n12 := ρ 12) (n13 := ρ 13) (n14 := ρ 14) (n15 := ρ 15) (n16 := ρ 16) (n17 := ρ 17) (n18 := ρ 18) (n19 := ρ 19) (n20 := ρ 20) (n21 := ρ 21) (n22 := ρ 22) (n23 := ρ 23) (n24 := ρ 24) (H0 := η 0) (H1 := η 1) (H2 := η 2) (H3 := η 3) (H4 := η 4) (H5 := η 5) (H6 := η 6) (H7 := η 7) (H8 := η 8) (H9 := η 9) (H10 := η 10) (H11 := η 11) f69 f68 f67 f66 f65 f64 f63 f62 f61 f60 f59 f58 f57 f56 f55 f54 f53 f52 f51 f50 f49 f48 f47 f46 f45 f44 f43 f42 f41 f40 f39 f38 f37 f36 f35 f34 f33 f32 f31 f30 f29 f28 f27 f26 f25 f24 f23 f22 f21 f20 f19 f18 f17 f16 f15 f14 f13 f12 f11 f10 f9 f8 f7 f6 f5 f4 f3 f2 f1 f0
theorem q_107w_16 {q0 : Nat} {n0 n1 n2 n3 n4 n5 n6 n7 n8 n9 n10 n11 n12 n13 n14 n15 n16 n17 n18 n19 n20 n21 n22 n23 n24 n25 : Int} {H0 H1 H2 H3 H4 H5 H6 H7 H8 H9 H10 H11 : gH} (f0 : n0 ≤ 2147483647) (f1 : (-2147483648) ≤ n0) (f2 : 0 ≤ n1) (f3 : 0 ≤ n2) (f4 : (hLe T0 H0 H1 ∧ hFr s_107.2.2.2.2 H0 H1 ∧ hWt T0 H1) ∧ ((True ∧ Bb_107_2 n2 n1 n0 H0 H1) ∧ True) ∧ some q0 = some (mub_107_2 n2 n1 n0 H0 H1)) (f5 : n3 ≤ 2147483647) (f6 : (-2147483648) ≤ n3) (f7 : hK H1 (n1).toNat = 5) (f8 : n3 = hV H1 (n1).toNat 0) (f9 : n0 < n3) (f10 : 0 ≤ n4) (f11 : hK H1 (n1).toNat = 5) (f12 : n4 = hV H1 (n1).toNat 7) (f13 : n5 ≤ 2147483647) (f14 : (-2147483648) ≤ n5) (f15 : (hLe T0 H1 H2 ∧ hFr s_199vk100.2.2.2.2 H1 H2 ∧ ((0 : Int) = 0 → H2.length = H1.length) ∧ hWt T0 H2) ∧ postb_199vk100 n5 n4 n0 H1 H2) (f16 : n5 = 0) (f17 : n6 = 0) (f18 : hK H2 (n1).toNat = 5) (f19 : n7 = 11) (f20 : hUpd H3 H2 n1 n7 n6) (f21 : 0 ≤ n8) (f22 : hK H3 (n1).toNat = 5) (f23 : n8 = hV H3 (n1).toNat 3) (f24 : n9 ≤ 2147483647) (f25 : (-2147483648) ≤ n9) (f26 : (hLe T0 H3 H4 ∧ hFr s_199vk100.2.2.2.2 H3 H4 ∧ ((0 : Int) = 0 → H4.length = H3.length) ∧ hWt T0 H4) ∧ postb_199vk100 n9 n8 n0 H3 H4) (f27 : 0 ≤ n10) (f28 : hK H4 (n1).toNat = 5) (f29 : n10 = hV H4 (n1).toNat 4) (f30 : n11 ≤ 2147483647) (f31 : (-2147483648) ≤ n11) (f32 : (hLe T0 H4 H5 ∧ hFr s_199vk100.2.2.2.2 H4 H5 ∧ ((0 : Int) = 0 → H5.length = H4.length) ∧ hWt T0 H5) ∧ postb_199vk100 n11 n10 n0 H4 H5) (f33 : n12 ≤ 2147483647) (f34 : (-2147483648) ≤ n12) (f35 : (hLe T0 H5 H6 ∧ hFr s_108.2.2.2.2 H5 H6 ∧ ((0 : Int) = 0 → H6.length = H5.length) ∧ hWt T0 H6) ∧ (True ∧ nb_108 n12 n1 n9 n11 H5 H6)) (f36 : 0 ≤ n13) (f37 : hK H6 (n1).toNat = 5) (f38 : n13 = hV H6 (n1).toNat 4) (f39 : n14 ≤ 2147483647) (f40 : (-2147483648) ≤ n14) (f41 : (hLe T0 H6 H7 ∧ hFr s_199vk100.2.2.2.2 H6 H7 ∧ ((0 : Int) = 0 → H7.length = H6.length) ∧ hWt T0 H7) ∧ postb_199vk100 n14 n13 n0 H6 H7) (f42 : 0 ≤ n15) (f43 : hK H7 (n1).toNat = 5) (f44 : n15 = hV H7 (n1).toNat 5) (f45 : n16 ≤ 2147483647) (f46 : (-2147483648) ≤ n16) (f47 : (hLe T0 H7 H8 ∧ hFr s_199vk100.2.2.2.2 H7 H8 ∧ ((0 : Int) = 0 → H8.length = H7.length) ∧ hWt T0 H8) ∧ postb_199vk100 n16 n15 n0 H7 H8) (f48 : n14 = n16) (f49 : n17 = 1) (f50 : n17 = 0) (f51 : 0 ≤ n18) (f52 : hK H8 (n1).toNat = 5) (f53 : n18 = hV H8 (n1).toNat 4) (f54 : n19 ≤ 2147483647) (f55 : (-2147483648) ≤ n19) (f56 : (hLe T0 H8 H9 ∧ hFr s_199vk100.2.2.2.2 H8 H9 ∧ ((0 : Int) = 0 → H9.length = H8.length) ∧ hWt T0 H9) ∧ postb_199vk100 n19 n18 n0 H8 H9) (f57 : 0 ≤ n20) (f58 : hK H9 (n1).toNat = 5) (f59 : n20 = hV H9 (n1).toNat 5) (f60 : n21 ≤ 2147483647) (f61 : (-2147483648) ≤ n21) (f62 : (hLe T0 H9 H10 ∧ hFr s_199vk100.2.2.2.2 H9 H10 ∧ ((0 : Int) = 0 → H10.length = H9.length) ∧ hWt T0 H10) ∧ postb_199vk100 n21 n20 n0 H9 H10) (f63 : n22 ≤ 2147483647) (f64 : (-2147483648) ≤ n22) (f65 : (hLe T0 H10 H11 ∧ hFr s_108.2.2.2.2 H10 H11 ∧ ((0 : Int) = 0 → H11.length = H10.length) ∧ hWt T0 H11) ∧ (True ∧ nb_108 n22 n1 n19 n21 H10 H11)) (f66 : n22 = 0) (f67 : n23 = 0) (f68 : n23 ≠ 0) (f69 : n24 ≤ 1) (f70 : 0 ≤ n24) (f71 : hK H11 (n1).toNat = 5) (f72 : n24 = hV H11 (n1).toNat 11) (f73 : n24 ≠ 0) (f74 : n25 = w32 (n0 + 1)) : Bb_107_2 n2 n1 n25 H0 H11 := by
  have gb := f4.2.1.1.2
  unfold Bb_107_2 at gb
  obtain ⟨e0, z0⟩ := gb
  unfold Bb_107_2
  subst e0
  have a15 := f15.2
  unfold postb_199vk100 at a15
  have a26 := f26.2
  unfold postb_199vk100 at a26
  have a32 := f32.2
  unfold postb_199vk100 at a32
  have a41 := f41.2
  unfold postb_199vk100 at a41
  have a47 := f47.2
  unfold postb_199vk100 at a47
  have a56 := f56.2
  unfold postb_199vk100 at a56
  have a62 := f62.2
  unfold postb_199vk100 at a62
  have k35 := f35.2.2
  unfold nb_108 at k35
  have k65 := f65.2.2
  unfold nb_108 at k65
  exfalso
  omega
def g_107w_2_15 : vG := ([(10, [25, 2], [], 1), (31, [24], [], 0), (20, [24, 1], [11], 11), (23, [1], [11], 5), (90, [24], [], 0), (91, [24], [], 1), (31, [23], [], 0), (0, [23], [], 0), (30, [22], [], 0), (1108, [22, 1, 19, 21], [10, 11], 0), (90, [22], [], -2147483648), (91, [22], [], 2147483647), (1199, [21, 20, 2], [9, 10], 0), (90, [21], [], -2147483648), (91, [21], [], 2147483647), (20, [20, 1], [9], 5), (23, [1], [9], 5), (51, [20], [], 0), (1199, [19, 18, 2], [8, 9], 0), (90, [19], [], -2147483648), (91, [19], [], 2147483647), (20, [18, 1], [8], 4), (23, [1], [8], 5), (51, [18], [], 0), (30, [17], [], 0), (0, [17], [], 1), (40, [14, 16], [], 0), (1199, [16, 15, 2], [7, 8], 0), (90, [16], [], -2147483648), (91, [16], [], 2147483647), (20, [15, 1], [7], 5), (23, [1], [7], 5), (51, [15], [], 0), (1199, [14, 13, 2], [6, 7], 0), (90, [14], [], -2147483648), (91, [14], [], 2147483647), (20, [13, 1], [6], 4), (23, [1], [6], 5), (51, [13], [], 0), (1108, [12, 1, 9, 11], [5, 6], 0), (90, [12], [], -2147483648), (91, [12], [], 2147483647), (1199, [11, 10, 2], [4, 5], 0), (90, [11], [], -2147483648), (91, [11], [], 2147483647), (20, [10, 1], [4], 4), (23, [1], [4], 5), (51, [10], [], 0), (1199, [9, 8, 2], [3, 4], 0), (90, [9], [], -2147483648), (91, [9], [], 2147483647), (20, [8, 1], [3], 3), (23, [1], [3], 5), (51, [8], [], 0), (80, [1, 7, 6], [3, 2], 0), (0, [7], [], 11), (23, [1], [2], 5), (0, [6], [], 0), (30, [5], [], 0), (1199, [5, 4, 2], [1, 2], 0), (90, [5], [], -2147483648), (91, [5], [], 2147483647), (20, [4, 1], [1], 7), (23, [1], [1], 5), (51, [4], [], 0), (42, [2, 3], [], 0), (20, [3, 1], [1], 0), (23, [1], [1], 5), (90, [3], [], -2147483648), (91, [3], [], 2147483647), (5000, [0, 1, 2], [0, 1], 2), (51, [0], [], 0), (51, [1], [], 0), (90, [2], [], -2147483648), (91, [2], [], 2147483647)], (4000, [1, 25], [11], 2))
theorem c_107w_2_15 {q0 : Nat} : vOkm T0 (eN e_107 L_107w A_107 mu_107 n_107 B_107 (some q0)) 1 g_107w_2_15 := vOk_inI fun ρ η f0 f1 f2 f3 f4 f5 f6 f7 f8 f9 f10 f11 f12 f13 f14 f15 f16 f17 f18 f19 f20 f21 f22 f23 f24 f25 f26 f27 f28 f29 f30 f31 f32 f33 f34 f35 f36 f37 f38 f39 f40 f41 f42 f43 f44 f45 f46 f47 f48 f49 f50 f51 f52 f53 f54 f55 f56 f57 f58 f59 f60 f61 f62 f63 f64 f65 f66 f67 f68 f69 f70 f71 f72 f73 f74 => q_107w_16 (q0 := q0) (n0 := ρ 2) (n1 := ρ 1) (n2 := ρ 0) (n3 := ρ 3) (n4 := ρ 4) (n5 := ρ 5) (n6 := ρ 6) (n7 := ρ 7) (n8 := ρ 8) (n9 := ρ 9) (n10 := ρ 10) (n11 := ρ 11) (n12 := ρ 12) (n13 := ρ 13) (n14 := ρ 14) (n15 := ρ 15) (n16 := ρ 16) (n17 := ρ 17) (n18 := ρ 18) (n19 := ρ 19) (n20 := ρ 20) (n21 := ρ 21) (n22 := ρ 22) (n23 := ρ 23) (n24 := ρ 24) (n25 := ρ 25) (H0 := η 0) (H1 := η 1) (H2 := η 2) (H3 := η 3) (H4 := η 4) (H5 := η 5) (H6 := η 6) (H7 := η 7) (H8 := η 8) (H9 := η 9) (H10 := η 10) (H11 := η 11) f74 f73 f72 f71 f70 f69 f68 f67 f66 f65 f64 f63 f62 f61 f60 f59 f58 f57 f56 f55 f54 f53 f52 f51 f50 f49 f48 f47 f46 f45 f44 f43 f42 f41 f40 f39 f38 f37 f36 f35 f34 f33 f32 f31 f30 f29 f28 f27 f26 f25 f24 f23 f22 f21 f20 f19 f18 f17 f16 f15 f14 f13 f12 f11 f10 f9 f8 f7 f6 f5 f4 f3 f2 f1 f0
theorem q_107w_17 {q0 : Nat} {n0 n1 n2 n3 n4 n5 n6 n7 n8 n9 n10 n11 n12 n13 n14 n15 n16 n17 n18 n19 n20 n21 n22 n23 n24 : Int} {H0 H1 H2 H3 H4 H5 H6 H7 H8 H9 H10 H11 : gH} (f0 : n0 ≤ 2147483647) (f1 : (-2147483648) ≤ n0) (f2 : 0 ≤ n1) (f3 : 0 ≤ n2) (f4 : (hLe T0 H0 H1 ∧ hFr s_107.2.2.2.2 H0 H1 ∧ hWt T0 H1) ∧ ((True ∧ Bb_107_2 n2 n1 n0 H0 H1) ∧ True) ∧ some q0 = some (mub_107_2 n2 n1 n0 H0 H1)) (f5 : n3 ≤ 2147483647) (f6 : (-2147483648) ≤ n3) (f7 : hK H1 (n1).toNat = 5) (f8 : n3 = hV H1 (n1).toNat 0) (f9 : n0 < n3) (f10 : 0 ≤ n4) (f11 : hK H1 (n1).toNat = 5) (f12 : n4 = hV H1 (n1).toNat 7) (f13 : n5 ≤ 2147483647) (f14 : (-2147483648) ≤ n5) (f15 : (hLe T0 H1 H2 ∧ hFr s_199vk100.2.2.2.2 H1 H2 ∧ ((0 : Int) = 0 → H2.length = H1.length) ∧ hWt T0 H2) ∧ postb_199vk100 n5 n4 n0 H1 H2) (f16 : n5 = 0) (f17 : n6 = 0) (f18 : hK H2 (n1).toNat = 5) (f19 : n7 = 11) (f20 : hUpd H3 H2 n1 n7 n6) (f21 : 0 ≤ n8) (f22 : hK H3 (n1).toNat = 5) (f23 : n8 = hV H3 (n1).toNat 3) (f24 : n9 ≤ 2147483647) (f25 : (-2147483648) ≤ n9) (f26 : (hLe T0 H3 H4 ∧ hFr s_199vk100.2.2.2.2 H3 H4 ∧ ((0 : Int) = 0 → H4.length = H3.length) ∧ hWt T0 H4) ∧ postb_199vk100 n9 n8 n0 H3 H4) (f27 : 0 ≤ n10) (f28 : hK H4 (n1).toNat = 5) (f29 : n10 = hV H4 (n1).toNat 4) (f30 : n11 ≤ 2147483647) (f31 : (-2147483648) ≤ n11) (f32 : (hLe T0 H4 H5 ∧ hFr s_199vk100.2.2.2.2 H4 H5 ∧ ((0 : Int) = 0 → H5.length = H4.length) ∧ hWt T0 H5) ∧ postb_199vk100 n11 n10 n0 H4 H5) (f33 : n12 ≤ 2147483647) (f34 : (-2147483648) ≤ n12) (f35 : (hLe T0 H5 H6 ∧ hFr s_108.2.2.2.2 H5 H6 ∧ ((0 : Int) = 0 → H6.length = H5.length) ∧ hWt T0 H6) ∧ (True ∧ nb_108 n12 n1 n9 n11 H5 H6)) (f36 : 0 ≤ n13) (f37 : hK H6 (n1).toNat = 5) (f38 : n13 = hV H6 (n1).toNat 4) (f39 : n14 ≤ 2147483647) (f40 : (-2147483648) ≤ n14) (f41 : (hLe T0 H6 H7 ∧ hFr s_199vk100.2.2.2.2 H6 H7 ∧ ((0 : Int) = 0 → H7.length = H6.length) ∧ hWt T0 H7) ∧ postb_199vk100 n14 n13 n0 H6 H7) (f42 : 0 ≤ n15) (f43 : hK H7 (n1).toNat = 5) (f44 : n15 = hV H7 (n1).toNat 5) (f45 : n16 ≤ 2147483647) (f46 : (-2147483648) ≤ n16) (f47 : (hLe T0 H7 H8 ∧ hFr s_199vk100.2.2.2.2 H7 H8 ∧ ((0 : Int) = 0 → H8.length = H7.length) ∧ hWt T0 H8) ∧ postb_199vk100 n16 n15 n0 H7 H8) (f48 : n14 = n16) (f49 : n17 = 1) (f50 : n17 = 0) (f51 : 0 ≤ n18) (f52 : hK H8 (n1).toNat = 5) (f53 : n18 = hV H8 (n1).toNat 4) (f54 : n19 ≤ 2147483647) (f55 : (-2147483648) ≤ n19) (f56 : (hLe T0 H8 H9 ∧ hFr s_199vk100.2.2.2.2 H8 H9 ∧ ((0 : Int) = 0 → H9.length = H8.length) ∧ hWt T0 H9) ∧ postb_199vk100 n19 n18 n0 H8 H9) (f57 : 0 ≤ n20) (f58 : hK H9 (n1).toNat = 5) (f59 : n20 = hV H9 (n1).toNat 5) (f60 : n21 ≤ 2147483647) (f61 : (-2147483648) ≤ n21) (f62 : (hLe T0 H9 H10 ∧ hFr s_199vk100.2.2.2.2 H9 H10 ∧ ((0 : Int) = 0 → H10.length = H9.length) ∧ hWt T0 H10) ∧ postb_199vk100 n21 n20 n0 H9 H10) (f63 : n22 ≤ 2147483647) (f64 : (-2147483648) ≤ n22) (f65 : (hLe T0 H10 H11 ∧ hFr s_108.2.2.2.2 H10 H11 ∧ ((0 : Int) = 0 → H11.length = H10.length) ∧ hWt T0 H11) ∧ (True ∧ nb_108 n22 n1 n19 n21 H10 H11)) (f66 : n22 = 0) (f67 : n23 = 0) (f68 : n23 ≠ 0) (f69 : n24 ≤ 1) (f70 : 0 ≤ n24) (f71 : hK H11 (n1).toNat = 5) (f72 : n24 = hV H11 (n1).toNat 11) (f73 : n24 = 0) : nb_107 n12 n2 H0 H11 := by
  have gb := f4.2.1.1.2
  unfold Bb_107_2 at gb
  obtain ⟨e0, z0⟩ := gb
  unfold nb_107
  subst e0
  have a15 := f15.2
  unfold postb_199vk100 at a15
  have a26 := f26.2
  unfold postb_199vk100 at a26
  have a32 := f32.2
  unfold postb_199vk100 at a32
  have a41 := f41.2
  unfold postb_199vk100 at a41
  have a47 := f47.2
  unfold postb_199vk100 at a47
  have a56 := f56.2
  unfold postb_199vk100 at a56
  have a62 := f62.2
  unfold postb_199vk100 at a62
  have k35 := f35.2.2
  unfold nb_108 at k35
  have k65 := f65.2.2
  unfold nb_108 at k65
  exfalso
  omega
def g_107w_2_16 : vG := ([(30, [24], [], 0), (20, [24, 1], [11], 11), (23, [1], [11], 5), (90, [24], [], 0), (91, [24], [], 1), (31, [23], [], 0), (0, [23], [], 0), (30, [22], [], 0), (1108, [22, 1, 19, 21], [10, 11], 0), (90, [22], [], -2147483648), (91, [22], [], 2147483647), (1199, [21, 20, 2], [9, 10], 0), (90, [21], [], -2147483648), (91, [21], [], 2147483647), (20, [20, 1], [9], 5), (23, [1], [9], 5), (51, [20], [], 0), (1199, [19, 18, 2], [8, 9], 0), (90, [19], [], -2147483648), (91, [19], [], 2147483647), (20, [18, 1], [8], 4), (23, [1], [8], 5), (51, [18], [], 0), (30, [17], [], 0), (0, [17], [], 1), (40, [14, 16], [], 0), (1199, [16, 15, 2], [7, 8], 0), (90, [16], [], -2147483648), (91, [16], [], 2147483647), (20, [15, 1], [7], 5), (23, [1], [7], 5), (51, [15], [], 0), (1199, [14, 13, 2], [6, 7], 0), (90, [14], [], -2147483648), (91, [14], [], 2147483647), (20, [13, 1], [6], 4), (23, [1], [6], 5), (51, [13], [], 0), (1108, [12, 1, 9, 11], [5, 6], 0), (90, [12], [], -2147483648), (91, [12], [], 2147483647), (1199, [11, 10, 2], [4, 5], 0), (90, [11], [], -2147483648), (91, [11], [], 2147483647), (20, [10, 1], [4], 4), (23, [1], [4], 5), (51, [10], [], 0), (1199, [9, 8, 2], [3, 4], 0), (90, [9], [], -2147483648), (91, [9], [], 2147483647), (20, [8, 1], [3], 3), (23, [1], [3], 5), (51, [8], [], 0), (80, [1, 7, 6], [3, 2], 0), (0, [7], [], 11), (23, [1], [2], 5), (0, [6], [], 0), (30, [5], [], 0), (1199, [5, 4, 2], [1, 2], 0), (90, [5], [], -2147483648), (91, [5], [], 2147483647), (20, [4, 1], [1], 7), (23, [1], [1], 5), (51, [4], [], 0), (42, [2, 3], [], 0), (20, [3, 1], [1], 0), (23, [1], [1], 5), (90, [3], [], -2147483648), (91, [3], [], 2147483647), (5000, [0, 1, 2], [0, 1], 2), (51, [0], [], 0), (51, [1], [], 0), (90, [2], [], -2147483648), (91, [2], [], 2147483647)], (3000, [12], [11], 119))
theorem c_107w_2_16 {q0 : Nat} : vOkm T0 (eN e_107 L_107w A_107 mu_107 n_107 B_107 (some q0)) 1 g_107w_2_16 := vOk_inI fun ρ η f0 f1 f2 f3 f4 f5 f6 f7 f8 f9 f10 f11 f12 f13 f14 f15 f16 f17 f18 f19 f20 f21 f22 f23 f24 f25 f26 f27 f28 f29 f30 f31 f32 f33 f34 f35 f36 f37 f38 f39 f40 f41 f42 f43 f44 f45 f46 f47 f48 f49 f50 f51 f52 f53 f54 f55 f56 f57 f58 f59 f60 f61 f62 f63 f64 f65 f66 f67 f68 f69 f70 f71 f72 f73 => q_107w_17 (q0 := q0) (n0 := ρ 2) (n1 := ρ 1) (n2 := ρ 0) (n3 := ρ 3) (n4 := ρ 4) (n5 := ρ 5) (n6 := ρ 6) (n7 := ρ 7) (n8 := ρ 8) (n9 := ρ 9) (n10 := ρ 10) (n11 := ρ 11) (n12 := ρ 12) (n13 := ρ 13) (n14 := ρ 14) (n15 := ρ 15) (n16 := ρ 16) (n17 := ρ 17) (n18 := ρ 18) (n19 := ρ 19) (n20 := ρ 20) (n21 := ρ 21) (n22 := ρ 22) (n23 := ρ 23) (n24 := ρ 24) (H0 := η 0) (H1 := η 1) (H2 := η 2) (H3 := η 3) (H4 := η 4) (H5 := η 5) (H6 := η 6) (H7 := η 7) (H8 := η 8) (H9 := η 9) (H10 := η 10) (H11 := η 11) f73 f72 f71 f70 f69 f68 f67 f66 f65 f64 f63 f62 f61 f60 f59 f58 f57 f56 f55 f54 f53 f52 f51 f50 f49 f48 f47 f46 f45 f44 f43 f42 f41 f40 f39 f38 f37 f36 f35 f34 f33 f32 f31 f30 f29 f28 f27 f26 f25 f24 f23 f22 f21 f20 f19 f18 f17 f16 f15 f14 f13 f12 f11 f10 f9 f8 f7 f6 f5 f4 f3 f2 f1 f0
theorem q_107w_18 {q0 : Nat} {n0 n1 n2 n3 n4 n5 n6 n7 n8 n9 n10 n11 n12 n13 n14 n15 n16 n17 n18 n19 n20 n21 n22 n23 n24 : Int} {H0 H1 H2 H3 H4 H5 H6 H7 H8 H9 H10 H11 : gH} (f0 : n0 ≤ 2147483647) (f1 : (-2147483648) ≤ n0) (f2 : 0 ≤ n1) (f3 : 0 ≤ n2) (f4 : (hLe T0 H0 H1 ∧ hFr s_107.2.2.2.2 H0 H1 ∧ hWt T0 H1) ∧ ((True ∧ Bb_107_2 n2 n1 n0 H0 H1) ∧ True) ∧ some q0 = some (mub_107_2 n2 n1 n0 H0 H1)) (f5 : n3 ≤ 2147483647) (f6 : (-2147483648) ≤ n3) (f7 : hK H1 (n1).toNat = 5) (f8 : n3 = hV H1 (n1).toNat 0) (f9 : n0 < n3) (f10 : 0 ≤ n4) (f11 : hK H1 (n1).toNat = 5) (f12 : n4 = hV H1 (n1).toNat 7) (f13 : n5 ≤ 2147483647) (f14 : (-2147483648) ≤ n5) (f15 : (hLe T0 H1 H2 ∧ hFr s_199vk100.2.2.2.2 H1 H2 ∧ ((0 : Int) = 0 → H2.length = H1.length) ∧ hWt T0 H2) ∧ postb_199vk100 n5 n4 n0 H1 H2) (f16 : n5 = 0) (f17 : n6 = 0) (f18 : hK H2 (n1).toNat = 5) (f19 : n7 = 11) (f20 : hUpd H3 H2 n1 n7 n6) (f21 : 0 ≤ n8) (f22 : hK H3 (n1).toNat = 5) (f23 : n8 = hV H3 (n1).toNat 3) (f24 : n9 ≤ 2147483647) (f25 : (-2147483648) ≤ n9) (f26 : (hLe T0 H3 H4 ∧ hFr s_199vk100.2.2.2.2 H3 H4 ∧ ((0 : Int) = 0 → H4.length = H3.length) ∧ hWt T0 H4) ∧ postb_199vk100 n9 n8 n0 H3 H4) (f27 : 0 ≤ n10) (f28 : hK H4 (n1).toNat = 5) (f29 : n10 = hV H4 (n1).toNat 4) (f30 : n11 ≤ 2147483647) (f31 : (-2147483648) ≤ n11) (f32 : (hLe T0 H4 H5 ∧ hFr s_199vk100.2.2.2.2 H4 H5 ∧ ((0 : Int) = 0 → H5.length = H4.length) ∧ hWt T0 H5) ∧ postb_199vk100 n11 n10 n0 H4 H5) (f33 : n12 ≤ 2147483647) (f34 : (-2147483648) ≤ n12) (f35 : (hLe T0 H5 H6 ∧ hFr s_108.2.2.2.2 H5 H6 ∧ ((0 : Int) = 0 → H6.length = H5.length) ∧ hWt T0 H6) ∧ (True ∧ nb_108 n12 n1 n9 n11 H5 H6)) (f36 : 0 ≤ n13) (f37 : hK H6 (n1).toNat = 5) (f38 : n13 = hV H6 (n1).toNat 4) (f39 : n14 ≤ 2147483647) (f40 : (-2147483648) ≤ n14) (f41 : (hLe T0 H6 H7 ∧ hFr s_199vk100.2.2.2.2 H6 H7 ∧ ((0 : Int) = 0 → H7.length = H6.length) ∧ hWt T0 H7) ∧ postb_199vk100 n14 n13 n0 H6 H7) (f42 : 0 ≤ n15) (f43 : hK H7 (n1).toNat = 5) (f44 : n15 = hV H7 (n1).toNat 5) (f45 : n16 ≤ 2147483647) (f46 : (-2147483648) ≤ n16) (f47 : (hLe T0 H7 H8 ∧ hFr s_199vk100.2.2.2.2 H7 H8 ∧ ((0 : Int) = 0 → H8.length = H7.length) ∧ hWt T0 H8) ∧ postb_199vk100 n16 n15 n0 H7 H8) (f48 : n14 = n16) (f49 : n17 = 1) (f50 : n17 = 0) (f51 : 0 ≤ n18) (f52 : hK H8 (n1).toNat = 5) (f53 : n18 = hV H8 (n1).toNat 4) (f54 : n19 ≤ 2147483647) (f55 : (-2147483648) ≤ n19) (f56 : (hLe T0 H8 H9 ∧ hFr s_199vk100.2.2.2.2 H8 H9 ∧ ((0 : Int) = 0 → H9.length = H8.length) ∧ hWt T0 H9) ∧ postb_199vk100 n19 n18 n0 H8 H9) (f57 : 0 ≤ n20) (f58 : hK H9 (n1).toNat = 5) (f59 : n20 = hV H9 (n1).toNat 5) (f60 : n21 ≤ 2147483647) (f61 : (-2147483648) ≤ n21) (f62 : (hLe T0 H9 H10 ∧ hFr s_199vk100.2.2.2.2 H9 H10 ∧ ((0 : Int) = 0 → H10.length = H9.length) ∧ hWt T0 H10) ∧ postb_199vk100 n21 n20 n0 H9 H10) (f63 : n22 ≤ 2147483647) (f64 : (-2147483648) ≤ n22) (f65 : (hLe T0 H10 H11 ∧ hFr s_108.2.2.2.2 H10 H11 ∧ ((0 : Int) = 0 → H11.length = H10.length) ∧ hWt T0 H11) ∧ (True ∧ nb_108 n22 n1 n19 n21 H10 H11)) (f66 : n22 ≠ 0) (f67 : n23 = 1) (f68 : n23 = 0) (f69 : n24 = w32 (n0 + 1)) : Bb_107_2 n2 n1 n24 H0 H11 := by
  have gb := f4.2.1.1.2
  unfold Bb_107_2 at gb
  obtain ⟨e0, z0⟩ := gb
  unfold Bb_107_2
  subst e0
  have a15 := f15.2
  unfold postb_199vk100 at a15
  have a26 := f26.2
  unfold postb_199vk100 at a26
  have a32 := f32.2
  unfold postb_199vk100 at a32
  have a41 := f41.2
  unfold postb_199vk100 at a41
  have a47 := f47.2
  unfold postb_199vk100 at a47
  have a56 := f56.2
  unfold postb_199vk100 at a56
  have a62 := f62.2
  unfold postb_199vk100 at a62
  have k35 := f35.2.2
  unfold nb_108 at k35
  have k65 := f65.2.2
  unfold nb_108 at k65
  exfalso
  omega
def g_107w_2_17 : vG := ([(10, [24, 2], [], 1), (30, [23], [], 0), (0, [23], [], 1), (31, [22], [], 0), (1108, [22, 1, 19, 21], [10, 11], 0), (90, [22], [], -2147483648), (91, [22], [], 2147483647), (1199, [21, 20, 2], [9, 10], 0), (90, [21], [], -2147483648), (91, [21], [], 2147483647), (20, [20, 1], [9], 5), (23, [1], [9], 5), (51, [20], [], 0), (1199, [19, 18, 2], [8, 9], 0), (90, [19], [], -2147483648), (91, [19], [], 2147483647), (20, [18, 1], [8], 4), (23, [1], [8], 5), (51, [18], [], 0), (30, [17], [], 0), (0, [17], [], 1), (40, [14, 16], [], 0), (1199, [16, 15, 2], [7, 8], 0), (90, [16], [], -2147483648), (91, [16], [], 2147483647), (20, [15, 1], [7], 5), (23, [1], [7], 5), (51, [15], [], 0), (1199, [14, 13, 2], [6, 7], 0), (90, [14], [], -2147483648), (91, [14], [], 2147483647), (20, [13, 1], [6], 4), (23, [1], [6], 5), (51, [13], [], 0), (1108, [12, 1, 9, 11], [5, 6], 0), (90, [12], [], -2147483648), (91, [12], [], 2147483647), (1199, [11, 10, 2], [4, 5], 0), (90, [11], [], -2147483648), (91, [11], [], 2147483647), (20, [10, 1], [4], 4), (23, [1], [4], 5), (51, [10], [], 0), (1199, [9, 8, 2], [3, 4], 0), (90, [9], [], -2147483648), (91, [9], [], 2147483647), (20, [8, 1], [3], 3), (23, [1], [3], 5), (51, [8], [], 0), (80, [1, 7, 6], [3, 2], 0), (0, [7], [], 11), (23, [1], [2], 5), (0, [6], [], 0), (30, [5], [], 0), (1199, [5, 4, 2], [1, 2], 0), (90, [5], [], -2147483648), (91, [5], [], 2147483647), (20, [4, 1], [1], 7), (23, [1], [1], 5), (51, [4], [], 0), (42, [2, 3], [], 0), (20, [3, 1], [1], 0), (23, [1], [1], 5), (90, [3], [], -2147483648), (91, [3], [], 2147483647), (5000, [0, 1, 2], [0, 1], 2), (51, [0], [], 0), (51, [1], [], 0), (90, [2], [], -2147483648), (91, [2], [], 2147483647)], (4000, [1, 24], [11], 2))
theorem c_107w_2_17 {q0 : Nat} : vOkm T0 (eN e_107 L_107w A_107 mu_107 n_107 B_107 (some q0)) 1 g_107w_2_17 := vOk_inI fun ρ η f0 f1 f2 f3 f4 f5 f6 f7 f8 f9 f10 f11 f12 f13 f14 f15 f16 f17 f18 f19 f20 f21 f22 f23 f24 f25 f26 f27 f28 f29 f30 f31 f32 f33 f34 f35 f36 f37 f38 f39 f40 f41 f42 f43 f44 f45 f46 f47 f48 f49 f50 f51 f52 f53 f54 f55 f56 f57 f58 f59 f60 f61 f62 f63 f64 f65 f66 f67 f68 f69 => q_107w_18 (q0 := q0) (n0 := ρ 2) (n1 := ρ 1) (n2 := ρ 0) (n3 := ρ 3) (n4 := ρ 4) (n5 := ρ 5) (n6 := ρ 6) (n7 := ρ 7) (n8 := ρ 8) (n9 := ρ 9) (n10 := ρ 10) (n11 := ρ 11) (n12 := ρ 12) (n13 := ρ 13) (n14 := ρ 14) (n15 := ρ 15) (n16 := ρ 16) (n17 := ρ 17) (n18 := ρ 18) (n19 := ρ 19) (n20 := ρ 20) (n21 := ρ 21) (n22 := ρ 22) (n23 := ρ 23) (n24 := ρ 24) (H0 := η 0) (H1 := η 1) (H2 := η 2) (H3 := η 3) (H4 := η 4) (H5 := η 5) (H6 := η 6) (H7 := η 7) (H8 := η 8) (H9 := η 9) (H10 := η 10) (H11 := η 11) f69 f68 f67 f66 f65 f64 f63 f62 f61 f60 f59 f58 f57 f56 f55 f54 f53 f52 f51 f50 f49 f48 f47 f46 f45 f44 f43 f42 f41 f40 f39 f38 f37 f36 f35 f34 f33 f32 f31 f30 f29 f28 f27 f26 f25 f24 f23 f22 f21 f20 f19 f18 f17 f16 f15 f14 f13 f12 f11 f10 f9 f8 f7 f6 f5 f4 f3 f2 f1 f0
theorem q_107w_19 {q0 : Nat} {n0 n1 n2 n3 n4 n5 n6 n7 n8 n9 n10 n11 n12 n13 n14 n15 n16 n17 n18 n19 n20 n21 n22 n23 n24 n25 : Int} {H0 H1 H2 H3 H4 H5 H6 H7 H8 H9 H10 H11 : gH} (f0 : n0 ≤ 2147483647) (f1 : (-2147483648) ≤ n0) (f2 : 0 ≤ n1) (f3 : 0 ≤ n2) (f4 : (hLe T0 H0 H1 ∧ hFr s_107.2.2.2.2 H0 H1 ∧ hWt T0 H1) ∧ ((True ∧ Bb_107_2 n2 n1 n0 H0 H1) ∧ True) ∧ some q0 = some (mub_107_2 n2 n1 n0 H0 H1)) (f5 : n3 ≤ 2147483647) (f6 : (-2147483648) ≤ n3) (f7 : hK H1 (n1).toNat = 5) (f8 : n3 = hV H1 (n1).toNat 0) (f9 : n0 < n3) (f10 : 0 ≤ n4) (f11 : hK H1 (n1).toNat = 5) (f12 : n4 = hV H1 (n1).toNat 7) (f13 : n5 ≤ 2147483647) (f14 : (-2147483648) ≤ n5) (f15 : (hLe T0 H1 H2 ∧ hFr s_199vk100.2.2.2.2 H1 H2 ∧ ((0 : Int) = 0 → H2.length = H1.length) ∧ hWt T0 H2) ∧ postb_199vk100 n5 n4 n0 H1 H2) (f16 : n5 = 0) (f17 : n6 = 0) (f18 : hK H2 (n1).toNat = 5) (f19 : n7 = 11) (f20 : hUpd H3 H2 n1 n7 n6) (f21 : 0 ≤ n8) (f22 : hK H3 (n1).toNat = 5) (f23 : n8 = hV H3 (n1).toNat 3) (f24 : n9 ≤ 2147483647) (f25 : (-2147483648) ≤ n9) (f26 : (hLe T0 H3 H4 ∧ hFr s_199vk100.2.2.2.2 H3 H4 ∧ ((0 : Int) = 0 → H4.length = H3.length) ∧ hWt T0 H4) ∧ postb_199vk100 n9 n8 n0 H3 H4) (f27 : 0 ≤ n10) (f28 : hK H4 (n1).toNat = 5) (f29 : n10 = hV H4 (n1).toNat 4) (f30 : n11 ≤ 2147483647) (f31 : (-2147483648) ≤ n11) (f32 : (hLe T0 H4 H5 ∧ hFr s_199vk100.2.2.2.2 H4 H5 ∧ ((0 : Int) = 0 → H5.length = H4.length) ∧ hWt T0 H5) ∧ postb_199vk100 n11 n10 n0 H4 H5) (f33 : n12 ≤ 2147483647) (f34 : (-2147483648) ≤ n12) (f35 : (hLe T0 H5 H6 ∧ hFr s_108.2.2.2.2 H5 H6 ∧ ((0 : Int) = 0 → H6.length = H5.length) ∧ hWt T0 H6) ∧ (True ∧ nb_108 n12 n1 n9 n11 H5 H6)) (f36 : 0 ≤ n13) (f37 : hK H6 (n1).toNat = 5) (f38 : n13 = hV H6 (n1).toNat 4) (f39 : n14 ≤ 2147483647) (f40 : (-2147483648) ≤ n14) (f41 : (hLe T0 H6 H7 ∧ hFr s_199vk100.2.2.2.2 H6 H7 ∧ ((0 : Int) = 0 → H7.length = H6.length) ∧ hWt T0 H7) ∧ postb_199vk100 n14 n13 n0 H6 H7) (f42 : 0 ≤ n15) (f43 : hK H7 (n1).toNat = 5) (f44 : n15 = hV H7 (n1).toNat 5) (f45 : n16 ≤ 2147483647) (f46 : (-2147483648) ≤ n16) (f47 : (hLe T0 H7 H8 ∧ hFr s_199vk100.2.2.2.2 H7 H8 ∧ ((0 : Int) = 0 → H8.length = H7.length) ∧ hWt T0 H8) ∧ postb_199vk100 n16 n15 n0 H7 H8) (f48 : n14 = n16) (f49 : n17 = 1) (f50 : n17 = 0) (f51 : 0 ≤ n18) (f52 : hK H8 (n1).toNat = 5) (f53 : n18 = hV H8 (n1).toNat 4) (f54 : n19 ≤ 2147483647) (f55 : (-2147483648) ≤ n19) (f56 : (hLe T0 H8 H9 ∧ hFr s_199vk100.2.2.2.2 H8 H9 ∧ ((0 : Int) = 0 → H9.length = H8.length) ∧ hWt T0 H9) ∧ postb_199vk100 n19 n18 n0 H8 H9) (f57 : 0 ≤ n20) (f58 : hK H9 (n1).toNat = 5) (f59 : n20 = hV H9 (n1).toNat 5) (f60 : n21 ≤ 2147483647) (f61 : (-2147483648) ≤ n21) (f62 : (hLe T0 H9 H10 ∧ hFr s_199vk100.2.2.2.2 H9 H10 ∧ ((0 : Int) = 0 → H10.length = H9.length) ∧ hWt T0 H10) ∧ postb_199vk100 n21 n20 n0 H9 H10) (f63 : n22 ≤ 2147483647) (f64 : (-2147483648) ≤ n22) (f65 : (hLe T0 H10 H11 ∧ hFr s_108.2.2.2.2 H10 H11 ∧ ((0 : Int) = 0 → H11.length = H10.length) ∧ hWt T0 H11) ∧ (True ∧ nb_108 n22 n1 n19 n21 H10 H11)) (f66 : n22 ≠ 0) (f67 : n23 = 1) (f68 : n23 ≠ 0) (f69 : n24 ≤ 1) (f70 : 0 ≤ n24) (f71 : hK H11 (n1).toNat = 5) (f72 : n24 = hV H11 (n1).toNat 11) (f73 : n24 ≠ 0) (f74 : n25 = w32 (n0 + 1)) : Bb_107_2 n2 n1 n25 H0 H11 := by
  have gb := f4.2.1.1.2
  unfold Bb_107_2 at gb
  obtain ⟨e0, z0⟩ := gb
  unfold Bb_107_2
  subst e0
  have a15 := f15.2
  unfold postb_199vk100 at a15
  have a26 := f26.2
  unfold postb_199vk100 at a26
  have a32 := f32.2
  unfold postb_199vk100 at a32
  have a41 := f41.2
  unfold postb_199vk100 at a41
  have a47 := f47.2
  unfold postb_199vk100 at a47
  have a56 := f56.2
  unfold postb_199vk100 at a56
  have a62 := f62.2
  unfold postb_199vk100 at a62
  have k35 := f35.2.2
  unfold nb_108 at k35
  have k65 := f65.2.2
  unfold nb_108 at k65
  exfalso
  omega
def g_107w_2_18 : vG := ([(10, [25, 2], [], 1), (31, [24], [], 0), (20, [24, 1], [11], 11), (23, [1], [11], 5), (90, [24], [], 0), (91, [24], [], 1), (31, [23], [], 0), (0, [23], [], 1), (31, [22], [], 0), (1108, [22, 1, 19, 21], [10, 11], 0), (90, [22], [], -2147483648), (91, [22], [], 2147483647), (1199, [21, 20, 2], [9, 10], 0), (90, [21], [], -2147483648), (91, [21], [], 2147483647), (20, [20, 1], [9], 5), (23, [1], [9], 5), (51, [20], [], 0), (1199, [19, 18, 2], [8, 9], 0), (90, [19], [], -2147483648), (91, [19], [], 2147483647), (20, [18, 1], [8], 4), (23, [1], [8], 5), (51, [18], [], 0), (30, [17], [], 0), (0, [17], [], 1), (40, [14, 16], [], 0), (1199, [16, 15, 2], [7, 8], 0), (90, [16], [], -2147483648), (91, [16], [], 2147483647), (20, [15, 1], [7], 5), (23, [1], [7], 5), (51, [15], [], 0), (1199, [14, 13, 2], [6, 7], 0), (90, [14], [], -2147483648), (91, [14], [], 2147483647), (20, [13, 1], [6], 4), (23, [1], [6], 5), (51, [13], [], 0), (1108, [12, 1, 9, 11], [5, 6], 0), (90, [12], [], -2147483648), (91, [12], [], 2147483647), (1199, [11, 10, 2], [4, 5], 0), (90, [11], [], -2147483648), (91, [11], [], 2147483647), (20, [10, 1], [4], 4), (23, [1], [4], 5), (51, [10], [], 0), (1199, [9, 8, 2], [3, 4], 0), (90, [9], [], -2147483648), (91, [9], [], 2147483647), (20, [8, 1], [3], 3), (23, [1], [3], 5), (51, [8], [], 0), (80, [1, 7, 6], [3, 2], 0), (0, [7], [], 11), (23, [1], [2], 5), (0, [6], [], 0), (30, [5], [], 0), (1199, [5, 4, 2], [1, 2], 0), (90, [5], [], -2147483648), (91, [5], [], 2147483647), (20, [4, 1], [1], 7), (23, [1], [1], 5), (51, [4], [], 0), (42, [2, 3], [], 0), (20, [3, 1], [1], 0), (23, [1], [1], 5), (90, [3], [], -2147483648), (91, [3], [], 2147483647), (5000, [0, 1, 2], [0, 1], 2), (51, [0], [], 0), (51, [1], [], 0), (90, [2], [], -2147483648), (91, [2], [], 2147483647)], (4000, [1, 25], [11], 2))
theorem c_107w_2_18 {q0 : Nat} : vOkm T0 (eN e_107 L_107w A_107 mu_107 n_107 B_107 (some q0)) 1 g_107w_2_18 := vOk_inI fun ρ η f0 f1 f2 f3 f4 f5 f6 f7 f8 f9 f10 f11 f12 f13 f14 f15 f16 f17 f18 f19 f20 f21 f22 f23 f24 f25 f26 f27 f28 f29 f30 f31 f32 f33 f34 f35 f36 f37 f38 f39 f40 f41 f42 f43 f44 f45 f46 f47 f48 f49 f50 f51 f52 f53 f54 f55 f56 f57 f58 f59 f60 f61 f62 f63 f64 f65 f66 f67 f68 f69 f70 f71 f72 f73 f74 => q_107w_19 (q0 := q0) (n0 := ρ 2) (n1 := ρ 1) (n2 := ρ 0) (n3 := ρ 3) (n4 := ρ 4) (n5 := ρ 5) (n6 := ρ 6) (n7 := ρ 7) (n8 := ρ 8) (n9 := ρ 9) (n10 := ρ 10) (n11 := ρ 11) (n12 := ρ 12) (n13 := ρ 13) (n14 := ρ 14) (n15 := ρ 15) (n16 := ρ 16) (n17 := ρ 17) (n18 := ρ 18) (n19 := ρ 19) (n20 := ρ 20) (n21 := ρ 21) (n22 := ρ 22) (n23 := ρ 23) (n24 := ρ 24) (n25 := ρ 25) (H0 := η 0) (H1 := η 1) (H2 := η 2) (H3 := η 3) (H4 := η 4) (H5 := η 5) (H6 := η 6) (H7 := η 7) (H8 := η 8) (H9 := η 9) (H10 := η 10) (H11 := η 11) f74 f73 f72 f71 f70 f69 f68 f67 f66 f65 f64 f63 f62 f61 f60 f59 f58 f57 f56 f55 f54 f53 f52 f51 f50 f49 f48 f47 f46 f45 f44 f43 f42 f41 f40 f39 f38 f37 f36 f35 f34 f33 f32 f31 f30 f29 f28 f27 f26 f25 f24 f23 f22 f21 f20 f19 f18 f17 f16 f15 f14 f13 f12 f11 f10 f9 f8 f7 f6 f5 f4 f3 f2 f1 f0
theorem q_107w_20 {q0 : Nat} {n0 n1 n2 n3 n4 n5 n6 n7 n8 n9 n10 n11 n12 n13 n14 n15 n16 n17 n18 n19 n20 n21 n22 n23 n24 : Int} {H0 H1 H2 H3 H4 H5 H6 H7 H8 H9 H10 H11 : gH} (f0 : n0 ≤ 2147483647) (f1 : (-2147483648) ≤ n0) (f2 : 0 ≤ n1) (f3 : 0 ≤ n2) (f4 : (hLe T0 H0 H1 ∧ hFr s_107.2.2.2.2 H0 H1 ∧ hWt T0 H1) ∧ ((True ∧ Bb_107_2 n2 n1 n0 H0 H1) ∧ True) ∧ some q0 = some (mub_107_2 n2 n1 n0 H0 H1)) (f5 : n3 ≤ 2147483647) (f6 : (-2147483648) ≤ n3) (f7 : hK H1 (n1).toNat = 5) (f8 : n3 = hV H1 (n1).toNat 0) (f9 : n0 < n3) (f10 : 0 ≤ n4) (f11 : hK H1 (n1).toNat = 5) (f12 : n4 = hV H1 (n1).toNat 7) (f13 : n5 ≤ 2147483647) (f14 : (-2147483648) ≤ n5) (f15 : (hLe T0 H1 H2 ∧ hFr s_199vk100.2.2.2.2 H1 H2 ∧ ((0 : Int) = 0 → H2.length = H1.length) ∧ hWt T0 H2) ∧ postb_199vk100 n5 n4 n0 H1 H2) (f16 : n5 = 0) (f17 : n6 = 0) (f18 : hK H2 (n1).toNat = 5) (f19 : n7 = 11) (f20 : hUpd H3 H2 n1 n7 n6) (f21 : 0 ≤ n8) (f22 : hK H3 (n1).toNat = 5) (f23 : n8 = hV H3 (n1).toNat 3) (f24 : n9 ≤ 2147483647) (f25 : (-2147483648) ≤ n9) (f26 : (hLe T0 H3 H4 ∧ hFr s_199vk100.2.2.2.2 H3 H4 ∧ ((0 : Int) = 0 → H4.length = H3.length) ∧ hWt T0 H4) ∧ postb_199vk100 n9 n8 n0 H3 H4) (f27 : 0 ≤ n10) (f28 : hK H4 (n1).toNat = 5) (f29 : n10 = hV H4 (n1).toNat 4) (f30 : n11 ≤ 2147483647) (f31 : (-2147483648) ≤ n11) (f32 : (hLe T0 H4 H5 ∧ hFr s_199vk100.2.2.2.2 H4 H5 ∧ ((0 : Int) = 0 → H5.length = H4.length) ∧ hWt T0 H5) ∧ postb_199vk100 n11 n10 n0 H4 H5) (f33 : n12 ≤ 2147483647) (f34 : (-2147483648) ≤ n12) (f35 : (hLe T0 H5 H6 ∧ hFr s_108.2.2.2.2 H5 H6 ∧ ((0 : Int) = 0 → H6.length = H5.length) ∧ hWt T0 H6) ∧ (True ∧ nb_108 n12 n1 n9 n11 H5 H6)) (f36 : 0 ≤ n13) (f37 : hK H6 (n1).toNat = 5) (f38 : n13 = hV H6 (n1).toNat 4) (f39 : n14 ≤ 2147483647) (f40 : (-2147483648) ≤ n14) (f41 : (hLe T0 H6 H7 ∧ hFr s_199vk100.2.2.2.2 H6 H7 ∧ ((0 : Int) = 0 → H7.length = H6.length) ∧ hWt T0 H7) ∧ postb_199vk100 n14 n13 n0 H6 H7) (f42 : 0 ≤ n15) (f43 : hK H7 (n1).toNat = 5) (f44 : n15 = hV H7 (n1).toNat 5) (f45 : n16 ≤ 2147483647) (f46 : (-2147483648) ≤ n16) (f47 : (hLe T0 H7 H8 ∧ hFr s_199vk100.2.2.2.2 H7 H8 ∧ ((0 : Int) = 0 → H8.length = H7.length) ∧ hWt T0 H8) ∧ postb_199vk100 n16 n15 n0 H7 H8) (f48 : n14 = n16) (f49 : n17 = 1) (f50 : n17 = 0) (f51 : 0 ≤ n18) (f52 : hK H8 (n1).toNat = 5) (f53 : n18 = hV H8 (n1).toNat 4) (f54 : n19 ≤ 2147483647) (f55 : (-2147483648) ≤ n19) (f56 : (hLe T0 H8 H9 ∧ hFr s_199vk100.2.2.2.2 H8 H9 ∧ ((0 : Int) = 0 → H9.length = H8.length) ∧ hWt T0 H9) ∧ postb_199vk100 n19 n18 n0 H8 H9) (f57 : 0 ≤ n20) (f58 : hK H9 (n1).toNat = 5) (f59 : n20 = hV H9 (n1).toNat 5) (f60 : n21 ≤ 2147483647) (f61 : (-2147483648) ≤ n21) (f62 : (hLe T0 H9 H10 ∧ hFr s_199vk100.2.2.2.2 H9 H10 ∧ ((0 : Int) = 0 → H10.length = H9.length) ∧ hWt T0 H10) ∧ postb_199vk100 n21 n20 n0 H9 H10) (f63 : n22 ≤ 2147483647) (f64 : (-2147483648) ≤ n22) (f65 : (hLe T0 H10 H11 ∧ hFr s_108.2.2.2.2 H10 H11 ∧ ((0 : Int) = 0 → H11.length = H10.length) ∧ hWt T0 H11) ∧ (True ∧ nb_108 n22 n1 n19 n21 H10 H11)) (f66 : n22 ≠ 0) (f67 : n23 = 1) (f68 : n23 ≠ 0) (f69 : n24 ≤ 1) (f70 : 0 ≤ n24) (f71 : hK H11 (n1).toNat = 5) (f72 : n24 = hV H11 (n1).toNat 11) (f73 : n24 = 0) : nb_107 n12 n2 H0 H11 := by
  have gb := f4.2.1.1.2
  unfold Bb_107_2 at gb
  obtain ⟨e0, z0⟩ := gb
  unfold nb_107
  subst e0
  have a15 := f15.2
  unfold postb_199vk100 at a15
  have a26 := f26.2
  unfold postb_199vk100 at a26
  have a32 := f32.2
  unfold postb_199vk100 at a32
  have a41 := f41.2
  unfold postb_199vk100 at a41
  have a47 := f47.2
  unfold postb_199vk100 at a47
  have a56 := f56.2
  unfold postb_199vk100 at a56
  have a62 := f62.2
  unfold postb_199vk100 at a62
  have k35 := f35.2.2
  unfold nb_108 at k35
  have k65 := f65.2.2
  unfold nb_108 at k65
  exfalso
  omega
def g_107w_2_19 : vG := ([(30, [24], [], 0), (20, [24, 1], [11], 11), (23, [1], [11], 5), (90, [24], [], 0), (91, [24], [], 1), (31, [23], [], 0), (0, [23], [], 1), (31, [22], [], 0), (1108, [22, 1, 19, 21], [10, 11], 0), (90, [22], [], -2147483648), (91, [22], [], 2147483647), (1199, [21, 20, 2], [9, 10], 0), (90, [21], [], -2147483648), (91, [21], [], 2147483647), (20, [20, 1], [9], 5), (23, [1], [9], 5), (51, [20], [], 0), (1199, [19, 18, 2], [8, 9], 0), (90, [19], [], -2147483648), (91, [19], [], 2147483647), (20, [18, 1], [8], 4), (23, [1], [8], 5), (51, [18], [], 0), (30, [17], [], 0), (0, [17], [], 1), (40, [14, 16], [], 0), (1199, [16, 15, 2], [7, 8], 0), (90, [16], [], -2147483648), (91, [16], [], 2147483647), (20, [15, 1], [7], 5), (23, [1], [7], 5), (51, [15], [], 0), (1199, [14, 13, 2], [6, 7], 0), (90, [14], [], -2147483648), (91, [14], [], 2147483647), (20, [13, 1], [6], 4), (23, [1], [6], 5), (51, [13], [], 0), (1108, [12, 1, 9, 11], [5, 6], 0), (90, [12], [], -2147483648), (91, [12], [], 2147483647), (1199, [11, 10, 2], [4, 5], 0), (90, [11], [], -2147483648), (91, [11], [], 2147483647), (20, [10, 1], [4], 4), (23, [1], [4], 5), (51, [10], [], 0), (1199, [9, 8, 2], [3, 4], 0), (90, [9], [], -2147483648), (91, [9], [], 2147483647), (20, [8, 1], [3], 3), (23, [1], [3], 5), (51, [8], [], 0), (80, [1, 7, 6], [3, 2], 0), (0, [7], [], 11), (23, [1], [2], 5), (0, [6], [], 0), (30, [5], [], 0), (1199, [5, 4, 2], [1, 2], 0), (90, [5], [], -2147483648), (91, [5], [], 2147483647), (20, [4, 1], [1], 7), (23, [1], [1], 5), (51, [4], [], 0), (42, [2, 3], [], 0), (20, [3, 1], [1], 0), (23, [1], [1], 5), (90, [3], [], -2147483648), (91, [3], [], 2147483647), (5000, [0, 1, 2], [0, 1], 2), (51, [0], [], 0), (51, [1], [], 0), (90, [2], [], -2147483648), (91, [2], [], 2147483647)], (3000, [12], [11], 119))
theorem c_107w_2_19 {q0 : Nat} : vOkm T0 (eN e_107 L_107w A_107 mu_107 n_107 B_107 (some q0)) 1 g_107w_2_19 := vOk_inI fun ρ η f0 f1 f2 f3 f4 f5 f6 f7 f8 f9 f10 f11 f12 f13 f14 f15 f16 f17 f18 f19 f20 f21 f22 f23 f24 f25 f26 f27 f28 f29 f30 f31 f32 f33 f34 f35 f36 f37 f38 f39 f40 f41 f42 f43 f44 f45 f46 f47 f48 f49 f50 f51 f52 f53 f54 f55 f56 f57 f58 f59 f60 f61 f62 f63 f64 f65 f66 f67 f68 f69 f70 f71 f72 f73 => q_107w_20 (q0 := q0) (n0 := ρ 2) (n1 := ρ 1) (n2 := ρ 0) (n3 := ρ 3) (n4 := ρ 4) (n5 := ρ 5) (n6 := ρ 6) (n7 := ρ 7) (n8 := ρ 8) (n9 := ρ 9) (n10 := ρ 10) (n11 := ρ 11) (n12 := ρ 12) (n13 := ρ 13) (n14 := ρ 14) (n15 := ρ 15) (n16 := ρ 16) (n17 := ρ 17) (n18 := ρ 18) (n19 := ρ 19) (n20 := ρ 20) (n21 := ρ 21) (n22 := ρ 22) (n23 := ρ 23) (n24 := ρ 24) (H0 := η 0) (H1 := η 1) (H2 := η 2) (H3 := η 3) (H4 := η 4) (H5 := η 5) (H6 := η 6) (H7 := η 7) (H8 := η 8) (H9 := η 9) (H10 := η 10) (H11 := η 11) f73 f72 f71 f70 f69 f68 f67 f66 f65 f64 f63 f62 f61 f60 f59 f58 f57 f56 f55 f54 f53 f52 f51 f50 f49 f48 f47 f46 f45 f44 f43 f42 f41 f40 f39 f38 f37 f36 f35 f34 f33 f32 f31 f30 f29 f28 f27 f26 f25 f24 f23 f22 f21 f20 f19 f18 f17 f16 f15 f14 f13 f12 f11 f10 f9 f8 f7 f6 f5 f4 f3 f2 f1 f0
def p_107w_2 : List vG := [g_107w_2_0,
  g_107w_2_1,
  g_107w_2_2,
  g_107w_2_3,
  g_107w_2_4,
  g_107w_2_5,
  g_107w_2_6,
  g_107w_2_7,
  g_107w_2_8,
  g_107w_2_9,
  g_107w_2_10,
  g_107w_2_11,
  g_107w_2_12,
  g_107w_2_13,
  g_107w_2_14,
  g_107w_2_15,
  g_107w_2_16,
  g_107w_2_17,
  g_107w_2_18,
  g_107w_2_19]
theorem r_107w_2 : vCovBO (eRc e_107 L_107 cs_107 2000 (2, [(0, (3, 5, -1, 0)), (1, (0, -2147483648, 2147483647, 0))])) p_107w_2 = true := by decide +kernel
theorem m_107w (d : Nat) : eC e_107w (d + 5) := eC_ref (e := e_107) (L := L_107) (L' := L_107w) (cs := cs_107) (n := 2000) (d := d + 4) (A := A_107) (μ := mu_107) (tp := true) (p0 := p_107_s) (p1 := p_107w_s) (N := n_107) (B := B_107) rfl ⟨m_108w d, ⟨m_199vk100 (d + 3), trivial⟩⟩ rfl (.inr pre0_ok) (by decide +kernel) (fun _ => post0_ok) r_107_s (allC c_107_s_0 allN) (allC (.inl ⟨p_107_2, r_107_2, fun q0 => (allC c_107_2_0 (allC c_107_2_1 (allC c_107_2_2 (allC c_107_2_3 (allC c_107_2_4 (allC c_107_2_5 (allC c_107_2_6 (allC c_107_2_7 (allC c_107_2_8 (allC c_107_2_9 (allC c_107_2_10 (allC c_107_2_11 (allC c_107_2_12 allN)))))))))))))⟩) allN) (sub1 ⟨⟨rfl, rfl, rfl, fun _ _ _ _ => trivial⟩, trivial⟩) r_107w_s (allC c_107w_s_0 allN) (allC ⟨p_107w_2, r_107w_2, fun q0 => (allC c_107w_2_0 (allC c_107w_2_1 (allC c_107w_2_2 (allC c_107w_2_3 (allC c_107w_2_4 (allC c_107w_2_5 (allC c_107w_2_6 (allC c_107w_2_7 (allC c_107w_2_8 (allC c_107w_2_9 (allC c_107w_2_10 (allC c_107w_2_11 (allC c_107w_2_12 (allC c_107w_2_13 (allC c_107w_2_14 (allC c_107w_2_15 (allC c_107w_2_16 (allC c_107w_2_17 (allC c_107w_2_18 (allC c_107w_2_19 allN))))))))))))))))))))⟩ allN)
/- Rules.set (II)V, more fully -/
def nb_106 (a0 a1 a2 : Int) (h0 h : gH) : Prop := SETp h0 h a0 a1 a2
def n_106 : List Int → gH → gH → Prop := fun xs h0 h => match xs with
  | [a0, a1, a2] => nb_106 a0 a1 a2 h0 h
  | _ => True
noncomputable def e_106w : vE := eV e_106 n_106
noncomputable def L_106w : List vE := [e_201vk100]
def B_106 : Int → List Int → gH → gH → Prop := fun c xs h0 h => True
theorem q_106w_0 {n0 n1 n2 n3 n4 n5 : Int} {H0 H1 : gH} (f0 : n0 ≤ 2147483647) (f1 : (-2147483648) ≤ n0) (f2 : n1 ≤ 2147483647) (f3 : (-2147483648) ≤ n1) (f4 : 0 ≤ n2) (f5 : hWt T0 H0 ∧ True) (f6 : 0 ≤ n3) (f7 : hK H0 (n2).toNat = 5) (f8 : n3 = hV H0 (n2).toNat 8) (f9 : n4 = 45) (f10 : n5 = w32 (n1 - n4)) (f11 : (hLe T0 H0 H1 ∧ hFr s_201vk100.2.2.2.2 H0 H1 ∧ ((0 : Int) = 0 → H1.length = H0.length) ∧ hWt T0 H1) ∧ postb_201vk100 n3 n5 n0 H0 H1) : nb_106 n2 n1 n0 H0 H1 := by
  unfold nb_106
  have pp := f11.2
  unfold postb_201vk100 at pp
  have e5 := f10
  rw [f9] at e5
  exact set_at f8 e5 f11.1.1 pp
def g_106w_s_0 : vG := ([(1201, [3, 5, 2], [0, 1], 0), (2, [5, 1, 4], [], 0), (0, [4], [], 45), (20, [3, 0], [0], 8), (23, [0], [0], 5), (51, [3], [], 0), (6000, [0, 1, 2], [0], 0), (51, [0], [], 0), (90, [1], [], -2147483648), (91, [1], [], 2147483647), (90, [2], [], -2147483648), (91, [2], [], 2147483647)], (3000, [], [1], 12))
theorem c_106w_s_0 : vOkm T0 (eN e_106 L_106w A_106 mu_106 n_106 B_106 none) 3 g_106w_s_0 := vOk_inI fun ρ η f0 f1 f2 f3 f4 f5 f6 f7 f8 f9 f10 f11 => q_106w_0 (n0 := ρ 2) (n1 := ρ 1) (n2 := ρ 0) (n3 := ρ 3) (n4 := ρ 4) (n5 := ρ 5) (H0 := η 0) (H1 := η 1) f11 f10 f9 f8 f7 f6 f5 f4 f3 f2 f1 f0
def p_106w_s : List vG := [g_106w_s_0]
theorem r_106w_s : vCovBO (eR0 e_106 L_106 cs_106 2000) p_106w_s = true := by decide +kernel
theorem m_106w (d : Nat) : eC e_106w (d + 2) := eC_ref (e := e_106) (L := L_106) (L' := L_106w) (cs := cs_106) (n := 2000) (d := d + 1) (A := A_106) (μ := mu_106) (tp := true) (p0 := p_106_s) (p1 := p_106w_s) (N := n_106) (B := B_106) rfl ⟨m_201vk100 d, trivial⟩ rfl (.inr pre0_ok) (by decide +kernel) (fun _ => post0_ok) r_106_s allN allN ⟨⟨rfl, rfl, rfl, fun _ _ _ _ => trivial⟩, trivial⟩ r_106w_s (allC c_106w_s_0 allN) allN
