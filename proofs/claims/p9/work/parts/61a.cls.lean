/- Tokens.kindOf (I)I -/
noncomputable def s_122v : vM := ([(3, 8, 31, 0), (0, -2147483648, 2147483647, 0)], (0, -2147483648, 2147483647, 0), 1, 0, [])
def preb_122v (a0 a1 : Int) (h : gH) : Prop := KS5 h
def pre_122v : List Int → gH → Prop := fun xs h => match xs with
  | [a0, a1] => preb_122v a0 a1 h
  | _ => False
def postb_122v (r a0 a1 : Int) (h0 h : gH) : Prop := r = kC h0 a1
def post_122v : List Int → gH → gH → Prop := fun xs h0 h => match xs with
  | [r, a0, a1] => postb_122v r a0 a1 h0 h
  | _ => True
noncomputable def e_122v : vE := (122, s_122v, pre_122v, post_122v)
noncomputable def L_122v : List vE := []
def cs_122v : List vC := []
def A_122v : Int → List Int → gH → gH → Prop := fun c xs h0 h => True
def mu_122v : Int → List Int → gH → gH → Nat := fun c xs h0 h => 0
theorem q_122v_0 {n0 n1 n2 : Int} {H0 : gH} (f0 : n0 ≤ 2147483647) (f1 : (-2147483648) ≤ n0) (f2 : n1 = 31) (f3 : hWt T0 H0 ∧ preb_122v n1 n0 H0) (f4 : n0 < 0) (f5 : n2 = 0) : postb_122v n2 n1 n0 H0 H0 := by
  have pz := f3.2
  unfold preb_122v at pz
  unfold postb_122v kC
  first
  | (rw [if_neg (by omega)] <;> omega)
  | (rw [if_pos (by omega)] <;> omega)
theorem c_122v_s_0 : vOkm T0 (eP e_122v L_122v A_122v mu_122v none) 2 ([(0, [2], [], 0), (32, [1], [], 0), (6000, [0, 1], [0], 0), (0, [0], [], 31), (90, [1], [], -2147483648), (91, [1], [], 2147483647)], (3000, [2], [0], 31)) := vOk_in fun ρ η h => by
  obtain ⟨f0, f1, f2, f3, f4, f5, _⟩ := h
  exact q_122v_0 (n0 := ρ 1) (n1 := ρ 0) (n2 := ρ 2) (H0 := η 0) f5 f4 f3 f2 f1 f0
theorem q_122v_1 {n0 n1 n2 n3 : Int} {H0 : gH} (f0 : n0 ≤ 2147483647) (f1 : (-2147483648) ≤ n0) (f2 : n1 = 31) (f3 : hWt T0 H0 ∧ preb_122v n1 n0 H0) (f4 : 0 ≤ n0) (f5 : n2 ≤ 2147483647) (f6 : (-2147483648) ≤ n2) (f7 : n2 = hV H0 (n1).toNat 4) (f8 : n2 ≤ n0) (f9 : n3 = 0) : postb_122v n3 n1 n0 H0 H0 := by
  have pz := f3.2
  unfold preb_122v at pz
  unfold postb_122v kC
  have tc0 := f7
  rw [f2] at tc0
  rw [show ((31 : Int)).toNat = 31 from rfl] at tc0
  first
  | (rw [if_neg (by omega)] <;> omega)
  | (rw [if_pos (by omega)] <;> omega)
theorem c_122v_s_1 : vOkm T0 (eP e_122v L_122v A_122v mu_122v none) 2 ([(0, [3], [], 0), (43, [1, 2], [], 0), (20, [2, 0], [0], 4), (90, [2], [], -2147483648), (91, [2], [], 2147483647), (33, [1], [], 0), (6000, [0, 1], [0], 0), (0, [0], [], 31), (90, [1], [], -2147483648), (91, [1], [], 2147483647)], (3000, [3], [0], 31)) := vOk_in fun ρ η h => by
  obtain ⟨f0, f1, f2, f3, f4, f5, f6, f7, f8, f9, _⟩ := h
  exact q_122v_1 (n0 := ρ 1) (n1 := ρ 0) (n2 := ρ 2) (n3 := ρ 3) (H0 := η 0) f9 f8 f7 f6 f5 f4 f3 f2 f1 f0
theorem q_122v_2 {n0 n1 n2 n3 n4 n5 : Int} {H0 : gH} (f0 : n0 ≤ 2147483647) (f1 : (-2147483648) ≤ n0) (f2 : n1 = 31) (f3 : hWt T0 H0 ∧ preb_122v n1 n0 H0) (f4 : 0 ≤ n0) (f5 : n2 ≤ 2147483647) (f6 : (-2147483648) ≤ n2) (f7 : n2 = hV H0 (n1).toNat 4) (f8 : n0 < n2) (f9 : n3 = 33) (f10 : n3 = hV H0 (n1).toNat 1) (f11 : n4 = (hN H0 (n3).toNat : Int)) (f12 : n4 = 502) (f13 : n0 < n4) (f14 : n5 = 33) (f15 : n5 = hV H0 (n1).toNat 1) : 0 ≤ n0 ∧ n0 < 502 := by
  unfold preb_122v at f3
  have e0 : n2 = hV H0 31 4 := (by rw [f2] at f7; exact f7 : n2 = hV H0 31 4)
  subst e0
  omega
theorem c_122v_s_2 : vOkm T0 (eP e_122v L_122v A_122v mu_122v none) 2 ([(20, [5, 0], [0], 1), (0, [5], [], 33), (42, [1, 4], [], 0), (0, [4], [], 502), (21, [4, 3], [0], 0), (20, [3, 0], [0], 1), (0, [3], [], 33), (42, [1, 2], [], 0), (20, [2, 0], [0], 4), (90, [2], [], -2147483648), (91, [2], [], 2147483647), (33, [1], [], 0), (6000, [0, 1], [0], 0), (0, [0], [], 31), (90, [1], [], -2147483648), (91, [1], [], 2147483647)], (70, [1], [], 502)) := vOk_in fun ρ η h => by
  obtain ⟨f0, f1, f2, f3, f4, f5, f6, f7, f8, f9, f10, f11, f12, f13, f14, f15, _⟩ := h
  exact q_122v_2 (n0 := ρ 1) (n1 := ρ 0) (n2 := ρ 2) (n3 := ρ 3) (n4 := ρ 4) (n5 := ρ 5) (H0 := η 0) f15 f14 f13 f12 f11 f10 f9 f8 f7 f6 f5 f4 f3 f2 f1 f0
theorem q_122v_3 {n0 n1 n2 n3 n4 n5 n6 : Int} {H0 : gH} (f0 : n0 ≤ 2147483647) (f1 : (-2147483648) ≤ n0) (f2 : n1 = 31) (f3 : hWt T0 H0 ∧ preb_122v n1 n0 H0) (f4 : 0 ≤ n0) (f5 : n2 ≤ 2147483647) (f6 : (-2147483648) ≤ n2) (f7 : n2 = hV H0 (n1).toNat 4) (f8 : n0 < n2) (f9 : n3 = 33) (f10 : n3 = hV H0 (n1).toNat 1) (f11 : n4 = (hN H0 (n3).toNat : Int)) (f12 : n4 = 502) (f13 : n0 < n4) (f14 : n5 = 33) (f15 : n5 = hV H0 (n1).toNat 1) (f16 : n6 ≤ 2147483647) (f17 : (-2147483648) ≤ n6) (f18 : n6 = hV H0 (n5).toNat (n0).toNat) : postb_122v n6 n1 n0 H0 H0 := by
  have pz := f3.2
  unfold preb_122v at pz
  unfold postb_122v kC
  have ln0 := f11
  rw [f9] at ln0
  rw [show ((33 : Int)).toNat = 33 from rfl, pz.2.2.2.2.2.1] at ln0
  have tc0 := f7
  rw [f2] at tc0
  rw [show ((31 : Int)).toNat = 31 from rfl] at tc0
  have rw0 := f18
  rw [f14] at rw0
  rw [show ((33 : Int)).toNat = 33 from rfl] at rw0
  first
  | (rw [if_neg (by omega)] <;> omega)
  | (rw [if_pos (by omega)] <;> omega)
theorem c_122v_s_3 : vOkm T0 (eP e_122v L_122v A_122v mu_122v none) 2 ([(22, [6, 5, 1], [0], 0), (90, [6], [], -2147483648), (91, [6], [], 2147483647), (20, [5, 0], [0], 1), (0, [5], [], 33), (42, [1, 4], [], 0), (0, [4], [], 502), (21, [4, 3], [0], 0), (20, [3, 0], [0], 1), (0, [3], [], 33), (42, [1, 2], [], 0), (20, [2, 0], [0], 4), (90, [2], [], -2147483648), (91, [2], [], 2147483647), (33, [1], [], 0), (6000, [0, 1], [0], 0), (0, [0], [], 31), (90, [1], [], -2147483648), (91, [1], [], 2147483647)], (3000, [6], [0], 31)) := vOk_in fun ρ η h => by
  obtain ⟨f0, f1, f2, f3, f4, f5, f6, f7, f8, f9, f10, f11, f12, f13, f14, f15, f16, f17, f18, _⟩ := h
  exact q_122v_3 (n0 := ρ 1) (n1 := ρ 0) (n2 := ρ 2) (n3 := ρ 3) (n4 := ρ 4) (n5 := ρ 5) (n6 := ρ 6) (H0 := η 0) f18 f17 f16 f15 f14 f13 f12 f11 f10 f9 f8 f7 f6 f5 f4 f3 f2 f1 f0
theorem q_122v_4 {n0 n1 n2 n3 n4 n5 : Int} {H0 : gH} (f0 : n0 ≤ 2147483647) (f1 : (-2147483648) ≤ n0) (f2 : n1 = 31) (f3 : hWt T0 H0 ∧ preb_122v n1 n0 H0) (f4 : 0 ≤ n0) (f5 : n2 ≤ 2147483647) (f6 : (-2147483648) ≤ n2) (f7 : n2 = hV H0 (n1).toNat 4) (f8 : n0 < n2) (f9 : n3 = 33) (f10 : n3 = hV H0 (n1).toNat 1) (f11 : n4 = (hN H0 (n3).toNat : Int)) (f12 : n4 = 502) (f13 : n4 ≤ n0) (f14 : n5 = 0) : postb_122v n5 n1 n0 H0 H0 := by
  have pz := f3.2
  unfold preb_122v at pz
  unfold postb_122v kC
  have ln0 := f11
  rw [f9] at ln0
  rw [show ((33 : Int)).toNat = 33 from rfl, pz.2.2.2.2.2.1] at ln0
  have tc0 := f7
  rw [f2] at tc0
  rw [show ((31 : Int)).toNat = 31 from rfl] at tc0
  first
  | (rw [if_neg (by omega)] <;> omega)
  | (rw [if_pos (by omega)] <;> omega)
theorem c_122v_s_4 : vOkm T0 (eP e_122v L_122v A_122v mu_122v none) 2 ([(0, [5], [], 0), (43, [1, 4], [], 0), (0, [4], [], 502), (21, [4, 3], [0], 0), (20, [3, 0], [0], 1), (0, [3], [], 33), (42, [1, 2], [], 0), (20, [2, 0], [0], 4), (90, [2], [], -2147483648), (91, [2], [], 2147483647), (33, [1], [], 0), (6000, [0, 1], [0], 0), (0, [0], [], 31), (90, [1], [], -2147483648), (91, [1], [], 2147483647)], (3000, [5], [0], 31)) := vOk_in fun ρ η h => by
  obtain ⟨f0, f1, f2, f3, f4, f5, f6, f7, f8, f9, f10, f11, f12, f13, f14, _⟩ := h
  exact q_122v_4 (n0 := ρ 1) (n1 := ρ 0) (n2 := ρ 2) (n3 := ρ 3) (n4 := ρ 4) (n5 := ρ 5) (H0 := η 0) f14 f13 f12 f11 f10 f9 f8 f7 f6 f5 f4 f3 f2 f1 f0
def p_122v_s : List vG := [([(0, [2], [], 0), (32, [1], [], 0), (6000, [0, 1], [0], 0), (0, [0], [], 31), (90, [1], [], -2147483648), (91, [1], [], 2147483647)], (3000, [2], [0], 31)),
  ([(0, [3], [], 0), (43, [1, 2], [], 0), (20, [2, 0], [0], 4), (90, [2], [], -2147483648), (91, [2], [], 2147483647), (33, [1], [], 0), (6000, [0, 1], [0], 0), (0, [0], [], 31), (90, [1], [], -2147483648), (91, [1], [], 2147483647)], (3000, [3], [0], 31)),
  ([(20, [5, 0], [0], 1), (0, [5], [], 33), (42, [1, 4], [], 0), (0, [4], [], 502), (21, [4, 3], [0], 0), (20, [3, 0], [0], 1), (0, [3], [], 33), (42, [1, 2], [], 0), (20, [2, 0], [0], 4), (90, [2], [], -2147483648), (91, [2], [], 2147483647), (33, [1], [], 0), (6000, [0, 1], [0], 0), (0, [0], [], 31), (90, [1], [], -2147483648), (91, [1], [], 2147483647)], (70, [1], [], 502)),
  ([(22, [6, 5, 1], [0], 0), (90, [6], [], -2147483648), (91, [6], [], 2147483647), (20, [5, 0], [0], 1), (0, [5], [], 33), (42, [1, 4], [], 0), (0, [4], [], 502), (21, [4, 3], [0], 0), (20, [3, 0], [0], 1), (0, [3], [], 33), (42, [1, 2], [], 0), (20, [2, 0], [0], 4), (90, [2], [], -2147483648), (91, [2], [], 2147483647), (33, [1], [], 0), (6000, [0, 1], [0], 0), (0, [0], [], 31), (90, [1], [], -2147483648), (91, [1], [], 2147483647)], (3000, [6], [0], 31)),
  ([(0, [5], [], 0), (43, [1, 4], [], 0), (0, [4], [], 502), (21, [4, 3], [0], 0), (20, [3, 0], [0], 1), (0, [3], [], 33), (42, [1, 2], [], 0), (20, [2, 0], [0], 4), (90, [2], [], -2147483648), (91, [2], [], 2147483647), (33, [1], [], 0), (6000, [0, 1], [0], 0), (0, [0], [], 31), (90, [1], [], -2147483648), (91, [1], [], 2147483647)], (3000, [5], [0], 31))]
theorem r_122v_s : vCovO false (eR0 e_122v L_122v cs_122v 2000) p_122v_s = true := by decide +kernel
theorem m_122v (d : Nat) : eC e_122v (d + 1) := eC_ok (e := e_122v) (L := L_122v) (cs := cs_122v) (n := 2000) (d := d + 0) (A := A_122v) (μ := mu_122v) (tp := false) (p0 := p_122v_s) rfl trivial rfl (.inl rfl) (by decide +kernel) (fun z => nomatch z) r_122v_s (allC c_122v_s_0 (allC c_122v_s_1 (allC c_122v_s_2 (allC c_122v_s_3 (allC c_122v_s_4 allN))))) allN
/- Tokens.valueOf (I)J -/
noncomputable def s_123v : vM := ([(3, 8, 31, 0), (0, -2147483648, 2147483647, 0)], (1, 0, 0, 0), 1, 0, [])
def preb_123v (a0 a1 : Int) (h : gH) : Prop := KS5 h
def pre_123v : List Int → gH → Prop := fun xs h => match xs with
  | [a0, a1] => preb_123v a0 a1 h
  | _ => False
def postb_123v (r a0 a1 : Int) (h0 h : gH) : Prop := r = uC h0 a1
def post_123v : List Int → gH → gH → Prop := fun xs h0 h => match xs with
  | [r, a0, a1] => postb_123v r a0 a1 h0 h
  | _ => True
noncomputable def e_123v : vE := (123, s_123v, pre_123v, post_123v)
noncomputable def L_123v : List vE := []
def cs_123v : List vC := []
def A_123v : Int → List Int → gH → gH → Prop := fun c xs h0 h => True
def mu_123v : Int → List Int → gH → gH → Nat := fun c xs h0 h => 0
theorem q_123v_0 {n0 n1 n2 : Int} {H0 : gH} (f0 : n0 ≤ 2147483647) (f1 : (-2147483648) ≤ n0) (f2 : n1 = 31) (f3 : hWt T0 H0 ∧ preb_123v n1 n0 H0) (f4 : n0 < 0) (f5 : n2 = 0) : postb_123v n2 n1 n0 H0 H0 := by
  have pz := f3.2
  unfold preb_123v at pz
  unfold postb_123v uC
  first
  | (rw [if_neg (by omega)] <;> omega)
  | (rw [if_pos (by omega)] <;> omega)
theorem c_123v_s_0 : vOkm T0 (eP e_123v L_123v A_123v mu_123v none) 2 ([(0, [2], [], 0), (32, [1], [], 0), (6000, [0, 1], [0], 0), (0, [0], [], 31), (90, [1], [], -2147483648), (91, [1], [], 2147483647)], (3000, [2], [0], 31)) := vOk_in fun ρ η h => by
  obtain ⟨f0, f1, f2, f3, f4, f5, _⟩ := h
  exact q_123v_0 (n0 := ρ 1) (n1 := ρ 0) (n2 := ρ 2) (H0 := η 0) f5 f4 f3 f2 f1 f0
theorem q_123v_1 {n0 n1 n2 n3 : Int} {H0 : gH} (f0 : n0 ≤ 2147483647) (f1 : (-2147483648) ≤ n0) (f2 : n1 = 31) (f3 : hWt T0 H0 ∧ preb_123v n1 n0 H0) (f4 : 0 ≤ n0) (f5 : n2 ≤ 2147483647) (f6 : (-2147483648) ≤ n2) (f7 : n2 = hV H0 (n1).toNat 4) (f8 : n2 ≤ n0) (f9 : n3 = 0) : postb_123v n3 n1 n0 H0 H0 := by
  have pz := f3.2
  unfold preb_123v at pz
  unfold postb_123v uC
  have tc0 := f7
  rw [f2] at tc0
  rw [show ((31 : Int)).toNat = 31 from rfl] at tc0
  first
  | (rw [if_neg (by omega)] <;> omega)
  | (rw [if_pos (by omega)] <;> omega)
theorem c_123v_s_1 : vOkm T0 (eP e_123v L_123v A_123v mu_123v none) 2 ([(0, [3], [], 0), (43, [1, 2], [], 0), (20, [2, 0], [0], 4), (90, [2], [], -2147483648), (91, [2], [], 2147483647), (33, [1], [], 0), (6000, [0, 1], [0], 0), (0, [0], [], 31), (90, [1], [], -2147483648), (91, [1], [], 2147483647)], (3000, [3], [0], 31)) := vOk_in fun ρ η h => by
  obtain ⟨f0, f1, f2, f3, f4, f5, f6, f7, f8, f9, _⟩ := h
  exact q_123v_1 (n0 := ρ 1) (n1 := ρ 0) (n2 := ρ 2) (n3 := ρ 3) (H0 := η 0) f9 f8 f7 f6 f5 f4 f3 f2 f1 f0
theorem q_123v_2 {n0 n1 n2 n3 n4 n5 : Int} {H0 : gH} (f0 : n0 ≤ 2147483647) (f1 : (-2147483648) ≤ n0) (f2 : n1 = 31) (f3 : hWt T0 H0 ∧ preb_123v n1 n0 H0) (f4 : 0 ≤ n0) (f5 : n2 ≤ 2147483647) (f6 : (-2147483648) ≤ n2) (f7 : n2 = hV H0 (n1).toNat 4) (f8 : n0 < n2) (f9 : n3 = 35) (f10 : n3 = hV H0 (n1).toNat 3) (f11 : n4 = (hN H0 (n3).toNat : Int)) (f12 : n4 = 502) (f13 : n0 < n4) (f14 : n5 = 35) (f15 : n5 = hV H0 (n1).toNat 3) : 0 ≤ n0 ∧ n0 < 502 := by
  unfold preb_123v at f3
  have e0 : n2 = hV H0 31 4 := (by rw [f2] at f7; exact f7 : n2 = hV H0 31 4)
  subst e0
  omega
theorem c_123v_s_2 : vOkm T0 (eP e_123v L_123v A_123v mu_123v none) 2 ([(20, [5, 0], [0], 3), (0, [5], [], 35), (42, [1, 4], [], 0), (0, [4], [], 502), (21, [4, 3], [0], 0), (20, [3, 0], [0], 3), (0, [3], [], 35), (42, [1, 2], [], 0), (20, [2, 0], [0], 4), (90, [2], [], -2147483648), (91, [2], [], 2147483647), (33, [1], [], 0), (6000, [0, 1], [0], 0), (0, [0], [], 31), (90, [1], [], -2147483648), (91, [1], [], 2147483647)], (70, [1], [], 502)) := vOk_in fun ρ η h => by
  obtain ⟨f0, f1, f2, f3, f4, f5, f6, f7, f8, f9, f10, f11, f12, f13, f14, f15, _⟩ := h
  exact q_123v_2 (n0 := ρ 1) (n1 := ρ 0) (n2 := ρ 2) (n3 := ρ 3) (n4 := ρ 4) (n5 := ρ 5) (H0 := η 0) f15 f14 f13 f12 f11 f10 f9 f8 f7 f6 f5 f4 f3 f2 f1 f0
theorem q_123v_3 {n0 n1 n2 n3 n4 n5 n6 : Int} {H0 : gH} (f0 : n0 ≤ 2147483647) (f1 : (-2147483648) ≤ n0) (f2 : n1 = 31) (f3 : hWt T0 H0 ∧ preb_123v n1 n0 H0) (f4 : 0 ≤ n0) (f5 : n2 ≤ 2147483647) (f6 : (-2147483648) ≤ n2) (f7 : n2 = hV H0 (n1).toNat 4) (f8 : n0 < n2) (f9 : n3 = 35) (f10 : n3 = hV H0 (n1).toNat 3) (f11 : n4 = (hN H0 (n3).toNat : Int)) (f12 : n4 = 502) (f13 : n0 < n4) (f14 : n5 = 35) (f15 : n5 = hV H0 (n1).toNat 3) (f16 : n6 = hV H0 (n5).toNat (n0).toNat) : postb_123v n6 n1 n0 H0 H0 := by
  have pz := f3.2
  unfold preb_123v at pz
  unfold postb_123v uC
  have ln0 := f11
  rw [f9] at ln0
  rw [show ((35 : Int)).toNat = 35 from rfl, pz.2.2.2.2.2.2.2] at ln0
  have tc0 := f7
  rw [f2] at tc0
  rw [show ((31 : Int)).toNat = 31 from rfl] at tc0
  have rw0 := f16
  rw [f14] at rw0
  rw [show ((35 : Int)).toNat = 35 from rfl] at rw0
  first
  | (rw [if_neg (by omega)] <;> omega)
  | (rw [if_pos (by omega)] <;> omega)
theorem c_123v_s_3 : vOkm T0 (eP e_123v L_123v A_123v mu_123v none) 2 ([(22, [6, 5, 1], [0], 0), (20, [5, 0], [0], 3), (0, [5], [], 35), (42, [1, 4], [], 0), (0, [4], [], 502), (21, [4, 3], [0], 0), (20, [3, 0], [0], 3), (0, [3], [], 35), (42, [1, 2], [], 0), (20, [2, 0], [0], 4), (90, [2], [], -2147483648), (91, [2], [], 2147483647), (33, [1], [], 0), (6000, [0, 1], [0], 0), (0, [0], [], 31), (90, [1], [], -2147483648), (91, [1], [], 2147483647)], (3000, [6], [0], 31)) := vOk_in fun ρ η h => by
  obtain ⟨f0, f1, f2, f3, f4, f5, f6, f7, f8, f9, f10, f11, f12, f13, f14, f15, f16, _⟩ := h
  exact q_123v_3 (n0 := ρ 1) (n1 := ρ 0) (n2 := ρ 2) (n3 := ρ 3) (n4 := ρ 4) (n5 := ρ 5) (n6 := ρ 6) (H0 := η 0) f16 f15 f14 f13 f12 f11 f10 f9 f8 f7 f6 f5 f4 f3 f2 f1 f0
theorem q_123v_4 {n0 n1 n2 n3 n4 n5 : Int} {H0 : gH} (f0 : n0 ≤ 2147483647) (f1 : (-2147483648) ≤ n0) (f2 : n1 = 31) (f3 : hWt T0 H0 ∧ preb_123v n1 n0 H0) (f4 : 0 ≤ n0) (f5 : n2 ≤ 2147483647) (f6 : (-2147483648) ≤ n2) (f7 : n2 = hV H0 (n1).toNat 4) (f8 : n0 < n2) (f9 : n3 = 35) (f10 : n3 = hV H0 (n1).toNat 3) (f11 : n4 = (hN H0 (n3).toNat : Int)) (f12 : n4 = 502) (f13 : n4 ≤ n0) (f14 : n5 = 0) : postb_123v n5 n1 n0 H0 H0 := by
  have pz := f3.2
  unfold preb_123v at pz
  unfold postb_123v uC
  have ln0 := f11
  rw [f9] at ln0
  rw [show ((35 : Int)).toNat = 35 from rfl, pz.2.2.2.2.2.2.2] at ln0
  have tc0 := f7
  rw [f2] at tc0
  rw [show ((31 : Int)).toNat = 31 from rfl] at tc0
  first
  | (rw [if_neg (by omega)] <;> omega)
  | (rw [if_pos (by omega)] <;> omega)
theorem c_123v_s_4 : vOkm T0 (eP e_123v L_123v A_123v mu_123v none) 2 ([(0, [5], [], 0), (43, [1, 4], [], 0), (0, [4], [], 502), (21, [4, 3], [0], 0), (20, [3, 0], [0], 3), (0, [3], [], 35), (42, [1, 2], [], 0), (20, [2, 0], [0], 4), (90, [2], [], -2147483648), (91, [2], [], 2147483647), (33, [1], [], 0), (6000, [0, 1], [0], 0), (0, [0], [], 31), (90, [1], [], -2147483648), (91, [1], [], 2147483647)], (3000, [5], [0], 31)) := vOk_in fun ρ η h => by
  obtain ⟨f0, f1, f2, f3, f4, f5, f6, f7, f8, f9, f10, f11, f12, f13, f14, _⟩ := h
  exact q_123v_4 (n0 := ρ 1) (n1 := ρ 0) (n2 := ρ 2) (n3 := ρ 3) (n4 := ρ 4) (n5 := ρ 5) (H0 := η 0) f14 f13 f12 f11 f10 f9 f8 f7 f6 f5 f4 f3 f2 f1 f0
def p_123v_s : List vG := [([(0, [2], [], 0), (32, [1], [], 0), (6000, [0, 1], [0], 0), (0, [0], [], 31), (90, [1], [], -2147483648), (91, [1], [], 2147483647)], (3000, [2], [0], 31)),
  ([(0, [3], [], 0), (43, [1, 2], [], 0), (20, [2, 0], [0], 4), (90, [2], [], -2147483648), (91, [2], [], 2147483647), (33, [1], [], 0), (6000, [0, 1], [0], 0), (0, [0], [], 31), (90, [1], [], -2147483648), (91, [1], [], 2147483647)], (3000, [3], [0], 31)),
  ([(20, [5, 0], [0], 3), (0, [5], [], 35), (42, [1, 4], [], 0), (0, [4], [], 502), (21, [4, 3], [0], 0), (20, [3, 0], [0], 3), (0, [3], [], 35), (42, [1, 2], [], 0), (20, [2, 0], [0], 4), (90, [2], [], -2147483648), (91, [2], [], 2147483647), (33, [1], [], 0), (6000, [0, 1], [0], 0), (0, [0], [], 31), (90, [1], [], -2147483648), (91, [1], [], 2147483647)], (70, [1], [], 502)),
  ([(22, [6, 5, 1], [0], 0), (20, [5, 0], [0], 3), (0, [5], [], 35), (42, [1, 4], [], 0), (0, [4], [], 502), (21, [4, 3], [0], 0), (20, [3, 0], [0], 3), (0, [3], [], 35), (42, [1, 2], [], 0), (20, [2, 0], [0], 4), (90, [2], [], -2147483648), (91, [2], [], 2147483647), (33, [1], [], 0), (6000, [0, 1], [0], 0), (0, [0], [], 31), (90, [1], [], -2147483648), (91, [1], [], 2147483647)], (3000, [6], [0], 31)),
  ([(0, [5], [], 0), (43, [1, 4], [], 0), (0, [4], [], 502), (21, [4, 3], [0], 0), (20, [3, 0], [0], 3), (0, [3], [], 35), (42, [1, 2], [], 0), (20, [2, 0], [0], 4), (90, [2], [], -2147483648), (91, [2], [], 2147483647), (33, [1], [], 0), (6000, [0, 1], [0], 0), (0, [0], [], 31), (90, [1], [], -2147483648), (91, [1], [], 2147483647)], (3000, [5], [0], 31))]
theorem r_123v_s : vCovO false (eR0 e_123v L_123v cs_123v 2000) p_123v_s = true := by decide +kernel
theorem m_123v (d : Nat) : eC e_123v (d + 1) := eC_ok (e := e_123v) (L := L_123v) (cs := cs_123v) (n := 2000) (d := d + 0) (A := A_123v) (μ := mu_123v) (tp := false) (p0 := p_123v_s) rfl trivial rfl (.inl rfl) (by decide +kernel) (fun z => nomatch z) r_123v_s (allC c_123v_s_0 (allC c_123v_s_1 (allC c_123v_s_2 (allC c_123v_s_3 (allC c_123v_s_4 allN))))) allN
/- Reader.fail (I)V -/
noncomputable def s_64v : vM := ([(3, 4, 30, 0), (0, -2147483648, 2147483647, 0)], (9, 0, 0, 0), 1, 0, [(4, 3), (4, 4)])
def preb_64v (a0 a1 : Int) (h : gH) : Prop := KI h ∧ (a1 = 1 ∨ a1 = 2)
def pre_64v : List Int → gH → Prop := fun xs h => match xs with
  | [a0, a1] => preb_64v a0 a1 h
  | _ => False
def postb_64v (a0 a1 : Int) (h0 h : gH) : Prop := KI h ∧ absC h = pfail (vwC h0) a1 (absC h0)
def post_64v : List Int → gH → gH → Prop := fun xs h0 h => match xs with
  | [a0, a1] => postb_64v a0 a1 h0 h
  | _ => True
noncomputable def e_64v : vE := (64, s_64v, pre_64v, post_64v)
noncomputable def L_64v : List vE := []
def cs_64v : List vC := []
def A_64v : Int → List Int → gH → gH → Prop := fun c xs h0 h => True
def mu_64v : Int → List Int → gH → gH → Nat := fun c xs h0 h => 0
theorem q_64v_0 {n0 n1 n2 : Int} {H0 : gH} (f0 : n0 ≤ 2147483647) (f1 : (-2147483648) ≤ n0) (f2 : n1 = 30) (f3 : hWt T0 H0 ∧ preb_64v n1 n0 H0) (f4 : n2 ≤ 2147483647) (f5 : (-2147483648) ≤ n2) (f6 : n2 = hV H0 (n1).toNat 3) (f7 : n2 ≠ 0) : postb_64v n1 n0 H0 H0 := by
  have pz := f3.2
  unfold preb_64v at pz
  have r3 := f6
  rw [f2] at r3
  rw [show ((30 : Int)).toNat = 30 from rfl] at r3
  unfold postb_64v
  have hn := absC_neg pz.1 (by omega)
  exact ⟨pz.1, (pfail_neg hn (absC_ok pz.1)).symm⟩
theorem c_64v_s_0 : vOkm T0 (eP e_64v L_64v A_64v mu_64v none) 2 ([(31, [2], [], 0), (20, [2, 0], [0], 3), (90, [2], [], -2147483648), (91, [2], [], 2147483647), (6000, [0, 1], [0], 0), (0, [0], [], 30), (90, [1], [], -2147483648), (91, [1], [], 2147483647)], (3000, [], [0], 20)) := vOk_in fun ρ η h => by
  obtain ⟨f0, f1, f2, f3, f4, f5, f6, f7, _⟩ := h
  exact q_64v_0 (n0 := ρ 1) (n1 := ρ 0) (n2 := ρ 2) (H0 := η 0) f7 f6 f5 f4 f3 f2 f1 f0
theorem q_64v_1 {n0 n1 n2 n3 n4 n5 : Int} {H0 H1 H2 : gH} (f0 : n0 ≤ 2147483647) (f1 : (-2147483648) ≤ n0) (f2 : n1 = 30) (f3 : hWt T0 H0 ∧ preb_64v n1 n0 H0) (f4 : n2 ≤ 2147483647) (f5 : (-2147483648) ≤ n2) (f6 : n2 = hV H0 (n1).toNat 3) (f7 : n2 = 0) (f8 : n3 = 3) (f9 : hUpd H1 H0 n1 n3 n0) (f10 : n4 ≤ 2147483647) (f11 : (-2147483648) ≤ n4) (f12 : n4 = hV H1 (n1).toNat 1) (f13 : n5 = 4) (f14 : hUpd H2 H1 n1 n5 n4) : postb_64v n1 n0 H0 H2 := by
  have pz := f3.2
  unfold preb_64v at pz
  have r3 := f6
  rw [f2] at r3
  rw [show ((30 : Int)).toNat = 30 from rfl] at r3
  unfold postb_64v
  have w1 : hV H2 30 1 = hV H0 30 1 := (uSlot f14 30 1 (by rw [f13]; decide)).trans (uSlot f9 30 1 (by rw [f8]; decide))
  have w2 : hV H2 30 2 = hV H0 30 2 := (uSlot f14 30 2 (by rw [f13]; decide)).trans (uSlot f9 30 2 (by rw [f8]; decide))
  have w3 : hV H2 30 3 = n0 := (uSlot f14 30 3 (by rw [f13]; decide)).trans (uSame f9 30 3 (by rw [f2]; rfl) (by rw [f8]; rfl))
  have w4 : hV H2 30 4 = n4 := uSame f14 30 4 (by rw [f2]; rfl) (by rw [f13]; rfl)
  have wt : TKs H0 H2 := ((TKs_up f9 f2).trans (TKs_up f14 f2))
  have r1 := f12
  rw [f2] at r1
  rw [show ((30 : Int)).toNat = 30 from rfl] at r1
  rw [uSlot f9 30 1 (by rw [f8]; decide)] at r1
  exact fail_st pz.1 (by omega) pz.2 w1 w2 w3 (w4.trans r1) wt (KS5_up f14 (KS5_up f9 pz.1.1))
theorem c_64v_s_1 : vOkm T0 (eP e_64v L_64v A_64v mu_64v none) 2 ([(80, [0, 5, 4], [2, 1], 0), (0, [5], [], 4), (20, [4, 0], [1], 1), (90, [4], [], -2147483648), (91, [4], [], 2147483647), (80, [0, 3, 1], [1, 0], 0), (0, [3], [], 3), (30, [2], [], 0), (20, [2, 0], [0], 3), (90, [2], [], -2147483648), (91, [2], [], 2147483647), (6000, [0, 1], [0], 0), (0, [0], [], 30), (90, [1], [], -2147483648), (91, [1], [], 2147483647)], (3000, [], [2], 20)) := vOk_in fun ρ η h => by
  obtain ⟨f0, f1, f2, f3, f4, f5, f6, f7, f8, f9, f10, f11, f12, f13, f14, _⟩ := h
  exact q_64v_1 (n0 := ρ 1) (n1 := ρ 0) (n2 := ρ 2) (n3 := ρ 3) (n4 := ρ 4) (n5 := ρ 5) (H0 := η 0) (H1 := η 1) (H2 := η 2) f14 f13 f12 f11 f10 f9 f8 f7 f6 f5 f4 f3 f2 f1 f0
def p_64v_s : List vG := [([(31, [2], [], 0), (20, [2, 0], [0], 3), (90, [2], [], -2147483648), (91, [2], [], 2147483647), (6000, [0, 1], [0], 0), (0, [0], [], 30), (90, [1], [], -2147483648), (91, [1], [], 2147483647)], (3000, [], [0], 20)),
  ([(80, [0, 5, 4], [2, 1], 0), (0, [5], [], 4), (20, [4, 0], [1], 1), (90, [4], [], -2147483648), (91, [4], [], 2147483647), (80, [0, 3, 1], [1, 0], 0), (0, [3], [], 3), (30, [2], [], 0), (20, [2, 0], [0], 3), (90, [2], [], -2147483648), (91, [2], [], 2147483647), (6000, [0, 1], [0], 0), (0, [0], [], 30), (90, [1], [], -2147483648), (91, [1], [], 2147483647)], (3000, [], [2], 20))]
theorem r_64v_s : vCovO false (eR0 e_64v L_64v cs_64v 2000) p_64v_s = true := by decide +kernel
theorem m_64v (d : Nat) : eC e_64v (d + 1) := eC_ok (e := e_64v) (L := L_64v) (cs := cs_64v) (n := 2000) (d := d + 0) (A := A_64v) (μ := mu_64v) (tp := false) (p0 := p_64v_s) rfl trivial rfl (.inl rfl) (by decide +kernel) (fun z => nomatch z) r_64v_s (allC c_64v_s_0 (allC c_64v_s_1 allN)) allN
/- Reader.blame (II)V -/
noncomputable def s_65v : vM := ([(3, 4, 30, 0), (0, -2147483648, 2147483647, 0), (0, -2147483648, 2147483647, 0)], (9, 0, 0, 0), 1, 0, [(4, 5), (4, 6)])
def preb_65v (a0 a1 a2 : Int) (h : gH) : Prop := KI h ∧ 1 ≤ a1 ∧ a1 ≤ 6 ∧ inT h a2
def pre_65v : List Int → gH → Prop := fun xs h => match xs with
  | [a0, a1, a2] => preb_65v a0 a1 a2 h
  | _ => False
def postb_65v (a0 a1 a2 : Int) (h0 h : gH) : Prop := KI h ∧ absC h = pbl (vwC h0) a1 a2 (absC h0)
def post_65v : List Int → gH → gH → Prop := fun xs h0 h => match xs with
  | [a0, a1, a2] => postb_65v a0 a1 a2 h0 h
  | _ => True
noncomputable def e_65v : vE := (65, s_65v, pre_65v, post_65v)
noncomputable def L_65v : List vE := []
def cs_65v : List vC := []
def A_65v : Int → List Int → gH → gH → Prop := fun c xs h0 h => True
def mu_65v : Int → List Int → gH → gH → Nat := fun c xs h0 h => 0
theorem q_65v_0 {n0 n1 n2 n3 : Int} {H0 : gH} (f0 : n0 ≤ 2147483647) (f1 : (-2147483648) ≤ n0) (f2 : n1 ≤ 2147483647) (f3 : (-2147483648) ≤ n1) (f4 : n2 = 30) (f5 : hWt T0 H0 ∧ preb_65v n2 n1 n0 H0) (f6 : n3 ≤ 2147483647) (f7 : (-2147483648) ≤ n3) (f8 : n3 = hV H0 (n2).toNat 5) (f9 : n3 ≠ 0) : postb_65v n2 n1 n0 H0 H0 := by
  have pz := f5.2
  unfold preb_65v at pz
  have r5 := f8
  rw [f4] at r5
  rw [show ((30 : Int)).toNat = 30 from rfl] at r5
  unfold postb_65v
  exact ⟨pz.1, (blame_no pz.1 (by omega)).symm⟩
theorem c_65v_s_0 : vOkm T0 (eP e_65v L_65v A_65v mu_65v none) 3 ([(31, [3], [], 0), (20, [3, 0], [0], 5), (90, [3], [], -2147483648), (91, [3], [], 2147483647), (6000, [0, 1, 2], [0], 0), (0, [0], [], 30), (90, [1], [], -2147483648), (91, [1], [], 2147483647), (90, [2], [], -2147483648), (91, [2], [], 2147483647)], (3000, [], [0], 17)) := vOk_in fun ρ η h => by
  obtain ⟨f0, f1, f2, f3, f4, f5, f6, f7, f8, f9, _⟩ := h
  exact q_65v_0 (n0 := ρ 2) (n1 := ρ 1) (n2 := ρ 0) (n3 := ρ 3) (H0 := η 0) f9 f8 f7 f6 f5 f4 f3 f2 f1 f0
theorem q_65v_1 {n0 n1 n2 n3 n4 n5 : Int} {H0 H1 H2 : gH} (f0 : n0 ≤ 2147483647) (f1 : (-2147483648) ≤ n0) (f2 : n1 ≤ 2147483647) (f3 : (-2147483648) ≤ n1) (f4 : n2 = 30) (f5 : hWt T0 H0 ∧ preb_65v n2 n1 n0 H0) (f6 : n3 ≤ 2147483647) (f7 : (-2147483648) ≤ n3) (f8 : n3 = hV H0 (n2).toNat 5) (f9 : n3 = 0) (f10 : n4 = 5) (f11 : hUpd H1 H0 n2 n4 n1) (f12 : n5 = 6) (f13 : hUpd H2 H1 n2 n5 n0) : postb_65v n2 n1 n0 H0 H2 := by
  have pz := f5.2
  unfold preb_65v at pz
  have r5 := f8
  rw [f4] at r5
  rw [show ((30 : Int)).toNat = 30 from rfl] at r5
  unfold postb_65v
  have w1 : hV H2 30 1 = hV H0 30 1 := (uSlot f13 30 1 (by rw [f12]; decide)).trans (uSlot f11 30 1 (by rw [f10]; decide))
  have w2 : hV H2 30 2 = hV H0 30 2 := (uSlot f13 30 2 (by rw [f12]; decide)).trans (uSlot f11 30 2 (by rw [f10]; decide))
  have w3 : hV H2 30 3 = hV H0 30 3 := (uSlot f13 30 3 (by rw [f12]; decide)).trans (uSlot f11 30 3 (by rw [f10]; decide))
  have w4 : hV H2 30 4 = hV H0 30 4 := (uSlot f13 30 4 (by rw [f12]; decide)).trans (uSlot f11 30 4 (by rw [f10]; decide))
  have w5 : hV H2 30 5 = n1 := (uSlot f13 30 5 (by rw [f12]; decide)).trans (uSame f11 30 5 (by rw [f4]; rfl) (by rw [f10]; rfl))
  have w6 : hV H2 30 6 = n0 := uSame f13 30 6 (by rw [f4]; rfl) (by rw [f12]; rfl)
  have wt : TKs H0 H2 := ((TKs_up f11 f4).trans (TKs_up f13 f4))
  exact blame_st pz.1 pz.2.1 pz.2.2.1 pz.2.2.2 (by omega) w1 w2 w3 w4 w5 w6 wt (KS5_up f13 (KS5_up f11 pz.1.1))
theorem c_65v_s_1 : vOkm T0 (eP e_65v L_65v A_65v mu_65v none) 3 ([(80, [0, 5, 2], [2, 1], 0), (0, [5], [], 6), (80, [0, 4, 1], [1, 0], 0), (0, [4], [], 5), (30, [3], [], 0), (20, [3, 0], [0], 5), (90, [3], [], -2147483648), (91, [3], [], 2147483647), (6000, [0, 1, 2], [0], 0), (0, [0], [], 30), (90, [1], [], -2147483648), (91, [1], [], 2147483647), (90, [2], [], -2147483648), (91, [2], [], 2147483647)], (3000, [], [2], 17)) := vOk_in fun ρ η h => by
  obtain ⟨f0, f1, f2, f3, f4, f5, f6, f7, f8, f9, f10, f11, f12, f13, _⟩ := h
  exact q_65v_1 (n0 := ρ 2) (n1 := ρ 1) (n2 := ρ 0) (n3 := ρ 3) (n4 := ρ 4) (n5 := ρ 5) (H0 := η 0) (H1 := η 1) (H2 := η 2) f13 f12 f11 f10 f9 f8 f7 f6 f5 f4 f3 f2 f1 f0
def p_65v_s : List vG := [([(31, [3], [], 0), (20, [3, 0], [0], 5), (90, [3], [], -2147483648), (91, [3], [], 2147483647), (6000, [0, 1, 2], [0], 0), (0, [0], [], 30), (90, [1], [], -2147483648), (91, [1], [], 2147483647), (90, [2], [], -2147483648), (91, [2], [], 2147483647)], (3000, [], [0], 17)),
  ([(80, [0, 5, 2], [2, 1], 0), (0, [5], [], 6), (80, [0, 4, 1], [1, 0], 0), (0, [4], [], 5), (30, [3], [], 0), (20, [3, 0], [0], 5), (90, [3], [], -2147483648), (91, [3], [], 2147483647), (6000, [0, 1, 2], [0], 0), (0, [0], [], 30), (90, [1], [], -2147483648), (91, [1], [], 2147483647), (90, [2], [], -2147483648), (91, [2], [], 2147483647)], (3000, [], [2], 17))]
theorem r_65v_s : vCovO false (eR0 e_65v L_65v cs_65v 2000) p_65v_s = true := by decide +kernel
theorem m_65v (d : Nat) : eC e_65v (d + 1) := eC_ok (e := e_65v) (L := L_65v) (cs := cs_65v) (n := 2000) (d := d + 0) (A := A_65v) (μ := mu_65v) (tp := false) (p0 := p_65v_s) rfl trivial rfl (.inl rfl) (by decide +kernel) (fun z => nomatch z) r_65v_s (allC c_65v_s_0 (allC c_65v_s_1 allN)) allN
