/- Rules.endRight ()V -/
noncomputable def s_101v : vM := ([(3, 5, -1, 0)], (9, 0, 0, 0), 1, 0, [(5, 0), (100, 0)])
def preb_101v (a0 : Int) (h : gH) : Prop := hK h (a0).toNat = 5 ∧ 0 ≤ a0 ∧ 0 ≤ hV h (a0).toNat 0 ∧ hV h (a0).toNat 0 ≤ 12
def pre_101v : List Int → gH → Prop := fun xs h => match xs with
  | [a0] => preb_101v a0 h
  | _ => False
def postb_101v (a0 : Int) (h0 h : gH) : Prop := hV h (a0).toNat 0 = hV h0 (a0).toNat 0 + 1
def post_101v : List Int → gH → gH → Prop := fun xs h0 h => match xs with
  | [a0] => postb_101v a0 h0 h
  | _ => True
noncomputable def e_101v : vE := (101, s_101v, pre_101v, post_101v)
noncomputable def L_101v : List vE := [e_201vk100]
def cs_101v : List vC := []
def A_101v : Int → List Int → gH → gH → Prop := fun c xs h0 h => True
def mu_101v : Int → List Int → gH → gH → Nat := fun c xs h0 h => 0
theorem q_101v_0 {n0 n1 n2 n3 n4 n5 n6 n7 n8 n9 n10 : Int} {H0 H1 H2 H3 : gH} (f0 : 0 ≤ n0) (f1 : hWt T0 H0 ∧ preb_101v n0 H0) (f2 : 0 ≤ n1) (f3 : hK H0 (n0).toNat = 5) (f4 : n1 = hV H0 (n0).toNat 5) (f5 : n2 ≤ 2147483647) (f6 : (-2147483648) ≤ n2) (f7 : hK H0 (n0).toNat = 5) (f8 : n2 = hV H0 (n0).toNat 0) (f9 : n3 ≤ 2147483647) (f10 : (-2147483648) ≤ n3) (f11 : hK H0 (n0).toNat = 5) (f12 : n3 = hV H0 (n0).toNat 2) (f13 : (hLe T0 H0 H1 ∧ hFr s_201vk100.2.2.2.2 H0 H1 ∧ ((0 : Int) = 0 → H1.length = H0.length) ∧ hWt T0 H1) ∧ postb_201vk100 n1 n2 n3 H0 H1) (f14 : 0 ≤ n4) (f15 : hK H1 (n0).toNat = 5) (f16 : n4 = hV H1 (n0).toNat 7) (f17 : n5 ≤ 2147483647) (f18 : (-2147483648) ≤ n5) (f19 : hK H1 (n0).toNat = 5) (f20 : n5 = hV H1 (n0).toNat 0) (f21 : n6 = 0) (f22 : (hLe T0 H1 H2 ∧ hFr s_201vk100.2.2.2.2 H1 H2 ∧ ((0 : Int) = 0 → H2.length = H1.length) ∧ hWt T0 H2) ∧ postb_201vk100 n4 n5 n6 H1 H2) (f23 : n7 ≤ 2147483647) (f24 : (-2147483648) ≤ n7) (f25 : hK H2 (n0).toNat = 5) (f26 : n7 = hV H2 (n0).toNat 0) (f27 : n8 = 1) (f28 : n9 = w32 (n7 + n8)) (f29 : hK H2 (n0).toNat = 5) (f30 : n10 = 0) (f31 : hUpd H3 H2 n0 n10 n9) : postb_101v n0 H0 H3 := by
  have pz := f1.2
  unfold preb_101v at pz
  have ck := pz.1
  have kd0 : hK H1 (n0).toNat = 5 := kLe f13.1.1 ck rfl
  have kd1 : hK H2 (n0).toNat = 5 := kLe f22.1.1 kd0 rfl
  have e7 : n7 = hV H0 (n0).toNat 0 := f26.trans ((f22.1.2.1.2.2 _ 5 kd0 rfl 0 (by decide +kernel)).trans (f13.1.2.1.2.2 _ 5 ck rfl 0 (by decide +kernel)))
  have wq28 := f28
  unfold w32 at wq28
  have eS : hV H3 (n0).toNat 0 = n9 := uSame f31 _ 0 (Int.toNat_of_nonneg (by omega)) (by rw [f30]; rfl)
  unfold postb_101v
  omega
theorem c_101v_s_0 : vOkm T0 (eP e_101v L_101v A_101v mu_101v none) 1 ([(80, [0, 10, 9], [3, 2], 0), (0, [10], [], 0), (23, [0], [2], 5), (1, [9, 7, 8], [], 0), (0, [8], [], 1), (20, [7, 0], [2], 0), (23, [0], [2], 5), (90, [7], [], -2147483648), (91, [7], [], 2147483647), (1201, [4, 5, 6], [1, 2], 0), (0, [6], [], 0), (20, [5, 0], [1], 0), (23, [0], [1], 5), (90, [5], [], -2147483648), (91, [5], [], 2147483647), (20, [4, 0], [1], 7), (23, [0], [1], 5), (51, [4], [], 0), (1201, [1, 2, 3], [0, 1], 0), (20, [3, 0], [0], 2), (23, [0], [0], 5), (90, [3], [], -2147483648), (91, [3], [], 2147483647), (20, [2, 0], [0], 0), (23, [0], [0], 5), (90, [2], [], -2147483648), (91, [2], [], 2147483647), (20, [1, 0], [0], 5), (23, [0], [0], 5), (51, [1], [], 0), (6000, [0], [0], 0), (51, [0], [], 0)], (3000, [], [3], 37)) := vOk_in fun ρ η h => by
  obtain ⟨f0, f1, f2, f3, f4, f5, f6, f7, f8, f9, f10, f11, f12, f13, f14, f15, f16, f17, f18, f19, f20, f21, f22, f23, f24, f25, f26, f27, f28, f29, f30, f31, _⟩ := h
  exact q_101v_0 (n0 := ρ 0) (n1 := ρ 1) (n2 := ρ 2) (n3 := ρ 3) (n4 := ρ 4) (n5 := ρ 5) (n6 := ρ 6) (n7 := ρ 7) (n8 := ρ 8) (n9 := ρ 9) (n10 := ρ 10) (H0 := η 0) (H1 := η 1) (H2 := η 2) (H3 := η 3) f31 f30 f29 f28 f27 f26 f25 f24 f23 f22 f21 f20 f19 f18 f17 f16 f15 f14 f13 f12 f11 f10 f9 f8 f7 f6 f5 f4 f3 f2 f1 f0
def p_101v_s : List vG := [([(80, [0, 10, 9], [3, 2], 0), (0, [10], [], 0), (23, [0], [2], 5), (1, [9, 7, 8], [], 0), (0, [8], [], 1), (20, [7, 0], [2], 0), (23, [0], [2], 5), (90, [7], [], -2147483648), (91, [7], [], 2147483647), (1201, [4, 5, 6], [1, 2], 0), (0, [6], [], 0), (20, [5, 0], [1], 0), (23, [0], [1], 5), (90, [5], [], -2147483648), (91, [5], [], 2147483647), (20, [4, 0], [1], 7), (23, [0], [1], 5), (51, [4], [], 0), (1201, [1, 2, 3], [0, 1], 0), (20, [3, 0], [0], 2), (23, [0], [0], 5), (90, [3], [], -2147483648), (91, [3], [], 2147483647), (20, [2, 0], [0], 0), (23, [0], [0], 5), (90, [2], [], -2147483648), (91, [2], [], 2147483647), (20, [1, 0], [0], 5), (23, [0], [0], 5), (51, [1], [], 0), (6000, [0], [0], 0), (51, [0], [], 0)], (3000, [], [3], 37))]
theorem r_101v_s : vCovO false (eR0 e_101v L_101v cs_101v 2000) p_101v_s = true := by decide +kernel
theorem m_101v (d : Nat) : eC e_101v (d + 2) := eC_ok (e := e_101v) (L := L_101v) (cs := cs_101v) (n := 2000) (d := d + 1) (A := A_101v) (μ := mu_101v) (tp := false) (p0 := p_101v_s) rfl ⟨m_201vk100 d, trivial⟩ rfl (.inl rfl) (by decide +kernel) (fun z => nomatch z) r_101v_s (allC c_101v_s_0 allN) allN
/- Rules.endLoud (II)V -/
noncomputable def s_102v : vM := ([(3, 5, -1, 0), (0, -2147483648, 2147483647, 0), (0, -2147483648, 2147483647, 0)], (9, 0, 0, 0), 1, 0, [(5, 0), (100, 0)])
def preb_102v (a0 a1 a2 : Int) (h : gH) : Prop := hK h (a0).toNat = 5 ∧ 0 ≤ a0 ∧ 0 ≤ hV h (a0).toNat 0 ∧ hV h (a0).toNat 0 ≤ 12
def pre_102v : List Int → gH → Prop := fun xs h => match xs with
  | [a0, a1, a2] => preb_102v a0 a1 a2 h
  | _ => False
def postb_102v (a0 a1 a2 : Int) (h0 h : gH) : Prop := hV h (a0).toNat 0 = hV h0 (a0).toNat 0 + 1
def post_102v : List Int → gH → gH → Prop := fun xs h0 h => match xs with
  | [a0, a1, a2] => postb_102v a0 a1 a2 h0 h
  | _ => True
noncomputable def e_102v : vE := (102, s_102v, pre_102v, post_102v)
noncomputable def L_102v : List vE := [e_201vk100]
def cs_102v : List vC := []
def A_102v : Int → List Int → gH → gH → Prop := fun c xs h0 h => True
def mu_102v : Int → List Int → gH → gH → Nat := fun c xs h0 h => 0
theorem q_102v_0 {n0 n1 n2 n3 n4 n5 n6 n7 n8 n9 n10 : Int} {H0 H1 H2 H3 : gH} (f0 : n0 ≤ 2147483647) (f1 : (-2147483648) ≤ n0) (f2 : n1 ≤ 2147483647) (f3 : (-2147483648) ≤ n1) (f4 : 0 ≤ n2) (f5 : hWt T0 H0 ∧ preb_102v n2 n1 n0 H0) (f6 : 0 ≤ n3) (f7 : hK H0 (n2).toNat = 5) (f8 : n3 = hV H0 (n2).toNat 6) (f9 : n4 ≤ 2147483647) (f10 : (-2147483648) ≤ n4) (f11 : hK H0 (n2).toNat = 5) (f12 : n4 = hV H0 (n2).toNat 0) (f13 : (hLe T0 H0 H1 ∧ hFr s_201vk100.2.2.2.2 H0 H1 ∧ ((0 : Int) = 0 → H1.length = H0.length) ∧ hWt T0 H1) ∧ postb_201vk100 n3 n4 n1 H0 H1) (f14 : 0 ≤ n5) (f15 : hK H1 (n2).toNat = 5) (f16 : n5 = hV H1 (n2).toNat 7) (f17 : n6 ≤ 2147483647) (f18 : (-2147483648) ≤ n6) (f19 : hK H1 (n2).toNat = 5) (f20 : n6 = hV H1 (n2).toNat 0) (f21 : (hLe T0 H1 H2 ∧ hFr s_201vk100.2.2.2.2 H1 H2 ∧ ((0 : Int) = 0 → H2.length = H1.length) ∧ hWt T0 H2) ∧ postb_201vk100 n5 n6 n0 H1 H2) (f22 : n7 ≤ 2147483647) (f23 : (-2147483648) ≤ n7) (f24 : hK H2 (n2).toNat = 5) (f25 : n7 = hV H2 (n2).toNat 0) (f26 : n8 = 1) (f27 : n9 = w32 (n7 + n8)) (f28 : hK H2 (n2).toNat = 5) (f29 : n10 = 0) (f30 : hUpd H3 H2 n2 n10 n9) : postb_102v n2 n1 n0 H0 H3 := by
  have pz := f5.2
  unfold preb_102v at pz
  have ck := pz.1
  have kd0 : hK H1 (n2).toNat = 5 := kLe f13.1.1 ck rfl
  have kd1 : hK H2 (n2).toNat = 5 := kLe f21.1.1 kd0 rfl
  have e7 : n7 = hV H0 (n2).toNat 0 := f25.trans ((f21.1.2.1.2.2 _ 5 kd0 rfl 0 (by decide +kernel)).trans (f13.1.2.1.2.2 _ 5 ck rfl 0 (by decide +kernel)))
  have wq27 := f27
  unfold w32 at wq27
  have eS : hV H3 (n2).toNat 0 = n9 := uSame f30 _ 0 (Int.toNat_of_nonneg (by omega)) (by rw [f29]; rfl)
  unfold postb_102v
  omega
theorem c_102v_s_0 : vOkm T0 (eP e_102v L_102v A_102v mu_102v none) 3 ([(80, [0, 10, 9], [3, 2], 0), (0, [10], [], 0), (23, [0], [2], 5), (1, [9, 7, 8], [], 0), (0, [8], [], 1), (20, [7, 0], [2], 0), (23, [0], [2], 5), (90, [7], [], -2147483648), (91, [7], [], 2147483647), (1201, [5, 6, 2], [1, 2], 0), (20, [6, 0], [1], 0), (23, [0], [1], 5), (90, [6], [], -2147483648), (91, [6], [], 2147483647), (20, [5, 0], [1], 7), (23, [0], [1], 5), (51, [5], [], 0), (1201, [3, 4, 1], [0, 1], 0), (20, [4, 0], [0], 0), (23, [0], [0], 5), (90, [4], [], -2147483648), (91, [4], [], 2147483647), (20, [3, 0], [0], 6), (23, [0], [0], 5), (51, [3], [], 0), (6000, [0, 1, 2], [0], 0), (51, [0], [], 0), (90, [1], [], -2147483648), (91, [1], [], 2147483647), (90, [2], [], -2147483648), (91, [2], [], 2147483647)], (3000, [], [3], 34)) := vOk_in fun ρ η h => by
  obtain ⟨f0, f1, f2, f3, f4, f5, f6, f7, f8, f9, f10, f11, f12, f13, f14, f15, f16, f17, f18, f19, f20, f21, f22, f23, f24, f25, f26, f27, f28, f29, f30, _⟩ := h
  exact q_102v_0 (n0 := ρ 2) (n1 := ρ 1) (n2 := ρ 0) (n3 := ρ 3) (n4 := ρ 4) (n5 := ρ 5) (n6 := ρ 6) (n7 := ρ 7) (n8 := ρ 8) (n9 := ρ 9) (n10 := ρ 10) (H0 := η 0) (H1 := η 1) (H2 := η 2) (H3 := η 3) f30 f29 f28 f27 f26 f25 f24 f23 f22 f21 f20 f19 f18 f17 f16 f15 f14 f13 f12 f11 f10 f9 f8 f7 f6 f5 f4 f3 f2 f1 f0
def p_102v_s : List vG := [([(80, [0, 10, 9], [3, 2], 0), (0, [10], [], 0), (23, [0], [2], 5), (1, [9, 7, 8], [], 0), (0, [8], [], 1), (20, [7, 0], [2], 0), (23, [0], [2], 5), (90, [7], [], -2147483648), (91, [7], [], 2147483647), (1201, [5, 6, 2], [1, 2], 0), (20, [6, 0], [1], 0), (23, [0], [1], 5), (90, [6], [], -2147483648), (91, [6], [], 2147483647), (20, [5, 0], [1], 7), (23, [0], [1], 5), (51, [5], [], 0), (1201, [3, 4, 1], [0, 1], 0), (20, [4, 0], [0], 0), (23, [0], [0], 5), (90, [4], [], -2147483648), (91, [4], [], 2147483647), (20, [3, 0], [0], 6), (23, [0], [0], 5), (51, [3], [], 0), (6000, [0, 1, 2], [0], 0), (51, [0], [], 0), (90, [1], [], -2147483648), (91, [1], [], 2147483647), (90, [2], [], -2147483648), (91, [2], [], 2147483647)], (3000, [], [3], 34))]
theorem r_102v_s : vCovO false (eR0 e_102v L_102v cs_102v 2000) p_102v_s = true := by decide +kernel
theorem m_102v (d : Nat) : eC e_102v (d + 2) := eC_ok (e := e_102v) (L := L_102v) (cs := cs_102v) (n := 2000) (d := d + 1) (A := A_102v) (μ := mu_102v) (tp := false) (p0 := p_102v_s) rfl ⟨m_201vk100 d, trivial⟩ rfl (.inl rfl) (by decide +kernel) (fun z => nomatch z) r_102v_s (allC c_102v_s_0 allN) allN
/- Rules.empty ()V -/
noncomputable def s_97v : vM := ([(3, 5, -1, 0)], (9, 0, 0, 0), 1, 0, [(5, 0), (5, 2)])
def preb_97v (a0 : Int) (h : gH) : Prop := hK h (a0).toNat = 5 ∧ 0 ≤ a0
def pre_97v : List Int → gH → Prop := fun xs h => match xs with
  | [a0] => preb_97v a0 h
  | _ => False
def postb_97v (a0 : Int) (h0 h : gH) : Prop := hV h (a0).toNat 0 = 0
def post_97v : List Int → gH → gH → Prop := fun xs h0 h => match xs with
  | [a0] => postb_97v a0 h0 h
  | _ => True
noncomputable def e_97v : vE := (97, s_97v, pre_97v, post_97v)
noncomputable def L_97v : List vE := []
def cs_97v : List vC := []
def A_97v : Int → List Int → gH → gH → Prop := fun c xs h0 h => True
def mu_97v : Int → List Int → gH → gH → Nat := fun c xs h0 h => 0
theorem q_97v_0 {n0 n1 n2 n3 n4 : Int} {H0 H1 H2 : gH} (f0 : 0 ≤ n0) (f1 : hWt T0 H0 ∧ preb_97v n0 H0) (f2 : n1 = 0) (f3 : hK H0 (n0).toNat = 5) (f4 : n2 = 0) (f5 : hUpd H1 H0 n0 n2 n1) (f6 : n3 = 0) (f7 : hK H1 (n0).toNat = 5) (f8 : n4 = 2) (f9 : hUpd H2 H1 n0 n4 n3) : postb_97v n0 H0 H2 := by
  have pz := f1.2
  unfold preb_97v at pz
  have ck := pz.1
  have eS : hV H1 (n0).toNat 0 = n1 := uSame f5 _ 0 (Int.toNat_of_nonneg (by omega)) (by rw [f4]; rfl)
  have eT : hV H2 (n0).toNat 0 = hV H1 (n0).toNat 0 := uSlot f9 _ 0 (by rw [f8]; decide)
  unfold postb_97v
  omega
theorem c_97v_s_0 : vOkm T0 (eP e_97v L_97v A_97v mu_97v none) 1 ([(80, [0, 4, 3], [2, 1], 0), (0, [4], [], 2), (23, [0], [1], 5), (0, [3], [], 0), (80, [0, 2, 1], [1, 0], 0), (0, [2], [], 0), (23, [0], [0], 5), (0, [1], [], 0), (6000, [0], [0], 0), (51, [0], [], 0)], (3000, [], [2], 10)) := vOk_in fun ρ η h => by
  obtain ⟨f0, f1, f2, f3, f4, f5, f6, f7, f8, f9, _⟩ := h
  exact q_97v_0 (n0 := ρ 0) (n1 := ρ 1) (n2 := ρ 2) (n3 := ρ 3) (n4 := ρ 4) (H0 := η 0) (H1 := η 1) (H2 := η 2) f9 f8 f7 f6 f5 f4 f3 f2 f1 f0
def p_97v_s : List vG := [([(80, [0, 4, 3], [2, 1], 0), (0, [4], [], 2), (23, [0], [1], 5), (0, [3], [], 0), (80, [0, 2, 1], [1, 0], 0), (0, [2], [], 0), (23, [0], [0], 5), (0, [1], [], 0), (6000, [0], [0], 0), (51, [0], [], 0)], (3000, [], [2], 10))]
theorem r_97v_s : vCovO false (eR0 e_97v L_97v cs_97v 2000) p_97v_s = true := by decide +kernel
theorem m_97v (d : Nat) : eC e_97v (d + 1) := eC_ok (e := e_97v) (L := L_97v) (cs := cs_97v) (n := 2000) (d := d + 0) (A := A_97v) (μ := mu_97v) (tp := false) (p0 := p_97v_s) rfl trivial rfl (.inl rfl) (by decide +kernel) (fun z => nomatch z) r_97v_s (allC c_97v_s_0 allN) allN
/- Reader.readRight ()V -/
noncomputable def s_87v : vM := ([(3, 4, 30, 0)], (9, 0, 0, 0), 1, 0, [(4, 1), (4, 2), (4, 3), (4, 4), (4, 15), (5, 0), (5, 2), (100, 0), (740, 0)])
def preb_87v (a0 : Int) (h : gH) : Prop := KI h ∧ DR h ∧ 0 ≤ RC h ∧ RC h ≤ 12
def pre_87v : List Int → gH → Prop := fun xs h => match xs with
  | [a0] => preb_87v a0 h
  | _ => False
def postb_87v (a0 : Int) (h0 h : gH) : Prop := KI h ∧ absC h = pRight (vwC h0) (absC h0) ∧ DR h ∧ hV h 30 8 = hV h0 30 8 ∧ RC h = RC h0 + 1
def post_87v : List Int → gH → gH → Prop := fun xs h0 h => match xs with
  | [a0] => postb_87v a0 h0 h
  | _ => True
noncomputable def e_87v : vE := (87, s_87v, pre_87v, post_87v)
noncomputable def L_87v : List vE := [e_66v, e_88v, e_92v, e_99, e_100, e_101v]
def cs_87v : List vC := []
def A_87v : Int → List Int → gH → gH → Prop := fun c xs h0 h => True
def mu_87v : Int → List Int → gH → gH → Nat := fun c xs h0 h => 0
theorem q_87v_0 {n0 n1 : Int} {H0 : gH} (f0 : n0 = 30) (f1 : hWt T0 H0 ∧ preb_87v n0 H0) (f2 : n1 = 38) : preb_66v n0 n1 H0 := by
  have pz := f1.2
  unfold preb_87v at pz
  unfold preb_66v
  exact ⟨pz.1, by omega⟩
theorem c_87v_s_0 : vOkm T0 (eP e_87v L_87v A_87v mu_87v none) 1 ([(0, [1], [], 38), (6000, [0], [0], 0), (0, [0], [], 30)], (2066, [0, 1], [0], 0)) := vOk_in fun ρ η h => by
  obtain ⟨f0, f1, f2, _⟩ := h
  exact q_87v_0 (n0 := ρ 0) (n1 := ρ 1) (H0 := η 0) f2 f1 f0
theorem q_87v_1 {n0 n1 n2 : Int} {H0 H1 H2 : gH} (f0 : n0 = 30) (f1 : hWt T0 H0 ∧ preb_87v n0 H0) (f2 : n1 = 38) (f3 : (hLe T0 H0 H1 ∧ hFr s_66v.2.2.2.2 H0 H1 ∧ ((0 : Int) = 0 → H1.length = H0.length) ∧ hWt T0 H1) ∧ postb_66v n0 n1 H0 H1) (f4 : 0 ≤ n2) (f5 : n2 = hV H1 (n0).toNat 8) (f6 : (hLe T0 H1 H2 ∧ hFr s_99.2.2.2.2 H1 H2 ∧ ((0 : Int) = 0 → H2.length = H1.length) ∧ hWt T0 H2) ∧ True) : preb_92v n0 H2 := by
  have pz := f1.2
  unfold preb_87v at pz
  have c0 := f3.2
  unfold postb_66v at c0
  try rw [f2] at c0
  have a0 : absC H1 = (ptk (vwC H0) 38 (absC H0)) := c0.2
  have v0 : vwC H1 = vwC H0 := (vwC_fr f3.1.2.1 (by decide +kernel))
  have s1 := PF_fr f6.1.1 f6.1.2.1 (by decide +kernel) c0.1
  have a1 : absC H2 = (ptk (vwC H0) 38 (absC H0)) := s1.1.trans a0
  have v1 : vwC H2 = vwC H0 := s1.2.1.trans v0
  unfold preb_92v
  exact s1.2.2
theorem c_87v_s_1 : vOkm T0 (eP e_87v L_87v A_87v mu_87v none) 1 ([(1099, [2], [1, 2], 0), (20, [2, 0], [1], 8), (51, [2], [], 0), (1066, [0, 1], [0, 1], 0), (0, [1], [], 38), (6000, [0], [0], 0), (0, [0], [], 30)], (2092, [0], [2], 0)) := vOk_in fun ρ η h => by
  obtain ⟨f0, f1, f2, f3, f4, f5, f6, _⟩ := h
  exact q_87v_1 (n0 := ρ 0) (n1 := ρ 1) (n2 := ρ 2) (H0 := η 0) (H1 := η 1) (H2 := η 2) f6 f5 f4 f3 f2 f1 f0
theorem q_87v_2 {n0 n1 n2 n3 n4 n5 n6 : Int} {H0 H1 H2 H3 H4 : gH} (f0 : n0 = 30) (f1 : hWt T0 H0 ∧ preb_87v n0 H0) (f2 : n1 = 38) (f3 : (hLe T0 H0 H1 ∧ hFr s_66v.2.2.2.2 H0 H1 ∧ ((0 : Int) = 0 → H1.length = H0.length) ∧ hWt T0 H1) ∧ postb_66v n0 n1 H0 H1) (f4 : 0 ≤ n2) (f5 : n2 = hV H1 (n0).toNat 8) (f6 : (hLe T0 H1 H2 ∧ hFr s_99.2.2.2.2 H1 H2 ∧ ((0 : Int) = 0 → H2.length = H1.length) ∧ hWt T0 H2) ∧ True) (f7 : (hLe T0 H2 H3 ∧ hFr s_92v.2.2.2.2 H2 H3 ∧ ((0 : Int) = 0 → H3.length = H2.length) ∧ hWt T0 H3) ∧ postb_92v n0 H2 H3) (f8 : 0 ≤ n3) (f9 : n3 = hV H3 (n0).toNat 8) (f10 : (hLe T0 H3 H4 ∧ hFr s_100.2.2.2.2 H3 H4 ∧ ((0 : Int) = 0 → H4.length = H3.length) ∧ hWt T0 H4) ∧ True) (f11 : n4 ≤ 2147483647) (f12 : (-2147483648) ≤ n4) (f13 : n4 = hV H4 (n0).toNat 2) (f14 : n5 = 39) (f15 : n4 ≠ n5) (f16 : 0 ≤ n6) (f17 : n6 = hV H4 (n0).toNat 8) : preb_101v n6 H4 := by
  have pz := f1.2
  unfold preb_87v at pz
  have c0 := f3.2
  unfold postb_66v at c0
  try rw [f2] at c0
  have a0 : absC H1 = (ptk (vwC H0) 38 (absC H0)) := c0.2
  have v0 : vwC H1 = vwC H0 := (vwC_fr f3.1.2.1 (by decide +kernel))
  have s1 := PF_fr f6.1.1 f6.1.2.1 (by decide +kernel) c0.1
  have a1 : absC H2 = (ptk (vwC H0) 38 (absC H0)) := s1.1.trans a0
  have v1 : vwC H2 = vwC H0 := s1.2.1.trans v0
  have c2 := f7.2
  unfold postb_92v at c2
  rw [v1] at c2
  rw [a1] at c2
  have a2 : absC H3 = (pExp (vwC H0) (ptk (vwC H0) 38 (absC H0))) := c2.2
  have v2 : vwC H3 = vwC H0 := (vwC_fr f7.1.2.1 (by decide +kernel)).trans v1
  have s3 := PF_fr f10.1.1 f10.1.2.1 (by decide +kernel) c2.1
  have a3 : absC H4 = (pExp (vwC H0) (ptk (vwC H0) 38 (absC H0))) := s3.1.trans a2
  have v3 : vwC H4 = vwC H0 := s3.2.1.trans v2
  have dr0 := DR_fr f3.1.1 f3.1.2.1 (by decide +kernel) pz.2.1
  have rc0 : RC H1 = RC H0 := (RC_fr f3.1.2.1 (by decide +kernel) pz.2.1).trans (rfl : RC H0 = RC H0)
  have dr1 := DR_fr f6.1.1 f6.1.2.1 (by decide +kernel) dr0.1
  have rc1 : RC H2 = RC H0 := (RC_fr f6.1.2.1 (by decide +kernel) dr0.1).trans rc0
  have dr2 := DR_fr f7.1.1 f7.1.2.1 (by decide +kernel) dr1.1
  have rc2 : RC H3 = RC H0 := (RC_fr f7.1.2.1 (by decide +kernel) dr1.1).trans rc1
  have dr3 := DR_fr f10.1.1 f10.1.2.1 (by decide +kernel) dr2.1
  have rc3 : RC H4 = RC H0 := (RC_fr f10.1.2.1 (by decide +kernel) dr2.1).trans rc2
  have r8 := f17
  rw [f0] at r8
  rw [show ((30 : Int)).toNat = 30 from rfl] at r8
  have w := rc3
  have rp0 := pz.2.2.1
  have rp1 := pz.2.2.2
  unfold RC at w rp0 rp1
  unfold preb_101v
  rw [r8]
  exact ⟨dr3.1.2, dr3.1.1, by omega, by omega⟩
theorem c_87v_s_2 : vOkm T0 (eP e_87v L_87v A_87v mu_87v none) 1 ([(20, [6, 0], [4], 8), (51, [6], [], 0), (41, [4, 5], [], 0), (0, [5], [], 39), (20, [4, 0], [4], 2), (90, [4], [], -2147483648), (91, [4], [], 2147483647), (1100, [3], [3, 4], 0), (20, [3, 0], [3], 8), (51, [3], [], 0), (1092, [0], [2, 3], 0), (1099, [2], [1, 2], 0), (20, [2, 0], [1], 8), (51, [2], [], 0), (1066, [0, 1], [0, 1], 0), (0, [1], [], 38), (6000, [0], [0], 0), (0, [0], [], 30)], (2101, [6], [4], 0)) := vOk_in fun ρ η h => by
  obtain ⟨f0, f1, f2, f3, f4, f5, f6, f7, f8, f9, f10, f11, f12, f13, f14, f15, f16, f17, _⟩ := h
  exact q_87v_2 (n0 := ρ 0) (n1 := ρ 1) (n2 := ρ 2) (n3 := ρ 3) (n4 := ρ 4) (n5 := ρ 5) (n6 := ρ 6) (H0 := η 0) (H1 := η 1) (H2 := η 2) (H3 := η 3) (H4 := η 4) f17 f16 f15 f14 f13 f12 f11 f10 f9 f8 f7 f6 f5 f4 f3 f2 f1 f0
theorem q_87v_3 {n0 n1 n2 n3 n4 n5 n6 : Int} {H0 H1 H2 H3 H4 H5 : gH} (f0 : n0 = 30) (f1 : hWt T0 H0 ∧ preb_87v n0 H0) (f2 : n1 = 38) (f3 : (hLe T0 H0 H1 ∧ hFr s_66v.2.2.2.2 H0 H1 ∧ ((0 : Int) = 0 → H1.length = H0.length) ∧ hWt T0 H1) ∧ postb_66v n0 n1 H0 H1) (f4 : 0 ≤ n2) (f5 : n2 = hV H1 (n0).toNat 8) (f6 : (hLe T0 H1 H2 ∧ hFr s_99.2.2.2.2 H1 H2 ∧ ((0 : Int) = 0 → H2.length = H1.length) ∧ hWt T0 H2) ∧ True) (f7 : (hLe T0 H2 H3 ∧ hFr s_92v.2.2.2.2 H2 H3 ∧ ((0 : Int) = 0 → H3.length = H2.length) ∧ hWt T0 H3) ∧ postb_92v n0 H2 H3) (f8 : 0 ≤ n3) (f9 : n3 = hV H3 (n0).toNat 8) (f10 : (hLe T0 H3 H4 ∧ hFr s_100.2.2.2.2 H3 H4 ∧ ((0 : Int) = 0 → H4.length = H3.length) ∧ hWt T0 H4) ∧ True) (f11 : n4 ≤ 2147483647) (f12 : (-2147483648) ≤ n4) (f13 : n4 = hV H4 (n0).toNat 2) (f14 : n5 = 39) (f15 : n4 ≠ n5) (f16 : 0 ≤ n6) (f17 : n6 = hV H4 (n0).toNat 8) (f18 : (hLe T0 H4 H5 ∧ hFr s_101v.2.2.2.2 H4 H5 ∧ ((0 : Int) = 0 → H5.length = H4.length) ∧ hWt T0 H5) ∧ postb_101v n6 H4 H5) : postb_87v n0 H0 H5 := by
  have pz := f1.2
  unfold preb_87v at pz
  have c0 := f3.2
  unfold postb_66v at c0
  try rw [f2] at c0
  have a0 : absC H1 = (ptk (vwC H0) 38 (absC H0)) := c0.2
  have v0 : vwC H1 = vwC H0 := (vwC_fr f3.1.2.1 (by decide +kernel))
  have s1 := PF_fr f6.1.1 f6.1.2.1 (by decide +kernel) c0.1
  have a1 : absC H2 = (ptk (vwC H0) 38 (absC H0)) := s1.1.trans a0
  have v1 : vwC H2 = vwC H0 := s1.2.1.trans v0
  have c2 := f7.2
  unfold postb_92v at c2
  rw [v1] at c2
  rw [a1] at c2
  have a2 : absC H3 = (pExp (vwC H0) (ptk (vwC H0) 38 (absC H0))) := c2.2
  have v2 : vwC H3 = vwC H0 := (vwC_fr f7.1.2.1 (by decide +kernel)).trans v1
  have s3 := PF_fr f10.1.1 f10.1.2.1 (by decide +kernel) c2.1
  have a3 : absC H4 = (pExp (vwC H0) (ptk (vwC H0) 38 (absC H0))) := s3.1.trans a2
  have v3 : vwC H4 = vwC H0 := s3.2.1.trans v2
  have s4 := PF_fr f18.1.1 f18.1.2.1 (by decide +kernel) s3.2.2
  have a4 : absC H5 = (pExp (vwC H0) (ptk (vwC H0) 38 (absC H0))) := s4.1.trans a3
  have v4 : vwC H5 = vwC H0 := s4.2.1.trans v3
  have b0 := kd_at s3.2.2
  rw [v3] at b0
  rw [a3] at b0
  have g0 := f13
  rw [f0] at g0
  rw [show ((30 : Int)).toNat = 30 from rfl] at g0
  have h0 : (pExp (vwC H0) (ptk (vwC H0) 38 (absC H0))).1 < 0 ∨ ¬ (vwC H0).1 (pExp (vwC H0) (ptk (vwC H0) 38 (absC H0))).1 = 39 := by
    rcases b0 with q | q
    · exact .inl q
    · right
      rw [q]
      omega
  have dr0 := DR_fr f3.1.1 f3.1.2.1 (by decide +kernel) pz.2.1
  have rc0 : RC H1 = RC H0 := (RC_fr f3.1.2.1 (by decide +kernel) pz.2.1).trans (rfl : RC H0 = RC H0)
  have dr1 := DR_fr f6.1.1 f6.1.2.1 (by decide +kernel) dr0.1
  have rc1 : RC H2 = RC H0 := (RC_fr f6.1.2.1 (by decide +kernel) dr0.1).trans rc0
  have dr2 := DR_fr f7.1.1 f7.1.2.1 (by decide +kernel) dr1.1
  have rc2 : RC H3 = RC H0 := (RC_fr f7.1.2.1 (by decide +kernel) dr1.1).trans rc1
  have dr3 := DR_fr f10.1.1 f10.1.2.1 (by decide +kernel) dr2.1
  have rc3 : RC H4 = RC H0 := (RC_fr f10.1.2.1 (by decide +kernel) dr2.1).trans rc2
  have dr4 := DR_fr f18.1.1 f18.1.2.1 (by decide +kernel) dr3.1
  have r84 := f17
  rw [f0] at r84
  rw [show ((30 : Int)).toNat = 30 from rfl] at r84
  have pe4 := f18.2
  unfold postb_101v at pe4
  rw [r84] at pe4
  have rc4 : RC H5 = RC H0 + 1 := by
    have w := rc3
    unfold RC at w ⊢
    rw [dr4.2, pe4, w]
  unfold postb_87v
  refine ⟨s4.2.2, ?_, dr4.1, (dr4.2).trans ((dr3.2).trans ((dr2.2).trans ((dr1.2).trans (dr0.2)))), rc4⟩
  rw [a4]
  unfold pRight
  exact (pIf_no (vwC_ok H0) (by decide) h0).symm
theorem c_87v_s_3 : vOkm T0 (eP e_87v L_87v A_87v mu_87v none) 1 ([(1101, [6], [4, 5], 0), (20, [6, 0], [4], 8), (51, [6], [], 0), (41, [4, 5], [], 0), (0, [5], [], 39), (20, [4, 0], [4], 2), (90, [4], [], -2147483648), (91, [4], [], 2147483647), (1100, [3], [3, 4], 0), (20, [3, 0], [3], 8), (51, [3], [], 0), (1092, [0], [2, 3], 0), (1099, [2], [1, 2], 0), (20, [2, 0], [1], 8), (51, [2], [], 0), (1066, [0, 1], [0, 1], 0), (0, [1], [], 38), (6000, [0], [0], 0), (0, [0], [], 30)], (3000, [], [5], 50)) := vOk_in fun ρ η h => by
  obtain ⟨f0, f1, f2, f3, f4, f5, f6, f7, f8, f9, f10, f11, f12, f13, f14, f15, f16, f17, f18, _⟩ := h
  exact q_87v_3 (n0 := ρ 0) (n1 := ρ 1) (n2 := ρ 2) (n3 := ρ 3) (n4 := ρ 4) (n5 := ρ 5) (n6 := ρ 6) (H0 := η 0) (H1 := η 1) (H2 := η 2) (H3 := η 3) (H4 := η 4) (H5 := η 5) f18 f17 f16 f15 f14 f13 f12 f11 f10 f9 f8 f7 f6 f5 f4 f3 f2 f1 f0
theorem q_87v_4 {n0 n1 n2 n3 n4 n5 n6 : Int} {H0 H1 H2 H3 H4 : gH} (f0 : n0 = 30) (f1 : hWt T0 H0 ∧ preb_87v n0 H0) (f2 : n1 = 38) (f3 : (hLe T0 H0 H1 ∧ hFr s_66v.2.2.2.2 H0 H1 ∧ ((0 : Int) = 0 → H1.length = H0.length) ∧ hWt T0 H1) ∧ postb_66v n0 n1 H0 H1) (f4 : 0 ≤ n2) (f5 : n2 = hV H1 (n0).toNat 8) (f6 : (hLe T0 H1 H2 ∧ hFr s_99.2.2.2.2 H1 H2 ∧ ((0 : Int) = 0 → H2.length = H1.length) ∧ hWt T0 H2) ∧ True) (f7 : (hLe T0 H2 H3 ∧ hFr s_92v.2.2.2.2 H2 H3 ∧ ((0 : Int) = 0 → H3.length = H2.length) ∧ hWt T0 H3) ∧ postb_92v n0 H2 H3) (f8 : 0 ≤ n3) (f9 : n3 = hV H3 (n0).toNat 8) (f10 : (hLe T0 H3 H4 ∧ hFr s_100.2.2.2.2 H3 H4 ∧ ((0 : Int) = 0 → H4.length = H3.length) ∧ hWt T0 H4) ∧ True) (f11 : n4 ≤ 2147483647) (f12 : (-2147483648) ≤ n4) (f13 : n4 = hV H4 (n0).toNat 2) (f14 : n5 = 39) (f15 : n4 = n5) (f16 : n6 = 39) : preb_66v n0 n6 H4 := by
  have pz := f1.2
  unfold preb_87v at pz
  have c0 := f3.2
  unfold postb_66v at c0
  try rw [f2] at c0
  have a0 : absC H1 = (ptk (vwC H0) 38 (absC H0)) := c0.2
  have v0 : vwC H1 = vwC H0 := (vwC_fr f3.1.2.1 (by decide +kernel))
  have s1 := PF_fr f6.1.1 f6.1.2.1 (by decide +kernel) c0.1
  have a1 : absC H2 = (ptk (vwC H0) 38 (absC H0)) := s1.1.trans a0
  have v1 : vwC H2 = vwC H0 := s1.2.1.trans v0
  have c2 := f7.2
  unfold postb_92v at c2
  rw [v1] at c2
  rw [a1] at c2
  have a2 : absC H3 = (pExp (vwC H0) (ptk (vwC H0) 38 (absC H0))) := c2.2
  have v2 : vwC H3 = vwC H0 := (vwC_fr f7.1.2.1 (by decide +kernel)).trans v1
  have s3 := PF_fr f10.1.1 f10.1.2.1 (by decide +kernel) c2.1
  have a3 : absC H4 = (pExp (vwC H0) (ptk (vwC H0) 38 (absC H0))) := s3.1.trans a2
  have v3 : vwC H4 = vwC H0 := s3.2.1.trans v2
  unfold preb_66v
  exact ⟨s3.2.2, by omega⟩
theorem c_87v_s_4 : vOkm T0 (eP e_87v L_87v A_87v mu_87v none) 1 ([(0, [6], [], 39), (40, [4, 5], [], 0), (0, [5], [], 39), (20, [4, 0], [4], 2), (90, [4], [], -2147483648), (91, [4], [], 2147483647), (1100, [3], [3, 4], 0), (20, [3, 0], [3], 8), (51, [3], [], 0), (1092, [0], [2, 3], 0), (1099, [2], [1, 2], 0), (20, [2, 0], [1], 8), (51, [2], [], 0), (1066, [0, 1], [0, 1], 0), (0, [1], [], 38), (6000, [0], [0], 0), (0, [0], [], 30)], (2066, [0, 6], [4], 0)) := vOk_in fun ρ η h => by
  obtain ⟨f0, f1, f2, f3, f4, f5, f6, f7, f8, f9, f10, f11, f12, f13, f14, f15, f16, _⟩ := h
  exact q_87v_4 (n0 := ρ 0) (n1 := ρ 1) (n2 := ρ 2) (n3 := ρ 3) (n4 := ρ 4) (n5 := ρ 5) (n6 := ρ 6) (H0 := η 0) (H1 := η 1) (H2 := η 2) (H3 := η 3) (H4 := η 4) f16 f15 f14 f13 f12 f11 f10 f9 f8 f7 f6 f5 f4 f3 f2 f1 f0
theorem q_87v_5 {n0 n1 n2 n3 n4 n5 n6 : Int} {H0 H1 H2 H3 H4 H5 : gH} (f0 : n0 = 30) (f1 : hWt T0 H0 ∧ preb_87v n0 H0) (f2 : n1 = 38) (f3 : (hLe T0 H0 H1 ∧ hFr s_66v.2.2.2.2 H0 H1 ∧ ((0 : Int) = 0 → H1.length = H0.length) ∧ hWt T0 H1) ∧ postb_66v n0 n1 H0 H1) (f4 : 0 ≤ n2) (f5 : n2 = hV H1 (n0).toNat 8) (f6 : (hLe T0 H1 H2 ∧ hFr s_99.2.2.2.2 H1 H2 ∧ ((0 : Int) = 0 → H2.length = H1.length) ∧ hWt T0 H2) ∧ True) (f7 : (hLe T0 H2 H3 ∧ hFr s_92v.2.2.2.2 H2 H3 ∧ ((0 : Int) = 0 → H3.length = H2.length) ∧ hWt T0 H3) ∧ postb_92v n0 H2 H3) (f8 : 0 ≤ n3) (f9 : n3 = hV H3 (n0).toNat 8) (f10 : (hLe T0 H3 H4 ∧ hFr s_100.2.2.2.2 H3 H4 ∧ ((0 : Int) = 0 → H4.length = H3.length) ∧ hWt T0 H4) ∧ True) (f11 : n4 ≤ 2147483647) (f12 : (-2147483648) ≤ n4) (f13 : n4 = hV H4 (n0).toNat 2) (f14 : n5 = 39) (f15 : n4 = n5) (f16 : n6 = 39) (f17 : (hLe T0 H4 H5 ∧ hFr s_66v.2.2.2.2 H4 H5 ∧ ((0 : Int) = 0 → H5.length = H4.length) ∧ hWt T0 H5) ∧ postb_66v n0 n6 H4 H5) : preb_88v n0 H5 := by
  have pz := f1.2
  unfold preb_87v at pz
  have c0 := f3.2
  unfold postb_66v at c0
  try rw [f2] at c0
  have a0 : absC H1 = (ptk (vwC H0) 38 (absC H0)) := c0.2
  have v0 : vwC H1 = vwC H0 := (vwC_fr f3.1.2.1 (by decide +kernel))
  have s1 := PF_fr f6.1.1 f6.1.2.1 (by decide +kernel) c0.1
  have a1 : absC H2 = (ptk (vwC H0) 38 (absC H0)) := s1.1.trans a0
  have v1 : vwC H2 = vwC H0 := s1.2.1.trans v0
  have c2 := f7.2
  unfold postb_92v at c2
  rw [v1] at c2
  rw [a1] at c2
  have a2 : absC H3 = (pExp (vwC H0) (ptk (vwC H0) 38 (absC H0))) := c2.2
  have v2 : vwC H3 = vwC H0 := (vwC_fr f7.1.2.1 (by decide +kernel)).trans v1
  have s3 := PF_fr f10.1.1 f10.1.2.1 (by decide +kernel) c2.1
  have a3 : absC H4 = (pExp (vwC H0) (ptk (vwC H0) 38 (absC H0))) := s3.1.trans a2
  have v3 : vwC H4 = vwC H0 := s3.2.1.trans v2
  have c4 := f17.2
  unfold postb_66v at c4
  try rw [f16] at c4
  rw [v3] at c4
  rw [a3] at c4
  have a4 : absC H5 = (ptk (vwC H0) 39 (pExp (vwC H0) (ptk (vwC H0) 38 (absC H0)))) := c4.2
  have v4 : vwC H5 = vwC H0 := (vwC_fr f17.1.2.1 (by decide +kernel)).trans v3
  unfold preb_88v
  exact c4.1
theorem c_87v_s_5 : vOkm T0 (eP e_87v L_87v A_87v mu_87v none) 1 ([(1066, [0, 6], [4, 5], 0), (0, [6], [], 39), (40, [4, 5], [], 0), (0, [5], [], 39), (20, [4, 0], [4], 2), (90, [4], [], -2147483648), (91, [4], [], 2147483647), (1100, [3], [3, 4], 0), (20, [3, 0], [3], 8), (51, [3], [], 0), (1092, [0], [2, 3], 0), (1099, [2], [1, 2], 0), (20, [2, 0], [1], 8), (51, [2], [], 0), (1066, [0, 1], [0, 1], 0), (0, [1], [], 38), (6000, [0], [0], 0), (0, [0], [], 30)], (2088, [0], [5], 0)) := vOk_in fun ρ η h => by
  obtain ⟨f0, f1, f2, f3, f4, f5, f6, f7, f8, f9, f10, f11, f12, f13, f14, f15, f16, f17, _⟩ := h
  exact q_87v_5 (n0 := ρ 0) (n1 := ρ 1) (n2 := ρ 2) (n3 := ρ 3) (n4 := ρ 4) (n5 := ρ 5) (n6 := ρ 6) (H0 := η 0) (H1 := η 1) (H2 := η 2) (H3 := η 3) (H4 := η 4) (H5 := η 5) f17 f16 f15 f14 f13 f12 f11 f10 f9 f8 f7 f6 f5 f4 f3 f2 f1 f0
theorem q_87v_6 {n0 n1 n2 n3 n4 n5 n6 n7 : Int} {H0 H1 H2 H3 H4 H5 H6 : gH} (f0 : n0 = 30) (f1 : hWt T0 H0 ∧ preb_87v n0 H0) (f2 : n1 = 38) (f3 : (hLe T0 H0 H1 ∧ hFr s_66v.2.2.2.2 H0 H1 ∧ ((0 : Int) = 0 → H1.length = H0.length) ∧ hWt T0 H1) ∧ postb_66v n0 n1 H0 H1) (f4 : 0 ≤ n2) (f5 : n2 = hV H1 (n0).toNat 8) (f6 : (hLe T0 H1 H2 ∧ hFr s_99.2.2.2.2 H1 H2 ∧ ((0 : Int) = 0 → H2.length = H1.length) ∧ hWt T0 H2) ∧ True) (f7 : (hLe T0 H2 H3 ∧ hFr s_92v.2.2.2.2 H2 H3 ∧ ((0 : Int) = 0 → H3.length = H2.length) ∧ hWt T0 H3) ∧ postb_92v n0 H2 H3) (f8 : 0 ≤ n3) (f9 : n3 = hV H3 (n0).toNat 8) (f10 : (hLe T0 H3 H4 ∧ hFr s_100.2.2.2.2 H3 H4 ∧ ((0 : Int) = 0 → H4.length = H3.length) ∧ hWt T0 H4) ∧ True) (f11 : n4 ≤ 2147483647) (f12 : (-2147483648) ≤ n4) (f13 : n4 = hV H4 (n0).toNat 2) (f14 : n5 = 39) (f15 : n4 = n5) (f16 : n6 = 39) (f17 : (hLe T0 H4 H5 ∧ hFr s_66v.2.2.2.2 H4 H5 ∧ ((0 : Int) = 0 → H5.length = H4.length) ∧ hWt T0 H5) ∧ postb_66v n0 n6 H4 H5) (f18 : (hLe T0 H5 H6 ∧ hFr s_88v.2.2.2.2 H5 H6 ∧ ((0 : Int) = 0 → H6.length = H5.length) ∧ hWt T0 H6) ∧ postb_88v n0 H5 H6) (f19 : 0 ≤ n7) (f20 : n7 = hV H6 (n0).toNat 8) : preb_101v n7 H6 := by
  have pz := f1.2
  unfold preb_87v at pz
  have c0 := f3.2
  unfold postb_66v at c0
  try rw [f2] at c0
  have a0 : absC H1 = (ptk (vwC H0) 38 (absC H0)) := c0.2
  have v0 : vwC H1 = vwC H0 := (vwC_fr f3.1.2.1 (by decide +kernel))
  have s1 := PF_fr f6.1.1 f6.1.2.1 (by decide +kernel) c0.1
  have a1 : absC H2 = (ptk (vwC H0) 38 (absC H0)) := s1.1.trans a0
  have v1 : vwC H2 = vwC H0 := s1.2.1.trans v0
  have c2 := f7.2
  unfold postb_92v at c2
  rw [v1] at c2
  rw [a1] at c2
  have a2 : absC H3 = (pExp (vwC H0) (ptk (vwC H0) 38 (absC H0))) := c2.2
  have v2 : vwC H3 = vwC H0 := (vwC_fr f7.1.2.1 (by decide +kernel)).trans v1
  have s3 := PF_fr f10.1.1 f10.1.2.1 (by decide +kernel) c2.1
  have a3 : absC H4 = (pExp (vwC H0) (ptk (vwC H0) 38 (absC H0))) := s3.1.trans a2
  have v3 : vwC H4 = vwC H0 := s3.2.1.trans v2
  have c4 := f17.2
  unfold postb_66v at c4
  try rw [f16] at c4
  rw [v3] at c4
  rw [a3] at c4
  have a4 : absC H5 = (ptk (vwC H0) 39 (pExp (vwC H0) (ptk (vwC H0) 38 (absC H0)))) := c4.2
  have v4 : vwC H5 = vwC H0 := (vwC_fr f17.1.2.1 (by decide +kernel)).trans v3
  have c5 := f18.2
  unfold postb_88v at c5
  rw [v4] at c5
  rw [a4] at c5
  have a5 : absC H6 = (pCond (vwC H0) 502 (ptk (vwC H0) 39 (pExp (vwC H0) (ptk (vwC H0) 38 (absC H0))))) := c5.2
  have v5 : vwC H6 = vwC H0 := (vwC_fr f18.1.2.1 (by decide +kernel)).trans v4
  have dr0 := DR_fr f3.1.1 f3.1.2.1 (by decide +kernel) pz.2.1
  have rc0 : RC H1 = RC H0 := (RC_fr f3.1.2.1 (by decide +kernel) pz.2.1).trans (rfl : RC H0 = RC H0)
  have dr1 := DR_fr f6.1.1 f6.1.2.1 (by decide +kernel) dr0.1
  have rc1 : RC H2 = RC H0 := (RC_fr f6.1.2.1 (by decide +kernel) dr0.1).trans rc0
  have dr2 := DR_fr f7.1.1 f7.1.2.1 (by decide +kernel) dr1.1
  have rc2 : RC H3 = RC H0 := (RC_fr f7.1.2.1 (by decide +kernel) dr1.1).trans rc1
  have dr3 := DR_fr f10.1.1 f10.1.2.1 (by decide +kernel) dr2.1
  have rc3 : RC H4 = RC H0 := (RC_fr f10.1.2.1 (by decide +kernel) dr2.1).trans rc2
  have dr4 := DR_fr f17.1.1 f17.1.2.1 (by decide +kernel) dr3.1
  have rc4 : RC H5 = RC H0 := (RC_fr f17.1.2.1 (by decide +kernel) dr3.1).trans rc3
  have dr5 := DR_fr f18.1.1 f18.1.2.1 (by decide +kernel) dr4.1
  have rc5 : RC H6 = RC H0 := (RC_fr f18.1.2.1 (by decide +kernel) dr4.1).trans rc4
  have r8 := f20
  rw [f0] at r8
  rw [show ((30 : Int)).toNat = 30 from rfl] at r8
  have w := rc5
  have rp0 := pz.2.2.1
  have rp1 := pz.2.2.2
  unfold RC at w rp0 rp1
  unfold preb_101v
  rw [r8]
  exact ⟨dr5.1.2, dr5.1.1, by omega, by omega⟩
theorem c_87v_s_6 : vOkm T0 (eP e_87v L_87v A_87v mu_87v none) 1 ([(20, [7, 0], [6], 8), (51, [7], [], 0), (1088, [0], [5, 6], 0), (1066, [0, 6], [4, 5], 0), (0, [6], [], 39), (40, [4, 5], [], 0), (0, [5], [], 39), (20, [4, 0], [4], 2), (90, [4], [], -2147483648), (91, [4], [], 2147483647), (1100, [3], [3, 4], 0), (20, [3, 0], [3], 8), (51, [3], [], 0), (1092, [0], [2, 3], 0), (1099, [2], [1, 2], 0), (20, [2, 0], [1], 8), (51, [2], [], 0), (1066, [0, 1], [0, 1], 0), (0, [1], [], 38), (6000, [0], [0], 0), (0, [0], [], 30)], (2101, [7], [6], 0)) := vOk_in fun ρ η h => by
  obtain ⟨f0, f1, f2, f3, f4, f5, f6, f7, f8, f9, f10, f11, f12, f13, f14, f15, f16, f17, f18, f19, f20, _⟩ := h
  exact q_87v_6 (n0 := ρ 0) (n1 := ρ 1) (n2 := ρ 2) (n3 := ρ 3) (n4 := ρ 4) (n5 := ρ 5) (n6 := ρ 6) (n7 := ρ 7) (H0 := η 0) (H1 := η 1) (H2 := η 2) (H3 := η 3) (H4 := η 4) (H5 := η 5) (H6 := η 6) f20 f19 f18 f17 f16 f15 f14 f13 f12 f11 f10 f9 f8 f7 f6 f5 f4 f3 f2 f1 f0
theorem q_87v_7 {n0 n1 n2 n3 n4 n5 n6 n7 : Int} {H0 H1 H2 H3 H4 H5 H6 H7 : gH} (f0 : n0 = 30) (f1 : hWt T0 H0 ∧ preb_87v n0 H0) (f2 : n1 = 38) (f3 : (hLe T0 H0 H1 ∧ hFr s_66v.2.2.2.2 H0 H1 ∧ ((0 : Int) = 0 → H1.length = H0.length) ∧ hWt T0 H1) ∧ postb_66v n0 n1 H0 H1) (f4 : 0 ≤ n2) (f5 : n2 = hV H1 (n0).toNat 8) (f6 : (hLe T0 H1 H2 ∧ hFr s_99.2.2.2.2 H1 H2 ∧ ((0 : Int) = 0 → H2.length = H1.length) ∧ hWt T0 H2) ∧ True) (f7 : (hLe T0 H2 H3 ∧ hFr s_92v.2.2.2.2 H2 H3 ∧ ((0 : Int) = 0 → H3.length = H2.length) ∧ hWt T0 H3) ∧ postb_92v n0 H2 H3) (f8 : 0 ≤ n3) (f9 : n3 = hV H3 (n0).toNat 8) (f10 : (hLe T0 H3 H4 ∧ hFr s_100.2.2.2.2 H3 H4 ∧ ((0 : Int) = 0 → H4.length = H3.length) ∧ hWt T0 H4) ∧ True) (f11 : n4 ≤ 2147483647) (f12 : (-2147483648) ≤ n4) (f13 : n4 = hV H4 (n0).toNat 2) (f14 : n5 = 39) (f15 : n4 = n5) (f16 : n6 = 39) (f17 : (hLe T0 H4 H5 ∧ hFr s_66v.2.2.2.2 H4 H5 ∧ ((0 : Int) = 0 → H5.length = H4.length) ∧ hWt T0 H5) ∧ postb_66v n0 n6 H4 H5) (f18 : (hLe T0 H5 H6 ∧ hFr s_88v.2.2.2.2 H5 H6 ∧ ((0 : Int) = 0 → H6.length = H5.length) ∧ hWt T0 H6) ∧ postb_88v n0 H5 H6) (f19 : 0 ≤ n7) (f20 : n7 = hV H6 (n0).toNat 8) (f21 : (hLe T0 H6 H7 ∧ hFr s_101v.2.2.2.2 H6 H7 ∧ ((0 : Int) = 0 → H7.length = H6.length) ∧ hWt T0 H7) ∧ postb_101v n7 H6 H7) : postb_87v n0 H0 H7 := by
  have pz := f1.2
  unfold preb_87v at pz
  have c0 := f3.2
  unfold postb_66v at c0
  try rw [f2] at c0
  have a0 : absC H1 = (ptk (vwC H0) 38 (absC H0)) := c0.2
  have v0 : vwC H1 = vwC H0 := (vwC_fr f3.1.2.1 (by decide +kernel))
  have s1 := PF_fr f6.1.1 f6.1.2.1 (by decide +kernel) c0.1
  have a1 : absC H2 = (ptk (vwC H0) 38 (absC H0)) := s1.1.trans a0
  have v1 : vwC H2 = vwC H0 := s1.2.1.trans v0
  have c2 := f7.2
  unfold postb_92v at c2
  rw [v1] at c2
  rw [a1] at c2
  have a2 : absC H3 = (pExp (vwC H0) (ptk (vwC H0) 38 (absC H0))) := c2.2
  have v2 : vwC H3 = vwC H0 := (vwC_fr f7.1.2.1 (by decide +kernel)).trans v1
  have s3 := PF_fr f10.1.1 f10.1.2.1 (by decide +kernel) c2.1
  have a3 : absC H4 = (pExp (vwC H0) (ptk (vwC H0) 38 (absC H0))) := s3.1.trans a2
  have v3 : vwC H4 = vwC H0 := s3.2.1.trans v2
  have c4 := f17.2
  unfold postb_66v at c4
  try rw [f16] at c4
  rw [v3] at c4
  rw [a3] at c4
  have a4 : absC H5 = (ptk (vwC H0) 39 (pExp (vwC H0) (ptk (vwC H0) 38 (absC H0)))) := c4.2
  have v4 : vwC H5 = vwC H0 := (vwC_fr f17.1.2.1 (by decide +kernel)).trans v3
  have c5 := f18.2
  unfold postb_88v at c5
  rw [v4] at c5
  rw [a4] at c5
  have a5 : absC H6 = (pCond (vwC H0) 502 (ptk (vwC H0) 39 (pExp (vwC H0) (ptk (vwC H0) 38 (absC H0))))) := c5.2
  have v5 : vwC H6 = vwC H0 := (vwC_fr f18.1.2.1 (by decide +kernel)).trans v4
  have s6 := PF_fr f21.1.1 f21.1.2.1 (by decide +kernel) c5.1
  have a6 : absC H7 = (pCond (vwC H0) 502 (ptk (vwC H0) 39 (pExp (vwC H0) (ptk (vwC H0) 38 (absC H0))))) := s6.1.trans a5
  have v6 : vwC H7 = vwC H0 := s6.2.1.trans v5
  have b0 := kd_at s3.2.2
  rw [v3] at b0
  rw [a3] at b0
  have g0 := f13
  rw [f0] at g0
  rw [show ((30 : Int)).toNat = 30 from rfl] at g0
  have h0 : (pExp (vwC H0) (ptk (vwC H0) 38 (absC H0))).1 < 0 ∨ (vwC H0).1 (pExp (vwC H0) (ptk (vwC H0) 38 (absC H0))).1 = 39 := by
    rcases b0 with q | q
    · exact .inl q
    · right
      rw [q]
      omega
  have dr0 := DR_fr f3.1.1 f3.1.2.1 (by decide +kernel) pz.2.1
  have rc0 : RC H1 = RC H0 := (RC_fr f3.1.2.1 (by decide +kernel) pz.2.1).trans (rfl : RC H0 = RC H0)
  have dr1 := DR_fr f6.1.1 f6.1.2.1 (by decide +kernel) dr0.1
  have rc1 : RC H2 = RC H0 := (RC_fr f6.1.2.1 (by decide +kernel) dr0.1).trans rc0
  have dr2 := DR_fr f7.1.1 f7.1.2.1 (by decide +kernel) dr1.1
  have rc2 : RC H3 = RC H0 := (RC_fr f7.1.2.1 (by decide +kernel) dr1.1).trans rc1
  have dr3 := DR_fr f10.1.1 f10.1.2.1 (by decide +kernel) dr2.1
  have rc3 : RC H4 = RC H0 := (RC_fr f10.1.2.1 (by decide +kernel) dr2.1).trans rc2
  have dr4 := DR_fr f17.1.1 f17.1.2.1 (by decide +kernel) dr3.1
  have rc4 : RC H5 = RC H0 := (RC_fr f17.1.2.1 (by decide +kernel) dr3.1).trans rc3
  have dr5 := DR_fr f18.1.1 f18.1.2.1 (by decide +kernel) dr4.1
  have rc5 : RC H6 = RC H0 := (RC_fr f18.1.2.1 (by decide +kernel) dr4.1).trans rc4
  have dr6 := DR_fr f21.1.1 f21.1.2.1 (by decide +kernel) dr5.1
  have r86 := f20
  rw [f0] at r86
  rw [show ((30 : Int)).toNat = 30 from rfl] at r86
  have pe6 := f21.2
  unfold postb_101v at pe6
  rw [r86] at pe6
  have rc6 : RC H7 = RC H0 + 1 := by
    have w := rc5
    unfold RC at w ⊢
    rw [dr6.2, pe6, w]
  unfold postb_87v
  refine ⟨s6.2.2, ?_, dr6.1, (dr6.2).trans ((dr5.2).trans ((dr4.2).trans ((dr3.2).trans ((dr2.2).trans ((dr1.2).trans (dr0.2)))))), rc6⟩
  rw [a6]
  unfold pRight
  exact (pIf_yes (vwC_ok H0) (by decide) h0 (fun hn => by rw [ptk_neg hn (pExp_ok ptk_ok), pCond_neg (vwC_ok H0) hn (pExp_ok ptk_ok)])).symm
theorem c_87v_s_7 : vOkm T0 (eP e_87v L_87v A_87v mu_87v none) 1 ([(1101, [7], [6, 7], 0), (20, [7, 0], [6], 8), (51, [7], [], 0), (1088, [0], [5, 6], 0), (1066, [0, 6], [4, 5], 0), (0, [6], [], 39), (40, [4, 5], [], 0), (0, [5], [], 39), (20, [4, 0], [4], 2), (90, [4], [], -2147483648), (91, [4], [], 2147483647), (1100, [3], [3, 4], 0), (20, [3, 0], [3], 8), (51, [3], [], 0), (1092, [0], [2, 3], 0), (1099, [2], [1, 2], 0), (20, [2, 0], [1], 8), (51, [2], [], 0), (1066, [0, 1], [0, 1], 0), (0, [1], [], 38), (6000, [0], [0], 0), (0, [0], [], 30)], (3000, [], [7], 50)) := vOk_in fun ρ η h => by
  obtain ⟨f0, f1, f2, f3, f4, f5, f6, f7, f8, f9, f10, f11, f12, f13, f14, f15, f16, f17, f18, f19, f20, f21, _⟩ := h
  exact q_87v_7 (n0 := ρ 0) (n1 := ρ 1) (n2 := ρ 2) (n3 := ρ 3) (n4 := ρ 4) (n5 := ρ 5) (n6 := ρ 6) (n7 := ρ 7) (H0 := η 0) (H1 := η 1) (H2 := η 2) (H3 := η 3) (H4 := η 4) (H5 := η 5) (H6 := η 6) (H7 := η 7) f21 f20 f19 f18 f17 f16 f15 f14 f13 f12 f11 f10 f9 f8 f7 f6 f5 f4 f3 f2 f1 f0
def p_87v_s : List vG := [([(0, [1], [], 38), (6000, [0], [0], 0), (0, [0], [], 30)], (2066, [0, 1], [0], 0)),
  ([(1099, [2], [1, 2], 0), (20, [2, 0], [1], 8), (51, [2], [], 0), (1066, [0, 1], [0, 1], 0), (0, [1], [], 38), (6000, [0], [0], 0), (0, [0], [], 30)], (2092, [0], [2], 0)),
  ([(20, [6, 0], [4], 8), (51, [6], [], 0), (41, [4, 5], [], 0), (0, [5], [], 39), (20, [4, 0], [4], 2), (90, [4], [], -2147483648), (91, [4], [], 2147483647), (1100, [3], [3, 4], 0), (20, [3, 0], [3], 8), (51, [3], [], 0), (1092, [0], [2, 3], 0), (1099, [2], [1, 2], 0), (20, [2, 0], [1], 8), (51, [2], [], 0), (1066, [0, 1], [0, 1], 0), (0, [1], [], 38), (6000, [0], [0], 0), (0, [0], [], 30)], (2101, [6], [4], 0)),
  ([(1101, [6], [4, 5], 0), (20, [6, 0], [4], 8), (51, [6], [], 0), (41, [4, 5], [], 0), (0, [5], [], 39), (20, [4, 0], [4], 2), (90, [4], [], -2147483648), (91, [4], [], 2147483647), (1100, [3], [3, 4], 0), (20, [3, 0], [3], 8), (51, [3], [], 0), (1092, [0], [2, 3], 0), (1099, [2], [1, 2], 0), (20, [2, 0], [1], 8), (51, [2], [], 0), (1066, [0, 1], [0, 1], 0), (0, [1], [], 38), (6000, [0], [0], 0), (0, [0], [], 30)], (3000, [], [5], 50)),
  ([(0, [6], [], 39), (40, [4, 5], [], 0), (0, [5], [], 39), (20, [4, 0], [4], 2), (90, [4], [], -2147483648), (91, [4], [], 2147483647), (1100, [3], [3, 4], 0), (20, [3, 0], [3], 8), (51, [3], [], 0), (1092, [0], [2, 3], 0), (1099, [2], [1, 2], 0), (20, [2, 0], [1], 8), (51, [2], [], 0), (1066, [0, 1], [0, 1], 0), (0, [1], [], 38), (6000, [0], [0], 0), (0, [0], [], 30)], (2066, [0, 6], [4], 0)),
  ([(1066, [0, 6], [4, 5], 0), (0, [6], [], 39), (40, [4, 5], [], 0), (0, [5], [], 39), (20, [4, 0], [4], 2), (90, [4], [], -2147483648), (91, [4], [], 2147483647), (1100, [3], [3, 4], 0), (20, [3, 0], [3], 8), (51, [3], [], 0), (1092, [0], [2, 3], 0), (1099, [2], [1, 2], 0), (20, [2, 0], [1], 8), (51, [2], [], 0), (1066, [0, 1], [0, 1], 0), (0, [1], [], 38), (6000, [0], [0], 0), (0, [0], [], 30)], (2088, [0], [5], 0)),
  ([(20, [7, 0], [6], 8), (51, [7], [], 0), (1088, [0], [5, 6], 0), (1066, [0, 6], [4, 5], 0), (0, [6], [], 39), (40, [4, 5], [], 0), (0, [5], [], 39), (20, [4, 0], [4], 2), (90, [4], [], -2147483648), (91, [4], [], 2147483647), (1100, [3], [3, 4], 0), (20, [3, 0], [3], 8), (51, [3], [], 0), (1092, [0], [2, 3], 0), (1099, [2], [1, 2], 0), (20, [2, 0], [1], 8), (51, [2], [], 0), (1066, [0, 1], [0, 1], 0), (0, [1], [], 38), (6000, [0], [0], 0), (0, [0], [], 30)], (2101, [7], [6], 0)),
  ([(1101, [7], [6, 7], 0), (20, [7, 0], [6], 8), (51, [7], [], 0), (1088, [0], [5, 6], 0), (1066, [0, 6], [4, 5], 0), (0, [6], [], 39), (40, [4, 5], [], 0), (0, [5], [], 39), (20, [4, 0], [4], 2), (90, [4], [], -2147483648), (91, [4], [], 2147483647), (1100, [3], [3, 4], 0), (20, [3, 0], [3], 8), (51, [3], [], 0), (1092, [0], [2, 3], 0), (1099, [2], [1, 2], 0), (20, [2, 0], [1], 8), (51, [2], [], 0), (1066, [0, 1], [0, 1], 0), (0, [1], [], 38), (6000, [0], [0], 0), (0, [0], [], 30)], (3000, [], [7], 50))]
theorem r_87v_s : vCovO false (eR0 e_87v L_87v cs_87v 2000) p_87v_s = true := by decide +kernel
theorem m_87v (d : Nat) : eC e_87v (d + 5) := eC_ok (e := e_87v) (L := L_87v) (cs := cs_87v) (n := 2000) (d := d + 4) (A := A_87v) (μ := mu_87v) (tp := false) (p0 := p_87v_s) rfl ⟨m_66v (d + 2), ⟨m_88v d, ⟨m_92v (d + 1), ⟨m_99 (d + 2), ⟨m_100 (d + 2), ⟨m_101v (d + 2), trivial⟩⟩⟩⟩⟩⟩ rfl (.inl rfl) (by decide +kernel) (fun z => nomatch z) r_87v_s (allC c_87v_s_0 (allC c_87v_s_1 (allC c_87v_s_2 (allC c_87v_s_3 (allC c_87v_s_4 (allC c_87v_s_5 (allC c_87v_s_6 (allC c_87v_s_7 allN)))))))) allN
/- Reader.readLoud ()V -/
noncomputable def s_86v : vM := ([(3, 4, 30, 0)], (9, 0, 0, 0), 1, 0, [(4, 1), (4, 2), (4, 3), (4, 4), (4, 5), (4, 6), (5, 0), (100, 0)])
def preb_86v (a0 : Int) (h : gH) : Prop := KI h ∧ DR h ∧ 0 ≤ RC h ∧ RC h ≤ 12
def pre_86v : List Int → gH → Prop := fun xs h => match xs with
  | [a0] => preb_86v a0 h
  | _ => False
def postb_86v (a0 : Int) (h0 h : gH) : Prop := KI h ∧ absC h = pLoud (vwC h0) (absC h0) ∧ DR h ∧ hV h 30 8 = hV h0 30 8 ∧ RC h = RC h0 + 1
def post_86v : List Int → gH → gH → Prop := fun xs h0 h => match xs with
  | [a0] => postb_86v a0 h0 h
  | _ => True
noncomputable def e_86v : vE := (86, s_86v, pre_86v, post_86v)
noncomputable def L_86v : List vE := [e_66v, e_67v, e_99, e_102v]
def cs_86v : List vC := []
def A_86v : Int → List Int → gH → gH → Prop := fun c xs h0 h => True
def mu_86v : Int → List Int → gH → gH → Nat := fun c xs h0 h => 0
theorem q_86v_0 {n0 n1 : Int} {H0 : gH} (f0 : n0 = 30) (f1 : hWt T0 H0 ∧ preb_86v n0 H0) (f2 : n1 = 40) : preb_66v n0 n1 H0 := by
  have pz := f1.2
  unfold preb_86v at pz
  unfold preb_66v
  exact ⟨pz.1, by omega⟩
theorem c_86v_s_0 : vOkm T0 (eP e_86v L_86v A_86v mu_86v none) 1 ([(0, [1], [], 40), (6000, [0], [0], 0), (0, [0], [], 30)], (2066, [0, 1], [0], 0)) := vOk_in fun ρ η h => by
  obtain ⟨f0, f1, f2, _⟩ := h
  exact q_86v_0 (n0 := ρ 0) (n1 := ρ 1) (H0 := η 0) f2 f1 f0
theorem q_86v_1 {n0 n1 n2 n3 : Int} {H0 H1 : gH} (f0 : n0 = 30) (f1 : hWt T0 H0 ∧ preb_86v n0 H0) (f2 : n1 = 40) (f3 : (hLe T0 H0 H1 ∧ hFr s_66v.2.2.2.2 H0 H1 ∧ ((0 : Int) = 0 → H1.length = H0.length) ∧ hWt T0 H1) ∧ postb_66v n0 n1 H0 H1) (f4 : n2 = 0) (f5 : n3 = 9999) : preb_67v n0 n2 n3 H1 := by
  have pz := f1.2
  unfold preb_86v at pz
  have c0 := f3.2
  unfold postb_66v at c0
  try rw [f2] at c0
  have a0 : absC H1 = (ptk (vwC H0) 40 (absC H0)) := c0.2
  have v0 : vwC H1 = vwC H0 := (vwC_fr f3.1.2.1 (by decide +kernel))
  unfold preb_67v
  exact c0.1
theorem c_86v_s_1 : vOkm T0 (eP e_86v L_86v A_86v mu_86v none) 1 ([(0, [3], [], 9999), (0, [2], [], 0), (1066, [0, 1], [0, 1], 0), (0, [1], [], 40), (6000, [0], [0], 0), (0, [0], [], 30)], (2067, [0, 2, 3], [1], 0)) := vOk_in fun ρ η h => by
  obtain ⟨f0, f1, f2, f3, f4, f5, _⟩ := h
  exact q_86v_1 (n0 := ρ 0) (n1 := ρ 1) (n2 := ρ 2) (n3 := ρ 3) (H0 := η 0) (H1 := η 1) f5 f4 f3 f2 f1 f0
theorem q_86v_2 {n0 n1 n2 n3 n4 n5 : Int} {H0 H1 H2 : gH} (f0 : n0 = 30) (f1 : hWt T0 H0 ∧ preb_86v n0 H0) (f2 : n1 = 40) (f3 : (hLe T0 H0 H1 ∧ hFr s_66v.2.2.2.2 H0 H1 ∧ ((0 : Int) = 0 → H1.length = H0.length) ∧ hWt T0 H1) ∧ postb_66v n0 n1 H0 H1) (f4 : n2 = 0) (f5 : n3 = 9999) (f6 : n4 ≤ 2147483647) (f7 : (-2147483648) ≤ n4) (f8 : (hLe T0 H1 H2 ∧ hFr s_67v.2.2.2.2 H1 H2 ∧ ((0 : Int) = 0 → H2.length = H1.length) ∧ hWt T0 H2) ∧ postb_67v n4 n0 n2 n3 H1 H2) (f9 : n5 = 41) : preb_66v n0 n5 H2 := by
  have pz := f1.2
  unfold preb_86v at pz
  have c0 := f3.2
  unfold postb_66v at c0
  try rw [f2] at c0
  have a0 : absC H1 = (ptk (vwC H0) 40 (absC H0)) := c0.2
  have v0 : vwC H1 = vwC H0 := (vwC_fr f3.1.2.1 (by decide +kernel))
  have c1 := f8.2
  unfold postb_67v at c1
  try rw [f4] at c1
  try rw [f5] at c1
  rw [v0] at c1
  rw [a0] at c1
  have a1 : absC H2 = (pnm (vwC H0) 0 9999 (ptk (vwC H0) 40 (absC H0))) := c1.2
  have v1 : vwC H2 = vwC H0 := (vwC_fr f8.1.2.1 (by decide +kernel)).trans v0
  unfold preb_66v
  exact ⟨c1.1, by omega⟩
theorem c_86v_s_2 : vOkm T0 (eP e_86v L_86v A_86v mu_86v none) 1 ([(0, [5], [], 41), (1067, [4, 0, 2, 3], [1, 2], 0), (90, [4], [], -2147483648), (91, [4], [], 2147483647), (0, [3], [], 9999), (0, [2], [], 0), (1066, [0, 1], [0, 1], 0), (0, [1], [], 40), (6000, [0], [0], 0), (0, [0], [], 30)], (2066, [0, 5], [2], 0)) := vOk_in fun ρ η h => by
  obtain ⟨f0, f1, f2, f3, f4, f5, f6, f7, f8, f9, _⟩ := h
  exact q_86v_2 (n0 := ρ 0) (n1 := ρ 1) (n2 := ρ 2) (n3 := ρ 3) (n4 := ρ 4) (n5 := ρ 5) (H0 := η 0) (H1 := η 1) (H2 := η 2) f9 f8 f7 f6 f5 f4 f3 f2 f1 f0
theorem q_86v_3 {n0 n1 n2 n3 n4 n5 n6 n7 : Int} {H0 H1 H2 H3 : gH} (f0 : n0 = 30) (f1 : hWt T0 H0 ∧ preb_86v n0 H0) (f2 : n1 = 40) (f3 : (hLe T0 H0 H1 ∧ hFr s_66v.2.2.2.2 H0 H1 ∧ ((0 : Int) = 0 → H1.length = H0.length) ∧ hWt T0 H1) ∧ postb_66v n0 n1 H0 H1) (f4 : n2 = 0) (f5 : n3 = 9999) (f6 : n4 ≤ 2147483647) (f7 : (-2147483648) ≤ n4) (f8 : (hLe T0 H1 H2 ∧ hFr s_67v.2.2.2.2 H1 H2 ∧ ((0 : Int) = 0 → H2.length = H1.length) ∧ hWt T0 H2) ∧ postb_67v n4 n0 n2 n3 H1 H2) (f9 : n5 = 41) (f10 : (hLe T0 H2 H3 ∧ hFr s_66v.2.2.2.2 H2 H3 ∧ ((0 : Int) = 0 → H3.length = H2.length) ∧ hWt T0 H3) ∧ postb_66v n0 n5 H2 H3) (f11 : n6 = 1) (f12 : n7 = 60) : preb_67v n0 n6 n7 H3 := by
  have pz := f1.2
  unfold preb_86v at pz
  have c0 := f3.2
  unfold postb_66v at c0
  try rw [f2] at c0
  have a0 : absC H1 = (ptk (vwC H0) 40 (absC H0)) := c0.2
  have v0 : vwC H1 = vwC H0 := (vwC_fr f3.1.2.1 (by decide +kernel))
  have c1 := f8.2
  unfold postb_67v at c1
  try rw [f4] at c1
  try rw [f5] at c1
  rw [v0] at c1
  rw [a0] at c1
  have a1 : absC H2 = (pnm (vwC H0) 0 9999 (ptk (vwC H0) 40 (absC H0))) := c1.2
  have v1 : vwC H2 = vwC H0 := (vwC_fr f8.1.2.1 (by decide +kernel)).trans v0
  have c2 := f10.2
  unfold postb_66v at c2
  try rw [f9] at c2
  rw [v1] at c2
  rw [a1] at c2
  have a2 : absC H3 = (ptk (vwC H0) 41 (pnm (vwC H0) 0 9999 (ptk (vwC H0) 40 (absC H0)))) := c2.2
  have v2 : vwC H3 = vwC H0 := (vwC_fr f10.1.2.1 (by decide +kernel)).trans v1
  unfold preb_67v
  exact c2.1
theorem c_86v_s_3 : vOkm T0 (eP e_86v L_86v A_86v mu_86v none) 1 ([(0, [7], [], 60), (0, [6], [], 1), (1066, [0, 5], [2, 3], 0), (0, [5], [], 41), (1067, [4, 0, 2, 3], [1, 2], 0), (90, [4], [], -2147483648), (91, [4], [], 2147483647), (0, [3], [], 9999), (0, [2], [], 0), (1066, [0, 1], [0, 1], 0), (0, [1], [], 40), (6000, [0], [0], 0), (0, [0], [], 30)], (2067, [0, 6, 7], [3], 0)) := vOk_in fun ρ η h => by
  obtain ⟨f0, f1, f2, f3, f4, f5, f6, f7, f8, f9, f10, f11, f12, _⟩ := h
  exact q_86v_3 (n0 := ρ 0) (n1 := ρ 1) (n2 := ρ 2) (n3 := ρ 3) (n4 := ρ 4) (n5 := ρ 5) (n6 := ρ 6) (n7 := ρ 7) (H0 := η 0) (H1 := η 1) (H2 := η 2) (H3 := η 3) f12 f11 f10 f9 f8 f7 f6 f5 f4 f3 f2 f1 f0
theorem q_86v_4 {n0 n1 n2 n3 n4 n5 n6 n7 n8 n9 n10 : Int} {H0 H1 H2 H3 H4 H5 : gH} (f0 : n0 = 30) (f1 : hWt T0 H0 ∧ preb_86v n0 H0) (f2 : n1 = 40) (f3 : (hLe T0 H0 H1 ∧ hFr s_66v.2.2.2.2 H0 H1 ∧ ((0 : Int) = 0 → H1.length = H0.length) ∧ hWt T0 H1) ∧ postb_66v n0 n1 H0 H1) (f4 : n2 = 0) (f5 : n3 = 9999) (f6 : n4 ≤ 2147483647) (f7 : (-2147483648) ≤ n4) (f8 : (hLe T0 H1 H2 ∧ hFr s_67v.2.2.2.2 H1 H2 ∧ ((0 : Int) = 0 → H2.length = H1.length) ∧ hWt T0 H2) ∧ postb_67v n4 n0 n2 n3 H1 H2) (f9 : n5 = 41) (f10 : (hLe T0 H2 H3 ∧ hFr s_66v.2.2.2.2 H2 H3 ∧ ((0 : Int) = 0 → H3.length = H2.length) ∧ hWt T0 H3) ∧ postb_66v n0 n5 H2 H3) (f11 : n6 = 1) (f12 : n7 = 60) (f13 : n8 ≤ 2147483647) (f14 : (-2147483648) ≤ n8) (f15 : (hLe T0 H3 H4 ∧ hFr s_67v.2.2.2.2 H3 H4 ∧ ((0 : Int) = 0 → H4.length = H3.length) ∧ hWt T0 H4) ∧ postb_67v n8 n0 n6 n7 H3 H4) (f16 : 0 ≤ n9) (f17 : n9 = hV H4 (n0).toNat 8) (f18 : (hLe T0 H4 H5 ∧ hFr s_99.2.2.2.2 H4 H5 ∧ ((0 : Int) = 0 → H5.length = H4.length) ∧ hWt T0 H5) ∧ True) (f19 : 0 ≤ n10) (f20 : n10 = hV H5 (n0).toNat 8) : preb_102v n10 n4 n8 H5 := by
  have pz := f1.2
  unfold preb_86v at pz
  have c0 := f3.2
  unfold postb_66v at c0
  try rw [f2] at c0
  have a0 : absC H1 = (ptk (vwC H0) 40 (absC H0)) := c0.2
  have v0 : vwC H1 = vwC H0 := (vwC_fr f3.1.2.1 (by decide +kernel))
  have c1 := f8.2
  unfold postb_67v at c1
  try rw [f4] at c1
  try rw [f5] at c1
  rw [v0] at c1
  rw [a0] at c1
  have a1 : absC H2 = (pnm (vwC H0) 0 9999 (ptk (vwC H0) 40 (absC H0))) := c1.2
  have v1 : vwC H2 = vwC H0 := (vwC_fr f8.1.2.1 (by decide +kernel)).trans v0
  have c2 := f10.2
  unfold postb_66v at c2
  try rw [f9] at c2
  rw [v1] at c2
  rw [a1] at c2
  have a2 : absC H3 = (ptk (vwC H0) 41 (pnm (vwC H0) 0 9999 (ptk (vwC H0) 40 (absC H0)))) := c2.2
  have v2 : vwC H3 = vwC H0 := (vwC_fr f10.1.2.1 (by decide +kernel)).trans v1
  have c3 := f15.2
  unfold postb_67v at c3
  try rw [f11] at c3
  try rw [f12] at c3
  rw [v2] at c3
  rw [a2] at c3
  have a3 : absC H4 = (pnm (vwC H0) 1 60 (ptk (vwC H0) 41 (pnm (vwC H0) 0 9999 (ptk (vwC H0) 40 (absC H0))))) := c3.2
  have v3 : vwC H4 = vwC H0 := (vwC_fr f15.1.2.1 (by decide +kernel)).trans v2
  have s4 := PF_fr f18.1.1 f18.1.2.1 (by decide +kernel) c3.1
  have a4 : absC H5 = (pnm (vwC H0) 1 60 (ptk (vwC H0) 41 (pnm (vwC H0) 0 9999 (ptk (vwC H0) 40 (absC H0))))) := s4.1.trans a3
  have v4 : vwC H5 = vwC H0 := s4.2.1.trans v3
  have dr0 := DR_fr f3.1.1 f3.1.2.1 (by decide +kernel) pz.2.1
  have rc0 : RC H1 = RC H0 := (RC_fr f3.1.2.1 (by decide +kernel) pz.2.1).trans (rfl : RC H0 = RC H0)
  have dr1 := DR_fr f8.1.1 f8.1.2.1 (by decide +kernel) dr0.1
  have rc1 : RC H2 = RC H0 := (RC_fr f8.1.2.1 (by decide +kernel) dr0.1).trans rc0
  have dr2 := DR_fr f10.1.1 f10.1.2.1 (by decide +kernel) dr1.1
  have rc2 : RC H3 = RC H0 := (RC_fr f10.1.2.1 (by decide +kernel) dr1.1).trans rc1
  have dr3 := DR_fr f15.1.1 f15.1.2.1 (by decide +kernel) dr2.1
  have rc3 : RC H4 = RC H0 := (RC_fr f15.1.2.1 (by decide +kernel) dr2.1).trans rc2
  have dr4 := DR_fr f18.1.1 f18.1.2.1 (by decide +kernel) dr3.1
  have rc4 : RC H5 = RC H0 := (RC_fr f18.1.2.1 (by decide +kernel) dr3.1).trans rc3
  have r8 := f20
  rw [f0] at r8
  rw [show ((30 : Int)).toNat = 30 from rfl] at r8
  have w := rc4
  have rp0 := pz.2.2.1
  have rp1 := pz.2.2.2
  unfold RC at w rp0 rp1
  unfold preb_102v
  rw [r8]
  exact ⟨dr4.1.2, dr4.1.1, by omega, by omega⟩
theorem c_86v_s_4 : vOkm T0 (eP e_86v L_86v A_86v mu_86v none) 1 ([(20, [10, 0], [5], 8), (51, [10], [], 0), (1099, [9], [4, 5], 0), (20, [9, 0], [4], 8), (51, [9], [], 0), (1067, [8, 0, 6, 7], [3, 4], 0), (90, [8], [], -2147483648), (91, [8], [], 2147483647), (0, [7], [], 60), (0, [6], [], 1), (1066, [0, 5], [2, 3], 0), (0, [5], [], 41), (1067, [4, 0, 2, 3], [1, 2], 0), (90, [4], [], -2147483648), (91, [4], [], 2147483647), (0, [3], [], 9999), (0, [2], [], 0), (1066, [0, 1], [0, 1], 0), (0, [1], [], 40), (6000, [0], [0], 0), (0, [0], [], 30)], (2102, [10, 4, 8], [5], 0)) := vOk_in fun ρ η h => by
  obtain ⟨f0, f1, f2, f3, f4, f5, f6, f7, f8, f9, f10, f11, f12, f13, f14, f15, f16, f17, f18, f19, f20, _⟩ := h
  exact q_86v_4 (n0 := ρ 0) (n1 := ρ 1) (n2 := ρ 2) (n3 := ρ 3) (n4 := ρ 4) (n5 := ρ 5) (n6 := ρ 6) (n7 := ρ 7) (n8 := ρ 8) (n9 := ρ 9) (n10 := ρ 10) (H0 := η 0) (H1 := η 1) (H2 := η 2) (H3 := η 3) (H4 := η 4) (H5 := η 5) f20 f19 f18 f17 f16 f15 f14 f13 f12 f11 f10 f9 f8 f7 f6 f5 f4 f3 f2 f1 f0
theorem q_86v_5 {n0 n1 n2 n3 n4 n5 n6 n7 n8 n9 n10 : Int} {H0 H1 H2 H3 H4 H5 H6 : gH} (f0 : n0 = 30) (f1 : hWt T0 H0 ∧ preb_86v n0 H0) (f2 : n1 = 40) (f3 : (hLe T0 H0 H1 ∧ hFr s_66v.2.2.2.2 H0 H1 ∧ ((0 : Int) = 0 → H1.length = H0.length) ∧ hWt T0 H1) ∧ postb_66v n0 n1 H0 H1) (f4 : n2 = 0) (f5 : n3 = 9999) (f6 : n4 ≤ 2147483647) (f7 : (-2147483648) ≤ n4) (f8 : (hLe T0 H1 H2 ∧ hFr s_67v.2.2.2.2 H1 H2 ∧ ((0 : Int) = 0 → H2.length = H1.length) ∧ hWt T0 H2) ∧ postb_67v n4 n0 n2 n3 H1 H2) (f9 : n5 = 41) (f10 : (hLe T0 H2 H3 ∧ hFr s_66v.2.2.2.2 H2 H3 ∧ ((0 : Int) = 0 → H3.length = H2.length) ∧ hWt T0 H3) ∧ postb_66v n0 n5 H2 H3) (f11 : n6 = 1) (f12 : n7 = 60) (f13 : n8 ≤ 2147483647) (f14 : (-2147483648) ≤ n8) (f15 : (hLe T0 H3 H4 ∧ hFr s_67v.2.2.2.2 H3 H4 ∧ ((0 : Int) = 0 → H4.length = H3.length) ∧ hWt T0 H4) ∧ postb_67v n8 n0 n6 n7 H3 H4) (f16 : 0 ≤ n9) (f17 : n9 = hV H4 (n0).toNat 8) (f18 : (hLe T0 H4 H5 ∧ hFr s_99.2.2.2.2 H4 H5 ∧ ((0 : Int) = 0 → H5.length = H4.length) ∧ hWt T0 H5) ∧ True) (f19 : 0 ≤ n10) (f20 : n10 = hV H5 (n0).toNat 8) (f21 : (hLe T0 H5 H6 ∧ hFr s_102v.2.2.2.2 H5 H6 ∧ ((0 : Int) = 0 → H6.length = H5.length) ∧ hWt T0 H6) ∧ postb_102v n10 n4 n8 H5 H6) : postb_86v n0 H0 H6 := by
  have pz := f1.2
  unfold preb_86v at pz
  have c0 := f3.2
  unfold postb_66v at c0
  try rw [f2] at c0
  have a0 : absC H1 = (ptk (vwC H0) 40 (absC H0)) := c0.2
  have v0 : vwC H1 = vwC H0 := (vwC_fr f3.1.2.1 (by decide +kernel))
  have c1 := f8.2
  unfold postb_67v at c1
  try rw [f4] at c1
  try rw [f5] at c1
  rw [v0] at c1
  rw [a0] at c1
  have a1 : absC H2 = (pnm (vwC H0) 0 9999 (ptk (vwC H0) 40 (absC H0))) := c1.2
  have v1 : vwC H2 = vwC H0 := (vwC_fr f8.1.2.1 (by decide +kernel)).trans v0
  have c2 := f10.2
  unfold postb_66v at c2
  try rw [f9] at c2
  rw [v1] at c2
  rw [a1] at c2
  have a2 : absC H3 = (ptk (vwC H0) 41 (pnm (vwC H0) 0 9999 (ptk (vwC H0) 40 (absC H0)))) := c2.2
  have v2 : vwC H3 = vwC H0 := (vwC_fr f10.1.2.1 (by decide +kernel)).trans v1
  have c3 := f15.2
  unfold postb_67v at c3
  try rw [f11] at c3
  try rw [f12] at c3
  rw [v2] at c3
  rw [a2] at c3
  have a3 : absC H4 = (pnm (vwC H0) 1 60 (ptk (vwC H0) 41 (pnm (vwC H0) 0 9999 (ptk (vwC H0) 40 (absC H0))))) := c3.2
  have v3 : vwC H4 = vwC H0 := (vwC_fr f15.1.2.1 (by decide +kernel)).trans v2
  have s4 := PF_fr f18.1.1 f18.1.2.1 (by decide +kernel) c3.1
  have a4 : absC H5 = (pnm (vwC H0) 1 60 (ptk (vwC H0) 41 (pnm (vwC H0) 0 9999 (ptk (vwC H0) 40 (absC H0))))) := s4.1.trans a3
  have v4 : vwC H5 = vwC H0 := s4.2.1.trans v3
  have s5 := PF_fr f21.1.1 f21.1.2.1 (by decide +kernel) s4.2.2
  have a5 : absC H6 = (pnm (vwC H0) 1 60 (ptk (vwC H0) 41 (pnm (vwC H0) 0 9999 (ptk (vwC H0) 40 (absC H0))))) := s5.1.trans a4
  have v5 : vwC H6 = vwC H0 := s5.2.1.trans v4
  have dr0 := DR_fr f3.1.1 f3.1.2.1 (by decide +kernel) pz.2.1
  have rc0 : RC H1 = RC H0 := (RC_fr f3.1.2.1 (by decide +kernel) pz.2.1).trans (rfl : RC H0 = RC H0)
  have dr1 := DR_fr f8.1.1 f8.1.2.1 (by decide +kernel) dr0.1
  have rc1 : RC H2 = RC H0 := (RC_fr f8.1.2.1 (by decide +kernel) dr0.1).trans rc0
  have dr2 := DR_fr f10.1.1 f10.1.2.1 (by decide +kernel) dr1.1
  have rc2 : RC H3 = RC H0 := (RC_fr f10.1.2.1 (by decide +kernel) dr1.1).trans rc1
  have dr3 := DR_fr f15.1.1 f15.1.2.1 (by decide +kernel) dr2.1
  have rc3 : RC H4 = RC H0 := (RC_fr f15.1.2.1 (by decide +kernel) dr2.1).trans rc2
  have dr4 := DR_fr f18.1.1 f18.1.2.1 (by decide +kernel) dr3.1
  have rc4 : RC H5 = RC H0 := (RC_fr f18.1.2.1 (by decide +kernel) dr3.1).trans rc3
  have dr5 := DR_fr f21.1.1 f21.1.2.1 (by decide +kernel) dr4.1
  have r85 := f20
  rw [f0] at r85
  rw [show ((30 : Int)).toNat = 30 from rfl] at r85
  have pe5 := f21.2
  unfold postb_102v at pe5
  rw [r85] at pe5
  have rc5 : RC H6 = RC H0 + 1 := by
    have w := rc4
    unfold RC at w ⊢
    rw [dr5.2, pe5, w]
  unfold postb_86v
  refine ⟨s5.2.2, ?_, dr5.1, (dr5.2).trans ((dr4.2).trans ((dr3.2).trans ((dr2.2).trans ((dr1.2).trans (dr0.2))))), rc5⟩
  rw [a5]
  rfl
theorem c_86v_s_5 : vOkm T0 (eP e_86v L_86v A_86v mu_86v none) 1 ([(1102, [10, 4, 8], [5, 6], 0), (20, [10, 0], [5], 8), (51, [10], [], 0), (1099, [9], [4, 5], 0), (20, [9, 0], [4], 8), (51, [9], [], 0), (1067, [8, 0, 6, 7], [3, 4], 0), (90, [8], [], -2147483648), (91, [8], [], 2147483647), (0, [7], [], 60), (0, [6], [], 1), (1066, [0, 5], [2, 3], 0), (0, [5], [], 41), (1067, [4, 0, 2, 3], [1, 2], 0), (90, [4], [], -2147483648), (91, [4], [], 2147483647), (0, [3], [], 9999), (0, [2], [], 0), (1066, [0, 1], [0, 1], 0), (0, [1], [], 40), (6000, [0], [0], 0), (0, [0], [], 30)], (3000, [], [6], 45)) := vOk_in fun ρ η h => by
  obtain ⟨f0, f1, f2, f3, f4, f5, f6, f7, f8, f9, f10, f11, f12, f13, f14, f15, f16, f17, f18, f19, f20, f21, _⟩ := h
  exact q_86v_5 (n0 := ρ 0) (n1 := ρ 1) (n2 := ρ 2) (n3 := ρ 3) (n4 := ρ 4) (n5 := ρ 5) (n6 := ρ 6) (n7 := ρ 7) (n8 := ρ 8) (n9 := ρ 9) (n10 := ρ 10) (H0 := η 0) (H1 := η 1) (H2 := η 2) (H3 := η 3) (H4 := η 4) (H5 := η 5) (H6 := η 6) f21 f20 f19 f18 f17 f16 f15 f14 f13 f12 f11 f10 f9 f8 f7 f6 f5 f4 f3 f2 f1 f0
def p_86v_s : List vG := [([(0, [1], [], 40), (6000, [0], [0], 0), (0, [0], [], 30)], (2066, [0, 1], [0], 0)),
  ([(0, [3], [], 9999), (0, [2], [], 0), (1066, [0, 1], [0, 1], 0), (0, [1], [], 40), (6000, [0], [0], 0), (0, [0], [], 30)], (2067, [0, 2, 3], [1], 0)),
  ([(0, [5], [], 41), (1067, [4, 0, 2, 3], [1, 2], 0), (90, [4], [], -2147483648), (91, [4], [], 2147483647), (0, [3], [], 9999), (0, [2], [], 0), (1066, [0, 1], [0, 1], 0), (0, [1], [], 40), (6000, [0], [0], 0), (0, [0], [], 30)], (2066, [0, 5], [2], 0)),
  ([(0, [7], [], 60), (0, [6], [], 1), (1066, [0, 5], [2, 3], 0), (0, [5], [], 41), (1067, [4, 0, 2, 3], [1, 2], 0), (90, [4], [], -2147483648), (91, [4], [], 2147483647), (0, [3], [], 9999), (0, [2], [], 0), (1066, [0, 1], [0, 1], 0), (0, [1], [], 40), (6000, [0], [0], 0), (0, [0], [], 30)], (2067, [0, 6, 7], [3], 0)),
  ([(20, [10, 0], [5], 8), (51, [10], [], 0), (1099, [9], [4, 5], 0), (20, [9, 0], [4], 8), (51, [9], [], 0), (1067, [8, 0, 6, 7], [3, 4], 0), (90, [8], [], -2147483648), (91, [8], [], 2147483647), (0, [7], [], 60), (0, [6], [], 1), (1066, [0, 5], [2, 3], 0), (0, [5], [], 41), (1067, [4, 0, 2, 3], [1, 2], 0), (90, [4], [], -2147483648), (91, [4], [], 2147483647), (0, [3], [], 9999), (0, [2], [], 0), (1066, [0, 1], [0, 1], 0), (0, [1], [], 40), (6000, [0], [0], 0), (0, [0], [], 30)], (2102, [10, 4, 8], [5], 0)),
  ([(1102, [10, 4, 8], [5, 6], 0), (20, [10, 0], [5], 8), (51, [10], [], 0), (1099, [9], [4, 5], 0), (20, [9, 0], [4], 8), (51, [9], [], 0), (1067, [8, 0, 6, 7], [3, 4], 0), (90, [8], [], -2147483648), (91, [8], [], 2147483647), (0, [7], [], 60), (0, [6], [], 1), (1066, [0, 5], [2, 3], 0), (0, [5], [], 41), (1067, [4, 0, 2, 3], [1, 2], 0), (90, [4], [], -2147483648), (91, [4], [], 2147483647), (0, [3], [], 9999), (0, [2], [], 0), (1066, [0, 1], [0, 1], 0), (0, [1], [], 40), (6000, [0], [0], 0), (0, [0], [], 30)], (3000, [], [6], 45))]
theorem r_86v_s : vCovO false (eR0 e_86v L_86v cs_86v 2000) p_86v_s = true := by decide +kernel
theorem m_86v (d : Nat) : eC e_86v (d + 4) := eC_ok (e := e_86v) (L := L_86v) (cs := cs_86v) (n := 2000) (d := d + 3) (A := A_86v) (μ := mu_86v) (tp := false) (p0 := p_86v_s) rfl ⟨m_66v (d + 1), ⟨m_67v d, ⟨m_99 (d + 1), ⟨m_102v (d + 1), trivial⟩⟩⟩⟩ rfl (.inl rfl) (by decide +kernel) (fun z => nomatch z) r_86v_s (allC c_86v_s_0 (allC c_86v_s_1 (allC c_86v_s_2 (allC c_86v_s_3 (allC c_86v_s_4 (allC c_86v_s_5 allN)))))) allN
