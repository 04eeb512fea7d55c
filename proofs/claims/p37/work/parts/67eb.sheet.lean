/-! CONTRACTS of methods told more fully. -/
/- MixStage.seam (I)I -/
noncomputable def s_187v : vM := ([(3, 11, 7, 0), (0, -2147483648, 2147483647, 0)], (0, -2147483648, 2147483647, 0), 1, 0, [])
def preb_187v (a0 a1 : Int) (h : gH) : Prop := RK h
def pre_187v : List Int → gH → Prop := fun xs h => match xs with
  | [a0, a1] => preb_187v a0 a1 h
  | _ => False
def postb_187v (r a0 a1 : Int) (h0 h : gH) : Prop := (SEc h0 a1 ∧ r = smF (atR h0 (RW h0 a1) (w32 (hV h0 (hV h0 24 (a1).toNat).toNat 2 - 1))) (atR h0 (RW h0 a1) (hV h0 (hV h0 24 (a1).toNat).toNat 1))) ∨ (¬ SEc h0 a1 ∧ r = -1)
def post_187v : List Int → gH → gH → Prop := fun xs h0 h => match xs with
  | [r, a0, a1] => postb_187v r a0 a1 h0 h
  | _ => True
noncomputable def e_187v : vE := (187, s_187v, pre_187v, post_187v)
noncomputable def L_187v : List vE := [e_3v, e_199vk780, e_316v]
def cs_187v : List vC := []
def A_187v : Int → List Int → gH → gH → Prop := fun c xs h0 h => True
def mu_187v : Int → List Int → gH → gH → Nat := fun c xs h0 h => 0
theorem q_187v_0 {n0 n1 n2 n3 n4 n5 : Int} {H0 H1 : gH} (f0 : n0 ≤ 2147483647) (f1 : (-2147483648) ≤ n0) (f2 : n1 = 7) (f3 : hWt T0 H0 ∧ preb_187v n1 n0 H0) (f4 : n2 = 23) (f5 : n2 = hV H0 (n1).toNat 7) (f6 : n3 = 1) (f7 : (hLe T0 H0 H1 ∧ hFr s_3v.2.2.2.2 H0 H1 ∧ ((0 : Int) = 0 → H1.length = H0.length) ∧ hWt T0 H1) ∧ postb_3v n4 n2 n0 n3 H0 H1) (f8 : n4 = -1) (f9 : n5 = (-1)) : postb_187v n5 n1 n0 H0 H1 := by
  have pz := f3.2
  unfold preb_187v at pz
  have gp := f7.2
  unfold postb_3v at gp
  rw [f6] at gp
  unfold postb_187v
  exact .inr ⟨fun w => by
    unfold SEc at w
    omega, by omega⟩
theorem c_187v_s_0 : vOkm T0 (eP e_187v L_187v A_187v mu_187v none) 2 ([(0, [5], [], -1), (50, [4], [], 0), (1003, [4, 2, 1, 3], [0, 1], 0), (0, [3], [], 1), (20, [2, 0], [0], 7), (0, [2], [], 23), (6000, [0, 1], [0], 0), (0, [0], [], 7), (90, [1], [], -2147483648), (91, [1], [], 2147483647)], (3000, [5], [1], 22)) := vOk_in fun ρ η h => by
  obtain ⟨f0, f1, f2, f3, f4, f5, f6, f7, f8, f9, _⟩ := h
  exact q_187v_0 (n0 := ρ 1) (n1 := ρ 0) (n2 := ρ 2) (n3 := ρ 3) (n4 := ρ 4) (n5 := ρ 5) (H0 := η 0) (H1 := η 1) f9 f8 f7 f6 f5 f4 f3 f2 f1 f0
theorem q_187v_1 {n0 n1 n2 n3 n4 n5 n6 n7 n8 n9 n10 n11 n12 n13 n14 n15 : Int} {H0 H1 H2 H3 H4 : gH} (f0 : n0 ≤ 2147483647) (f1 : (-2147483648) ≤ n0) (f2 : n1 = 7) (f3 : hWt T0 H0 ∧ preb_187v n1 n0 H0) (f4 : n2 = 23) (f5 : n2 = hV H0 (n1).toNat 7) (f6 : n3 = 1) (f7 : (hLe T0 H0 H1 ∧ hFr s_3v.2.2.2.2 H0 H1 ∧ ((0 : Int) = 0 → H1.length = H0.length) ∧ hWt T0 H1) ∧ postb_3v n4 n2 n0 n3 H0 H1) (f8 : 0 ≤ n4) (f9 : n5 ≤ 2147483647) (f10 : (-2147483648) ≤ n5) (f11 : hK H1 (n4).toNat = 7) (f12 : n5 = hV H1 (n4).toNat 6) (f13 : n5 ≠ 0) (f14 : 0 ≤ n6) (f15 : hK H1 (n4).toNat = 7) (f16 : n6 = hV H1 (n4).toNat 4) (f17 : n7 ≤ 2147483647) (f18 : (-2147483648) ≤ n7) (f19 : hK H1 (n4).toNat = 7) (f20 : n7 = hV H1 (n4).toNat 2) (f21 : n8 = 1) (f22 : n9 = w32 (n7 - n8)) (f23 : n10 ≤ 2147483647) (f24 : (-2147483648) ≤ n10) (f25 : (hLe T0 H1 H2 ∧ hFr s_199vk780.2.2.2.2 H1 H2 ∧ ((0 : Int) = 0 → H2.length = H1.length) ∧ hWt T0 H2) ∧ postb_199vk780 n10 n6 n9 H1 H2) (f26 : 0 ≤ n11) (f27 : hK H2 (n4).toNat = 7) (f28 : n11 = hV H2 (n4).toNat 4) (f29 : n12 ≤ 2147483647) (f30 : (-2147483648) ≤ n12) (f31 : hK H2 (n4).toNat = 7) (f32 : n12 = hV H2 (n4).toNat 1) (f33 : n13 ≤ 2147483647) (f34 : (-2147483648) ≤ n13) (f35 : (hLe T0 H2 H3 ∧ hFr s_199vk780.2.2.2.2 H2 H3 ∧ ((0 : Int) = 0 → H3.length = H2.length) ∧ hWt T0 H3) ∧ postb_199vk780 n13 n11 n12 H2 H3) (f36 : n14 = w32 (n10 - n13)) (f37 : n15 ≤ 2147483647) (f38 : (-2147483648) ≤ n15) (f39 : (hLe T0 H3 H4 ∧ hFr s_316v.2.2.2.2 H3 H4 ∧ ((0 : Int) = 0 → H4.length = H3.length) ∧ hWt T0 H4) ∧ postb_316v n15 n14 H3 H4) : postb_187v n15 n1 n0 H0 H4 := by
  have pz := f3.2
  unfold preb_187v at pz
  have gp := f7.2
  unfold postb_3v at gp
  rw [f6] at gp
  unfold postb_187v
  have hg := gp.resolve_right (fun w => by omega)
  have sv : SV H0 n0 = n5 := by
    unfold SV
    rw [← hg.2.2.2.1]
    exact (f12.trans (f7.1.2.1.2.2 _ 7 hg.2.2.2.2.2 rfl 6 (by decide +kernel))).symm
  have e4 : n6 = RW H0 n0 := by
    unfold RW
    rw [← hg.2.2.2.1]
    exact f16.trans (f7.1.2.1.2.2 _ 7 hg.2.2.2.2.2 rfl 4 (by decide +kernel))
  have e2 : n7 = hV H0 (hV H0 24 (n0).toNat).toNat 2 := by
    rw [← hg.2.2.2.1]
    exact f20.trans (f7.1.2.1.2.2 _ 7 hg.2.2.2.2.2 rfl 2 (by decide +kernel))
  have e5 : n11 = RW H0 n0 := by
    unfold RW
    rw [← hg.2.2.2.1]
    exact f28.trans ((f25.1.2.1.2.2 _ 7 (kLe f7.1.1 hg.2.2.2.2.2 rfl) rfl 4 (by decide +kernel)).trans (f7.1.2.1.2.2 _ 7 hg.2.2.2.2.2 rfl 4 (by decide +kernel)))
  have e1 : n12 = hV H0 (hV H0 24 (n0).toNat).toNat 1 := by
    rw [← hg.2.2.2.1]
    exact f32.trans ((f25.1.2.1.2.2 _ 7 (kLe f7.1.1 hg.2.2.2.2.2 rfl) rfl 1 (by decide +kernel)).trans (f7.1.2.1.2.2 _ 7 hg.2.2.2.2.2 rfl 1 (by decide +kernel)))
  have kr : hK H0 (RW H0 n0).toNat = 780 := by
    have z := pz (n0).toNat (by omega) (by rw [← hg.2.2.2.1]; exact hg.2.2.1)
    rw [Int.toNat_of_nonneg hg.1] at z
    exact z
  have e9 : n9 = w32 (hV H0 (hV H0 24 (n0).toNat).toNat 2 - 1) := by
    rw [f22, e2, f21]
  have pa := f25.2
  unfold postb_199vk780 at pa
  rw [e4, e9, atR_fr f7.1.1 f7.1.2.1 kr (by decide +kernel)] at pa
  have pb := f35.2
  unfold postb_199vk780 at pb
  rw [e5, e1, atR_fr f25.1.1 f25.1.2.1 (kLe f7.1.1 kr rfl) (by decide +kernel), atR_fr f7.1.1 f7.1.2.1 kr (by decide +kernel)] at pb
  have pc := f39.2
  unfold postb_316v at pc
  refine .inl ⟨?_, ?_⟩
  · unfold SEc
    rw [← hg.2.2.2.1]
    exact ⟨hg.1, hg.2.1, hg.2.2.1, hg.2.2.2.2.1, by omega⟩
  · rw [← pa, ← pb]
    unfold smF ngF
    rw [← f36]
    rcases pc with pc | pc
    · rw [if_neg (by omega)]
      exact pc.2
    · rw [if_pos pc.1]
      exact pc.2
theorem c_187v_s_1 : vOkm T0 (eP e_187v L_187v A_187v mu_187v none) 2 ([(1316, [15, 14], [3, 4], 0), (90, [15], [], -2147483648), (91, [15], [], 2147483647), (2, [14, 10, 13], [], 0), (1199, [13, 11, 12], [2, 3], 0), (90, [13], [], -2147483648), (91, [13], [], 2147483647), (20, [12, 4], [2], 1), (23, [4], [2], 7), (90, [12], [], -2147483648), (91, [12], [], 2147483647), (20, [11, 4], [2], 4), (23, [4], [2], 7), (51, [11], [], 0), (1199, [10, 6, 9], [1, 2], 0), (90, [10], [], -2147483648), (91, [10], [], 2147483647), (2, [9, 7, 8], [], 0), (0, [8], [], 1), (20, [7, 4], [1], 2), (23, [4], [1], 7), (90, [7], [], -2147483648), (91, [7], [], 2147483647), (20, [6, 4], [1], 4), (23, [4], [1], 7), (51, [6], [], 0), (31, [5], [], 0), (20, [5, 4], [1], 6), (23, [4], [1], 7), (90, [5], [], -2147483648), (91, [5], [], 2147483647), (51, [4], [], 0), (1003, [4, 2, 1, 3], [0, 1], 0), (0, [3], [], 1), (20, [2, 0], [0], 7), (0, [2], [], 23), (6000, [0, 1], [0], 0), (0, [0], [], 7), (90, [1], [], -2147483648), (91, [1], [], 2147483647)], (3000, [15], [4], 51)) := vOk_in fun ρ η h => by
  obtain ⟨f0, f1, f2, f3, f4, f5, f6, f7, f8, f9, f10, f11, f12, f13, f14, f15, f16, f17, f18, f19, f20, f21, f22, f23, f24, f25, f26, f27, f28, f29, f30, f31, f32, f33, f34, f35, f36, f37, f38, f39, _⟩ := h
  exact q_187v_1 (n0 := ρ 1) (n1 := ρ 0) (n2 := ρ 2) (n3 := ρ 3) (n4 := ρ 4) (n5 := ρ 5) (n6 := ρ 6) (n7 := ρ 7) (n8 := ρ 8) (n9 := ρ 9) (n10 := ρ 10) (n11 := ρ 11) (n12 := ρ 12) (n13 := ρ 13) (n14 := ρ 14) (n15 := ρ 15) (H0 := η 0) (H1 := η 1) (H2 := η 2) (H3 := η 3) (H4 := η 4) f39 f38 f37 f36 f35 f34 f33 f32 f31 f30 f29 f28 f27 f26 f25 f24 f23 f22 f21 f20 f19 f18 f17 f16 f15 f14 f13 f12 f11 f10 f9 f8 f7 f6 f5 f4 f3 f2 f1 f0
theorem q_187v_2 {n0 n1 n2 n3 n4 n5 n6 : Int} {H0 H1 : gH} (f0 : n0 ≤ 2147483647) (f1 : (-2147483648) ≤ n0) (f2 : n1 = 7) (f3 : hWt T0 H0 ∧ preb_187v n1 n0 H0) (f4 : n2 = 23) (f5 : n2 = hV H0 (n1).toNat 7) (f6 : n3 = 1) (f7 : (hLe T0 H0 H1 ∧ hFr s_3v.2.2.2.2 H0 H1 ∧ ((0 : Int) = 0 → H1.length = H0.length) ∧ hWt T0 H1) ∧ postb_3v n4 n2 n0 n3 H0 H1) (f8 : 0 ≤ n4) (f9 : n5 ≤ 2147483647) (f10 : (-2147483648) ≤ n5) (f11 : hK H1 (n4).toNat = 7) (f12 : n5 = hV H1 (n4).toNat 6) (f13 : n5 = 0) (f14 : n6 = (-1)) : postb_187v n6 n1 n0 H0 H1 := by
  have pz := f3.2
  unfold preb_187v at pz
  have gp := f7.2
  unfold postb_3v at gp
  rw [f6] at gp
  unfold postb_187v
  have hg := gp.resolve_right (fun w => by omega)
  have sv : SV H0 n0 = n5 := by
    unfold SV
    rw [← hg.2.2.2.1]
    exact (f12.trans (f7.1.2.1.2.2 _ 7 hg.2.2.2.2.2 rfl 6 (by decide +kernel))).symm
  exact .inr ⟨fun w => by
    unfold SEc at w
    omega, by omega⟩
theorem c_187v_s_2 : vOkm T0 (eP e_187v L_187v A_187v mu_187v none) 2 ([(0, [6], [], -1), (30, [5], [], 0), (20, [5, 4], [1], 6), (23, [4], [1], 7), (90, [5], [], -2147483648), (91, [5], [], 2147483647), (51, [4], [], 0), (1003, [4, 2, 1, 3], [0, 1], 0), (0, [3], [], 1), (20, [2, 0], [0], 7), (0, [2], [], 23), (6000, [0, 1], [0], 0), (0, [0], [], 7), (90, [1], [], -2147483648), (91, [1], [], 2147483647)], (3000, [6], [1], 22)) := vOk_in fun ρ η h => by
  obtain ⟨f0, f1, f2, f3, f4, f5, f6, f7, f8, f9, f10, f11, f12, f13, f14, _⟩ := h
  exact q_187v_2 (n0 := ρ 1) (n1 := ρ 0) (n2 := ρ 2) (n3 := ρ 3) (n4 := ρ 4) (n5 := ρ 5) (n6 := ρ 6) (H0 := η 0) (H1 := η 1) f14 f13 f12 f11 f10 f9 f8 f7 f6 f5 f4 f3 f2 f1 f0
def p_187v_s : List vG := [([(0, [5], [], -1), (50, [4], [], 0), (1003, [4, 2, 1, 3], [0, 1], 0), (0, [3], [], 1), (20, [2, 0], [0], 7), (0, [2], [], 23), (6000, [0, 1], [0], 0), (0, [0], [], 7), (90, [1], [], -2147483648), (91, [1], [], 2147483647)], (3000, [5], [1], 22)),
  ([(1316, [15, 14], [3, 4], 0), (90, [15], [], -2147483648), (91, [15], [], 2147483647), (2, [14, 10, 13], [], 0), (1199, [13, 11, 12], [2, 3], 0), (90, [13], [], -2147483648), (91, [13], [], 2147483647), (20, [12, 4], [2], 1), (23, [4], [2], 7), (90, [12], [], -2147483648), (91, [12], [], 2147483647), (20, [11, 4], [2], 4), (23, [4], [2], 7), (51, [11], [], 0), (1199, [10, 6, 9], [1, 2], 0), (90, [10], [], -2147483648), (91, [10], [], 2147483647), (2, [9, 7, 8], [], 0), (0, [8], [], 1), (20, [7, 4], [1], 2), (23, [4], [1], 7), (90, [7], [], -2147483648), (91, [7], [], 2147483647), (20, [6, 4], [1], 4), (23, [4], [1], 7), (51, [6], [], 0), (31, [5], [], 0), (20, [5, 4], [1], 6), (23, [4], [1], 7), (90, [5], [], -2147483648), (91, [5], [], 2147483647), (51, [4], [], 0), (1003, [4, 2, 1, 3], [0, 1], 0), (0, [3], [], 1), (20, [2, 0], [0], 7), (0, [2], [], 23), (6000, [0, 1], [0], 0), (0, [0], [], 7), (90, [1], [], -2147483648), (91, [1], [], 2147483647)], (3000, [15], [4], 51)),
  ([(0, [6], [], -1), (30, [5], [], 0), (20, [5, 4], [1], 6), (23, [4], [1], 7), (90, [5], [], -2147483648), (91, [5], [], 2147483647), (51, [4], [], 0), (1003, [4, 2, 1, 3], [0, 1], 0), (0, [3], [], 1), (20, [2, 0], [0], 7), (0, [2], [], 23), (6000, [0, 1], [0], 0), (0, [0], [], 7), (90, [1], [], -2147483648), (91, [1], [], 2147483647)], (3000, [6], [1], 22))]
theorem r_187v_s : vCovO false (eR0 e_187v L_187v cs_187v 2000) p_187v_s = true := by decide +kernel
theorem m_187v (d : Nat) : eC e_187v (d + 3) := eC_ok (e := e_187v) (L := L_187v) (cs := cs_187v) (n := 2000) (d := d + 2) (A := A_187v) (μ := mu_187v) (tp := false) (p0 := p_187v_s) rfl ⟨m_3v d, ⟨m_199vk780 (d + 1), ⟨m_316v (d + 1), trivial⟩⟩⟩ rfl (.inl rfl) (by decide +kernel) (fun z => nomatch z) r_187v_s (allC c_187v_s_0 (allC c_187v_s_1 (allC c_187v_s_2 allN))) allN
