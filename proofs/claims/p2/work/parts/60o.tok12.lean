/- Tokens.scanOne ([III)I -/
noncomputable def s_127v : vM := ([(3, 8, 31, 0), (2, 692, -1, 0), (0, -2147483648, 2147483647, 0), (0, -2147483648, 2147483647, 0)], (0, -2147483648, 2147483647, 0), 1, 0, [(8, 4), (716, 0), (725, 0)])
def preb_127v (a0 a1 a2 a3 : Int) (h : gH) : Prop := KS5 h ∧ TP h ∧ WDS h ∧ a1 = 8 ∧ 0 ≤ a2 ∧ a2 < a3 ∧ a3 ≤ 2000 ∧ 0 ≤ hV h 31 4 ∧ hV h 31 4 ≤ 501
def pre_127v : List Int → gH → Prop := fun xs h => match xs with
  | [a0, a1, a2, a3] => preb_127v a0 a1 a2 a3 h
  | _ => False
def postb_127v (r a0 a1 a2 a3 : Int) (h0 h : gH) : Prop := ONE (hV h0 8) (a3).toNat (a2).toNat a2 r h0 h ∧ KS5 h
def post_127v : List Int → gH → gH → Prop := fun xs h0 h => match xs with
  | [r, a0, a1, a2, a3] => postb_127v r a0 a1 a2 a3 h0 h
  | _ => True
noncomputable def e_127v : vE := (127, s_127v, pre_127v, post_127v)
noncomputable def L_127v : List vE := [e_126v, e_128v, e_130v, e_131v, e_132v, e_199vk692]
def cs_127v : List vC := []
def A_127v : Int → List Int → gH → gH → Prop := fun c xs h0 h => True
def mu_127v : Int → List Int → gH → gH → Nat := fun c xs h0 h => 0
theorem q_127v_0 {n0 n1 n2 n3 n4 n5 n6 n7 : Int} {H0 H1 : gH} (f0 : n0 ≤ 2147483647) (f1 : (-2147483648) ≤ n0) (f2 : n1 ≤ 2147483647) (f3 : (-2147483648) ≤ n1) (f4 : n2 = 31) (f5 : hWt T0 H0 ∧ preb_127v n2 n3 n1 n0 H0) (f6 : n4 ≤ 2147483647) (f7 : (-2147483648) ≤ n4) (f8 : (hLe T0 H0 H1 ∧ hFr s_199vk692.2.2.2.2 H0 H1 ∧ ((0 : Int) = 0 → H1.length = H0.length) ∧ hWt T0 H1) ∧ postb_199vk692 n4 n3 n1 H0 H1) (f9 : n5 = 9) (f10 : n4 = n5) (f11 : n6 = 1) (f12 : n7 = w32 (n1 + n6)) : postb_127v n7 n2 n3 n1 n0 H0 H1 := by
  have pz := f5.2
  unfold preb_127v at pz
  obtain ⟨ks, tp, wd, b0, b1, b2, b3, c0, c1⟩ := pz
  have et : ((n1).toNat : Int) = n1 := Int.toNat_of_nonneg b1
  have sm0 : SMT H0 H0 := SMT_rfl
  have wq12 := f12
  unfold w32 at wq12
  have qa0 := f8.2
  unfold postb_199vk692 at qa0
  have a0 := at8 sm0 tp qa0 (by omega) (by omega) (by omega)
  have sm1 := SMT_trans sm0 (SMT_fr f8.1.2.1 (by decide +kernel))
  have ks_0 := KS5_le f8.1.1 ks
  have tp_0 := TP_le f8.1.1 tp
  have wd_0 := WDS_fr f8.1.1 f8.1.2.1 (by decide +kernel) wd
  unfold postb_127v ONE
  exact ⟨.inl ⟨by omega, by omega, sm1⟩, ks_0⟩
theorem c_127v_s_0 : vOkm T0 (eP e_127v L_127v A_127v mu_127v none) 4 ([(1, [7, 2, 6], [], 0), (0, [6], [], 1), (40, [4, 5], [], 0), (0, [5], [], 9), (1199, [4, 1, 2], [0, 1], 0), (90, [4], [], -2147483648), (91, [4], [], 2147483647), (6000, [0, 1, 2, 3], [0], 0), (0, [0], [], 31), (90, [2], [], -2147483648), (91, [2], [], 2147483647), (90, [3], [], -2147483648), (91, [3], [], 2147483647)], (3000, [7], [1], 38)) := vOk_in fun ρ η h => by
  obtain ⟨f0, f1, f2, f3, f4, f5, f6, f7, f8, f9, f10, f11, f12, _⟩ := h
  exact q_127v_0 (n0 := ρ 3) (n1 := ρ 2) (n2 := ρ 0) (n3 := ρ 1) (n4 := ρ 4) (n5 := ρ 5) (n6 := ρ 6) (n7 := ρ 7) (H0 := η 0) (H1 := η 1) f12 f11 f10 f9 f8 f7 f6 f5 f4 f3 f2 f1 f0
theorem q_127v_1 {n0 n1 n2 n3 n4 n5 n6 n7 n8 : Int} {H0 H1 : gH} (f0 : n0 ≤ 2147483647) (f1 : (-2147483648) ≤ n0) (f2 : n1 ≤ 2147483647) (f3 : (-2147483648) ≤ n1) (f4 : n2 = 31) (f5 : hWt T0 H0 ∧ preb_127v n2 n3 n1 n0 H0) (f6 : n4 ≤ 2147483647) (f7 : (-2147483648) ≤ n4) (f8 : (hLe T0 H0 H1 ∧ hFr s_199vk692.2.2.2.2 H0 H1 ∧ ((0 : Int) = 0 → H1.length = H0.length) ∧ hWt T0 H1) ∧ postb_199vk692 n4 n3 n1 H0 H1) (f9 : n5 = 9) (f10 : n4 ≠ n5) (f11 : n6 = 10) (f12 : n4 = n6) (f13 : n7 = 1) (f14 : n8 = w32 (n1 + n7)) : postb_127v n8 n2 n3 n1 n0 H0 H1 := by
  have pz := f5.2
  unfold preb_127v at pz
  obtain ⟨ks, tp, wd, b0, b1, b2, b3, c0, c1⟩ := pz
  have et : ((n1).toNat : Int) = n1 := Int.toNat_of_nonneg b1
  have sm0 : SMT H0 H0 := SMT_rfl
  have wq14 := f14
  unfold w32 at wq14
  have qa0 := f8.2
  unfold postb_199vk692 at qa0
  have a0 := at8 sm0 tp qa0 (by omega) (by omega) (by omega)
  have sm1 := SMT_trans sm0 (SMT_fr f8.1.2.1 (by decide +kernel))
  have ks_0 := KS5_le f8.1.1 ks
  have tp_0 := TP_le f8.1.1 tp
  have wd_0 := WDS_fr f8.1.1 f8.1.2.1 (by decide +kernel) wd
  unfold postb_127v ONE
  exact ⟨.inl ⟨by omega, by omega, sm1⟩, ks_0⟩
theorem c_127v_s_1 : vOkm T0 (eP e_127v L_127v A_127v mu_127v none) 4 ([(1, [8, 2, 7], [], 0), (0, [7], [], 1), (40, [4, 6], [], 0), (0, [6], [], 10), (41, [4, 5], [], 0), (0, [5], [], 9), (1199, [4, 1, 2], [0, 1], 0), (90, [4], [], -2147483648), (91, [4], [], 2147483647), (6000, [0, 1, 2, 3], [0], 0), (0, [0], [], 31), (90, [2], [], -2147483648), (91, [2], [], 2147483647), (90, [3], [], -2147483648), (91, [3], [], 2147483647)], (3000, [8], [1], 38)) := vOk_in fun ρ η h => by
  obtain ⟨f0, f1, f2, f3, f4, f5, f6, f7, f8, f9, f10, f11, f12, f13, f14, _⟩ := h
  exact q_127v_1 (n0 := ρ 3) (n1 := ρ 2) (n2 := ρ 0) (n3 := ρ 1) (n4 := ρ 4) (n5 := ρ 5) (n6 := ρ 6) (n7 := ρ 7) (n8 := ρ 8) (H0 := η 0) (H1 := η 1) f14 f13 f12 f11 f10 f9 f8 f7 f6 f5 f4 f3 f2 f1 f0
theorem q_127v_2 {n0 n1 n2 n3 n4 n5 n6 n7 n8 n9 : Int} {H0 H1 : gH} (f0 : n0 ≤ 2147483647) (f1 : (-2147483648) ≤ n0) (f2 : n1 ≤ 2147483647) (f3 : (-2147483648) ≤ n1) (f4 : n2 = 31) (f5 : hWt T0 H0 ∧ preb_127v n2 n3 n1 n0 H0) (f6 : n4 ≤ 2147483647) (f7 : (-2147483648) ≤ n4) (f8 : (hLe T0 H0 H1 ∧ hFr s_199vk692.2.2.2.2 H0 H1 ∧ ((0 : Int) = 0 → H1.length = H0.length) ∧ hWt T0 H1) ∧ postb_199vk692 n4 n3 n1 H0 H1) (f9 : n5 = 9) (f10 : n4 ≠ n5) (f11 : n6 = 10) (f12 : n4 ≠ n6) (f13 : n7 = 13) (f14 : n4 = n7) (f15 : n8 = 1) (f16 : n9 = w32 (n1 + n8)) : postb_127v n9 n2 n3 n1 n0 H0 H1 := by
  have pz := f5.2
  unfold preb_127v at pz
  obtain ⟨ks, tp, wd, b0, b1, b2, b3, c0, c1⟩ := pz
  have et : ((n1).toNat : Int) = n1 := Int.toNat_of_nonneg b1
  have sm0 : SMT H0 H0 := SMT_rfl
  have wq16 := f16
  unfold w32 at wq16
  have qa0 := f8.2
  unfold postb_199vk692 at qa0
  have a0 := at8 sm0 tp qa0 (by omega) (by omega) (by omega)
  have sm1 := SMT_trans sm0 (SMT_fr f8.1.2.1 (by decide +kernel))
  have ks_0 := KS5_le f8.1.1 ks
  have tp_0 := TP_le f8.1.1 tp
  have wd_0 := WDS_fr f8.1.1 f8.1.2.1 (by decide +kernel) wd
  unfold postb_127v ONE
  exact ⟨.inl ⟨by omega, by omega, sm1⟩, ks_0⟩
theorem c_127v_s_2 : vOkm T0 (eP e_127v L_127v A_127v mu_127v none) 4 ([(1, [9, 2, 8], [], 0), (0, [8], [], 1), (40, [4, 7], [], 0), (0, [7], [], 13), (41, [4, 6], [], 0), (0, [6], [], 10), (41, [4, 5], [], 0), (0, [5], [], 9), (1199, [4, 1, 2], [0, 1], 0), (90, [4], [], -2147483648), (91, [4], [], 2147483647), (6000, [0, 1, 2, 3], [0], 0), (0, [0], [], 31), (90, [2], [], -2147483648), (91, [2], [], 2147483647), (90, [3], [], -2147483648), (91, [3], [], 2147483647)], (3000, [9], [1], 38)) := vOk_in fun ρ η h => by
  obtain ⟨f0, f1, f2, f3, f4, f5, f6, f7, f8, f9, f10, f11, f12, f13, f14, f15, f16, _⟩ := h
  exact q_127v_2 (n0 := ρ 3) (n1 := ρ 2) (n2 := ρ 0) (n3 := ρ 1) (n4 := ρ 4) (n5 := ρ 5) (n6 := ρ 6) (n7 := ρ 7) (n8 := ρ 8) (n9 := ρ 9) (H0 := η 0) (H1 := η 1) f16 f15 f14 f13 f12 f11 f10 f9 f8 f7 f6 f5 f4 f3 f2 f1 f0
theorem q_127v_3 {n0 n1 n2 n3 n4 n5 n6 n7 n8 n9 n10 n11 n12 n13 n14 n15 n16 n17 : Int} {H0 H1 H2 : gH} (f0 : n0 ≤ 2147483647) (f1 : (-2147483648) ≤ n0) (f2 : n1 ≤ 2147483647) (f3 : (-2147483648) ≤ n1) (f4 : n2 = 31) (f5 : hWt T0 H0 ∧ preb_127v n2 n3 n1 n0 H0) (f6 : n4 ≤ 2147483647) (f7 : (-2147483648) ≤ n4) (f8 : (hLe T0 H0 H1 ∧ hFr s_199vk692.2.2.2.2 H0 H1 ∧ ((0 : Int) = 0 → H1.length = H0.length) ∧ hWt T0 H1) ∧ postb_199vk692 n4 n3 n1 H0 H1) (f9 : n5 = 9) (f10 : n4 ≠ n5) (f11 : n6 = 10) (f12 : n4 ≠ n6) (f13 : n7 = 13) (f14 : n4 ≠ n7) (f15 : n8 = 32) (f16 : n4 ≠ n8) (f17 : n9 = 97) (f18 : n4 < n9) (f19 : n10 = 48) (f20 : n4 < n10) (f21 : n11 = 1) (f22 : n12 = w32 (n1 + n11)) (f23 : n0 ≤ n12) (f24 : n13 = 0) (f25 : n13 = 0) (f26 : n14 = 1) (f27 : n15 = 1) (f28 : n14 = n15) (f29 : n16 ≤ 2147483647) (f30 : (-2147483648) ≤ n16) (f31 : (hLe T0 H1 H2 ∧ hFr s_132v.2.2.2.2 H1 H2 ∧ ((0 : Int) = 0 → H2.length = H1.length) ∧ hWt T0 H2) ∧ postb_132v n16 n4 H1 H2) (f32 : n17 = 0) : preb_126v n2 n16 n1 n17 H2 := by
  have pz := f5.2
  unfold preb_127v at pz
  obtain ⟨ks, tp, wd, b0, b1, b2, b3, c0, c1⟩ := pz
  have et : ((n1).toNat : Int) = n1 := Int.toNat_of_nonneg b1
  have sm0 : SMT H0 H0 := SMT_rfl
  have wq22 := f22
  unfold w32 at wq22
  have qa0 := f8.2
  unfold postb_199vk692 at qa0
  have a0 := at8 sm0 tp qa0 (by omega) (by omega) (by omega)
  have sm1 := SMT_trans sm0 (SMT_fr f8.1.2.1 (by decide +kernel))
  have ks_0 := KS5_le f8.1.1 ks
  have tp_0 := TP_le f8.1.1 tp
  have wd_0 := WDS_fr f8.1.1 f8.1.2.1 (by decide +kernel) wd
  have sk := f31.2
  unfold postb_132v at sk
  have sm2 := SMT_trans sm1 (SMT_fr f31.1.2.1 (by decide +kernel))
  have ks_1 := KS5_le f31.1.1 ks_0
  have tp_1 := TP_le f31.1.1 tp_0
  have wd_1 := WDS_fr f31.1.1 f31.1.2.1 (by decide +kernel) wd_0
  rw [a0] at sk
  unfold preb_126v
  exact ⟨ks_1, by rw [sm2.1]; exact c0, by rw [sm2.1]; exact c1⟩
theorem c_127v_s_3 : vOkm T0 (eP e_127v L_127v A_127v mu_127v none) 4 ([(0, [17], [], 0), (1132, [16, 4], [1, 2], 0), (90, [16], [], -2147483648), (91, [16], [], 2147483647), (40, [14, 15], [], 0), (0, [15], [], 1), (0, [14], [], 1), (30, [13], [], 0), (0, [13], [], 0), (43, [12, 3], [], 0), (1, [12, 2, 11], [], 0), (0, [11], [], 1), (42, [4, 10], [], 0), (0, [10], [], 48), (42, [4, 9], [], 0), (0, [9], [], 97), (41, [4, 8], [], 0), (0, [8], [], 32), (41, [4, 7], [], 0), (0, [7], [], 13), (41, [4, 6], [], 0), (0, [6], [], 10), (41, [4, 5], [], 0), (0, [5], [], 9), (1199, [4, 1, 2], [0, 1], 0), (90, [4], [], -2147483648), (91, [4], [], 2147483647), (6000, [0, 1, 2, 3], [0], 0), (0, [0], [], 31), (90, [2], [], -2147483648), (91, [2], [], 2147483647), (90, [3], [], -2147483648), (91, [3], [], 2147483647)], (2126, [0, 16, 2, 17], [2], 0)) := vOk_in fun ρ η h => by
  obtain ⟨f0, f1, f2, f3, f4, f5, f6, f7, f8, f9, f10, f11, f12, f13, f14, f15, f16, f17, f18, f19, f20, f21, f22, f23, f24, f25, f26, f27, f28, f29, f30, f31, f32, _⟩ := h
  exact q_127v_3 (n0 := ρ 3) (n1 := ρ 2) (n2 := ρ 0) (n3 := ρ 1) (n4 := ρ 4) (n5 := ρ 5) (n6 := ρ 6) (n7 := ρ 7) (n8 := ρ 8) (n9 := ρ 9) (n10 := ρ 10) (n11 := ρ 11) (n12 := ρ 12) (n13 := ρ 13) (n14 := ρ 14) (n15 := ρ 15) (n16 := ρ 16) (n17 := ρ 17) (H0 := η 0) (H1 := η 1) (H2 := η 2) f32 f31 f30 f29 f28 f27 f26 f25 f24 f23 f22 f21 f20 f19 f18 f17 f16 f15 f14 f13 f12 f11 f10 f9 f8 f7 f6 f5 f4 f3 f2 f1 f0
theorem q_127v_4 {n0 n1 n2 n3 n4 n5 n6 n7 n8 n9 n10 n11 n12 n13 n14 n15 n16 n17 n18 n19 : Int} {H0 H1 H2 H3 : gH} (f0 : n0 ≤ 2147483647) (f1 : (-2147483648) ≤ n0) (f2 : n1 ≤ 2147483647) (f3 : (-2147483648) ≤ n1) (f4 : n2 = 31) (f5 : hWt T0 H0 ∧ preb_127v n2 n3 n1 n0 H0) (f6 : n4 ≤ 2147483647) (f7 : (-2147483648) ≤ n4) (f8 : (hLe T0 H0 H1 ∧ hFr s_199vk692.2.2.2.2 H0 H1 ∧ ((0 : Int) = 0 → H1.length = H0.length) ∧ hWt T0 H1) ∧ postb_199vk692 n4 n3 n1 H0 H1) (f9 : n5 = 9) (f10 : n4 ≠ n5) (f11 : n6 = 10) (f12 : n4 ≠ n6) (f13 : n7 = 13) (f14 : n4 ≠ n7) (f15 : n8 = 32) (f16 : n4 ≠ n8) (f17 : n9 = 97) (f18 : n4 < n9) (f19 : n10 = 48) (f20 : n4 < n10) (f21 : n11 = 1) (f22 : n12 = w32 (n1 + n11)) (f23 : n0 ≤ n12) (f24 : n13 = 0) (f25 : n13 = 0) (f26 : n14 = 1) (f27 : n15 = 1) (f28 : n14 = n15) (f29 : n16 ≤ 2147483647) (f30 : (-2147483648) ≤ n16) (f31 : (hLe T0 H1 H2 ∧ hFr s_132v.2.2.2.2 H1 H2 ∧ ((0 : Int) = 0 → H2.length = H1.length) ∧ hWt T0 H2) ∧ postb_132v n16 n4 H1 H2) (f32 : n17 = 0) (f33 : (hLe T0 H2 H3 ∧ hFr s_126v.2.2.2.2 H2 H3 ∧ ((0 : Int) = 0 → H3.length = H2.length) ∧ hWt T0 H3) ∧ postb_126v n2 n16 n1 n17 H2 H3) (f34 : n18 = 1) (f35 : n19 = w32 (n1 + n18)) : postb_127v n19 n2 n3 n1 n0 H0 H3 := by
  have pz := f5.2
  unfold preb_127v at pz
  obtain ⟨ks, tp, wd, b0, b1, b2, b3, c0, c1⟩ := pz
  have et : ((n1).toNat : Int) = n1 := Int.toNat_of_nonneg b1
  have sm0 : SMT H0 H0 := SMT_rfl
  have wq22 := f22
  unfold w32 at wq22
  have wq35 := f35
  unfold w32 at wq35
  have qa0 := f8.2
  unfold postb_199vk692 at qa0
  have a0 := at8 sm0 tp qa0 (by omega) (by omega) (by omega)
  have sm1 := SMT_trans sm0 (SMT_fr f8.1.2.1 (by decide +kernel))
  have ks_0 := KS5_le f8.1.1 ks
  have tp_0 := TP_le f8.1.1 tp
  have wd_0 := WDS_fr f8.1.1 f8.1.2.1 (by decide +kernel) wd
  have sk := f31.2
  unfold postb_132v at sk
  have sm2 := SMT_trans sm1 (SMT_fr f31.1.2.1 (by decide +kernel))
  have ks_1 := KS5_le f31.1.1 ks_0
  have tp_1 := TP_le f31.1.1 tp_0
  have wd_1 := WDS_fr f31.1.1 f31.1.2.1 (by decide +kernel) wd_0
  rw [a0] at sk
  unfold postb_127v ONE
  have lt := f33.2
  unfold postb_126v at lt
  have nt := NTp_from sm2 lt.1
  rw [f32] at nt
  first
  | exact absurd rfl (by omega)
  | (rw [sk] at nt
     exact ⟨.inr (.inr (.inr (.inr ⟨by omega, by omega, by omega, by omega, by omega, nt⟩))), lt.2⟩)
theorem c_127v_s_4 : vOkm T0 (eP e_127v L_127v A_127v mu_127v none) 4 ([(1, [19, 2, 18], [], 0), (0, [18], [], 1), (1126, [0, 16, 2, 17], [2, 3], 0), (0, [17], [], 0), (1132, [16, 4], [1, 2], 0), (90, [16], [], -2147483648), (91, [16], [], 2147483647), (40, [14, 15], [], 0), (0, [15], [], 1), (0, [14], [], 1), (30, [13], [], 0), (0, [13], [], 0), (43, [12, 3], [], 0), (1, [12, 2, 11], [], 0), (0, [11], [], 1), (42, [4, 10], [], 0), (0, [10], [], 48), (42, [4, 9], [], 0), (0, [9], [], 97), (41, [4, 8], [], 0), (0, [8], [], 32), (41, [4, 7], [], 0), (0, [7], [], 13), (41, [4, 6], [], 0), (0, [6], [], 10), (41, [4, 5], [], 0), (0, [5], [], 9), (1199, [4, 1, 2], [0, 1], 0), (90, [4], [], -2147483648), (91, [4], [], 2147483647), (6000, [0, 1, 2, 3], [0], 0), (0, [0], [], 31), (90, [2], [], -2147483648), (91, [2], [], 2147483647), (90, [3], [], -2147483648), (91, [3], [], 2147483647)], (3000, [19], [3], 157)) := vOk_in fun ρ η h => by
  obtain ⟨f0, f1, f2, f3, f4, f5, f6, f7, f8, f9, f10, f11, f12, f13, f14, f15, f16, f17, f18, f19, f20, f21, f22, f23, f24, f25, f26, f27, f28, f29, f30, f31, f32, f33, f34, f35, _⟩ := h
  exact q_127v_4 (n0 := ρ 3) (n1 := ρ 2) (n2 := ρ 0) (n3 := ρ 1) (n4 := ρ 4) (n5 := ρ 5) (n6 := ρ 6) (n7 := ρ 7) (n8 := ρ 8) (n9 := ρ 9) (n10 := ρ 10) (n11 := ρ 11) (n12 := ρ 12) (n13 := ρ 13) (n14 := ρ 14) (n15 := ρ 15) (n16 := ρ 16) (n17 := ρ 17) (n18 := ρ 18) (n19 := ρ 19) (H0 := η 0) (H1 := η 1) (H2 := η 2) (H3 := η 3) f35 f34 f33 f32 f31 f30 f29 f28 f27 f26 f25 f24 f23 f22 f21 f20 f19 f18 f17 f16 f15 f14 f13 f12 f11 f10 f9 f8 f7 f6 f5 f4 f3 f2 f1 f0
theorem q_127v_5 {n0 n1 n2 n3 n4 n5 n6 n7 n8 n9 n10 n11 n12 n13 n14 n15 n16 : Int} {H0 H1 : gH} (f0 : n0 ≤ 2147483647) (f1 : (-2147483648) ≤ n0) (f2 : n1 ≤ 2147483647) (f3 : (-2147483648) ≤ n1) (f4 : n2 = 31) (f5 : hWt T0 H0 ∧ preb_127v n2 n3 n1 n0 H0) (f6 : n4 ≤ 2147483647) (f7 : (-2147483648) ≤ n4) (f8 : (hLe T0 H0 H1 ∧ hFr s_199vk692.2.2.2.2 H0 H1 ∧ ((0 : Int) = 0 → H1.length = H0.length) ∧ hWt T0 H1) ∧ postb_199vk692 n4 n3 n1 H0 H1) (f9 : n5 = 9) (f10 : n4 ≠ n5) (f11 : n6 = 10) (f12 : n4 ≠ n6) (f13 : n7 = 13) (f14 : n4 ≠ n7) (f15 : n8 = 32) (f16 : n4 ≠ n8) (f17 : n9 = 97) (f18 : n4 < n9) (f19 : n10 = 48) (f20 : n4 < n10) (f21 : n11 = 1) (f22 : n12 = w32 (n1 + n11)) (f23 : n0 ≤ n12) (f24 : n13 = 0) (f25 : n13 = 0) (f26 : n14 = 1) (f27 : n15 = 1) (f28 : n14 ≠ n15) (f29 : n16 = 0) : preb_126v n2 n14 n1 n16 H1 := by
  have pz := f5.2
  unfold preb_127v at pz
  obtain ⟨ks, tp, wd, b0, b1, b2, b3, c0, c1⟩ := pz
  have et : ((n1).toNat : Int) = n1 := Int.toNat_of_nonneg b1
  have sm0 : SMT H0 H0 := SMT_rfl
  have wq22 := f22
  unfold w32 at wq22
  have qa0 := f8.2
  unfold postb_199vk692 at qa0
  have a0 := at8 sm0 tp qa0 (by omega) (by omega) (by omega)
  have sm1 := SMT_trans sm0 (SMT_fr f8.1.2.1 (by decide +kernel))
  have ks_0 := KS5_le f8.1.1 ks
  have tp_0 := TP_le f8.1.1 tp
  have wd_0 := WDS_fr f8.1.1 f8.1.2.1 (by decide +kernel) wd
  unfold preb_126v
  exact ⟨ks_0, by rw [sm1.1]; exact c0, by rw [sm1.1]; exact c1⟩
theorem c_127v_s_5 : vOkm T0 (eP e_127v L_127v A_127v mu_127v none) 4 ([(0, [16], [], 0), (41, [14, 15], [], 0), (0, [15], [], 1), (0, [14], [], 1), (30, [13], [], 0), (0, [13], [], 0), (43, [12, 3], [], 0), (1, [12, 2, 11], [], 0), (0, [11], [], 1), (42, [4, 10], [], 0), (0, [10], [], 48), (42, [4, 9], [], 0), (0, [9], [], 97), (41, [4, 8], [], 0), (0, [8], [], 32), (41, [4, 7], [], 0), (0, [7], [], 13), (41, [4, 6], [], 0), (0, [6], [], 10), (41, [4, 5], [], 0), (0, [5], [], 9), (1199, [4, 1, 2], [0, 1], 0), (90, [4], [], -2147483648), (91, [4], [], 2147483647), (6000, [0, 1, 2, 3], [0], 0), (0, [0], [], 31), (90, [2], [], -2147483648), (91, [2], [], 2147483647), (90, [3], [], -2147483648), (91, [3], [], 2147483647)], (2126, [0, 14, 2, 16], [1], 0)) := vOk_in fun ρ η h => by
  obtain ⟨f0, f1, f2, f3, f4, f5, f6, f7, f8, f9, f10, f11, f12, f13, f14, f15, f16, f17, f18, f19, f20, f21, f22, f23, f24, f25, f26, f27, f28, f29, _⟩ := h
  exact q_127v_5 (n0 := ρ 3) (n1 := ρ 2) (n2 := ρ 0) (n3 := ρ 1) (n4 := ρ 4) (n5 := ρ 5) (n6 := ρ 6) (n7 := ρ 7) (n8 := ρ 8) (n9 := ρ 9) (n10 := ρ 10) (n11 := ρ 11) (n12 := ρ 12) (n13 := ρ 13) (n14 := ρ 14) (n15 := ρ 15) (n16 := ρ 16) (H0 := η 0) (H1 := η 1) f29 f28 f27 f26 f25 f24 f23 f22 f21 f20 f19 f18 f17 f16 f15 f14 f13 f12 f11 f10 f9 f8 f7 f6 f5 f4 f3 f2 f1 f0
theorem q_127v_6 {n0 n1 n2 n3 n4 n5 n6 n7 n8 n9 n10 n11 n12 n13 n14 n15 n16 n17 n18 : Int} {H0 H1 H2 : gH} (f0 : n0 ≤ 2147483647) (f1 : (-2147483648) ≤ n0) (f2 : n1 ≤ 2147483647) (f3 : (-2147483648) ≤ n1) (f4 : n2 = 31) (f5 : hWt T0 H0 ∧ preb_127v n2 n3 n1 n0 H0) (f6 : n4 ≤ 2147483647) (f7 : (-2147483648) ≤ n4) (f8 : (hLe T0 H0 H1 ∧ hFr s_199vk692.2.2.2.2 H0 H1 ∧ ((0 : Int) = 0 → H1.length = H0.length) ∧ hWt T0 H1) ∧ postb_199vk692 n4 n3 n1 H0 H1) (f9 : n5 = 9) (f10 : n4 ≠ n5) (f11 : n6 = 10) (f12 : n4 ≠ n6) (f13 : n7 = 13) (f14 : n4 ≠ n7) (f15 : n8 = 32) (f16 : n4 ≠ n8) (f17 : n9 = 97) (f18 : n4 < n9) (f19 : n10 = 48) (f20 : n4 < n10) (f21 : n11 = 1) (f22 : n12 = w32 (n1 + n11)) (f23 : n0 ≤ n12) (f24 : n13 = 0) (f25 : n13 = 0) (f26 : n14 = 1) (f27 : n15 = 1) (f28 : n14 ≠ n15) (f29 : n16 = 0) (f30 : (hLe T0 H1 H2 ∧ hFr s_126v.2.2.2.2 H1 H2 ∧ ((0 : Int) = 0 → H2.length = H1.length) ∧ hWt T0 H2) ∧ postb_126v n2 n14 n1 n16 H1 H2) (f31 : n17 = 2) (f32 : n18 = w32 (n1 + n17)) : postb_127v n18 n2 n3 n1 n0 H0 H2 := by
  have pz := f5.2
  unfold preb_127v at pz
  obtain ⟨ks, tp, wd, b0, b1, b2, b3, c0, c1⟩ := pz
  have et : ((n1).toNat : Int) = n1 := Int.toNat_of_nonneg b1
  have sm0 : SMT H0 H0 := SMT_rfl
  have wq22 := f22
  unfold w32 at wq22
  have wq32 := f32
  unfold w32 at wq32
  have qa0 := f8.2
  unfold postb_199vk692 at qa0
  have a0 := at8 sm0 tp qa0 (by omega) (by omega) (by omega)
  have sm1 := SMT_trans sm0 (SMT_fr f8.1.2.1 (by decide +kernel))
  have ks_0 := KS5_le f8.1.1 ks
  have tp_0 := TP_le f8.1.1 tp
  have wd_0 := WDS_fr f8.1.1 f8.1.2.1 (by decide +kernel) wd
  unfold postb_127v ONE
  have lt := f30.2
  unfold postb_126v at lt
  have nt := NTp_from sm1 lt.1
  rw [f29] at nt
  first
  | (exfalso; omega)
  | (rw [pk] at nt
     exact ⟨.inr (.inr (.inr (.inl ⟨by omega, by omega, by omega, ⟨by omega, by omega, by omega⟩, by omega, nt⟩))), lt.2⟩)
theorem c_127v_s_6 : vOkm T0 (eP e_127v L_127v A_127v mu_127v none) 4 ([(1, [18, 2, 17], [], 0), (0, [17], [], 2), (1126, [0, 14, 2, 16], [1, 2], 0), (0, [16], [], 0), (41, [14, 15], [], 0), (0, [15], [], 1), (0, [14], [], 1), (30, [13], [], 0), (0, [13], [], 0), (43, [12, 3], [], 0), (1, [12, 2, 11], [], 0), (0, [11], [], 1), (42, [4, 10], [], 0), (0, [10], [], 48), (42, [4, 9], [], 0), (0, [9], [], 97), (41, [4, 8], [], 0), (0, [8], [], 32), (41, [4, 7], [], 0), (0, [7], [], 13), (41, [4, 6], [], 0), (0, [6], [], 10), (41, [4, 5], [], 0), (0, [5], [], 9), (1199, [4, 1, 2], [0, 1], 0), (90, [4], [], -2147483648), (91, [4], [], 2147483647), (6000, [0, 1, 2, 3], [0], 0), (0, [0], [], 31), (90, [2], [], -2147483648), (91, [2], [], 2147483647), (90, [3], [], -2147483648), (91, [3], [], 2147483647)], (3000, [18], [2], 142)) := vOk_in fun ρ η h => by
  obtain ⟨f0, f1, f2, f3, f4, f5, f6, f7, f8, f9, f10, f11, f12, f13, f14, f15, f16, f17, f18, f19, f20, f21, f22, f23, f24, f25, f26, f27, f28, f29, f30, f31, f32, _⟩ := h
  exact q_127v_6 (n0 := ρ 3) (n1 := ρ 2) (n2 := ρ 0) (n3 := ρ 1) (n4 := ρ 4) (n5 := ρ 5) (n6 := ρ 6) (n7 := ρ 7) (n8 := ρ 8) (n9 := ρ 9) (n10 := ρ 10) (n11 := ρ 11) (n12 := ρ 12) (n13 := ρ 13) (n14 := ρ 14) (n15 := ρ 15) (n16 := ρ 16) (n17 := ρ 17) (n18 := ρ 18) (H0 := η 0) (H1 := η 1) (H2 := η 2) f32 f31 f30 f29 f28 f27 f26 f25 f24 f23 f22 f21 f20 f19 f18 f17 f16 f15 f14 f13 f12 f11 f10 f9 f8 f7 f6 f5 f4 f3 f2 f1 f0
theorem q_127v_7 {n0 n1 n2 n3 n4 n5 n6 n7 n8 n9 n10 n11 n12 n13 n14 n15 n16 n17 : Int} {H0 H1 H2 H3 : gH} (f0 : n0 ≤ 2147483647) (f1 : (-2147483648) ≤ n0) (f2 : n1 ≤ 2147483647) (f3 : (-2147483648) ≤ n1) (f4 : n2 = 31) (f5 : hWt T0 H0 ∧ preb_127v n2 n3 n1 n0 H0) (f6 : n4 ≤ 2147483647) (f7 : (-2147483648) ≤ n4) (f8 : (hLe T0 H0 H1 ∧ hFr s_199vk692.2.2.2.2 H0 H1 ∧ ((0 : Int) = 0 → H1.length = H0.length) ∧ hWt T0 H1) ∧ postb_199vk692 n4 n3 n1 H0 H1) (f9 : n5 = 9) (f10 : n4 ≠ n5) (f11 : n6 = 10) (f12 : n4 ≠ n6) (f13 : n7 = 13) (f14 : n4 ≠ n7) (f15 : n8 = 32) (f16 : n4 ≠ n8) (f17 : n9 = 97) (f18 : n4 < n9) (f19 : n10 = 48) (f20 : n4 < n10) (f21 : n11 = 1) (f22 : n12 = w32 (n1 + n11)) (f23 : n0 ≤ n12) (f24 : n13 = 0) (f25 : n13 ≠ 0) (f26 : n14 ≤ 2147483647) (f27 : (-2147483648) ≤ n14) (f28 : (hLe T0 H1 H2 ∧ hFr s_131v.2.2.2.2 H1 H2 ∧ ((0 : Int) = 0 → H2.length = H1.length) ∧ hWt T0 H2) ∧ postb_131v n14 n4 H1 H2) (f29 : n15 = 1) (f30 : n14 = n15) (f31 : n16 ≤ 2147483647) (f32 : (-2147483648) ≤ n16) (f33 : (hLe T0 H2 H3 ∧ hFr s_132v.2.2.2.2 H2 H3 ∧ ((0 : Int) = 0 → H3.length = H2.length) ∧ hWt T0 H3) ∧ postb_132v n16 n4 H2 H3) (f34 : n17 = 0) : preb_126v n2 n16 n1 n17 H3 := by
  have pz := f5.2
  unfold preb_127v at pz
  obtain ⟨ks, tp, wd, b0, b1, b2, b3, c0, c1⟩ := pz
  have et : ((n1).toNat : Int) = n1 := Int.toNat_of_nonneg b1
  have sm0 : SMT H0 H0 := SMT_rfl
  have wq22 := f22
  unfold w32 at wq22
  have qa0 := f8.2
  unfold postb_199vk692 at qa0
  have a0 := at8 sm0 tp qa0 (by omega) (by omega) (by omega)
  have sm1 := SMT_trans sm0 (SMT_fr f8.1.2.1 (by decide +kernel))
  have ks_0 := KS5_le f8.1.1 ks
  have tp_0 := TP_le f8.1.1 tp
  have wd_0 := WDS_fr f8.1.1 f8.1.2.1 (by decide +kernel) wd
  have pk := f28.2
  unfold postb_131v at pk
  have sm2 := SMT_trans sm1 (SMT_fr f28.1.2.1 (by decide +kernel))
  have ks_1 := KS5_le f28.1.1 ks_0
  have tp_1 := TP_le f28.1.1 tp_0
  have wd_1 := WDS_fr f28.1.1 f28.1.2.1 (by decide +kernel) wd_0
  have sk := f33.2
  unfold postb_132v at sk
  have sm3 := SMT_trans sm2 (SMT_fr f33.1.2.1 (by decide +kernel))
  have ks_2 := KS5_le f33.1.1 ks_1
  have tp_2 := TP_le f33.1.1 tp_1
  have wd_2 := WDS_fr f33.1.1 f33.1.2.1 (by decide +kernel) wd_1
  rw [a0] at pk
  rw [a0] at sk
  unfold preb_126v
  exact ⟨ks_2, by rw [sm3.1]; exact c0, by rw [sm3.1]; exact c1⟩
theorem c_127v_s_7 : vOkm T0 (eP e_127v L_127v A_127v mu_127v none) 4 ([(0, [17], [], 0), (1132, [16, 4], [2, 3], 0), (90, [16], [], -2147483648), (91, [16], [], 2147483647), (40, [14, 15], [], 0), (0, [15], [], 1), (1131, [14, 4], [1, 2], 0), (90, [14], [], -2147483648), (91, [14], [], 2147483647), (31, [13], [], 0), (0, [13], [], 0), (43, [12, 3], [], 0), (1, [12, 2, 11], [], 0), (0, [11], [], 1), (42, [4, 10], [], 0), (0, [10], [], 48), (42, [4, 9], [], 0), (0, [9], [], 97), (41, [4, 8], [], 0), (0, [8], [], 32), (41, [4, 7], [], 0), (0, [7], [], 13), (41, [4, 6], [], 0), (0, [6], [], 10), (41, [4, 5], [], 0), (0, [5], [], 9), (1199, [4, 1, 2], [0, 1], 0), (90, [4], [], -2147483648), (91, [4], [], 2147483647), (6000, [0, 1, 2, 3], [0], 0), (0, [0], [], 31), (90, [2], [], -2147483648), (91, [2], [], 2147483647), (90, [3], [], -2147483648), (91, [3], [], 2147483647)], (2126, [0, 16, 2, 17], [3], 0)) := vOk_in fun ρ η h => by
  obtain ⟨f0, f1, f2, f3, f4, f5, f6, f7, f8, f9, f10, f11, f12, f13, f14, f15, f16, f17, f18, f19, f20, f21, f22, f23, f24, f25, f26, f27, f28, f29, f30, f31, f32, f33, f34, _⟩ := h
  exact q_127v_7 (n0 := ρ 3) (n1 := ρ 2) (n2 := ρ 0) (n3 := ρ 1) (n4 := ρ 4) (n5 := ρ 5) (n6 := ρ 6) (n7 := ρ 7) (n8 := ρ 8) (n9 := ρ 9) (n10 := ρ 10) (n11 := ρ 11) (n12 := ρ 12) (n13 := ρ 13) (n14 := ρ 14) (n15 := ρ 15) (n16 := ρ 16) (n17 := ρ 17) (H0 := η 0) (H1 := η 1) (H2 := η 2) (H3 := η 3) f34 f33 f32 f31 f30 f29 f28 f27 f26 f25 f24 f23 f22 f21 f20 f19 f18 f17 f16 f15 f14 f13 f12 f11 f10 f9 f8 f7 f6 f5 f4 f3 f2 f1 f0
theorem q_127v_8 {n0 n1 n2 n3 n4 n5 n6 n7 n8 n9 n10 n11 n12 n13 n14 n15 n16 n17 n18 n19 : Int} {H0 H1 H2 H3 H4 : gH} (f0 : n0 ≤ 2147483647) (f1 : (-2147483648) ≤ n0) (f2 : n1 ≤ 2147483647) (f3 : (-2147483648) ≤ n1) (f4 : n2 = 31) (f5 : hWt T0 H0 ∧ preb_127v n2 n3 n1 n0 H0) (f6 : n4 ≤ 2147483647) (f7 : (-2147483648) ≤ n4) (f8 : (hLe T0 H0 H1 ∧ hFr s_199vk692.2.2.2.2 H0 H1 ∧ ((0 : Int) = 0 → H1.length = H0.length) ∧ hWt T0 H1) ∧ postb_199vk692 n4 n3 n1 H0 H1) (f9 : n5 = 9) (f10 : n4 ≠ n5) (f11 : n6 = 10) (f12 : n4 ≠ n6) (f13 : n7 = 13) (f14 : n4 ≠ n7) (f15 : n8 = 32) (f16 : n4 ≠ n8) (f17 : n9 = 97) (f18 : n4 < n9) (f19 : n10 = 48) (f20 : n4 < n10) (f21 : n11 = 1) (f22 : n12 = w32 (n1 + n11)) (f23 : n0 ≤ n12) (f24 : n13 = 0) (f25 : n13 ≠ 0) (f26 : n14 ≤ 2147483647) (f27 : (-2147483648) ≤ n14) (f28 : (hLe T0 H1 H2 ∧ hFr s_131v.2.2.2.2 H1 H2 ∧ ((0 : Int) = 0 → H2.length = H1.length) ∧ hWt T0 H2) ∧ postb_131v n14 n4 H1 H2) (f29 : n15 = 1) (f30 : n14 = n15) (f31 : n16 ≤ 2147483647) (f32 : (-2147483648) ≤ n16) (f33 : (hLe T0 H2 H3 ∧ hFr s_132v.2.2.2.2 H2 H3 ∧ ((0 : Int) = 0 → H3.length = H2.length) ∧ hWt T0 H3) ∧ postb_132v n16 n4 H2 H3) (f34 : n17 = 0) (f35 : (hLe T0 H3 H4 ∧ hFr s_126v.2.2.2.2 H3 H4 ∧ ((0 : Int) = 0 → H4.length = H3.length) ∧ hWt T0 H4) ∧ postb_126v n2 n16 n1 n17 H3 H4) (f36 : n18 = 1) (f37 : n19 = w32 (n1 + n18)) : postb_127v n19 n2 n3 n1 n0 H0 H4 := by
  have pz := f5.2
  unfold preb_127v at pz
  obtain ⟨ks, tp, wd, b0, b1, b2, b3, c0, c1⟩ := pz
  have et : ((n1).toNat : Int) = n1 := Int.toNat_of_nonneg b1
  have sm0 : SMT H0 H0 := SMT_rfl
  have wq22 := f22
  unfold w32 at wq22
  have wq37 := f37
  unfold w32 at wq37
  have qa0 := f8.2
  unfold postb_199vk692 at qa0
  have a0 := at8 sm0 tp qa0 (by omega) (by omega) (by omega)
  have sm1 := SMT_trans sm0 (SMT_fr f8.1.2.1 (by decide +kernel))
  have ks_0 := KS5_le f8.1.1 ks
  have tp_0 := TP_le f8.1.1 tp
  have wd_0 := WDS_fr f8.1.1 f8.1.2.1 (by decide +kernel) wd
  have pk := f28.2
  unfold postb_131v at pk
  have sm2 := SMT_trans sm1 (SMT_fr f28.1.2.1 (by decide +kernel))
  have ks_1 := KS5_le f28.1.1 ks_0
  have tp_1 := TP_le f28.1.1 tp_0
  have wd_1 := WDS_fr f28.1.1 f28.1.2.1 (by decide +kernel) wd_0
  have sk := f33.2
  unfold postb_132v at sk
  have sm3 := SMT_trans sm2 (SMT_fr f33.1.2.1 (by decide +kernel))
  have ks_2 := KS5_le f33.1.1 ks_1
  have tp_2 := TP_le f33.1.1 tp_1
  have wd_2 := WDS_fr f33.1.1 f33.1.2.1 (by decide +kernel) wd_1
  rw [a0] at pk
  rw [a0] at sk
  unfold postb_127v ONE
  have lt := f35.2
  unfold postb_126v at lt
  have nt := NTp_from sm3 lt.1
  rw [f34] at nt
  first
  | exact absurd rfl (by omega)
  | (rw [sk] at nt
     exact ⟨.inr (.inr (.inr (.inr ⟨by omega, by omega, by omega, by omega, by omega, nt⟩))), lt.2⟩)
theorem c_127v_s_8 : vOkm T0 (eP e_127v L_127v A_127v mu_127v none) 4 ([(1, [19, 2, 18], [], 0), (0, [18], [], 1), (1126, [0, 16, 2, 17], [3, 4], 0), (0, [17], [], 0), (1132, [16, 4], [2, 3], 0), (90, [16], [], -2147483648), (91, [16], [], 2147483647), (40, [14, 15], [], 0), (0, [15], [], 1), (1131, [14, 4], [1, 2], 0), (90, [14], [], -2147483648), (91, [14], [], 2147483647), (31, [13], [], 0), (0, [13], [], 0), (43, [12, 3], [], 0), (1, [12, 2, 11], [], 0), (0, [11], [], 1), (42, [4, 10], [], 0), (0, [10], [], 48), (42, [4, 9], [], 0), (0, [9], [], 97), (41, [4, 8], [], 0), (0, [8], [], 32), (41, [4, 7], [], 0), (0, [7], [], 13), (41, [4, 6], [], 0), (0, [6], [], 10), (41, [4, 5], [], 0), (0, [5], [], 9), (1199, [4, 1, 2], [0, 1], 0), (90, [4], [], -2147483648), (91, [4], [], 2147483647), (6000, [0, 1, 2, 3], [0], 0), (0, [0], [], 31), (90, [2], [], -2147483648), (91, [2], [], 2147483647), (90, [3], [], -2147483648), (91, [3], [], 2147483647)], (3000, [19], [4], 157)) := vOk_in fun ρ η h => by
  obtain ⟨f0, f1, f2, f3, f4, f5, f6, f7, f8, f9, f10, f11, f12, f13, f14, f15, f16, f17, f18, f19, f20, f21, f22, f23, f24, f25, f26, f27, f28, f29, f30, f31, f32, f33, f34, f35, f36, f37, _⟩ := h
  exact q_127v_8 (n0 := ρ 3) (n1 := ρ 2) (n2 := ρ 0) (n3 := ρ 1) (n4 := ρ 4) (n5 := ρ 5) (n6 := ρ 6) (n7 := ρ 7) (n8 := ρ 8) (n9 := ρ 9) (n10 := ρ 10) (n11 := ρ 11) (n12 := ρ 12) (n13 := ρ 13) (n14 := ρ 14) (n15 := ρ 15) (n16 := ρ 16) (n17 := ρ 17) (n18 := ρ 18) (n19 := ρ 19) (H0 := η 0) (H1 := η 1) (H2 := η 2) (H3 := η 3) (H4 := η 4) f37 f36 f35 f34 f33 f32 f31 f30 f29 f28 f27 f26 f25 f24 f23 f22 f21 f20 f19 f18 f17 f16 f15 f14 f13 f12 f11 f10 f9 f8 f7 f6 f5 f4 f3 f2 f1 f0
theorem q_127v_9 {n0 n1 n2 n3 n4 n5 n6 n7 n8 n9 n10 n11 n12 n13 n14 n15 n16 : Int} {H0 H1 H2 : gH} (f0 : n0 ≤ 2147483647) (f1 : (-2147483648) ≤ n0) (f2 : n1 ≤ 2147483647) (f3 : (-2147483648) ≤ n1) (f4 : n2 = 31) (f5 : hWt T0 H0 ∧ preb_127v n2 n3 n1 n0 H0) (f6 : n4 ≤ 2147483647) (f7 : (-2147483648) ≤ n4) (f8 : (hLe T0 H0 H1 ∧ hFr s_199vk692.2.2.2.2 H0 H1 ∧ ((0 : Int) = 0 → H1.length = H0.length) ∧ hWt T0 H1) ∧ postb_199vk692 n4 n3 n1 H0 H1) (f9 : n5 = 9) (f10 : n4 ≠ n5) (f11 : n6 = 10) (f12 : n4 ≠ n6) (f13 : n7 = 13) (f14 : n4 ≠ n7) (f15 : n8 = 32) (f16 : n4 ≠ n8) (f17 : n9 = 97) (f18 : n4 < n9) (f19 : n10 = 48) (f20 : n4 < n10) (f21 : n11 = 1) (f22 : n12 = w32 (n1 + n11)) (f23 : n0 ≤ n12) (f24 : n13 = 0) (f25 : n13 ≠ 0) (f26 : n14 ≤ 2147483647) (f27 : (-2147483648) ≤ n14) (f28 : (hLe T0 H1 H2 ∧ hFr s_131v.2.2.2.2 H1 H2 ∧ ((0 : Int) = 0 → H2.length = H1.length) ∧ hWt T0 H2) ∧ postb_131v n14 n4 H1 H2) (f29 : n15 = 1) (f30 : n14 ≠ n15) (f31 : n16 = 0) : preb_126v n2 n14 n1 n16 H2 := by
  have pz := f5.2
  unfold preb_127v at pz
  obtain ⟨ks, tp, wd, b0, b1, b2, b3, c0, c1⟩ := pz
  have et : ((n1).toNat : Int) = n1 := Int.toNat_of_nonneg b1
  have sm0 : SMT H0 H0 := SMT_rfl
  have wq22 := f22
  unfold w32 at wq22
  have qa0 := f8.2
  unfold postb_199vk692 at qa0
  have a0 := at8 sm0 tp qa0 (by omega) (by omega) (by omega)
  have sm1 := SMT_trans sm0 (SMT_fr f8.1.2.1 (by decide +kernel))
  have ks_0 := KS5_le f8.1.1 ks
  have tp_0 := TP_le f8.1.1 tp
  have wd_0 := WDS_fr f8.1.1 f8.1.2.1 (by decide +kernel) wd
  have pk := f28.2
  unfold postb_131v at pk
  have sm2 := SMT_trans sm1 (SMT_fr f28.1.2.1 (by decide +kernel))
  have ks_1 := KS5_le f28.1.1 ks_0
  have tp_1 := TP_le f28.1.1 tp_0
  have wd_1 := WDS_fr f28.1.1 f28.1.2.1 (by decide +kernel) wd_0
  rw [a0] at pk
  unfold preb_126v
  exact ⟨ks_1, by rw [sm2.1]; exact c0, by rw [sm2.1]; exact c1⟩
theorem c_127v_s_9 : vOkm T0 (eP e_127v L_127v A_127v mu_127v none) 4 ([(0, [16], [], 0), (41, [14, 15], [], 0), (0, [15], [], 1), (1131, [14, 4], [1, 2], 0), (90, [14], [], -2147483648), (91, [14], [], 2147483647), (31, [13], [], 0), (0, [13], [], 0), (43, [12, 3], [], 0), (1, [12, 2, 11], [], 0), (0, [11], [], 1), (42, [4, 10], [], 0), (0, [10], [], 48), (42, [4, 9], [], 0), (0, [9], [], 97), (41, [4, 8], [], 0), (0, [8], [], 32), (41, [4, 7], [], 0), (0, [7], [], 13), (41, [4, 6], [], 0), (0, [6], [], 10), (41, [4, 5], [], 0), (0, [5], [], 9), (1199, [4, 1, 2], [0, 1], 0), (90, [4], [], -2147483648), (91, [4], [], 2147483647), (6000, [0, 1, 2, 3], [0], 0), (0, [0], [], 31), (90, [2], [], -2147483648), (91, [2], [], 2147483647), (90, [3], [], -2147483648), (91, [3], [], 2147483647)], (2126, [0, 14, 2, 16], [2], 0)) := vOk_in fun ρ η h => by
  obtain ⟨f0, f1, f2, f3, f4, f5, f6, f7, f8, f9, f10, f11, f12, f13, f14, f15, f16, f17, f18, f19, f20, f21, f22, f23, f24, f25, f26, f27, f28, f29, f30, f31, _⟩ := h
  exact q_127v_9 (n0 := ρ 3) (n1 := ρ 2) (n2 := ρ 0) (n3 := ρ 1) (n4 := ρ 4) (n5 := ρ 5) (n6 := ρ 6) (n7 := ρ 7) (n8 := ρ 8) (n9 := ρ 9) (n10 := ρ 10) (n11 := ρ 11) (n12 := ρ 12) (n13 := ρ 13) (n14 := ρ 14) (n15 := ρ 15) (n16 := ρ 16) (H0 := η 0) (H1 := η 1) (H2 := η 2) f31 f30 f29 f28 f27 f26 f25 f24 f23 f22 f21 f20 f19 f18 f17 f16 f15 f14 f13 f12 f11 f10 f9 f8 f7 f6 f5 f4 f3 f2 f1 f0
theorem q_127v_10 {n0 n1 n2 n3 n4 n5 n6 n7 n8 n9 n10 n11 n12 n13 n14 n15 n16 n17 n18 : Int} {H0 H1 H2 H3 : gH} (f0 : n0 ≤ 2147483647) (f1 : (-2147483648) ≤ n0) (f2 : n1 ≤ 2147483647) (f3 : (-2147483648) ≤ n1) (f4 : n2 = 31) (f5 : hWt T0 H0 ∧ preb_127v n2 n3 n1 n0 H0) (f6 : n4 ≤ 2147483647) (f7 : (-2147483648) ≤ n4) (f8 : (hLe T0 H0 H1 ∧ hFr s_199vk692.2.2.2.2 H0 H1 ∧ ((0 : Int) = 0 → H1.length = H0.length) ∧ hWt T0 H1) ∧ postb_199vk692 n4 n3 n1 H0 H1) (f9 : n5 = 9) (f10 : n4 ≠ n5) (f11 : n6 = 10) (f12 : n4 ≠ n6) (f13 : n7 = 13) (f14 : n4 ≠ n7) (f15 : n8 = 32) (f16 : n4 ≠ n8) (f17 : n9 = 97) (f18 : n4 < n9) (f19 : n10 = 48) (f20 : n4 < n10) (f21 : n11 = 1) (f22 : n12 = w32 (n1 + n11)) (f23 : n0 ≤ n12) (f24 : n13 = 0) (f25 : n13 ≠ 0) (f26 : n14 ≤ 2147483647) (f27 : (-2147483648) ≤ n14) (f28 : (hLe T0 H1 H2 ∧ hFr s_131v.2.2.2.2 H1 H2 ∧ ((0 : Int) = 0 → H2.length = H1.length) ∧ hWt T0 H2) ∧ postb_131v n14 n4 H1 H2) (f29 : n15 = 1) (f30 : n14 ≠ n15) (f31 : n16 = 0) (f32 : (hLe T0 H2 H3 ∧ hFr s_126v.2.2.2.2 H2 H3 ∧ ((0 : Int) = 0 → H3.length = H2.length) ∧ hWt T0 H3) ∧ postb_126v n2 n14 n1 n16 H2 H3) (f33 : n17 = 2) (f34 : n18 = w32 (n1 + n17)) : postb_127v n18 n2 n3 n1 n0 H0 H3 := by
  have pz := f5.2
  unfold preb_127v at pz
  obtain ⟨ks, tp, wd, b0, b1, b2, b3, c0, c1⟩ := pz
  have et : ((n1).toNat : Int) = n1 := Int.toNat_of_nonneg b1
  have sm0 : SMT H0 H0 := SMT_rfl
  have wq22 := f22
  unfold w32 at wq22
  have wq34 := f34
  unfold w32 at wq34
  have qa0 := f8.2
  unfold postb_199vk692 at qa0
  have a0 := at8 sm0 tp qa0 (by omega) (by omega) (by omega)
  have sm1 := SMT_trans sm0 (SMT_fr f8.1.2.1 (by decide +kernel))
  have ks_0 := KS5_le f8.1.1 ks
  have tp_0 := TP_le f8.1.1 tp
  have wd_0 := WDS_fr f8.1.1 f8.1.2.1 (by decide +kernel) wd
  have pk := f28.2
  unfold postb_131v at pk
  have sm2 := SMT_trans sm1 (SMT_fr f28.1.2.1 (by decide +kernel))
  have ks_1 := KS5_le f28.1.1 ks_0
  have tp_1 := TP_le f28.1.1 tp_0
  have wd_1 := WDS_fr f28.1.1 f28.1.2.1 (by decide +kernel) wd_0
  rw [a0] at pk
  unfold postb_127v ONE
  have lt := f32.2
  unfold postb_126v at lt
  have nt := NTp_from sm2 lt.1
  rw [f31] at nt
  first
  | (exfalso; omega)
  | (rw [pk] at nt
     exact ⟨.inr (.inr (.inr (.inl ⟨by omega, by omega, by omega, ⟨by omega, by omega, by omega⟩, by omega, nt⟩))), lt.2⟩)
theorem c_127v_s_10 : vOkm T0 (eP e_127v L_127v A_127v mu_127v none) 4 ([(1, [18, 2, 17], [], 0), (0, [17], [], 2), (1126, [0, 14, 2, 16], [2, 3], 0), (0, [16], [], 0), (41, [14, 15], [], 0), (0, [15], [], 1), (1131, [14, 4], [1, 2], 0), (90, [14], [], -2147483648), (91, [14], [], 2147483647), (31, [13], [], 0), (0, [13], [], 0), (43, [12, 3], [], 0), (1, [12, 2, 11], [], 0), (0, [11], [], 1), (42, [4, 10], [], 0), (0, [10], [], 48), (42, [4, 9], [], 0), (0, [9], [], 97), (41, [4, 8], [], 0), (0, [8], [], 32), (41, [4, 7], [], 0), (0, [7], [], 13), (41, [4, 6], [], 0), (0, [6], [], 10), (41, [4, 5], [], 0), (0, [5], [], 9), (1199, [4, 1, 2], [0, 1], 0), (90, [4], [], -2147483648), (91, [4], [], 2147483647), (6000, [0, 1, 2, 3], [0], 0), (0, [0], [], 31), (90, [2], [], -2147483648), (91, [2], [], 2147483647), (90, [3], [], -2147483648), (91, [3], [], 2147483647)], (3000, [18], [3], 142)) := vOk_in fun ρ η h => by
  obtain ⟨f0, f1, f2, f3, f4, f5, f6, f7, f8, f9, f10, f11, f12, f13, f14, f15, f16, f17, f18, f19, f20, f21, f22, f23, f24, f25, f26, f27, f28, f29, f30, f31, f32, f33, f34, _⟩ := h
  exact q_127v_10 (n0 := ρ 3) (n1 := ρ 2) (n2 := ρ 0) (n3 := ρ 1) (n4 := ρ 4) (n5 := ρ 5) (n6 := ρ 6) (n7 := ρ 7) (n8 := ρ 8) (n9 := ρ 9) (n10 := ρ 10) (n11 := ρ 11) (n12 := ρ 12) (n13 := ρ 13) (n14 := ρ 14) (n15 := ρ 15) (n16 := ρ 16) (n17 := ρ 17) (n18 := ρ 18) (H0 := η 0) (H1 := η 1) (H2 := η 2) (H3 := η 3) f34 f33 f32 f31 f30 f29 f28 f27 f26 f25 f24 f23 f22 f21 f20 f19 f18 f17 f16 f15 f14 f13 f12 f11 f10 f9 f8 f7 f6 f5 f4 f3 f2 f1 f0
theorem q_127v_11 {n0 n1 n2 n3 n4 n5 n6 n7 n8 n9 n10 n11 n12 n13 n14 n15 n16 n17 n18 n19 n20 n21 : Int} {H0 H1 H2 H3 : gH} (f0 : n0 ≤ 2147483647) (f1 : (-2147483648) ≤ n0) (f2 : n1 ≤ 2147483647) (f3 : (-2147483648) ≤ n1) (f4 : n2 = 31) (f5 : hWt T0 H0 ∧ preb_127v n2 n3 n1 n0 H0) (f6 : n4 ≤ 2147483647) (f7 : (-2147483648) ≤ n4) (f8 : (hLe T0 H0 H1 ∧ hFr s_199vk692.2.2.2.2 H0 H1 ∧ ((0 : Int) = 0 → H1.length = H0.length) ∧ hWt T0 H1) ∧ postb_199vk692 n4 n3 n1 H0 H1) (f9 : n5 = 9) (f10 : n4 ≠ n5) (f11 : n6 = 10) (f12 : n4 ≠ n6) (f13 : n7 = 13) (f14 : n4 ≠ n7) (f15 : n8 = 32) (f16 : n4 ≠ n8) (f17 : n9 = 97) (f18 : n4 < n9) (f19 : n10 = 48) (f20 : n4 < n10) (f21 : n11 = 1) (f22 : n12 = w32 (n1 + n11)) (f23 : n12 < n0) (f24 : n13 = 1) (f25 : n14 = w32 (n1 + n13)) (f26 : n15 ≤ 2147483647) (f27 : (-2147483648) ≤ n15) (f28 : (hLe T0 H1 H2 ∧ hFr s_199vk692.2.2.2.2 H1 H2 ∧ ((0 : Int) = 0 → H2.length = H1.length) ∧ hWt T0 H2) ∧ postb_199vk692 n15 n3 n14 H1 H2) (f29 : n16 = 61) (f30 : n15 ≠ n16) (f31 : n17 = 0) (f32 : n17 = 0) (f33 : n18 = 1) (f34 : n19 = 1) (f35 : n18 = n19) (f36 : n20 ≤ 2147483647) (f37 : (-2147483648) ≤ n20) (f38 : (hLe T0 H2 H3 ∧ hFr s_132v.2.2.2.2 H2 H3 ∧ ((0 : Int) = 0 → H3.length = H2.length) ∧ hWt T0 H3) ∧ postb_132v n20 n4 H2 H3) (f39 : n21 = 0) : preb_126v n2 n20 n1 n21 H3 := by
  have pz := f5.2
  unfold preb_127v at pz
  obtain ⟨ks, tp, wd, b0, b1, b2, b3, c0, c1⟩ := pz
  have et : ((n1).toNat : Int) = n1 := Int.toNat_of_nonneg b1
  have sm0 : SMT H0 H0 := SMT_rfl
  have wq22 := f22
  unfold w32 at wq22
  have wq25 := f25
  unfold w32 at wq25
  have qa0 := f8.2
  unfold postb_199vk692 at qa0
  have a0 := at8 sm0 tp qa0 (by omega) (by omega) (by omega)
  have sm1 := SMT_trans sm0 (SMT_fr f8.1.2.1 (by decide +kernel))
  have ks_0 := KS5_le f8.1.1 ks
  have tp_0 := TP_le f8.1.1 tp
  have wd_0 := WDS_fr f8.1.1 f8.1.2.1 (by decide +kernel) wd
  have qa1 := f28.2
  unfold postb_199vk692 at qa1
  have a1 := at8 sm1 tp_0 qa1 (by omega) (by omega) (by omega)
  rw [show (n14).toNat = (n1).toNat + 1 by omega] at a1
  have sm2 := SMT_trans sm1 (SMT_fr f28.1.2.1 (by decide +kernel))
  have ks_1 := KS5_le f28.1.1 ks_0
  have tp_1 := TP_le f28.1.1 tp_0
  have wd_1 := WDS_fr f28.1.1 f28.1.2.1 (by decide +kernel) wd_0
  have sk := f38.2
  unfold postb_132v at sk
  have sm3 := SMT_trans sm2 (SMT_fr f38.1.2.1 (by decide +kernel))
  have ks_2 := KS5_le f38.1.1 ks_1
  have tp_2 := TP_le f38.1.1 tp_1
  have wd_2 := WDS_fr f38.1.1 f38.1.2.1 (by decide +kernel) wd_1
  rw [a0] at sk
  unfold preb_126v
  exact ⟨ks_2, by rw [sm3.1]; exact c0, by rw [sm3.1]; exact c1⟩
theorem c_127v_s_11 : vOkm T0 (eP e_127v L_127v A_127v mu_127v none) 4 ([(0, [21], [], 0), (1132, [20, 4], [2, 3], 0), (90, [20], [], -2147483648), (91, [20], [], 2147483647), (40, [18, 19], [], 0), (0, [19], [], 1), (0, [18], [], 1), (30, [17], [], 0), (0, [17], [], 0), (41, [15, 16], [], 0), (0, [16], [], 61), (1199, [15, 1, 14], [1, 2], 0), (90, [15], [], -2147483648), (91, [15], [], 2147483647), (1, [14, 2, 13], [], 0), (0, [13], [], 1), (42, [12, 3], [], 0), (1, [12, 2, 11], [], 0), (0, [11], [], 1), (42, [4, 10], [], 0), (0, [10], [], 48), (42, [4, 9], [], 0), (0, [9], [], 97), (41, [4, 8], [], 0), (0, [8], [], 32), (41, [4, 7], [], 0), (0, [7], [], 13), (41, [4, 6], [], 0), (0, [6], [], 10), (41, [4, 5], [], 0), (0, [5], [], 9), (1199, [4, 1, 2], [0, 1], 0), (90, [4], [], -2147483648), (91, [4], [], 2147483647), (6000, [0, 1, 2, 3], [0], 0), (0, [0], [], 31), (90, [2], [], -2147483648), (91, [2], [], 2147483647), (90, [3], [], -2147483648), (91, [3], [], 2147483647)], (2126, [0, 20, 2, 21], [3], 0)) := vOk_in fun ρ η h => by
  obtain ⟨f0, f1, f2, f3, f4, f5, f6, f7, f8, f9, f10, f11, f12, f13, f14, f15, f16, f17, f18, f19, f20, f21, f22, f23, f24, f25, f26, f27, f28, f29, f30, f31, f32, f33, f34, f35, f36, f37, f38, f39, _⟩ := h
  exact q_127v_11 (n0 := ρ 3) (n1 := ρ 2) (n2 := ρ 0) (n3 := ρ 1) (n4 := ρ 4) (n5 := ρ 5) (n6 := ρ 6) (n7 := ρ 7) (n8 := ρ 8) (n9 := ρ 9) (n10 := ρ 10) (n11 := ρ 11) (n12 := ρ 12) (n13 := ρ 13) (n14 := ρ 14) (n15 := ρ 15) (n16 := ρ 16) (n17 := ρ 17) (n18 := ρ 18) (n19 := ρ 19) (n20 := ρ 20) (n21 := ρ 21) (H0 := η 0) (H1 := η 1) (H2 := η 2) (H3 := η 3) f39 f38 f37 f36 f35 f34 f33 f32 f31 f30 f29 f28 f27 f26 f25 f24 f23 f22 f21 f20 f19 f18 f17 f16 f15 f14 f13 f12 f11 f10 f9 f8 f7 f6 f5 f4 f3 f2 f1 f0
theorem q_127v_12 {n0 n1 n2 n3 n4 n5 n6 n7 n8 n9 n10 n11 n12 n13 n14 n15 n16 n17 n18 n19 n20 n21 n22 n23 : Int} {H0 H1 H2 H3 H4 : gH} (f0 : n0 ≤ 2147483647) (f1 : (-2147483648) ≤ n0) (f2 : n1 ≤ 2147483647) (f3 : (-2147483648) ≤ n1) (f4 : n2 = 31) (f5 : hWt T0 H0 ∧ preb_127v n2 n3 n1 n0 H0) (f6 : n4 ≤ 2147483647) (f7 : (-2147483648) ≤ n4) (f8 : (hLe T0 H0 H1 ∧ hFr s_199vk692.2.2.2.2 H0 H1 ∧ ((0 : Int) = 0 → H1.length = H0.length) ∧ hWt T0 H1) ∧ postb_199vk692 n4 n3 n1 H0 H1) (f9 : n5 = 9) (f10 : n4 ≠ n5) (f11 : n6 = 10) (f12 : n4 ≠ n6) (f13 : n7 = 13) (f14 : n4 ≠ n7) (f15 : n8 = 32) (f16 : n4 ≠ n8) (f17 : n9 = 97) (f18 : n4 < n9) (f19 : n10 = 48) (f20 : n4 < n10) (f21 : n11 = 1) (f22 : n12 = w32 (n1 + n11)) (f23 : n12 < n0) (f24 : n13 = 1) (f25 : n14 = w32 (n1 + n13)) (f26 : n15 ≤ 2147483647) (f27 : (-2147483648) ≤ n15) (f28 : (hLe T0 H1 H2 ∧ hFr s_199vk692.2.2.2.2 H1 H2 ∧ ((0 : Int) = 0 → H2.length = H1.length) ∧ hWt T0 H2) ∧ postb_199vk692 n15 n3 n14 H1 H2) (f29 : n16 = 61) (f30 : n15 ≠ n16) (f31 : n17 = 0) (f32 : n17 = 0) (f33 : n18 = 1) (f34 : n19 = 1) (f35 : n18 = n19) (f36 : n20 ≤ 2147483647) (f37 : (-2147483648) ≤ n20) (f38 : (hLe T0 H2 H3 ∧ hFr s_132v.2.2.2.2 H2 H3 ∧ ((0 : Int) = 0 → H3.length = H2.length) ∧ hWt T0 H3) ∧ postb_132v n20 n4 H2 H3) (f39 : n21 = 0) (f40 : (hLe T0 H3 H4 ∧ hFr s_126v.2.2.2.2 H3 H4 ∧ ((0 : Int) = 0 → H4.length = H3.length) ∧ hWt T0 H4) ∧ postb_126v n2 n20 n1 n21 H3 H4) (f41 : n22 = 1) (f42 : n23 = w32 (n1 + n22)) : postb_127v n23 n2 n3 n1 n0 H0 H4 := by
  have pz := f5.2
  unfold preb_127v at pz
  obtain ⟨ks, tp, wd, b0, b1, b2, b3, c0, c1⟩ := pz
  have et : ((n1).toNat : Int) = n1 := Int.toNat_of_nonneg b1
  have sm0 : SMT H0 H0 := SMT_rfl
  have wq22 := f22
  unfold w32 at wq22
  have wq25 := f25
  unfold w32 at wq25
  have wq42 := f42
  unfold w32 at wq42
  have qa0 := f8.2
  unfold postb_199vk692 at qa0
  have a0 := at8 sm0 tp qa0 (by omega) (by omega) (by omega)
  have sm1 := SMT_trans sm0 (SMT_fr f8.1.2.1 (by decide +kernel))
  have ks_0 := KS5_le f8.1.1 ks
  have tp_0 := TP_le f8.1.1 tp
  have wd_0 := WDS_fr f8.1.1 f8.1.2.1 (by decide +kernel) wd
  have qa1 := f28.2
  unfold postb_199vk692 at qa1
  have a1 := at8 sm1 tp_0 qa1 (by omega) (by omega) (by omega)
  rw [show (n14).toNat = (n1).toNat + 1 by omega] at a1
  have sm2 := SMT_trans sm1 (SMT_fr f28.1.2.1 (by decide +kernel))
  have ks_1 := KS5_le f28.1.1 ks_0
  have tp_1 := TP_le f28.1.1 tp_0
  have wd_1 := WDS_fr f28.1.1 f28.1.2.1 (by decide +kernel) wd_0
  have sk := f38.2
  unfold postb_132v at sk
  have sm3 := SMT_trans sm2 (SMT_fr f38.1.2.1 (by decide +kernel))
  have ks_2 := KS5_le f38.1.1 ks_1
  have tp_2 := TP_le f38.1.1 tp_1
  have wd_2 := WDS_fr f38.1.1 f38.1.2.1 (by decide +kernel) wd_1
  rw [a0] at sk
  unfold postb_127v ONE
  have lt := f40.2
  unfold postb_126v at lt
  have nt := NTp_from sm3 lt.1
  rw [f39] at nt
  first
  | exact absurd rfl (by omega)
  | (rw [sk] at nt
     exact ⟨.inr (.inr (.inr (.inr ⟨by omega, by omega, by omega, by omega, by omega, nt⟩))), lt.2⟩)
theorem c_127v_s_12 : vOkm T0 (eP e_127v L_127v A_127v mu_127v none) 4 ([(1, [23, 2, 22], [], 0), (0, [22], [], 1), (1126, [0, 20, 2, 21], [3, 4], 0), (0, [21], [], 0), (1132, [20, 4], [2, 3], 0), (90, [20], [], -2147483648), (91, [20], [], 2147483647), (40, [18, 19], [], 0), (0, [19], [], 1), (0, [18], [], 1), (30, [17], [], 0), (0, [17], [], 0), (41, [15, 16], [], 0), (0, [16], [], 61), (1199, [15, 1, 14], [1, 2], 0), (90, [15], [], -2147483648), (91, [15], [], 2147483647), (1, [14, 2, 13], [], 0), (0, [13], [], 1), (42, [12, 3], [], 0), (1, [12, 2, 11], [], 0), (0, [11], [], 1), (42, [4, 10], [], 0), (0, [10], [], 48), (42, [4, 9], [], 0), (0, [9], [], 97), (41, [4, 8], [], 0), (0, [8], [], 32), (41, [4, 7], [], 0), (0, [7], [], 13), (41, [4, 6], [], 0), (0, [6], [], 10), (41, [4, 5], [], 0), (0, [5], [], 9), (1199, [4, 1, 2], [0, 1], 0), (90, [4], [], -2147483648), (91, [4], [], 2147483647), (6000, [0, 1, 2, 3], [0], 0), (0, [0], [], 31), (90, [2], [], -2147483648), (91, [2], [], 2147483647), (90, [3], [], -2147483648), (91, [3], [], 2147483647)], (3000, [23], [4], 157)) := vOk_in fun ρ η h => by
  obtain ⟨f0, f1, f2, f3, f4, f5, f6, f7, f8, f9, f10, f11, f12, f13, f14, f15, f16, f17, f18, f19, f20, f21, f22, f23, f24, f25, f26, f27, f28, f29, f30, f31, f32, f33, f34, f35, f36, f37, f38, f39, f40, f41, f42, _⟩ := h
  exact q_127v_12 (n0 := ρ 3) (n1 := ρ 2) (n2 := ρ 0) (n3 := ρ 1) (n4 := ρ 4) (n5 := ρ 5) (n6 := ρ 6) (n7 := ρ 7) (n8 := ρ 8) (n9 := ρ 9) (n10 := ρ 10) (n11 := ρ 11) (n12 := ρ 12) (n13 := ρ 13) (n14 := ρ 14) (n15 := ρ 15) (n16 := ρ 16) (n17 := ρ 17) (n18 := ρ 18) (n19 := ρ 19) (n20 := ρ 20) (n21 := ρ 21) (n22 := ρ 22) (n23 := ρ 23) (H0 := η 0) (H1 := η 1) (H2 := η 2) (H3 := η 3) (H4 := η 4) f42 f41 f40 f39 f38 f37 f36 f35 f34 f33 f32 f31 f30 f29 f28 f27 f26 f25 f24 f23 f22 f21 f20 f19 f18 f17 f16 f15 f14 f13 f12 f11 f10 f9 f8 f7 f6 f5 f4 f3 f2 f1 f0
theorem q_127v_13 {n0 n1 n2 n3 n4 n5 n6 n7 n8 n9 n10 n11 n12 n13 n14 n15 n16 n17 n18 n19 n20 : Int} {H0 H1 H2 : gH} (f0 : n0 ≤ 2147483647) (f1 : (-2147483648) ≤ n0) (f2 : n1 ≤ 2147483647) (f3 : (-2147483648) ≤ n1) (f4 : n2 = 31) (f5 : hWt T0 H0 ∧ preb_127v n2 n3 n1 n0 H0) (f6 : n4 ≤ 2147483647) (f7 : (-2147483648) ≤ n4) (f8 : (hLe T0 H0 H1 ∧ hFr s_199vk692.2.2.2.2 H0 H1 ∧ ((0 : Int) = 0 → H1.length = H0.length) ∧ hWt T0 H1) ∧ postb_199vk692 n4 n3 n1 H0 H1) (f9 : n5 = 9) (f10 : n4 ≠ n5) (f11 : n6 = 10) (f12 : n4 ≠ n6) (f13 : n7 = 13) (f14 : n4 ≠ n7) (f15 : n8 = 32) (f16 : n4 ≠ n8) (f17 : n9 = 97) (f18 : n4 < n9) (f19 : n10 = 48) (f20 : n4 < n10) (f21 : n11 = 1) (f22 : n12 = w32 (n1 + n11)) (f23 : n12 < n0) (f24 : n13 = 1) (f25 : n14 = w32 (n1 + n13)) (f26 : n15 ≤ 2147483647) (f27 : (-2147483648) ≤ n15) (f28 : (hLe T0 H1 H2 ∧ hFr s_199vk692.2.2.2.2 H1 H2 ∧ ((0 : Int) = 0 → H2.length = H1.length) ∧ hWt T0 H2) ∧ postb_199vk692 n15 n3 n14 H1 H2) (f29 : n16 = 61) (f30 : n15 ≠ n16) (f31 : n17 = 0) (f32 : n17 = 0) (f33 : n18 = 1) (f34 : n19 = 1) (f35 : n18 ≠ n19) (f36 : n20 = 0) : preb_126v n2 n18 n1 n20 H2 := by
  have pz := f5.2
  unfold preb_127v at pz
  obtain ⟨ks, tp, wd, b0, b1, b2, b3, c0, c1⟩ := pz
  have et : ((n1).toNat : Int) = n1 := Int.toNat_of_nonneg b1
  have sm0 : SMT H0 H0 := SMT_rfl
  have wq22 := f22
  unfold w32 at wq22
  have wq25 := f25
  unfold w32 at wq25
  have qa0 := f8.2
  unfold postb_199vk692 at qa0
  have a0 := at8 sm0 tp qa0 (by omega) (by omega) (by omega)
  have sm1 := SMT_trans sm0 (SMT_fr f8.1.2.1 (by decide +kernel))
  have ks_0 := KS5_le f8.1.1 ks
  have tp_0 := TP_le f8.1.1 tp
  have wd_0 := WDS_fr f8.1.1 f8.1.2.1 (by decide +kernel) wd
  have qa1 := f28.2
  unfold postb_199vk692 at qa1
  have a1 := at8 sm1 tp_0 qa1 (by omega) (by omega) (by omega)
  rw [show (n14).toNat = (n1).toNat + 1 by omega] at a1
  have sm2 := SMT_trans sm1 (SMT_fr f28.1.2.1 (by decide +kernel))
  have ks_1 := KS5_le f28.1.1 ks_0
  have tp_1 := TP_le f28.1.1 tp_0
  have wd_1 := WDS_fr f28.1.1 f28.1.2.1 (by decide +kernel) wd_0
  unfold preb_126v
  exact ⟨ks_1, by rw [sm2.1]; exact c0, by rw [sm2.1]; exact c1⟩
theorem c_127v_s_13 : vOkm T0 (eP e_127v L_127v A_127v mu_127v none) 4 ([(0, [20], [], 0), (41, [18, 19], [], 0), (0, [19], [], 1), (0, [18], [], 1), (30, [17], [], 0), (0, [17], [], 0), (41, [15, 16], [], 0), (0, [16], [], 61), (1199, [15, 1, 14], [1, 2], 0), (90, [15], [], -2147483648), (91, [15], [], 2147483647), (1, [14, 2, 13], [], 0), (0, [13], [], 1), (42, [12, 3], [], 0), (1, [12, 2, 11], [], 0), (0, [11], [], 1), (42, [4, 10], [], 0), (0, [10], [], 48), (42, [4, 9], [], 0), (0, [9], [], 97), (41, [4, 8], [], 0), (0, [8], [], 32), (41, [4, 7], [], 0), (0, [7], [], 13), (41, [4, 6], [], 0), (0, [6], [], 10), (41, [4, 5], [], 0), (0, [5], [], 9), (1199, [4, 1, 2], [0, 1], 0), (90, [4], [], -2147483648), (91, [4], [], 2147483647), (6000, [0, 1, 2, 3], [0], 0), (0, [0], [], 31), (90, [2], [], -2147483648), (91, [2], [], 2147483647), (90, [3], [], -2147483648), (91, [3], [], 2147483647)], (2126, [0, 18, 2, 20], [2], 0)) := vOk_in fun ρ η h => by
  obtain ⟨f0, f1, f2, f3, f4, f5, f6, f7, f8, f9, f10, f11, f12, f13, f14, f15, f16, f17, f18, f19, f20, f21, f22, f23, f24, f25, f26, f27, f28, f29, f30, f31, f32, f33, f34, f35, f36, _⟩ := h
  exact q_127v_13 (n0 := ρ 3) (n1 := ρ 2) (n2 := ρ 0) (n3 := ρ 1) (n4 := ρ 4) (n5 := ρ 5) (n6 := ρ 6) (n7 := ρ 7) (n8 := ρ 8) (n9 := ρ 9) (n10 := ρ 10) (n11 := ρ 11) (n12 := ρ 12) (n13 := ρ 13) (n14 := ρ 14) (n15 := ρ 15) (n16 := ρ 16) (n17 := ρ 17) (n18 := ρ 18) (n19 := ρ 19) (n20 := ρ 20) (H0 := η 0) (H1 := η 1) (H2 := η 2) f36 f35 f34 f33 f32 f31 f30 f29 f28 f27 f26 f25 f24 f23 f22 f21 f20 f19 f18 f17 f16 f15 f14 f13 f12 f11 f10 f9 f8 f7 f6 f5 f4 f3 f2 f1 f0
theorem q_127v_14 {n0 n1 n2 n3 n4 n5 n6 n7 n8 n9 n10 n11 n12 n13 n14 n15 n16 n17 n18 n19 n20 n21 n22 : Int} {H0 H1 H2 H3 : gH} (f0 : n0 ≤ 2147483647) (f1 : (-2147483648) ≤ n0) (f2 : n1 ≤ 2147483647) (f3 : (-2147483648) ≤ n1) (f4 : n2 = 31) (f5 : hWt T0 H0 ∧ preb_127v n2 n3 n1 n0 H0) (f6 : n4 ≤ 2147483647) (f7 : (-2147483648) ≤ n4) (f8 : (hLe T0 H0 H1 ∧ hFr s_199vk692.2.2.2.2 H0 H1 ∧ ((0 : Int) = 0 → H1.length = H0.length) ∧ hWt T0 H1) ∧ postb_199vk692 n4 n3 n1 H0 H1) (f9 : n5 = 9) (f10 : n4 ≠ n5) (f11 : n6 = 10) (f12 : n4 ≠ n6) (f13 : n7 = 13) (f14 : n4 ≠ n7) (f15 : n8 = 32) (f16 : n4 ≠ n8) (f17 : n9 = 97) (f18 : n4 < n9) (f19 : n10 = 48) (f20 : n4 < n10) (f21 : n11 = 1) (f22 : n12 = w32 (n1 + n11)) (f23 : n12 < n0) (f24 : n13 = 1) (f25 : n14 = w32 (n1 + n13)) (f26 : n15 ≤ 2147483647) (f27 : (-2147483648) ≤ n15) (f28 : (hLe T0 H1 H2 ∧ hFr s_199vk692.2.2.2.2 H1 H2 ∧ ((0 : Int) = 0 → H2.length = H1.length) ∧ hWt T0 H2) ∧ postb_199vk692 n15 n3 n14 H1 H2) (f29 : n16 = 61) (f30 : n15 ≠ n16) (f31 : n17 = 0) (f32 : n17 = 0) (f33 : n18 = 1) (f34 : n19 = 1) (f35 : n18 ≠ n19) (f36 : n20 = 0) (f37 : (hLe T0 H2 H3 ∧ hFr s_126v.2.2.2.2 H2 H3 ∧ ((0 : Int) = 0 → H3.length = H2.length) ∧ hWt T0 H3) ∧ postb_126v n2 n18 n1 n20 H2 H3) (f38 : n21 = 2) (f39 : n22 = w32 (n1 + n21)) : postb_127v n22 n2 n3 n1 n0 H0 H3 := by
  have pz := f5.2
  unfold preb_127v at pz
  obtain ⟨ks, tp, wd, b0, b1, b2, b3, c0, c1⟩ := pz
  have et : ((n1).toNat : Int) = n1 := Int.toNat_of_nonneg b1
  have sm0 : SMT H0 H0 := SMT_rfl
  have wq22 := f22
  unfold w32 at wq22
  have wq25 := f25
  unfold w32 at wq25
  have wq39 := f39
  unfold w32 at wq39
  have qa0 := f8.2
  unfold postb_199vk692 at qa0
  have a0 := at8 sm0 tp qa0 (by omega) (by omega) (by omega)
  have sm1 := SMT_trans sm0 (SMT_fr f8.1.2.1 (by decide +kernel))
  have ks_0 := KS5_le f8.1.1 ks
  have tp_0 := TP_le f8.1.1 tp
  have wd_0 := WDS_fr f8.1.1 f8.1.2.1 (by decide +kernel) wd
  have qa1 := f28.2
  unfold postb_199vk692 at qa1
  have a1 := at8 sm1 tp_0 qa1 (by omega) (by omega) (by omega)
  rw [show (n14).toNat = (n1).toNat + 1 by omega] at a1
  have sm2 := SMT_trans sm1 (SMT_fr f28.1.2.1 (by decide +kernel))
  have ks_1 := KS5_le f28.1.1 ks_0
  have tp_1 := TP_le f28.1.1 tp_0
  have wd_1 := WDS_fr f28.1.1 f28.1.2.1 (by decide +kernel) wd_0
  unfold postb_127v ONE
  have lt := f37.2
  unfold postb_126v at lt
  have nt := NTp_from sm2 lt.1
  rw [f36] at nt
  first
  | (exfalso; omega)
  | (rw [pk] at nt
     exact ⟨.inr (.inr (.inr (.inl ⟨by omega, by omega, by omega, ⟨by omega, by omega, by omega⟩, by omega, nt⟩))), lt.2⟩)
theorem c_127v_s_14 : vOkm T0 (eP e_127v L_127v A_127v mu_127v none) 4 ([(1, [22, 2, 21], [], 0), (0, [21], [], 2), (1126, [0, 18, 2, 20], [2, 3], 0), (0, [20], [], 0), (41, [18, 19], [], 0), (0, [19], [], 1), (0, [18], [], 1), (30, [17], [], 0), (0, [17], [], 0), (41, [15, 16], [], 0), (0, [16], [], 61), (1199, [15, 1, 14], [1, 2], 0), (90, [15], [], -2147483648), (91, [15], [], 2147483647), (1, [14, 2, 13], [], 0), (0, [13], [], 1), (42, [12, 3], [], 0), (1, [12, 2, 11], [], 0), (0, [11], [], 1), (42, [4, 10], [], 0), (0, [10], [], 48), (42, [4, 9], [], 0), (0, [9], [], 97), (41, [4, 8], [], 0), (0, [8], [], 32), (41, [4, 7], [], 0), (0, [7], [], 13), (41, [4, 6], [], 0), (0, [6], [], 10), (41, [4, 5], [], 0), (0, [5], [], 9), (1199, [4, 1, 2], [0, 1], 0), (90, [4], [], -2147483648), (91, [4], [], 2147483647), (6000, [0, 1, 2, 3], [0], 0), (0, [0], [], 31), (90, [2], [], -2147483648), (91, [2], [], 2147483647), (90, [3], [], -2147483648), (91, [3], [], 2147483647)], (3000, [22], [3], 142)) := vOk_in fun ρ η h => by
  obtain ⟨f0, f1, f2, f3, f4, f5, f6, f7, f8, f9, f10, f11, f12, f13, f14, f15, f16, f17, f18, f19, f20, f21, f22, f23, f24, f25, f26, f27, f28, f29, f30, f31, f32, f33, f34, f35, f36, f37, f38, f39, _⟩ := h
  exact q_127v_14 (n0 := ρ 3) (n1 := ρ 2) (n2 := ρ 0) (n3 := ρ 1) (n4 := ρ 4) (n5 := ρ 5) (n6 := ρ 6) (n7 := ρ 7) (n8 := ρ 8) (n9 := ρ 9) (n10 := ρ 10) (n11 := ρ 11) (n12 := ρ 12) (n13 := ρ 13) (n14 := ρ 14) (n15 := ρ 15) (n16 := ρ 16) (n17 := ρ 17) (n18 := ρ 18) (n19 := ρ 19) (n20 := ρ 20) (n21 := ρ 21) (n22 := ρ 22) (H0 := η 0) (H1 := η 1) (H2 := η 2) (H3 := η 3) f39 f38 f37 f36 f35 f34 f33 f32 f31 f30 f29 f28 f27 f26 f25 f24 f23 f22 f21 f20 f19 f18 f17 f16 f15 f14 f13 f12 f11 f10 f9 f8 f7 f6 f5 f4 f3 f2 f1 f0
theorem q_127v_15 {n0 n1 n2 n3 n4 n5 n6 n7 n8 n9 n10 n11 n12 n13 n14 n15 n16 n17 n18 n19 n20 n21 : Int} {H0 H1 H2 H3 H4 : gH} (f0 : n0 ≤ 2147483647) (f1 : (-2147483648) ≤ n0) (f2 : n1 ≤ 2147483647) (f3 : (-2147483648) ≤ n1) (f4 : n2 = 31) (f5 : hWt T0 H0 ∧ preb_127v n2 n3 n1 n0 H0) (f6 : n4 ≤ 2147483647) (f7 : (-2147483648) ≤ n4) (f8 : (hLe T0 H0 H1 ∧ hFr s_199vk692.2.2.2.2 H0 H1 ∧ ((0 : Int) = 0 → H1.length = H0.length) ∧ hWt T0 H1) ∧ postb_199vk692 n4 n3 n1 H0 H1) (f9 : n5 = 9) (f10 : n4 ≠ n5) (f11 : n6 = 10) (f12 : n4 ≠ n6) (f13 : n7 = 13) (f14 : n4 ≠ n7) (f15 : n8 = 32) (f16 : n4 ≠ n8) (f17 : n9 = 97) (f18 : n4 < n9) (f19 : n10 = 48) (f20 : n4 < n10) (f21 : n11 = 1) (f22 : n12 = w32 (n1 + n11)) (f23 : n12 < n0) (f24 : n13 = 1) (f25 : n14 = w32 (n1 + n13)) (f26 : n15 ≤ 2147483647) (f27 : (-2147483648) ≤ n15) (f28 : (hLe T0 H1 H2 ∧ hFr s_199vk692.2.2.2.2 H1 H2 ∧ ((0 : Int) = 0 → H2.length = H1.length) ∧ hWt T0 H2) ∧ postb_199vk692 n15 n3 n14 H1 H2) (f29 : n16 = 61) (f30 : n15 ≠ n16) (f31 : n17 = 0) (f32 : n17 ≠ 0) (f33 : n18 ≤ 2147483647) (f34 : (-2147483648) ≤ n18) (f35 : (hLe T0 H2 H3 ∧ hFr s_131v.2.2.2.2 H2 H3 ∧ ((0 : Int) = 0 → H3.length = H2.length) ∧ hWt T0 H3) ∧ postb_131v n18 n4 H2 H3) (f36 : n19 = 1) (f37 : n18 = n19) (f38 : n20 ≤ 2147483647) (f39 : (-2147483648) ≤ n20) (f40 : (hLe T0 H3 H4 ∧ hFr s_132v.2.2.2.2 H3 H4 ∧ ((0 : Int) = 0 → H4.length = H3.length) ∧ hWt T0 H4) ∧ postb_132v n20 n4 H3 H4) (f41 : n21 = 0) : preb_126v n2 n20 n1 n21 H4 := by
  have pz := f5.2
  unfold preb_127v at pz
  obtain ⟨ks, tp, wd, b0, b1, b2, b3, c0, c1⟩ := pz
  have et : ((n1).toNat : Int) = n1 := Int.toNat_of_nonneg b1
  have sm0 : SMT H0 H0 := SMT_rfl
  have wq22 := f22
  unfold w32 at wq22
  have wq25 := f25
  unfold w32 at wq25
  have qa0 := f8.2
  unfold postb_199vk692 at qa0
  have a0 := at8 sm0 tp qa0 (by omega) (by omega) (by omega)
  have sm1 := SMT_trans sm0 (SMT_fr f8.1.2.1 (by decide +kernel))
  have ks_0 := KS5_le f8.1.1 ks
  have tp_0 := TP_le f8.1.1 tp
  have wd_0 := WDS_fr f8.1.1 f8.1.2.1 (by decide +kernel) wd
  have qa1 := f28.2
  unfold postb_199vk692 at qa1
  have a1 := at8 sm1 tp_0 qa1 (by omega) (by omega) (by omega)
  rw [show (n14).toNat = (n1).toNat + 1 by omega] at a1
  have sm2 := SMT_trans sm1 (SMT_fr f28.1.2.1 (by decide +kernel))
  have ks_1 := KS5_le f28.1.1 ks_0
  have tp_1 := TP_le f28.1.1 tp_0
  have wd_1 := WDS_fr f28.1.1 f28.1.2.1 (by decide +kernel) wd_0
  have pk := f35.2
  unfold postb_131v at pk
  have sm3 := SMT_trans sm2 (SMT_fr f35.1.2.1 (by decide +kernel))
  have ks_2 := KS5_le f35.1.1 ks_1
  have tp_2 := TP_le f35.1.1 tp_1
  have wd_2 := WDS_fr f35.1.1 f35.1.2.1 (by decide +kernel) wd_1
  have sk := f40.2
  unfold postb_132v at sk
  have sm4 := SMT_trans sm3 (SMT_fr f40.1.2.1 (by decide +kernel))
  have ks_3 := KS5_le f40.1.1 ks_2
  have tp_3 := TP_le f40.1.1 tp_2
  have wd_3 := WDS_fr f40.1.1 f40.1.2.1 (by decide +kernel) wd_2
  rw [a0] at pk
  rw [a0] at sk
  unfold preb_126v
  exact ⟨ks_3, by rw [sm4.1]; exact c0, by rw [sm4.1]; exact c1⟩
theorem c_127v_s_15 : vOkm T0 (eP e_127v L_127v A_127v mu_127v none) 4 ([(0, [21], [], 0), (1132, [20, 4], [3, 4], 0), (90, [20], [], -2147483648), (91, [20], [], 2147483647), (40, [18, 19], [], 0), (0, [19], [], 1), (1131, [18, 4], [2, 3], 0), (90, [18], [], -2147483648), (91, [18], [], 2147483647), (31, [17], [], 0), (0, [17], [], 0), (41, [15, 16], [], 0), (0, [16], [], 61), (1199, [15, 1, 14], [1, 2], 0), (90, [15], [], -2147483648), (91, [15], [], 2147483647), (1, [14, 2, 13], [], 0), (0, [13], [], 1), (42, [12, 3], [], 0), (1, [12, 2, 11], [], 0), (0, [11], [], 1), (42, [4, 10], [], 0), (0, [10], [], 48), (42, [4, 9], [], 0), (0, [9], [], 97), (41, [4, 8], [], 0), (0, [8], [], 32), (41, [4, 7], [], 0), (0, [7], [], 13), (41, [4, 6], [], 0), (0, [6], [], 10), (41, [4, 5], [], 0), (0, [5], [], 9), (1199, [4, 1, 2], [0, 1], 0), (90, [4], [], -2147483648), (91, [4], [], 2147483647), (6000, [0, 1, 2, 3], [0], 0), (0, [0], [], 31), (90, [2], [], -2147483648), (91, [2], [], 2147483647), (90, [3], [], -2147483648), (91, [3], [], 2147483647)], (2126, [0, 20, 2, 21], [4], 0)) := vOk_in fun ρ η h => by
  obtain ⟨f0, f1, f2, f3, f4, f5, f6, f7, f8, f9, f10, f11, f12, f13, f14, f15, f16, f17, f18, f19, f20, f21, f22, f23, f24, f25, f26, f27, f28, f29, f30, f31, f32, f33, f34, f35, f36, f37, f38, f39, f40, f41, _⟩ := h
  exact q_127v_15 (n0 := ρ 3) (n1 := ρ 2) (n2 := ρ 0) (n3 := ρ 1) (n4 := ρ 4) (n5 := ρ 5) (n6 := ρ 6) (n7 := ρ 7) (n8 := ρ 8) (n9 := ρ 9) (n10 := ρ 10) (n11 := ρ 11) (n12 := ρ 12) (n13 := ρ 13) (n14 := ρ 14) (n15 := ρ 15) (n16 := ρ 16) (n17 := ρ 17) (n18 := ρ 18) (n19 := ρ 19) (n20 := ρ 20) (n21 := ρ 21) (H0 := η 0) (H1 := η 1) (H2 := η 2) (H3 := η 3) (H4 := η 4) f41 f40 f39 f38 f37 f36 f35 f34 f33 f32 f31 f30 f29 f28 f27 f26 f25 f24 f23 f22 f21 f20 f19 f18 f17 f16 f15 f14 f13 f12 f11 f10 f9 f8 f7 f6 f5 f4 f3 f2 f1 f0
theorem q_127v_16 {n0 n1 n2 n3 n4 n5 n6 n7 n8 n9 n10 n11 n12 n13 n14 n15 n16 n17 n18 n19 n20 n21 n22 n23 : Int} {H0 H1 H2 H3 H4 H5 : gH} (f0 : n0 ≤ 2147483647) (f1 : (-2147483648) ≤ n0) (f2 : n1 ≤ 2147483647) (f3 : (-2147483648) ≤ n1) (f4 : n2 = 31) (f5 : hWt T0 H0 ∧ preb_127v n2 n3 n1 n0 H0) (f6 : n4 ≤ 2147483647) (f7 : (-2147483648) ≤ n4) (f8 : (hLe T0 H0 H1 ∧ hFr s_199vk692.2.2.2.2 H0 H1 ∧ ((0 : Int) = 0 → H1.length = H0.length) ∧ hWt T0 H1) ∧ postb_199vk692 n4 n3 n1 H0 H1) (f9 : n5 = 9) (f10 : n4 ≠ n5) (f11 : n6 = 10) (f12 : n4 ≠ n6) (f13 : n7 = 13) (f14 : n4 ≠ n7) (f15 : n8 = 32) (f16 : n4 ≠ n8) (f17 : n9 = 97) (f18 : n4 < n9) (f19 : n10 = 48) (f20 : n4 < n10) (f21 : n11 = 1) (f22 : n12 = w32 (n1 + n11)) (f23 : n12 < n0) (f24 : n13 = 1) (f25 : n14 = w32 (n1 + n13)) (f26 : n15 ≤ 2147483647) (f27 : (-2147483648) ≤ n15) (f28 : (hLe T0 H1 H2 ∧ hFr s_199vk692.2.2.2.2 H1 H2 ∧ ((0 : Int) = 0 → H2.length = H1.length) ∧ hWt T0 H2) ∧ postb_199vk692 n15 n3 n14 H1 H2) (f29 : n16 = 61) (f30 : n15 ≠ n16) (f31 : n17 = 0) (f32 : n17 ≠ 0) (f33 : n18 ≤ 2147483647) (f34 : (-2147483648) ≤ n18) (f35 : (hLe T0 H2 H3 ∧ hFr s_131v.2.2.2.2 H2 H3 ∧ ((0 : Int) = 0 → H3.length = H2.length) ∧ hWt T0 H3) ∧ postb_131v n18 n4 H2 H3) (f36 : n19 = 1) (f37 : n18 = n19) (f38 : n20 ≤ 2147483647) (f39 : (-2147483648) ≤ n20) (f40 : (hLe T0 H3 H4 ∧ hFr s_132v.2.2.2.2 H3 H4 ∧ ((0 : Int) = 0 → H4.length = H3.length) ∧ hWt T0 H4) ∧ postb_132v n20 n4 H3 H4) (f41 : n21 = 0) (f42 : (hLe T0 H4 H5 ∧ hFr s_126v.2.2.2.2 H4 H5 ∧ ((0 : Int) = 0 → H5.length = H4.length) ∧ hWt T0 H5) ∧ postb_126v n2 n20 n1 n21 H4 H5) (f43 : n22 = 1) (f44 : n23 = w32 (n1 + n22)) : postb_127v n23 n2 n3 n1 n0 H0 H5 := by
  have pz := f5.2
  unfold preb_127v at pz
  obtain ⟨ks, tp, wd, b0, b1, b2, b3, c0, c1⟩ := pz
  have et : ((n1).toNat : Int) = n1 := Int.toNat_of_nonneg b1
  have sm0 : SMT H0 H0 := SMT_rfl
  have wq22 := f22
  unfold w32 at wq22
  have wq25 := f25
  unfold w32 at wq25
  have wq44 := f44
  unfold w32 at wq44
  have qa0 := f8.2
  unfold postb_199vk692 at qa0
  have a0 := at8 sm0 tp qa0 (by omega) (by omega) (by omega)
  have sm1 := SMT_trans sm0 (SMT_fr f8.1.2.1 (by decide +kernel))
  have ks_0 := KS5_le f8.1.1 ks
  have tp_0 := TP_le f8.1.1 tp
  have wd_0 := WDS_fr f8.1.1 f8.1.2.1 (by decide +kernel) wd
  have qa1 := f28.2
  unfold postb_199vk692 at qa1
  have a1 := at8 sm1 tp_0 qa1 (by omega) (by omega) (by omega)
  rw [show (n14).toNat = (n1).toNat + 1 by omega] at a1
  have sm2 := SMT_trans sm1 (SMT_fr f28.1.2.1 (by decide +kernel))
  have ks_1 := KS5_le f28.1.1 ks_0
  have tp_1 := TP_le f28.1.1 tp_0
  have wd_1 := WDS_fr f28.1.1 f28.1.2.1 (by decide +kernel) wd_0
  have pk := f35.2
  unfold postb_131v at pk
  have sm3 := SMT_trans sm2 (SMT_fr f35.1.2.1 (by decide +kernel))
  have ks_2 := KS5_le f35.1.1 ks_1
  have tp_2 := TP_le f35.1.1 tp_1
  have wd_2 := WDS_fr f35.1.1 f35.1.2.1 (by decide +kernel) wd_1
  have sk := f40.2
  unfold postb_132v at sk
  have sm4 := SMT_trans sm3 (SMT_fr f40.1.2.1 (by decide +kernel))
  have ks_3 := KS5_le f40.1.1 ks_2
  have tp_3 := TP_le f40.1.1 tp_2
  have wd_3 := WDS_fr f40.1.1 f40.1.2.1 (by decide +kernel) wd_2
  rw [a0] at pk
  rw [a0] at sk
  unfold postb_127v ONE
  have lt := f42.2
  unfold postb_126v at lt
  have nt := NTp_from sm4 lt.1
  rw [f41] at nt
  first
  | exact absurd rfl (by omega)
  | (rw [sk] at nt
     exact ⟨.inr (.inr (.inr (.inr ⟨by omega, by omega, by omega, by omega, by omega, nt⟩))), lt.2⟩)
theorem c_127v_s_16 : vOkm T0 (eP e_127v L_127v A_127v mu_127v none) 4 ([(1, [23, 2, 22], [], 0), (0, [22], [], 1), (1126, [0, 20, 2, 21], [4, 5], 0), (0, [21], [], 0), (1132, [20, 4], [3, 4], 0), (90, [20], [], -2147483648), (91, [20], [], 2147483647), (40, [18, 19], [], 0), (0, [19], [], 1), (1131, [18, 4], [2, 3], 0), (90, [18], [], -2147483648), (91, [18], [], 2147483647), (31, [17], [], 0), (0, [17], [], 0), (41, [15, 16], [], 0), (0, [16], [], 61), (1199, [15, 1, 14], [1, 2], 0), (90, [15], [], -2147483648), (91, [15], [], 2147483647), (1, [14, 2, 13], [], 0), (0, [13], [], 1), (42, [12, 3], [], 0), (1, [12, 2, 11], [], 0), (0, [11], [], 1), (42, [4, 10], [], 0), (0, [10], [], 48), (42, [4, 9], [], 0), (0, [9], [], 97), (41, [4, 8], [], 0), (0, [8], [], 32), (41, [4, 7], [], 0), (0, [7], [], 13), (41, [4, 6], [], 0), (0, [6], [], 10), (41, [4, 5], [], 0), (0, [5], [], 9), (1199, [4, 1, 2], [0, 1], 0), (90, [4], [], -2147483648), (91, [4], [], 2147483647), (6000, [0, 1, 2, 3], [0], 0), (0, [0], [], 31), (90, [2], [], -2147483648), (91, [2], [], 2147483647), (90, [3], [], -2147483648), (91, [3], [], 2147483647)], (3000, [23], [5], 157)) := vOk_in fun ρ η h => by
  obtain ⟨f0, f1, f2, f3, f4, f5, f6, f7, f8, f9, f10, f11, f12, f13, f14, f15, f16, f17, f18, f19, f20, f21, f22, f23, f24, f25, f26, f27, f28, f29, f30, f31, f32, f33, f34, f35, f36, f37, f38, f39, f40, f41, f42, f43, f44, _⟩ := h
  exact q_127v_16 (n0 := ρ 3) (n1 := ρ 2) (n2 := ρ 0) (n3 := ρ 1) (n4 := ρ 4) (n5 := ρ 5) (n6 := ρ 6) (n7 := ρ 7) (n8 := ρ 8) (n9 := ρ 9) (n10 := ρ 10) (n11 := ρ 11) (n12 := ρ 12) (n13 := ρ 13) (n14 := ρ 14) (n15 := ρ 15) (n16 := ρ 16) (n17 := ρ 17) (n18 := ρ 18) (n19 := ρ 19) (n20 := ρ 20) (n21 := ρ 21) (n22 := ρ 22) (n23 := ρ 23) (H0 := η 0) (H1 := η 1) (H2 := η 2) (H3 := η 3) (H4 := η 4) (H5 := η 5) f44 f43 f42 f41 f40 f39 f38 f37 f36 f35 f34 f33 f32 f31 f30 f29 f28 f27 f26 f25 f24 f23 f22 f21 f20 f19 f18 f17 f16 f15 f14 f13 f12 f11 f10 f9 f8 f7 f6 f5 f4 f3 f2 f1 f0
theorem q_127v_17 {n0 n1 n2 n3 n4 n5 n6 n7 n8 n9 n10 n11 n12 n13 n14 n15 n16 n17 n18 n19 n20 : Int} {H0 H1 H2 H3 : gH} (f0 : n0 ≤ 2147483647) (f1 : (-2147483648) ≤ n0) (f2 : n1 ≤ 2147483647) (f3 : (-2147483648) ≤ n1) (f4 : n2 = 31) (f5 : hWt T0 H0 ∧ preb_127v n2 n3 n1 n0 H0) (f6 : n4 ≤ 2147483647) (f7 : (-2147483648) ≤ n4) (f8 : (hLe T0 H0 H1 ∧ hFr s_199vk692.2.2.2.2 H0 H1 ∧ ((0 : Int) = 0 → H1.length = H0.length) ∧ hWt T0 H1) ∧ postb_199vk692 n4 n3 n1 H0 H1) (f9 : n5 = 9) (f10 : n4 ≠ n5) (f11 : n6 = 10) (f12 : n4 ≠ n6) (f13 : n7 = 13) (f14 : n4 ≠ n7) (f15 : n8 = 32) (f16 : n4 ≠ n8) (f17 : n9 = 97) (f18 : n4 < n9) (f19 : n10 = 48) (f20 : n4 < n10) (f21 : n11 = 1) (f22 : n12 = w32 (n1 + n11)) (f23 : n12 < n0) (f24 : n13 = 1) (f25 : n14 = w32 (n1 + n13)) (f26 : n15 ≤ 2147483647) (f27 : (-2147483648) ≤ n15) (f28 : (hLe T0 H1 H2 ∧ hFr s_199vk692.2.2.2.2 H1 H2 ∧ ((0 : Int) = 0 → H2.length = H1.length) ∧ hWt T0 H2) ∧ postb_199vk692 n15 n3 n14 H1 H2) (f29 : n16 = 61) (f30 : n15 ≠ n16) (f31 : n17 = 0) (f32 : n17 ≠ 0) (f33 : n18 ≤ 2147483647) (f34 : (-2147483648) ≤ n18) (f35 : (hLe T0 H2 H3 ∧ hFr s_131v.2.2.2.2 H2 H3 ∧ ((0 : Int) = 0 → H3.length = H2.length) ∧ hWt T0 H3) ∧ postb_131v n18 n4 H2 H3) (f36 : n19 = 1) (f37 : n18 ≠ n19) (f38 : n20 = 0) : preb_126v n2 n18 n1 n20 H3 := by
  have pz := f5.2
  unfold preb_127v at pz
  obtain ⟨ks, tp, wd, b0, b1, b2, b3, c0, c1⟩ := pz
  have et : ((n1).toNat : Int) = n1 := Int.toNat_of_nonneg b1
  have sm0 : SMT H0 H0 := SMT_rfl
  have wq22 := f22
  unfold w32 at wq22
  have wq25 := f25
  unfold w32 at wq25
  have qa0 := f8.2
  unfold postb_199vk692 at qa0
  have a0 := at8 sm0 tp qa0 (by omega) (by omega) (by omega)
  have sm1 := SMT_trans sm0 (SMT_fr f8.1.2.1 (by decide +kernel))
  have ks_0 := KS5_le f8.1.1 ks
  have tp_0 := TP_le f8.1.1 tp
  have wd_0 := WDS_fr f8.1.1 f8.1.2.1 (by decide +kernel) wd
  have qa1 := f28.2
  unfold postb_199vk692 at qa1
  have a1 := at8 sm1 tp_0 qa1 (by omega) (by omega) (by omega)
  rw [show (n14).toNat = (n1).toNat + 1 by omega] at a1
  have sm2 := SMT_trans sm1 (SMT_fr f28.1.2.1 (by decide +kernel))
  have ks_1 := KS5_le f28.1.1 ks_0
  have tp_1 := TP_le f28.1.1 tp_0
  have wd_1 := WDS_fr f28.1.1 f28.1.2.1 (by decide +kernel) wd_0
  have pk := f35.2
  unfold postb_131v at pk
  have sm3 := SMT_trans sm2 (SMT_fr f35.1.2.1 (by decide +kernel))
  have ks_2 := KS5_le f35.1.1 ks_1
  have tp_2 := TP_le f35.1.1 tp_1
  have wd_2 := WDS_fr f35.1.1 f35.1.2.1 (by decide +kernel) wd_1
  rw [a0] at pk
  unfold preb_126v
  exact ⟨ks_2, by rw [sm3.1]; exact c0, by rw [sm3.1]; exact c1⟩
theorem c_127v_s_17 : vOkm T0 (eP e_127v L_127v A_127v mu_127v none) 4 ([(0, [20], [], 0), (41, [18, 19], [], 0), (0, [19], [], 1), (1131, [18, 4], [2, 3], 0), (90, [18], [], -2147483648), (91, [18], [], 2147483647), (31, [17], [], 0), (0, [17], [], 0), (41, [15, 16], [], 0), (0, [16], [], 61), (1199, [15, 1, 14], [1, 2], 0), (90, [15], [], -2147483648), (91, [15], [], 2147483647), (1, [14, 2, 13], [], 0), (0, [13], [], 1), (42, [12, 3], [], 0), (1, [12, 2, 11], [], 0), (0, [11], [], 1), (42, [4, 10], [], 0), (0, [10], [], 48), (42, [4, 9], [], 0), (0, [9], [], 97), (41, [4, 8], [], 0), (0, [8], [], 32), (41, [4, 7], [], 0), (0, [7], [], 13), (41, [4, 6], [], 0), (0, [6], [], 10), (41, [4, 5], [], 0), (0, [5], [], 9), (1199, [4, 1, 2], [0, 1], 0), (90, [4], [], -2147483648), (91, [4], [], 2147483647), (6000, [0, 1, 2, 3], [0], 0), (0, [0], [], 31), (90, [2], [], -2147483648), (91, [2], [], 2147483647), (90, [3], [], -2147483648), (91, [3], [], 2147483647)], (2126, [0, 18, 2, 20], [3], 0)) := vOk_in fun ρ η h => by
  obtain ⟨f0, f1, f2, f3, f4, f5, f6, f7, f8, f9, f10, f11, f12, f13, f14, f15, f16, f17, f18, f19, f20, f21, f22, f23, f24, f25, f26, f27, f28, f29, f30, f31, f32, f33, f34, f35, f36, f37, f38, _⟩ := h
  exact q_127v_17 (n0 := ρ 3) (n1 := ρ 2) (n2 := ρ 0) (n3 := ρ 1) (n4 := ρ 4) (n5 := ρ 5) (n6 := ρ 6) (n7 := ρ 7) (n8 := ρ 8) (n9 := ρ 9) (n10 := ρ 10) (n11 := ρ 11) (n12 := ρ 12) (n13 := ρ 13) (n14 := ρ 14) (n15 := ρ 15) (n16 := ρ 16) (n17 := ρ 17) (n18 := ρ 18) (n19 := ρ 19) (n20 := ρ 20) (H0 := η 0) (H1 := η 1) (H2 := η 2) (H3 := η 3) f38 f37 f36 f35 f34 f33 f32 f31 f30 f29 f28 f27 f26 f25 f24 f23 f22 f21 f20 f19 f18 f17 f16 f15 f14 f13 f12 f11 f10 f9 f8 f7 f6 f5 f4 f3 f2 f1 f0
theorem q_127v_18 {n0 n1 n2 n3 n4 n5 n6 n7 n8 n9 n10 n11 n12 n13 n14 n15 n16 n17 n18 n19 n20 n21 n22 : Int} {H0 H1 H2 H3 H4 : gH} (f0 : n0 ≤ 2147483647) (f1 : (-2147483648) ≤ n0) (f2 : n1 ≤ 2147483647) (f3 : (-2147483648) ≤ n1) (f4 : n2 = 31) (f5 : hWt T0 H0 ∧ preb_127v n2 n3 n1 n0 H0) (f6 : n4 ≤ 2147483647) (f7 : (-2147483648) ≤ n4) (f8 : (hLe T0 H0 H1 ∧ hFr s_199vk692.2.2.2.2 H0 H1 ∧ ((0 : Int) = 0 → H1.length = H0.length) ∧ hWt T0 H1) ∧ postb_199vk692 n4 n3 n1 H0 H1) (f9 : n5 = 9) (f10 : n4 ≠ n5) (f11 : n6 = 10) (f12 : n4 ≠ n6) (f13 : n7 = 13) (f14 : n4 ≠ n7) (f15 : n8 = 32) (f16 : n4 ≠ n8) (f17 : n9 = 97) (f18 : n4 < n9) (f19 : n10 = 48) (f20 : n4 < n10) (f21 : n11 = 1) (f22 : n12 = w32 (n1 + n11)) (f23 : n12 < n0) (f24 : n13 = 1) (f25 : n14 = w32 (n1 + n13)) (f26 : n15 ≤ 2147483647) (f27 : (-2147483648) ≤ n15) (f28 : (hLe T0 H1 H2 ∧ hFr s_199vk692.2.2.2.2 H1 H2 ∧ ((0 : Int) = 0 → H2.length = H1.length) ∧ hWt T0 H2) ∧ postb_199vk692 n15 n3 n14 H1 H2) (f29 : n16 = 61) (f30 : n15 ≠ n16) (f31 : n17 = 0) (f32 : n17 ≠ 0) (f33 : n18 ≤ 2147483647) (f34 : (-2147483648) ≤ n18) (f35 : (hLe T0 H2 H3 ∧ hFr s_131v.2.2.2.2 H2 H3 ∧ ((0 : Int) = 0 → H3.length = H2.length) ∧ hWt T0 H3) ∧ postb_131v n18 n4 H2 H3) (f36 : n19 = 1) (f37 : n18 ≠ n19) (f38 : n20 = 0) (f39 : (hLe T0 H3 H4 ∧ hFr s_126v.2.2.2.2 H3 H4 ∧ ((0 : Int) = 0 → H4.length = H3.length) ∧ hWt T0 H4) ∧ postb_126v n2 n18 n1 n20 H3 H4) (f40 : n21 = 2) (f41 : n22 = w32 (n1 + n21)) : postb_127v n22 n2 n3 n1 n0 H0 H4 := by
  have pz := f5.2
  unfold preb_127v at pz
  obtain ⟨ks, tp, wd, b0, b1, b2, b3, c0, c1⟩ := pz
  have et : ((n1).toNat : Int) = n1 := Int.toNat_of_nonneg b1
  have sm0 : SMT H0 H0 := SMT_rfl
  have wq22 := f22
  unfold w32 at wq22
  have wq25 := f25
  unfold w32 at wq25
  have wq41 := f41
  unfold w32 at wq41
  have qa0 := f8.2
  unfold postb_199vk692 at qa0
  have a0 := at8 sm0 tp qa0 (by omega) (by omega) (by omega)
  have sm1 := SMT_trans sm0 (SMT_fr f8.1.2.1 (by decide +kernel))
  have ks_0 := KS5_le f8.1.1 ks
  have tp_0 := TP_le f8.1.1 tp
  have wd_0 := WDS_fr f8.1.1 f8.1.2.1 (by decide +kernel) wd
  have qa1 := f28.2
  unfold postb_199vk692 at qa1
  have a1 := at8 sm1 tp_0 qa1 (by omega) (by omega) (by omega)
  rw [show (n14).toNat = (n1).toNat + 1 by omega] at a1
  have sm2 := SMT_trans sm1 (SMT_fr f28.1.2.1 (by decide +kernel))
  have ks_1 := KS5_le f28.1.1 ks_0
  have tp_1 := TP_le f28.1.1 tp_0
  have wd_1 := WDS_fr f28.1.1 f28.1.2.1 (by decide +kernel) wd_0
  have pk := f35.2
  unfold postb_131v at pk
  have sm3 := SMT_trans sm2 (SMT_fr f35.1.2.1 (by decide +kernel))
  have ks_2 := KS5_le f35.1.1 ks_1
  have tp_2 := TP_le f35.1.1 tp_1
  have wd_2 := WDS_fr f35.1.1 f35.1.2.1 (by decide +kernel) wd_1
  rw [a0] at pk
  unfold postb_127v ONE
  have lt := f39.2
  unfold postb_126v at lt
  have nt := NTp_from sm3 lt.1
  rw [f38] at nt
  first
  | (exfalso; omega)
  | (rw [pk] at nt
     exact ⟨.inr (.inr (.inr (.inl ⟨by omega, by omega, by omega, ⟨by omega, by omega, by omega⟩, by omega, nt⟩))), lt.2⟩)
theorem c_127v_s_18 : vOkm T0 (eP e_127v L_127v A_127v mu_127v none) 4 ([(1, [22, 2, 21], [], 0), (0, [21], [], 2), (1126, [0, 18, 2, 20], [3, 4], 0), (0, [20], [], 0), (41, [18, 19], [], 0), (0, [19], [], 1), (1131, [18, 4], [2, 3], 0), (90, [18], [], -2147483648), (91, [18], [], 2147483647), (31, [17], [], 0), (0, [17], [], 0), (41, [15, 16], [], 0), (0, [16], [], 61), (1199, [15, 1, 14], [1, 2], 0), (90, [15], [], -2147483648), (91, [15], [], 2147483647), (1, [14, 2, 13], [], 0), (0, [13], [], 1), (42, [12, 3], [], 0), (1, [12, 2, 11], [], 0), (0, [11], [], 1), (42, [4, 10], [], 0), (0, [10], [], 48), (42, [4, 9], [], 0), (0, [9], [], 97), (41, [4, 8], [], 0), (0, [8], [], 32), (41, [4, 7], [], 0), (0, [7], [], 13), (41, [4, 6], [], 0), (0, [6], [], 10), (41, [4, 5], [], 0), (0, [5], [], 9), (1199, [4, 1, 2], [0, 1], 0), (90, [4], [], -2147483648), (91, [4], [], 2147483647), (6000, [0, 1, 2, 3], [0], 0), (0, [0], [], 31), (90, [2], [], -2147483648), (91, [2], [], 2147483647), (90, [3], [], -2147483648), (91, [3], [], 2147483647)], (3000, [22], [4], 142)) := vOk_in fun ρ η h => by
  obtain ⟨f0, f1, f2, f3, f4, f5, f6, f7, f8, f9, f10, f11, f12, f13, f14, f15, f16, f17, f18, f19, f20, f21, f22, f23, f24, f25, f26, f27, f28, f29, f30, f31, f32, f33, f34, f35, f36, f37, f38, f39, f40, f41, _⟩ := h
  exact q_127v_18 (n0 := ρ 3) (n1 := ρ 2) (n2 := ρ 0) (n3 := ρ 1) (n4 := ρ 4) (n5 := ρ 5) (n6 := ρ 6) (n7 := ρ 7) (n8 := ρ 8) (n9 := ρ 9) (n10 := ρ 10) (n11 := ρ 11) (n12 := ρ 12) (n13 := ρ 13) (n14 := ρ 14) (n15 := ρ 15) (n16 := ρ 16) (n17 := ρ 17) (n18 := ρ 18) (n19 := ρ 19) (n20 := ρ 20) (n21 := ρ 21) (n22 := ρ 22) (H0 := η 0) (H1 := η 1) (H2 := η 2) (H3 := η 3) (H4 := η 4) f41 f40 f39 f38 f37 f36 f35 f34 f33 f32 f31 f30 f29 f28 f27 f26 f25 f24 f23 f22 f21 f20 f19 f18 f17 f16 f15 f14 f13 f12 f11 f10 f9 f8 f7 f6 f5 f4 f3 f2 f1 f0
theorem q_127v_19 {n0 n1 n2 n3 n4 n5 n6 n7 n8 n9 n10 n11 n12 n13 n14 n15 n16 n17 n18 n19 n20 n21 : Int} {H0 H1 H2 H3 : gH} (f0 : n0 ≤ 2147483647) (f1 : (-2147483648) ≤ n0) (f2 : n1 ≤ 2147483647) (f3 : (-2147483648) ≤ n1) (f4 : n2 = 31) (f5 : hWt T0 H0 ∧ preb_127v n2 n3 n1 n0 H0) (f6 : n4 ≤ 2147483647) (f7 : (-2147483648) ≤ n4) (f8 : (hLe T0 H0 H1 ∧ hFr s_199vk692.2.2.2.2 H0 H1 ∧ ((0 : Int) = 0 → H1.length = H0.length) ∧ hWt T0 H1) ∧ postb_199vk692 n4 n3 n1 H0 H1) (f9 : n5 = 9) (f10 : n4 ≠ n5) (f11 : n6 = 10) (f12 : n4 ≠ n6) (f13 : n7 = 13) (f14 : n4 ≠ n7) (f15 : n8 = 32) (f16 : n4 ≠ n8) (f17 : n9 = 97) (f18 : n4 < n9) (f19 : n10 = 48) (f20 : n4 < n10) (f21 : n11 = 1) (f22 : n12 = w32 (n1 + n11)) (f23 : n12 < n0) (f24 : n13 = 1) (f25 : n14 = w32 (n1 + n13)) (f26 : n15 ≤ 2147483647) (f27 : (-2147483648) ≤ n15) (f28 : (hLe T0 H1 H2 ∧ hFr s_199vk692.2.2.2.2 H1 H2 ∧ ((0 : Int) = 0 → H2.length = H1.length) ∧ hWt T0 H2) ∧ postb_199vk692 n15 n3 n14 H1 H2) (f29 : n16 = 61) (f30 : n15 = n16) (f31 : n17 = 1) (f32 : n17 = 0) (f33 : n18 = 1) (f34 : n19 = 1) (f35 : n18 = n19) (f36 : n20 ≤ 2147483647) (f37 : (-2147483648) ≤ n20) (f38 : (hLe T0 H2 H3 ∧ hFr s_132v.2.2.2.2 H2 H3 ∧ ((0 : Int) = 0 → H3.length = H2.length) ∧ hWt T0 H3) ∧ postb_132v n20 n4 H2 H3) (f39 : n21 = 0) : preb_126v n2 n20 n1 n21 H3 := by
  have pz := f5.2
  unfold preb_127v at pz
  obtain ⟨ks, tp, wd, b0, b1, b2, b3, c0, c1⟩ := pz
  have et : ((n1).toNat : Int) = n1 := Int.toNat_of_nonneg b1
  have sm0 : SMT H0 H0 := SMT_rfl
  have wq22 := f22
  unfold w32 at wq22
  have wq25 := f25
  unfold w32 at wq25
  have qa0 := f8.2
  unfold postb_199vk692 at qa0
  have a0 := at8 sm0 tp qa0 (by omega) (by omega) (by omega)
  have sm1 := SMT_trans sm0 (SMT_fr f8.1.2.1 (by decide +kernel))
  have ks_0 := KS5_le f8.1.1 ks
  have tp_0 := TP_le f8.1.1 tp
  have wd_0 := WDS_fr f8.1.1 f8.1.2.1 (by decide +kernel) wd
  have qa1 := f28.2
  unfold postb_199vk692 at qa1
  have a1 := at8 sm1 tp_0 qa1 (by omega) (by omega) (by omega)
  rw [show (n14).toNat = (n1).toNat + 1 by omega] at a1
  have sm2 := SMT_trans sm1 (SMT_fr f28.1.2.1 (by decide +kernel))
  have ks_1 := KS5_le f28.1.1 ks_0
  have tp_1 := TP_le f28.1.1 tp_0
  have wd_1 := WDS_fr f28.1.1 f28.1.2.1 (by decide +kernel) wd_0
  have sk := f38.2
  unfold postb_132v at sk
  have sm3 := SMT_trans sm2 (SMT_fr f38.1.2.1 (by decide +kernel))
  have ks_2 := KS5_le f38.1.1 ks_1
  have tp_2 := TP_le f38.1.1 tp_1
  have wd_2 := WDS_fr f38.1.1 f38.1.2.1 (by decide +kernel) wd_1
  rw [a0] at sk
  unfold preb_126v
  exact ⟨ks_2, by rw [sm3.1]; exact c0, by rw [sm3.1]; exact c1⟩
theorem c_127v_s_19 : vOkm T0 (eP e_127v L_127v A_127v mu_127v none) 4 ([(0, [21], [], 0), (1132, [20, 4], [2, 3], 0), (90, [20], [], -2147483648), (91, [20], [], 2147483647), (40, [18, 19], [], 0), (0, [19], [], 1), (0, [18], [], 1), (30, [17], [], 0), (0, [17], [], 1), (40, [15, 16], [], 0), (0, [16], [], 61), (1199, [15, 1, 14], [1, 2], 0), (90, [15], [], -2147483648), (91, [15], [], 2147483647), (1, [14, 2, 13], [], 0), (0, [13], [], 1), (42, [12, 3], [], 0), (1, [12, 2, 11], [], 0), (0, [11], [], 1), (42, [4, 10], [], 0), (0, [10], [], 48), (42, [4, 9], [], 0), (0, [9], [], 97), (41, [4, 8], [], 0), (0, [8], [], 32), (41, [4, 7], [], 0), (0, [7], [], 13), (41, [4, 6], [], 0), (0, [6], [], 10), (41, [4, 5], [], 0), (0, [5], [], 9), (1199, [4, 1, 2], [0, 1], 0), (90, [4], [], -2147483648), (91, [4], [], 2147483647), (6000, [0, 1, 2, 3], [0], 0), (0, [0], [], 31), (90, [2], [], -2147483648), (91, [2], [], 2147483647), (90, [3], [], -2147483648), (91, [3], [], 2147483647)], (2126, [0, 20, 2, 21], [3], 0)) := vOk_in fun ρ η h => by
  obtain ⟨f0, f1, f2, f3, f4, f5, f6, f7, f8, f9, f10, f11, f12, f13, f14, f15, f16, f17, f18, f19, f20, f21, f22, f23, f24, f25, f26, f27, f28, f29, f30, f31, f32, f33, f34, f35, f36, f37, f38, f39, _⟩ := h
  exact q_127v_19 (n0 := ρ 3) (n1 := ρ 2) (n2 := ρ 0) (n3 := ρ 1) (n4 := ρ 4) (n5 := ρ 5) (n6 := ρ 6) (n7 := ρ 7) (n8 := ρ 8) (n9 := ρ 9) (n10 := ρ 10) (n11 := ρ 11) (n12 := ρ 12) (n13 := ρ 13) (n14 := ρ 14) (n15 := ρ 15) (n16 := ρ 16) (n17 := ρ 17) (n18 := ρ 18) (n19 := ρ 19) (n20 := ρ 20) (n21 := ρ 21) (H0 := η 0) (H1 := η 1) (H2 := η 2) (H3 := η 3) f39 f38 f37 f36 f35 f34 f33 f32 f31 f30 f29 f28 f27 f26 f25 f24 f23 f22 f21 f20 f19 f18 f17 f16 f15 f14 f13 f12 f11 f10 f9 f8 f7 f6 f5 f4 f3 f2 f1 f0
theorem q_127v_20 {n0 n1 n2 n3 n4 n5 n6 n7 n8 n9 n10 n11 n12 n13 n14 n15 n16 n17 n18 n19 n20 n21 n22 n23 : Int} {H0 H1 H2 H3 H4 : gH} (f0 : n0 ≤ 2147483647) (f1 : (-2147483648) ≤ n0) (f2 : n1 ≤ 2147483647) (f3 : (-2147483648) ≤ n1) (f4 : n2 = 31) (f5 : hWt T0 H0 ∧ preb_127v n2 n3 n1 n0 H0) (f6 : n4 ≤ 2147483647) (f7 : (-2147483648) ≤ n4) (f8 : (hLe T0 H0 H1 ∧ hFr s_199vk692.2.2.2.2 H0 H1 ∧ ((0 : Int) = 0 → H1.length = H0.length) ∧ hWt T0 H1) ∧ postb_199vk692 n4 n3 n1 H0 H1) (f9 : n5 = 9) (f10 : n4 ≠ n5) (f11 : n6 = 10) (f12 : n4 ≠ n6) (f13 : n7 = 13) (f14 : n4 ≠ n7) (f15 : n8 = 32) (f16 : n4 ≠ n8) (f17 : n9 = 97) (f18 : n4 < n9) (f19 : n10 = 48) (f20 : n4 < n10) (f21 : n11 = 1) (f22 : n12 = w32 (n1 + n11)) (f23 : n12 < n0) (f24 : n13 = 1) (f25 : n14 = w32 (n1 + n13)) (f26 : n15 ≤ 2147483647) (f27 : (-2147483648) ≤ n15) (f28 : (hLe T0 H1 H2 ∧ hFr s_199vk692.2.2.2.2 H1 H2 ∧ ((0 : Int) = 0 → H2.length = H1.length) ∧ hWt T0 H2) ∧ postb_199vk692 n15 n3 n14 H1 H2) (f29 : n16 = 61) (f30 : n15 = n16) (f31 : n17 = 1) (f32 : n17 = 0) (f33 : n18 = 1) (f34 : n19 = 1) (f35 : n18 = n19) (f36 : n20 ≤ 2147483647) (f37 : (-2147483648) ≤ n20) (f38 : (hLe T0 H2 H3 ∧ hFr s_132v.2.2.2.2 H2 H3 ∧ ((0 : Int) = 0 → H3.length = H2.length) ∧ hWt T0 H3) ∧ postb_132v n20 n4 H2 H3) (f39 : n21 = 0) (f40 : (hLe T0 H3 H4 ∧ hFr s_126v.2.2.2.2 H3 H4 ∧ ((0 : Int) = 0 → H4.length = H3.length) ∧ hWt T0 H4) ∧ postb_126v n2 n20 n1 n21 H3 H4) (f41 : n22 = 1) (f42 : n23 = w32 (n1 + n22)) : postb_127v n23 n2 n3 n1 n0 H0 H4 := by
  have pz := f5.2
  unfold preb_127v at pz
  obtain ⟨ks, tp, wd, b0, b1, b2, b3, c0, c1⟩ := pz
  have et : ((n1).toNat : Int) = n1 := Int.toNat_of_nonneg b1
  have sm0 : SMT H0 H0 := SMT_rfl
  have wq22 := f22
  unfold w32 at wq22
  have wq25 := f25
  unfold w32 at wq25
  have wq42 := f42
  unfold w32 at wq42
  have qa0 := f8.2
  unfold postb_199vk692 at qa0
  have a0 := at8 sm0 tp qa0 (by omega) (by omega) (by omega)
  have sm1 := SMT_trans sm0 (SMT_fr f8.1.2.1 (by decide +kernel))
  have ks_0 := KS5_le f8.1.1 ks
  have tp_0 := TP_le f8.1.1 tp
  have wd_0 := WDS_fr f8.1.1 f8.1.2.1 (by decide +kernel) wd
  have qa1 := f28.2
  unfold postb_199vk692 at qa1
  have a1 := at8 sm1 tp_0 qa1 (by omega) (by omega) (by omega)
  rw [show (n14).toNat = (n1).toNat + 1 by omega] at a1
  have sm2 := SMT_trans sm1 (SMT_fr f28.1.2.1 (by decide +kernel))
  have ks_1 := KS5_le f28.1.1 ks_0
  have tp_1 := TP_le f28.1.1 tp_0
  have wd_1 := WDS_fr f28.1.1 f28.1.2.1 (by decide +kernel) wd_0
  have sk := f38.2
  unfold postb_132v at sk
  have sm3 := SMT_trans sm2 (SMT_fr f38.1.2.1 (by decide +kernel))
  have ks_2 := KS5_le f38.1.1 ks_1
  have tp_2 := TP_le f38.1.1 tp_1
  have wd_2 := WDS_fr f38.1.1 f38.1.2.1 (by decide +kernel) wd_1
  rw [a0] at sk
  unfold postb_127v ONE
  have lt := f40.2
  unfold postb_126v at lt
  have nt := NTp_from sm3 lt.1
  rw [f39] at nt
  first
  | exact absurd rfl (by omega)
  | (rw [sk] at nt
     exact ⟨.inr (.inr (.inr (.inr ⟨by omega, by omega, by omega, by omega, by omega, nt⟩))), lt.2⟩)
theorem c_127v_s_20 : vOkm T0 (eP e_127v L_127v A_127v mu_127v none) 4 ([(1, [23, 2, 22], [], 0), (0, [22], [], 1), (1126, [0, 20, 2, 21], [3, 4], 0), (0, [21], [], 0), (1132, [20, 4], [2, 3], 0), (90, [20], [], -2147483648), (91, [20], [], 2147483647), (40, [18, 19], [], 0), (0, [19], [], 1), (0, [18], [], 1), (30, [17], [], 0), (0, [17], [], 1), (40, [15, 16], [], 0), (0, [16], [], 61), (1199, [15, 1, 14], [1, 2], 0), (90, [15], [], -2147483648), (91, [15], [], 2147483647), (1, [14, 2, 13], [], 0), (0, [13], [], 1), (42, [12, 3], [], 0), (1, [12, 2, 11], [], 0), (0, [11], [], 1), (42, [4, 10], [], 0), (0, [10], [], 48), (42, [4, 9], [], 0), (0, [9], [], 97), (41, [4, 8], [], 0), (0, [8], [], 32), (41, [4, 7], [], 0), (0, [7], [], 13), (41, [4, 6], [], 0), (0, [6], [], 10), (41, [4, 5], [], 0), (0, [5], [], 9), (1199, [4, 1, 2], [0, 1], 0), (90, [4], [], -2147483648), (91, [4], [], 2147483647), (6000, [0, 1, 2, 3], [0], 0), (0, [0], [], 31), (90, [2], [], -2147483648), (91, [2], [], 2147483647), (90, [3], [], -2147483648), (91, [3], [], 2147483647)], (3000, [23], [4], 157)) := vOk_in fun ρ η h => by
  obtain ⟨f0, f1, f2, f3, f4, f5, f6, f7, f8, f9, f10, f11, f12, f13, f14, f15, f16, f17, f18, f19, f20, f21, f22, f23, f24, f25, f26, f27, f28, f29, f30, f31, f32, f33, f34, f35, f36, f37, f38, f39, f40, f41, f42, _⟩ := h
  exact q_127v_20 (n0 := ρ 3) (n1 := ρ 2) (n2 := ρ 0) (n3 := ρ 1) (n4 := ρ 4) (n5 := ρ 5) (n6 := ρ 6) (n7 := ρ 7) (n8 := ρ 8) (n9 := ρ 9) (n10 := ρ 10) (n11 := ρ 11) (n12 := ρ 12) (n13 := ρ 13) (n14 := ρ 14) (n15 := ρ 15) (n16 := ρ 16) (n17 := ρ 17) (n18 := ρ 18) (n19 := ρ 19) (n20 := ρ 20) (n21 := ρ 21) (n22 := ρ 22) (n23 := ρ 23) (H0 := η 0) (H1 := η 1) (H2 := η 2) (H3 := η 3) (H4 := η 4) f42 f41 f40 f39 f38 f37 f36 f35 f34 f33 f32 f31 f30 f29 f28 f27 f26 f25 f24 f23 f22 f21 f20 f19 f18 f17 f16 f15 f14 f13 f12 f11 f10 f9 f8 f7 f6 f5 f4 f3 f2 f1 f0
theorem q_127v_21 {n0 n1 n2 n3 n4 n5 n6 n7 n8 n9 n10 n11 n12 n13 n14 n15 n16 n17 n18 n19 n20 : Int} {H0 H1 H2 : gH} (f0 : n0 ≤ 2147483647) (f1 : (-2147483648) ≤ n0) (f2 : n1 ≤ 2147483647) (f3 : (-2147483648) ≤ n1) (f4 : n2 = 31) (f5 : hWt T0 H0 ∧ preb_127v n2 n3 n1 n0 H0) (f6 : n4 ≤ 2147483647) (f7 : (-2147483648) ≤ n4) (f8 : (hLe T0 H0 H1 ∧ hFr s_199vk692.2.2.2.2 H0 H1 ∧ ((0 : Int) = 0 → H1.length = H0.length) ∧ hWt T0 H1) ∧ postb_199vk692 n4 n3 n1 H0 H1) (f9 : n5 = 9) (f10 : n4 ≠ n5) (f11 : n6 = 10) (f12 : n4 ≠ n6) (f13 : n7 = 13) (f14 : n4 ≠ n7) (f15 : n8 = 32) (f16 : n4 ≠ n8) (f17 : n9 = 97) (f18 : n4 < n9) (f19 : n10 = 48) (f20 : n4 < n10) (f21 : n11 = 1) (f22 : n12 = w32 (n1 + n11)) (f23 : n12 < n0) (f24 : n13 = 1) (f25 : n14 = w32 (n1 + n13)) (f26 : n15 ≤ 2147483647) (f27 : (-2147483648) ≤ n15) (f28 : (hLe T0 H1 H2 ∧ hFr s_199vk692.2.2.2.2 H1 H2 ∧ ((0 : Int) = 0 → H2.length = H1.length) ∧ hWt T0 H2) ∧ postb_199vk692 n15 n3 n14 H1 H2) (f29 : n16 = 61) (f30 : n15 = n16) (f31 : n17 = 1) (f32 : n17 = 0) (f33 : n18 = 1) (f34 : n19 = 1) (f35 : n18 ≠ n19) (f36 : n20 = 0) : preb_126v n2 n18 n1 n20 H2 := by
  have pz := f5.2
  unfold preb_127v at pz
  obtain ⟨ks, tp, wd, b0, b1, b2, b3, c0, c1⟩ := pz
  have et : ((n1).toNat : Int) = n1 := Int.toNat_of_nonneg b1
  have sm0 : SMT H0 H0 := SMT_rfl
  have wq22 := f22
  unfold w32 at wq22
  have wq25 := f25
  unfold w32 at wq25
  have qa0 := f8.2
  unfold postb_199vk692 at qa0
  have a0 := at8 sm0 tp qa0 (by omega) (by omega) (by omega)
  have sm1 := SMT_trans sm0 (SMT_fr f8.1.2.1 (by decide +kernel))
  have ks_0 := KS5_le f8.1.1 ks
  have tp_0 := TP_le f8.1.1 tp
  have wd_0 := WDS_fr f8.1.1 f8.1.2.1 (by decide +kernel) wd
  have qa1 := f28.2
  unfold postb_199vk692 at qa1
  have a1 := at8 sm1 tp_0 qa1 (by omega) (by omega) (by omega)
  rw [show (n14).toNat = (n1).toNat + 1 by omega] at a1
  have sm2 := SMT_trans sm1 (SMT_fr f28.1.2.1 (by decide +kernel))
  have ks_1 := KS5_le f28.1.1 ks_0
  have tp_1 := TP_le f28.1.1 tp_0
  have wd_1 := WDS_fr f28.1.1 f28.1.2.1 (by decide +kernel) wd_0
  unfold preb_126v
  exact ⟨ks_1, by rw [sm2.1]; exact c0, by rw [sm2.1]; exact c1⟩
theorem c_127v_s_21 : vOkm T0 (eP e_127v L_127v A_127v mu_127v none) 4 ([(0, [20], [], 0), (41, [18, 19], [], 0), (0, [19], [], 1), (0, [18], [], 1), (30, [17], [], 0), (0, [17], [], 1), (40, [15, 16], [], 0), (0, [16], [], 61), (1199, [15, 1, 14], [1, 2], 0), (90, [15], [], -2147483648), (91, [15], [], 2147483647), (1, [14, 2, 13], [], 0), (0, [13], [], 1), (42, [12, 3], [], 0), (1, [12, 2, 11], [], 0), (0, [11], [], 1), (42, [4, 10], [], 0), (0, [10], [], 48), (42, [4, 9], [], 0), (0, [9], [], 97), (41, [4, 8], [], 0), (0, [8], [], 32), (41, [4, 7], [], 0), (0, [7], [], 13), (41, [4, 6], [], 0), (0, [6], [], 10), (41, [4, 5], [], 0), (0, [5], [], 9), (1199, [4, 1, 2], [0, 1], 0), (90, [4], [], -2147483648), (91, [4], [], 2147483647), (6000, [0, 1, 2, 3], [0], 0), (0, [0], [], 31), (90, [2], [], -2147483648), (91, [2], [], 2147483647), (90, [3], [], -2147483648), (91, [3], [], 2147483647)], (2126, [0, 18, 2, 20], [2], 0)) := vOk_in fun ρ η h => by
  obtain ⟨f0, f1, f2, f3, f4, f5, f6, f7, f8, f9, f10, f11, f12, f13, f14, f15, f16, f17, f18, f19, f20, f21, f22, f23, f24, f25, f26, f27, f28, f29, f30, f31, f32, f33, f34, f35, f36, _⟩ := h
  exact q_127v_21 (n0 := ρ 3) (n1 := ρ 2) (n2 := ρ 0) (n3 := ρ 1) (n4 := ρ 4) (n5 := ρ 5) (n6 := ρ 6) (n7 := ρ 7) (n8 := ρ 8) (n9 := ρ 9) (n10 := ρ 10) (n11 := ρ 11) (n12 := ρ 12) (n13 := ρ 13) (n14 := ρ 14) (n15 := ρ 15) (n16 := ρ 16) (n17 := ρ 17) (n18 := ρ 18) (n19 := ρ 19) (n20 := ρ 20) (H0 := η 0) (H1 := η 1) (H2 := η 2) f36 f35 f34 f33 f32 f31 f30 f29 f28 f27 f26 f25 f24 f23 f22 f21 f20 f19 f18 f17 f16 f15 f14 f13 f12 f11 f10 f9 f8 f7 f6 f5 f4 f3 f2 f1 f0
theorem q_127v_22 {n0 n1 n2 n3 n4 n5 n6 n7 n8 n9 n10 n11 n12 n13 n14 n15 n16 n17 n18 n19 n20 n21 n22 : Int} {H0 H1 H2 H3 : gH} (f0 : n0 ≤ 2147483647) (f1 : (-2147483648) ≤ n0) (f2 : n1 ≤ 2147483647) (f3 : (-2147483648) ≤ n1) (f4 : n2 = 31) (f5 : hWt T0 H0 ∧ preb_127v n2 n3 n1 n0 H0) (f6 : n4 ≤ 2147483647) (f7 : (-2147483648) ≤ n4) (f8 : (hLe T0 H0 H1 ∧ hFr s_199vk692.2.2.2.2 H0 H1 ∧ ((0 : Int) = 0 → H1.length = H0.length) ∧ hWt T0 H1) ∧ postb_199vk692 n4 n3 n1 H0 H1) (f9 : n5 = 9) (f10 : n4 ≠ n5) (f11 : n6 = 10) (f12 : n4 ≠ n6) (f13 : n7 = 13) (f14 : n4 ≠ n7) (f15 : n8 = 32) (f16 : n4 ≠ n8) (f17 : n9 = 97) (f18 : n4 < n9) (f19 : n10 = 48) (f20 : n4 < n10) (f21 : n11 = 1) (f22 : n12 = w32 (n1 + n11)) (f23 : n12 < n0) (f24 : n13 = 1) (f25 : n14 = w32 (n1 + n13)) (f26 : n15 ≤ 2147483647) (f27 : (-2147483648) ≤ n15) (f28 : (hLe T0 H1 H2 ∧ hFr s_199vk692.2.2.2.2 H1 H2 ∧ ((0 : Int) = 0 → H2.length = H1.length) ∧ hWt T0 H2) ∧ postb_199vk692 n15 n3 n14 H1 H2) (f29 : n16 = 61) (f30 : n15 = n16) (f31 : n17 = 1) (f32 : n17 = 0) (f33 : n18 = 1) (f34 : n19 = 1) (f35 : n18 ≠ n19) (f36 : n20 = 0) (f37 : (hLe T0 H2 H3 ∧ hFr s_126v.2.2.2.2 H2 H3 ∧ ((0 : Int) = 0 → H3.length = H2.length) ∧ hWt T0 H3) ∧ postb_126v n2 n18 n1 n20 H2 H3) (f38 : n21 = 2) (f39 : n22 = w32 (n1 + n21)) : postb_127v n22 n2 n3 n1 n0 H0 H3 := by
  have pz := f5.2
  unfold preb_127v at pz
  obtain ⟨ks, tp, wd, b0, b1, b2, b3, c0, c1⟩ := pz
  have et : ((n1).toNat : Int) = n1 := Int.toNat_of_nonneg b1
  have sm0 : SMT H0 H0 := SMT_rfl
  have wq22 := f22
  unfold w32 at wq22
  have wq25 := f25
  unfold w32 at wq25
  have wq39 := f39
  unfold w32 at wq39
  have qa0 := f8.2
  unfold postb_199vk692 at qa0
  have a0 := at8 sm0 tp qa0 (by omega) (by omega) (by omega)
  have sm1 := SMT_trans sm0 (SMT_fr f8.1.2.1 (by decide +kernel))
  have ks_0 := KS5_le f8.1.1 ks
  have tp_0 := TP_le f8.1.1 tp
  have wd_0 := WDS_fr f8.1.1 f8.1.2.1 (by decide +kernel) wd
  have qa1 := f28.2
  unfold postb_199vk692 at qa1
  have a1 := at8 sm1 tp_0 qa1 (by omega) (by omega) (by omega)
  rw [show (n14).toNat = (n1).toNat + 1 by omega] at a1
  have sm2 := SMT_trans sm1 (SMT_fr f28.1.2.1 (by decide +kernel))
  have ks_1 := KS5_le f28.1.1 ks_0
  have tp_1 := TP_le f28.1.1 tp_0
  have wd_1 := WDS_fr f28.1.1 f28.1.2.1 (by decide +kernel) wd_0
  unfold postb_127v ONE
  have lt := f37.2
  unfold postb_126v at lt
  have nt := NTp_from sm2 lt.1
  rw [f36] at nt
  first
  | (exfalso; omega)
  | (rw [pk] at nt
     exact ⟨.inr (.inr (.inr (.inl ⟨by omega, by omega, by omega, ⟨by omega, by omega, by omega⟩, by omega, nt⟩))), lt.2⟩)
theorem c_127v_s_22 : vOkm T0 (eP e_127v L_127v A_127v mu_127v none) 4 ([(1, [22, 2, 21], [], 0), (0, [21], [], 2), (1126, [0, 18, 2, 20], [2, 3], 0), (0, [20], [], 0), (41, [18, 19], [], 0), (0, [19], [], 1), (0, [18], [], 1), (30, [17], [], 0), (0, [17], [], 1), (40, [15, 16], [], 0), (0, [16], [], 61), (1199, [15, 1, 14], [1, 2], 0), (90, [15], [], -2147483648), (91, [15], [], 2147483647), (1, [14, 2, 13], [], 0), (0, [13], [], 1), (42, [12, 3], [], 0), (1, [12, 2, 11], [], 0), (0, [11], [], 1), (42, [4, 10], [], 0), (0, [10], [], 48), (42, [4, 9], [], 0), (0, [9], [], 97), (41, [4, 8], [], 0), (0, [8], [], 32), (41, [4, 7], [], 0), (0, [7], [], 13), (41, [4, 6], [], 0), (0, [6], [], 10), (41, [4, 5], [], 0), (0, [5], [], 9), (1199, [4, 1, 2], [0, 1], 0), (90, [4], [], -2147483648), (91, [4], [], 2147483647), (6000, [0, 1, 2, 3], [0], 0), (0, [0], [], 31), (90, [2], [], -2147483648), (91, [2], [], 2147483647), (90, [3], [], -2147483648), (91, [3], [], 2147483647)], (3000, [22], [3], 142)) := vOk_in fun ρ η h => by
  obtain ⟨f0, f1, f2, f3, f4, f5, f6, f7, f8, f9, f10, f11, f12, f13, f14, f15, f16, f17, f18, f19, f20, f21, f22, f23, f24, f25, f26, f27, f28, f29, f30, f31, f32, f33, f34, f35, f36, f37, f38, f39, _⟩ := h
  exact q_127v_22 (n0 := ρ 3) (n1 := ρ 2) (n2 := ρ 0) (n3 := ρ 1) (n4 := ρ 4) (n5 := ρ 5) (n6 := ρ 6) (n7 := ρ 7) (n8 := ρ 8) (n9 := ρ 9) (n10 := ρ 10) (n11 := ρ 11) (n12 := ρ 12) (n13 := ρ 13) (n14 := ρ 14) (n15 := ρ 15) (n16 := ρ 16) (n17 := ρ 17) (n18 := ρ 18) (n19 := ρ 19) (n20 := ρ 20) (n21 := ρ 21) (n22 := ρ 22) (H0 := η 0) (H1 := η 1) (H2 := η 2) (H3 := η 3) f39 f38 f37 f36 f35 f34 f33 f32 f31 f30 f29 f28 f27 f26 f25 f24 f23 f22 f21 f20 f19 f18 f17 f16 f15 f14 f13 f12 f11 f10 f9 f8 f7 f6 f5 f4 f3 f2 f1 f0
theorem q_127v_23 {n0 n1 n2 n3 n4 n5 n6 n7 n8 n9 n10 n11 n12 n13 n14 n15 n16 n17 n18 n19 n20 n21 : Int} {H0 H1 H2 H3 H4 : gH} (f0 : n0 ≤ 2147483647) (f1 : (-2147483648) ≤ n0) (f2 : n1 ≤ 2147483647) (f3 : (-2147483648) ≤ n1) (f4 : n2 = 31) (f5 : hWt T0 H0 ∧ preb_127v n2 n3 n1 n0 H0) (f6 : n4 ≤ 2147483647) (f7 : (-2147483648) ≤ n4) (f8 : (hLe T0 H0 H1 ∧ hFr s_199vk692.2.2.2.2 H0 H1 ∧ ((0 : Int) = 0 → H1.length = H0.length) ∧ hWt T0 H1) ∧ postb_199vk692 n4 n3 n1 H0 H1) (f9 : n5 = 9) (f10 : n4 ≠ n5) (f11 : n6 = 10) (f12 : n4 ≠ n6) (f13 : n7 = 13) (f14 : n4 ≠ n7) (f15 : n8 = 32) (f16 : n4 ≠ n8) (f17 : n9 = 97) (f18 : n4 < n9) (f19 : n10 = 48) (f20 : n4 < n10) (f21 : n11 = 1) (f22 : n12 = w32 (n1 + n11)) (f23 : n12 < n0) (f24 : n13 = 1) (f25 : n14 = w32 (n1 + n13)) (f26 : n15 ≤ 2147483647) (f27 : (-2147483648) ≤ n15) (f28 : (hLe T0 H1 H2 ∧ hFr s_199vk692.2.2.2.2 H1 H2 ∧ ((0 : Int) = 0 → H2.length = H1.length) ∧ hWt T0 H2) ∧ postb_199vk692 n15 n3 n14 H1 H2) (f29 : n16 = 61) (f30 : n15 = n16) (f31 : n17 = 1) (f32 : n17 ≠ 0) (f33 : n18 ≤ 2147483647) (f34 : (-2147483648) ≤ n18) (f35 : (hLe T0 H2 H3 ∧ hFr s_131v.2.2.2.2 H2 H3 ∧ ((0 : Int) = 0 → H3.length = H2.length) ∧ hWt T0 H3) ∧ postb_131v n18 n4 H2 H3) (f36 : n19 = 1) (f37 : n18 = n19) (f38 : n20 ≤ 2147483647) (f39 : (-2147483648) ≤ n20) (f40 : (hLe T0 H3 H4 ∧ hFr s_132v.2.2.2.2 H3 H4 ∧ ((0 : Int) = 0 → H4.length = H3.length) ∧ hWt T0 H4) ∧ postb_132v n20 n4 H3 H4) (f41 : n21 = 0) : preb_126v n2 n20 n1 n21 H4 := by
  have pz := f5.2
  unfold preb_127v at pz
  obtain ⟨ks, tp, wd, b0, b1, b2, b3, c0, c1⟩ := pz
  have et : ((n1).toNat : Int) = n1 := Int.toNat_of_nonneg b1
  have sm0 : SMT H0 H0 := SMT_rfl
  have wq22 := f22
  unfold w32 at wq22
  have wq25 := f25
  unfold w32 at wq25
  have qa0 := f8.2
  unfold postb_199vk692 at qa0
  have a0 := at8 sm0 tp qa0 (by omega) (by omega) (by omega)
  have sm1 := SMT_trans sm0 (SMT_fr f8.1.2.1 (by decide +kernel))
  have ks_0 := KS5_le f8.1.1 ks
  have tp_0 := TP_le f8.1.1 tp
  have wd_0 := WDS_fr f8.1.1 f8.1.2.1 (by decide +kernel) wd
  have qa1 := f28.2
  unfold postb_199vk692 at qa1
  have a1 := at8 sm1 tp_0 qa1 (by omega) (by omega) (by omega)
  rw [show (n14).toNat = (n1).toNat + 1 by omega] at a1
  have sm2 := SMT_trans sm1 (SMT_fr f28.1.2.1 (by decide +kernel))
  have ks_1 := KS5_le f28.1.1 ks_0
  have tp_1 := TP_le f28.1.1 tp_0
  have wd_1 := WDS_fr f28.1.1 f28.1.2.1 (by decide +kernel) wd_0
  have pk := f35.2
  unfold postb_131v at pk
  have sm3 := SMT_trans sm2 (SMT_fr f35.1.2.1 (by decide +kernel))
  have ks_2 := KS5_le f35.1.1 ks_1
  have tp_2 := TP_le f35.1.1 tp_1
  have wd_2 := WDS_fr f35.1.1 f35.1.2.1 (by decide +kernel) wd_1
  have sk := f40.2
  unfold postb_132v at sk
  have sm4 := SMT_trans sm3 (SMT_fr f40.1.2.1 (by decide +kernel))
  have ks_3 := KS5_le f40.1.1 ks_2
  have tp_3 := TP_le f40.1.1 tp_2
  have wd_3 := WDS_fr f40.1.1 f40.1.2.1 (by decide +kernel) wd_2
  rw [a0] at pk
  rw [a0] at sk
  unfold preb_126v
  exact ⟨ks_3, by rw [sm4.1]; exact c0, by rw [sm4.1]; exact c1⟩
theorem c_127v_s_23 : vOkm T0 (eP e_127v L_127v A_127v mu_127v none) 4 ([(0, [21], [], 0), (1132, [20, 4], [3, 4], 0), (90, [20], [], -2147483648), (91, [20], [], 2147483647), (40, [18, 19], [], 0), (0, [19], [], 1), (1131, [18, 4], [2, 3], 0), (90, [18], [], -2147483648), (91, [18], [], 2147483647), (31, [17], [], 0), (0, [17], [], 1), (40, [15, 16], [], 0), (0, [16], [], 61), (1199, [15, 1, 14], [1, 2], 0), (90, [15], [], -2147483648), (91, [15], [], 2147483647), (1, [14, 2, 13], [], 0), (0, [13], [], 1), (42, [12, 3], [], 0), (1, [12, 2, 11], [], 0), (0, [11], [], 1), (42, [4, 10], [], 0), (0, [10], [], 48), (42, [4, 9], [], 0), (0, [9], [], 97), (41, [4, 8], [], 0), (0, [8], [], 32), (41, [4, 7], [], 0), (0, [7], [], 13), (41, [4, 6], [], 0), (0, [6], [], 10), (41, [4, 5], [], 0), (0, [5], [], 9), (1199, [4, 1, 2], [0, 1], 0), (90, [4], [], -2147483648), (91, [4], [], 2147483647), (6000, [0, 1, 2, 3], [0], 0), (0, [0], [], 31), (90, [2], [], -2147483648), (91, [2], [], 2147483647), (90, [3], [], -2147483648), (91, [3], [], 2147483647)], (2126, [0, 20, 2, 21], [4], 0)) := vOk_in fun ρ η h => by
  obtain ⟨f0, f1, f2, f3, f4, f5, f6, f7, f8, f9, f10, f11, f12, f13, f14, f15, f16, f17, f18, f19, f20, f21, f22, f23, f24, f25, f26, f27, f28, f29, f30, f31, f32, f33, f34, f35, f36, f37, f38, f39, f40, f41, _⟩ := h
  exact q_127v_23 (n0 := ρ 3) (n1 := ρ 2) (n2 := ρ 0) (n3 := ρ 1) (n4 := ρ 4) (n5 := ρ 5) (n6 := ρ 6) (n7 := ρ 7) (n8 := ρ 8) (n9 := ρ 9) (n10 := ρ 10) (n11 := ρ 11) (n12 := ρ 12) (n13 := ρ 13) (n14 := ρ 14) (n15 := ρ 15) (n16 := ρ 16) (n17 := ρ 17) (n18 := ρ 18) (n19 := ρ 19) (n20 := ρ 20) (n21 := ρ 21) (H0 := η 0) (H1 := η 1) (H2 := η 2) (H3 := η 3) (H4 := η 4) f41 f40 f39 f38 f37 f36 f35 f34 f33 f32 f31 f30 f29 f28 f27 f26 f25 f24 f23 f22 f21 f20 f19 f18 f17 f16 f15 f14 f13 f12 f11 f10 f9 f8 f7 f6 f5 f4 f3 f2 f1 f0
theorem q_127v_24 {n0 n1 n2 n3 n4 n5 n6 n7 n8 n9 n10 n11 n12 n13 n14 n15 n16 n17 n18 n19 n20 n21 n22 n23 : Int} {H0 H1 H2 H3 H4 H5 : gH} (f0 : n0 ≤ 2147483647) (f1 : (-2147483648) ≤ n0) (f2 : n1 ≤ 2147483647) (f3 : (-2147483648) ≤ n1) (f4 : n2 = 31) (f5 : hWt T0 H0 ∧ preb_127v n2 n3 n1 n0 H0) (f6 : n4 ≤ 2147483647) (f7 : (-2147483648) ≤ n4) (f8 : (hLe T0 H0 H1 ∧ hFr s_199vk692.2.2.2.2 H0 H1 ∧ ((0 : Int) = 0 → H1.length = H0.length) ∧ hWt T0 H1) ∧ postb_199vk692 n4 n3 n1 H0 H1) (f9 : n5 = 9) (f10 : n4 ≠ n5) (f11 : n6 = 10) (f12 : n4 ≠ n6) (f13 : n7 = 13) (f14 : n4 ≠ n7) (f15 : n8 = 32) (f16 : n4 ≠ n8) (f17 : n9 = 97) (f18 : n4 < n9) (f19 : n10 = 48) (f20 : n4 < n10) (f21 : n11 = 1) (f22 : n12 = w32 (n1 + n11)) (f23 : n12 < n0) (f24 : n13 = 1) (f25 : n14 = w32 (n1 + n13)) (f26 : n15 ≤ 2147483647) (f27 : (-2147483648) ≤ n15) (f28 : (hLe T0 H1 H2 ∧ hFr s_199vk692.2.2.2.2 H1 H2 ∧ ((0 : Int) = 0 → H2.length = H1.length) ∧ hWt T0 H2) ∧ postb_199vk692 n15 n3 n14 H1 H2) (f29 : n16 = 61) (f30 : n15 = n16) (f31 : n17 = 1) (f32 : n17 ≠ 0) (f33 : n18 ≤ 2147483647) (f34 : (-2147483648) ≤ n18) (f35 : (hLe T0 H2 H3 ∧ hFr s_131v.2.2.2.2 H2 H3 ∧ ((0 : Int) = 0 → H3.length = H2.length) ∧ hWt T0 H3) ∧ postb_131v n18 n4 H2 H3) (f36 : n19 = 1) (f37 : n18 = n19) (f38 : n20 ≤ 2147483647) (f39 : (-2147483648) ≤ n20) (f40 : (hLe T0 H3 H4 ∧ hFr s_132v.2.2.2.2 H3 H4 ∧ ((0 : Int) = 0 → H4.length = H3.length) ∧ hWt T0 H4) ∧ postb_132v n20 n4 H3 H4) (f41 : n21 = 0) (f42 : (hLe T0 H4 H5 ∧ hFr s_126v.2.2.2.2 H4 H5 ∧ ((0 : Int) = 0 → H5.length = H4.length) ∧ hWt T0 H5) ∧ postb_126v n2 n20 n1 n21 H4 H5) (f43 : n22 = 1) (f44 : n23 = w32 (n1 + n22)) : postb_127v n23 n2 n3 n1 n0 H0 H5 := by
  have pz := f5.2
  unfold preb_127v at pz
  obtain ⟨ks, tp, wd, b0, b1, b2, b3, c0, c1⟩ := pz
  have et : ((n1).toNat : Int) = n1 := Int.toNat_of_nonneg b1
  have sm0 : SMT H0 H0 := SMT_rfl
  have wq22 := f22
  unfold w32 at wq22
  have wq25 := f25
  unfold w32 at wq25
  have wq44 := f44
  unfold w32 at wq44
  have qa0 := f8.2
  unfold postb_199vk692 at qa0
  have a0 := at8 sm0 tp qa0 (by omega) (by omega) (by omega)
  have sm1 := SMT_trans sm0 (SMT_fr f8.1.2.1 (by decide +kernel))
  have ks_0 := KS5_le f8.1.1 ks
  have tp_0 := TP_le f8.1.1 tp
  have wd_0 := WDS_fr f8.1.1 f8.1.2.1 (by decide +kernel) wd
  have qa1 := f28.2
  unfold postb_199vk692 at qa1
  have a1 := at8 sm1 tp_0 qa1 (by omega) (by omega) (by omega)
  rw [show (n14).toNat = (n1).toNat + 1 by omega] at a1
  have sm2 := SMT_trans sm1 (SMT_fr f28.1.2.1 (by decide +kernel))
  have ks_1 := KS5_le f28.1.1 ks_0
  have tp_1 := TP_le f28.1.1 tp_0
  have wd_1 := WDS_fr f28.1.1 f28.1.2.1 (by decide +kernel) wd_0
  have pk := f35.2
  unfold postb_131v at pk
  have sm3 := SMT_trans sm2 (SMT_fr f35.1.2.1 (by decide +kernel))
  have ks_2 := KS5_le f35.1.1 ks_1
  have tp_2 := TP_le f35.1.1 tp_1
  have wd_2 := WDS_fr f35.1.1 f35.1.2.1 (by decide +kernel) wd_1
  have sk := f40.2
  unfold postb_132v at sk
  have sm4 := SMT_trans sm3 (SMT_fr f40.1.2.1 (by decide +kernel))
  have ks_3 := KS5_le f40.1.1 ks_2
  have tp_3 := TP_le f40.1.1 tp_2
  have wd_3 := WDS_fr f40.1.1 f40.1.2.1 (by decide +kernel) wd_2
  rw [a0] at pk
  rw [a0] at sk
  unfold postb_127v ONE
  have lt := f42.2
  unfold postb_126v at lt
  have nt := NTp_from sm4 lt.1
  rw [f41] at nt
  first
  | exact absurd rfl (by omega)
  | (rw [sk] at nt
     exact ⟨.inr (.inr (.inr (.inr ⟨by omega, by omega, by omega, by omega, by omega, nt⟩))), lt.2⟩)
theorem c_127v_s_24 : vOkm T0 (eP e_127v L_127v A_127v mu_127v none) 4 ([(1, [23, 2, 22], [], 0), (0, [22], [], 1), (1126, [0, 20, 2, 21], [4, 5], 0), (0, [21], [], 0), (1132, [20, 4], [3, 4], 0), (90, [20], [], -2147483648), (91, [20], [], 2147483647), (40, [18, 19], [], 0), (0, [19], [], 1), (1131, [18, 4], [2, 3], 0), (90, [18], [], -2147483648), (91, [18], [], 2147483647), (31, [17], [], 0), (0, [17], [], 1), (40, [15, 16], [], 0), (0, [16], [], 61), (1199, [15, 1, 14], [1, 2], 0), (90, [15], [], -2147483648), (91, [15], [], 2147483647), (1, [14, 2, 13], [], 0), (0, [13], [], 1), (42, [12, 3], [], 0), (1, [12, 2, 11], [], 0), (0, [11], [], 1), (42, [4, 10], [], 0), (0, [10], [], 48), (42, [4, 9], [], 0), (0, [9], [], 97), (41, [4, 8], [], 0), (0, [8], [], 32), (41, [4, 7], [], 0), (0, [7], [], 13), (41, [4, 6], [], 0), (0, [6], [], 10), (41, [4, 5], [], 0), (0, [5], [], 9), (1199, [4, 1, 2], [0, 1], 0), (90, [4], [], -2147483648), (91, [4], [], 2147483647), (6000, [0, 1, 2, 3], [0], 0), (0, [0], [], 31), (90, [2], [], -2147483648), (91, [2], [], 2147483647), (90, [3], [], -2147483648), (91, [3], [], 2147483647)], (3000, [23], [5], 157)) := vOk_in fun ρ η h => by
  obtain ⟨f0, f1, f2, f3, f4, f5, f6, f7, f8, f9, f10, f11, f12, f13, f14, f15, f16, f17, f18, f19, f20, f21, f22, f23, f24, f25, f26, f27, f28, f29, f30, f31, f32, f33, f34, f35, f36, f37, f38, f39, f40, f41, f42, f43, f44, _⟩ := h
  exact q_127v_24 (n0 := ρ 3) (n1 := ρ 2) (n2 := ρ 0) (n3 := ρ 1) (n4 := ρ 4) (n5 := ρ 5) (n6 := ρ 6) (n7 := ρ 7) (n8 := ρ 8) (n9 := ρ 9) (n10 := ρ 10) (n11 := ρ 11) (n12 := ρ 12) (n13 := ρ 13) (n14 := ρ 14) (n15 := ρ 15) (n16 := ρ 16) (n17 := ρ 17) (n18 := ρ 18) (n19 := ρ 19) (n20 := ρ 20) (n21 := ρ 21) (n22 := ρ 22) (n23 := ρ 23) (H0 := η 0) (H1 := η 1) (H2 := η 2) (H3 := η 3) (H4 := η 4) (H5 := η 5) f44 f43 f42 f41 f40 f39 f38 f37 f36 f35 f34 f33 f32 f31 f30 f29 f28 f27 f26 f25 f24 f23 f22 f21 f20 f19 f18 f17 f16 f15 f14 f13 f12 f11 f10 f9 f8 f7 f6 f5 f4 f3 f2 f1 f0
theorem q_127v_25 {n0 n1 n2 n3 n4 n5 n6 n7 n8 n9 n10 n11 n12 n13 n14 n15 n16 n17 n18 n19 n20 : Int} {H0 H1 H2 H3 : gH} (f0 : n0 ≤ 2147483647) (f1 : (-2147483648) ≤ n0) (f2 : n1 ≤ 2147483647) (f3 : (-2147483648) ≤ n1) (f4 : n2 = 31) (f5 : hWt T0 H0 ∧ preb_127v n2 n3 n1 n0 H0) (f6 : n4 ≤ 2147483647) (f7 : (-2147483648) ≤ n4) (f8 : (hLe T0 H0 H1 ∧ hFr s_199vk692.2.2.2.2 H0 H1 ∧ ((0 : Int) = 0 → H1.length = H0.length) ∧ hWt T0 H1) ∧ postb_199vk692 n4 n3 n1 H0 H1) (f9 : n5 = 9) (f10 : n4 ≠ n5) (f11 : n6 = 10) (f12 : n4 ≠ n6) (f13 : n7 = 13) (f14 : n4 ≠ n7) (f15 : n8 = 32) (f16 : n4 ≠ n8) (f17 : n9 = 97) (f18 : n4 < n9) (f19 : n10 = 48) (f20 : n4 < n10) (f21 : n11 = 1) (f22 : n12 = w32 (n1 + n11)) (f23 : n12 < n0) (f24 : n13 = 1) (f25 : n14 = w32 (n1 + n13)) (f26 : n15 ≤ 2147483647) (f27 : (-2147483648) ≤ n15) (f28 : (hLe T0 H1 H2 ∧ hFr s_199vk692.2.2.2.2 H1 H2 ∧ ((0 : Int) = 0 → H2.length = H1.length) ∧ hWt T0 H2) ∧ postb_199vk692 n15 n3 n14 H1 H2) (f29 : n16 = 61) (f30 : n15 = n16) (f31 : n17 = 1) (f32 : n17 ≠ 0) (f33 : n18 ≤ 2147483647) (f34 : (-2147483648) ≤ n18) (f35 : (hLe T0 H2 H3 ∧ hFr s_131v.2.2.2.2 H2 H3 ∧ ((0 : Int) = 0 → H3.length = H2.length) ∧ hWt T0 H3) ∧ postb_131v n18 n4 H2 H3) (f36 : n19 = 1) (f37 : n18 ≠ n19) (f38 : n20 = 0) : preb_126v n2 n18 n1 n20 H3 := by
  have pz := f5.2
  unfold preb_127v at pz
  obtain ⟨ks, tp, wd, b0, b1, b2, b3, c0, c1⟩ := pz
  have et : ((n1).toNat : Int) = n1 := Int.toNat_of_nonneg b1
  have sm0 : SMT H0 H0 := SMT_rfl
  have wq22 := f22
  unfold w32 at wq22
  have wq25 := f25
  unfold w32 at wq25
  have qa0 := f8.2
  unfold postb_199vk692 at qa0
  have a0 := at8 sm0 tp qa0 (by omega) (by omega) (by omega)
  have sm1 := SMT_trans sm0 (SMT_fr f8.1.2.1 (by decide +kernel))
  have ks_0 := KS5_le f8.1.1 ks
  have tp_0 := TP_le f8.1.1 tp
  have wd_0 := WDS_fr f8.1.1 f8.1.2.1 (by decide +kernel) wd
  have qa1 := f28.2
  unfold postb_199vk692 at qa1
  have a1 := at8 sm1 tp_0 qa1 (by omega) (by omega) (by omega)
  rw [show (n14).toNat = (n1).toNat + 1 by omega] at a1
  have sm2 := SMT_trans sm1 (SMT_fr f28.1.2.1 (by decide +kernel))
  have ks_1 := KS5_le f28.1.1 ks_0
  have tp_1 := TP_le f28.1.1 tp_0
  have wd_1 := WDS_fr f28.1.1 f28.1.2.1 (by decide +kernel) wd_0
  have pk := f35.2
  unfold postb_131v at pk
  have sm3 := SMT_trans sm2 (SMT_fr f35.1.2.1 (by decide +kernel))
  have ks_2 := KS5_le f35.1.1 ks_1
  have tp_2 := TP_le f35.1.1 tp_1
  have wd_2 := WDS_fr f35.1.1 f35.1.2.1 (by decide +kernel) wd_1
  rw [a0] at pk
  unfold preb_126v
  exact ⟨ks_2, by rw [sm3.1]; exact c0, by rw [sm3.1]; exact c1⟩
theorem c_127v_s_25 : vOkm T0 (eP e_127v L_127v A_127v mu_127v none) 4 ([(0, [20], [], 0), (41, [18, 19], [], 0), (0, [19], [], 1), (1131, [18, 4], [2, 3], 0), (90, [18], [], -2147483648), (91, [18], [], 2147483647), (31, [17], [], 0), (0, [17], [], 1), (40, [15, 16], [], 0), (0, [16], [], 61), (1199, [15, 1, 14], [1, 2], 0), (90, [15], [], -2147483648), (91, [15], [], 2147483647), (1, [14, 2, 13], [], 0), (0, [13], [], 1), (42, [12, 3], [], 0), (1, [12, 2, 11], [], 0), (0, [11], [], 1), (42, [4, 10], [], 0), (0, [10], [], 48), (42, [4, 9], [], 0), (0, [9], [], 97), (41, [4, 8], [], 0), (0, [8], [], 32), (41, [4, 7], [], 0), (0, [7], [], 13), (41, [4, 6], [], 0), (0, [6], [], 10), (41, [4, 5], [], 0), (0, [5], [], 9), (1199, [4, 1, 2], [0, 1], 0), (90, [4], [], -2147483648), (91, [4], [], 2147483647), (6000, [0, 1, 2, 3], [0], 0), (0, [0], [], 31), (90, [2], [], -2147483648), (91, [2], [], 2147483647), (90, [3], [], -2147483648), (91, [3], [], 2147483647)], (2126, [0, 18, 2, 20], [3], 0)) := vOk_in fun ρ η h => by
  obtain ⟨f0, f1, f2, f3, f4, f5, f6, f7, f8, f9, f10, f11, f12, f13, f14, f15, f16, f17, f18, f19, f20, f21, f22, f23, f24, f25, f26, f27, f28, f29, f30, f31, f32, f33, f34, f35, f36, f37, f38, _⟩ := h
  exact q_127v_25 (n0 := ρ 3) (n1 := ρ 2) (n2 := ρ 0) (n3 := ρ 1) (n4 := ρ 4) (n5 := ρ 5) (n6 := ρ 6) (n7 := ρ 7) (n8 := ρ 8) (n9 := ρ 9) (n10 := ρ 10) (n11 := ρ 11) (n12 := ρ 12) (n13 := ρ 13) (n14 := ρ 14) (n15 := ρ 15) (n16 := ρ 16) (n17 := ρ 17) (n18 := ρ 18) (n19 := ρ 19) (n20 := ρ 20) (H0 := η 0) (H1 := η 1) (H2 := η 2) (H3 := η 3) f38 f37 f36 f35 f34 f33 f32 f31 f30 f29 f28 f27 f26 f25 f24 f23 f22 f21 f20 f19 f18 f17 f16 f15 f14 f13 f12 f11 f10 f9 f8 f7 f6 f5 f4 f3 f2 f1 f0
theorem q_127v_26 {n0 n1 n2 n3 n4 n5 n6 n7 n8 n9 n10 n11 n12 n13 n14 n15 n16 n17 n18 n19 n20 n21 n22 : Int} {H0 H1 H2 H3 H4 : gH} (f0 : n0 ≤ 2147483647) (f1 : (-2147483648) ≤ n0) (f2 : n1 ≤ 2147483647) (f3 : (-2147483648) ≤ n1) (f4 : n2 = 31) (f5 : hWt T0 H0 ∧ preb_127v n2 n3 n1 n0 H0) (f6 : n4 ≤ 2147483647) (f7 : (-2147483648) ≤ n4) (f8 : (hLe T0 H0 H1 ∧ hFr s_199vk692.2.2.2.2 H0 H1 ∧ ((0 : Int) = 0 → H1.length = H0.length) ∧ hWt T0 H1) ∧ postb_199vk692 n4 n3 n1 H0 H1) (f9 : n5 = 9) (f10 : n4 ≠ n5) (f11 : n6 = 10) (f12 : n4 ≠ n6) (f13 : n7 = 13) (f14 : n4 ≠ n7) (f15 : n8 = 32) (f16 : n4 ≠ n8) (f17 : n9 = 97) (f18 : n4 < n9) (f19 : n10 = 48) (f20 : n4 < n10) (f21 : n11 = 1) (f22 : n12 = w32 (n1 + n11)) (f23 : n12 < n0) (f24 : n13 = 1) (f25 : n14 = w32 (n1 + n13)) (f26 : n15 ≤ 2147483647) (f27 : (-2147483648) ≤ n15) (f28 : (hLe T0 H1 H2 ∧ hFr s_199vk692.2.2.2.2 H1 H2 ∧ ((0 : Int) = 0 → H2.length = H1.length) ∧ hWt T0 H2) ∧ postb_199vk692 n15 n3 n14 H1 H2) (f29 : n16 = 61) (f30 : n15 = n16) (f31 : n17 = 1) (f32 : n17 ≠ 0) (f33 : n18 ≤ 2147483647) (f34 : (-2147483648) ≤ n18) (f35 : (hLe T0 H2 H3 ∧ hFr s_131v.2.2.2.2 H2 H3 ∧ ((0 : Int) = 0 → H3.length = H2.length) ∧ hWt T0 H3) ∧ postb_131v n18 n4 H2 H3) (f36 : n19 = 1) (f37 : n18 ≠ n19) (f38 : n20 = 0) (f39 : (hLe T0 H3 H4 ∧ hFr s_126v.2.2.2.2 H3 H4 ∧ ((0 : Int) = 0 → H4.length = H3.length) ∧ hWt T0 H4) ∧ postb_126v n2 n18 n1 n20 H3 H4) (f40 : n21 = 2) (f41 : n22 = w32 (n1 + n21)) : postb_127v n22 n2 n3 n1 n0 H0 H4 := by
  have pz := f5.2
  unfold preb_127v at pz
  obtain ⟨ks, tp, wd, b0, b1, b2, b3, c0, c1⟩ := pz
  have et : ((n1).toNat : Int) = n1 := Int.toNat_of_nonneg b1
  have sm0 : SMT H0 H0 := SMT_rfl
  have wq22 := f22
  unfold w32 at wq22
  have wq25 := f25
  unfold w32 at wq25
  have wq41 := f41
  unfold w32 at wq41
  have qa0 := f8.2
  unfold postb_199vk692 at qa0
  have a0 := at8 sm0 tp qa0 (by omega) (by omega) (by omega)
  have sm1 := SMT_trans sm0 (SMT_fr f8.1.2.1 (by decide +kernel))
  have ks_0 := KS5_le f8.1.1 ks
  have tp_0 := TP_le f8.1.1 tp
  have wd_0 := WDS_fr f8.1.1 f8.1.2.1 (by decide +kernel) wd
  have qa1 := f28.2
  unfold postb_199vk692 at qa1
  have a1 := at8 sm1 tp_0 qa1 (by omega) (by omega) (by omega)
  rw [show (n14).toNat = (n1).toNat + 1 by omega] at a1
  have sm2 := SMT_trans sm1 (SMT_fr f28.1.2.1 (by decide +kernel))
  have ks_1 := KS5_le f28.1.1 ks_0
  have tp_1 := TP_le f28.1.1 tp_0
  have wd_1 := WDS_fr f28.1.1 f28.1.2.1 (by decide +kernel) wd_0
  have pk := f35.2
  unfold postb_131v at pk
  have sm3 := SMT_trans sm2 (SMT_fr f35.1.2.1 (by decide +kernel))
  have ks_2 := KS5_le f35.1.1 ks_1
  have tp_2 := TP_le f35.1.1 tp_1
  have wd_2 := WDS_fr f35.1.1 f35.1.2.1 (by decide +kernel) wd_1
  rw [a0] at pk
  unfold postb_127v ONE
  have lt := f39.2
  unfold postb_126v at lt
  have nt := NTp_from sm3 lt.1
  rw [f38] at nt
  first
  | (exfalso; omega)
  | (rw [pk] at nt
     exact ⟨.inr (.inr (.inr (.inl ⟨by omega, by omega, by omega, ⟨by omega, by omega, by omega⟩, by omega, nt⟩))), lt.2⟩)
theorem c_127v_s_26 : vOkm T0 (eP e_127v L_127v A_127v mu_127v none) 4 ([(1, [22, 2, 21], [], 0), (0, [21], [], 2), (1126, [0, 18, 2, 20], [3, 4], 0), (0, [20], [], 0), (41, [18, 19], [], 0), (0, [19], [], 1), (1131, [18, 4], [2, 3], 0), (90, [18], [], -2147483648), (91, [18], [], 2147483647), (31, [17], [], 0), (0, [17], [], 1), (40, [15, 16], [], 0), (0, [16], [], 61), (1199, [15, 1, 14], [1, 2], 0), (90, [15], [], -2147483648), (91, [15], [], 2147483647), (1, [14, 2, 13], [], 0), (0, [13], [], 1), (42, [12, 3], [], 0), (1, [12, 2, 11], [], 0), (0, [11], [], 1), (42, [4, 10], [], 0), (0, [10], [], 48), (42, [4, 9], [], 0), (0, [9], [], 97), (41, [4, 8], [], 0), (0, [8], [], 32), (41, [4, 7], [], 0), (0, [7], [], 13), (41, [4, 6], [], 0), (0, [6], [], 10), (41, [4, 5], [], 0), (0, [5], [], 9), (1199, [4, 1, 2], [0, 1], 0), (90, [4], [], -2147483648), (91, [4], [], 2147483647), (6000, [0, 1, 2, 3], [0], 0), (0, [0], [], 31), (90, [2], [], -2147483648), (91, [2], [], 2147483647), (90, [3], [], -2147483648), (91, [3], [], 2147483647)], (3000, [22], [4], 142)) := vOk_in fun ρ η h => by
  obtain ⟨f0, f1, f2, f3, f4, f5, f6, f7, f8, f9, f10, f11, f12, f13, f14, f15, f16, f17, f18, f19, f20, f21, f22, f23, f24, f25, f26, f27, f28, f29, f30, f31, f32, f33, f34, f35, f36, f37, f38, f39, f40, f41, _⟩ := h
  exact q_127v_26 (n0 := ρ 3) (n1 := ρ 2) (n2 := ρ 0) (n3 := ρ 1) (n4 := ρ 4) (n5 := ρ 5) (n6 := ρ 6) (n7 := ρ 7) (n8 := ρ 8) (n9 := ρ 9) (n10 := ρ 10) (n11 := ρ 11) (n12 := ρ 12) (n13 := ρ 13) (n14 := ρ 14) (n15 := ρ 15) (n16 := ρ 16) (n17 := ρ 17) (n18 := ρ 18) (n19 := ρ 19) (n20 := ρ 20) (n21 := ρ 21) (n22 := ρ 22) (H0 := η 0) (H1 := η 1) (H2 := η 2) (H3 := η 3) (H4 := η 4) f41 f40 f39 f38 f37 f36 f35 f34 f33 f32 f31 f30 f29 f28 f27 f26 f25 f24 f23 f22 f21 f20 f19 f18 f17 f16 f15 f14 f13 f12 f11 f10 f9 f8 f7 f6 f5 f4 f3 f2 f1 f0
theorem q_127v_27 {n0 n1 n2 n3 n4 n5 n6 n7 n8 n9 n10 n11 n12 n13 n14 n15 n16 n17 n18 : Int} {H0 H1 H2 : gH} (f0 : n0 ≤ 2147483647) (f1 : (-2147483648) ≤ n0) (f2 : n1 ≤ 2147483647) (f3 : (-2147483648) ≤ n1) (f4 : n2 = 31) (f5 : hWt T0 H0 ∧ preb_127v n2 n3 n1 n0 H0) (f6 : n4 ≤ 2147483647) (f7 : (-2147483648) ≤ n4) (f8 : (hLe T0 H0 H1 ∧ hFr s_199vk692.2.2.2.2 H0 H1 ∧ ((0 : Int) = 0 → H1.length = H0.length) ∧ hWt T0 H1) ∧ postb_199vk692 n4 n3 n1 H0 H1) (f9 : n5 = 9) (f10 : n4 ≠ n5) (f11 : n6 = 10) (f12 : n4 ≠ n6) (f13 : n7 = 13) (f14 : n4 ≠ n7) (f15 : n8 = 32) (f16 : n4 ≠ n8) (f17 : n9 = 97) (f18 : n4 < n9) (f19 : n10 = 48) (f20 : n10 ≤ n4) (f21 : n11 = 57) (f22 : n11 < n4) (f23 : n12 = 1) (f24 : n13 = w32 (n1 + n12)) (f25 : n0 ≤ n13) (f26 : n14 = 0) (f27 : n14 = 0) (f28 : n15 = 1) (f29 : n16 = 1) (f30 : n15 = n16) (f31 : n17 ≤ 2147483647) (f32 : (-2147483648) ≤ n17) (f33 : (hLe T0 H1 H2 ∧ hFr s_132v.2.2.2.2 H1 H2 ∧ ((0 : Int) = 0 → H2.length = H1.length) ∧ hWt T0 H2) ∧ postb_132v n17 n4 H1 H2) (f34 : n18 = 0) : preb_126v n2 n17 n1 n18 H2 := by
  have pz := f5.2
  unfold preb_127v at pz
  obtain ⟨ks, tp, wd, b0, b1, b2, b3, c0, c1⟩ := pz
  have et : ((n1).toNat : Int) = n1 := Int.toNat_of_nonneg b1
  have sm0 : SMT H0 H0 := SMT_rfl
  have wq24 := f24
  unfold w32 at wq24
  have qa0 := f8.2
  unfold postb_199vk692 at qa0
  have a0 := at8 sm0 tp qa0 (by omega) (by omega) (by omega)
  have sm1 := SMT_trans sm0 (SMT_fr f8.1.2.1 (by decide +kernel))
  have ks_0 := KS5_le f8.1.1 ks
  have tp_0 := TP_le f8.1.1 tp
  have wd_0 := WDS_fr f8.1.1 f8.1.2.1 (by decide +kernel) wd
  have sk := f33.2
  unfold postb_132v at sk
  have sm2 := SMT_trans sm1 (SMT_fr f33.1.2.1 (by decide +kernel))
  have ks_1 := KS5_le f33.1.1 ks_0
  have tp_1 := TP_le f33.1.1 tp_0
  have wd_1 := WDS_fr f33.1.1 f33.1.2.1 (by decide +kernel) wd_0
  rw [a0] at sk
  unfold preb_126v
  exact ⟨ks_1, by rw [sm2.1]; exact c0, by rw [sm2.1]; exact c1⟩
theorem c_127v_s_27 : vOkm T0 (eP e_127v L_127v A_127v mu_127v none) 4 ([(0, [18], [], 0), (1132, [17, 4], [1, 2], 0), (90, [17], [], -2147483648), (91, [17], [], 2147483647), (40, [15, 16], [], 0), (0, [16], [], 1), (0, [15], [], 1), (30, [14], [], 0), (0, [14], [], 0), (43, [13, 3], [], 0), (1, [13, 2, 12], [], 0), (0, [12], [], 1), (44, [4, 11], [], 0), (0, [11], [], 57), (43, [4, 10], [], 0), (0, [10], [], 48), (42, [4, 9], [], 0), (0, [9], [], 97), (41, [4, 8], [], 0), (0, [8], [], 32), (41, [4, 7], [], 0), (0, [7], [], 13), (41, [4, 6], [], 0), (0, [6], [], 10), (41, [4, 5], [], 0), (0, [5], [], 9), (1199, [4, 1, 2], [0, 1], 0), (90, [4], [], -2147483648), (91, [4], [], 2147483647), (6000, [0, 1, 2, 3], [0], 0), (0, [0], [], 31), (90, [2], [], -2147483648), (91, [2], [], 2147483647), (90, [3], [], -2147483648), (91, [3], [], 2147483647)], (2126, [0, 17, 2, 18], [2], 0)) := vOk_in fun ρ η h => by
  obtain ⟨f0, f1, f2, f3, f4, f5, f6, f7, f8, f9, f10, f11, f12, f13, f14, f15, f16, f17, f18, f19, f20, f21, f22, f23, f24, f25, f26, f27, f28, f29, f30, f31, f32, f33, f34, _⟩ := h
  exact q_127v_27 (n0 := ρ 3) (n1 := ρ 2) (n2 := ρ 0) (n3 := ρ 1) (n4 := ρ 4) (n5 := ρ 5) (n6 := ρ 6) (n7 := ρ 7) (n8 := ρ 8) (n9 := ρ 9) (n10 := ρ 10) (n11 := ρ 11) (n12 := ρ 12) (n13 := ρ 13) (n14 := ρ 14) (n15 := ρ 15) (n16 := ρ 16) (n17 := ρ 17) (n18 := ρ 18) (H0 := η 0) (H1 := η 1) (H2 := η 2) f34 f33 f32 f31 f30 f29 f28 f27 f26 f25 f24 f23 f22 f21 f20 f19 f18 f17 f16 f15 f14 f13 f12 f11 f10 f9 f8 f7 f6 f5 f4 f3 f2 f1 f0
theorem q_127v_28 {n0 n1 n2 n3 n4 n5 n6 n7 n8 n9 n10 n11 n12 n13 n14 n15 n16 n17 n18 n19 n20 : Int} {H0 H1 H2 H3 : gH} (f0 : n0 ≤ 2147483647) (f1 : (-2147483648) ≤ n0) (f2 : n1 ≤ 2147483647) (f3 : (-2147483648) ≤ n1) (f4 : n2 = 31) (f5 : hWt T0 H0 ∧ preb_127v n2 n3 n1 n0 H0) (f6 : n4 ≤ 2147483647) (f7 : (-2147483648) ≤ n4) (f8 : (hLe T0 H0 H1 ∧ hFr s_199vk692.2.2.2.2 H0 H1 ∧ ((0 : Int) = 0 → H1.length = H0.length) ∧ hWt T0 H1) ∧ postb_199vk692 n4 n3 n1 H0 H1) (f9 : n5 = 9) (f10 : n4 ≠ n5) (f11 : n6 = 10) (f12 : n4 ≠ n6) (f13 : n7 = 13) (f14 : n4 ≠ n7) (f15 : n8 = 32) (f16 : n4 ≠ n8) (f17 : n9 = 97) (f18 : n4 < n9) (f19 : n10 = 48) (f20 : n10 ≤ n4) (f21 : n11 = 57) (f22 : n11 < n4) (f23 : n12 = 1) (f24 : n13 = w32 (n1 + n12)) (f25 : n0 ≤ n13) (f26 : n14 = 0) (f27 : n14 = 0) (f28 : n15 = 1) (f29 : n16 = 1) (f30 : n15 = n16) (f31 : n17 ≤ 2147483647) (f32 : (-2147483648) ≤ n17) (f33 : (hLe T0 H1 H2 ∧ hFr s_132v.2.2.2.2 H1 H2 ∧ ((0 : Int) = 0 → H2.length = H1.length) ∧ hWt T0 H2) ∧ postb_132v n17 n4 H1 H2) (f34 : n18 = 0) (f35 : (hLe T0 H2 H3 ∧ hFr s_126v.2.2.2.2 H2 H3 ∧ ((0 : Int) = 0 → H3.length = H2.length) ∧ hWt T0 H3) ∧ postb_126v n2 n17 n1 n18 H2 H3) (f36 : n19 = 1) (f37 : n20 = w32 (n1 + n19)) : postb_127v n20 n2 n3 n1 n0 H0 H3 := by
  have pz := f5.2
  unfold preb_127v at pz
  obtain ⟨ks, tp, wd, b0, b1, b2, b3, c0, c1⟩ := pz
  have et : ((n1).toNat : Int) = n1 := Int.toNat_of_nonneg b1
  have sm0 : SMT H0 H0 := SMT_rfl
  have wq24 := f24
  unfold w32 at wq24
  have wq37 := f37
  unfold w32 at wq37
  have qa0 := f8.2
  unfold postb_199vk692 at qa0
  have a0 := at8 sm0 tp qa0 (by omega) (by omega) (by omega)
  have sm1 := SMT_trans sm0 (SMT_fr f8.1.2.1 (by decide +kernel))
  have ks_0 := KS5_le f8.1.1 ks
  have tp_0 := TP_le f8.1.1 tp
  have wd_0 := WDS_fr f8.1.1 f8.1.2.1 (by decide +kernel) wd
  have sk := f33.2
  unfold postb_132v at sk
  have sm2 := SMT_trans sm1 (SMT_fr f33.1.2.1 (by decide +kernel))
  have ks_1 := KS5_le f33.1.1 ks_0
  have tp_1 := TP_le f33.1.1 tp_0
  have wd_1 := WDS_fr f33.1.1 f33.1.2.1 (by decide +kernel) wd_0
  rw [a0] at sk
  unfold postb_127v ONE
  have lt := f35.2
  unfold postb_126v at lt
  have nt := NTp_from sm2 lt.1
  rw [f34] at nt
  first
  | exact absurd rfl (by omega)
  | (rw [sk] at nt
     exact ⟨.inr (.inr (.inr (.inr ⟨by omega, by omega, by omega, by omega, by omega, nt⟩))), lt.2⟩)
theorem c_127v_s_28 : vOkm T0 (eP e_127v L_127v A_127v mu_127v none) 4 ([(1, [20, 2, 19], [], 0), (0, [19], [], 1), (1126, [0, 17, 2, 18], [2, 3], 0), (0, [18], [], 0), (1132, [17, 4], [1, 2], 0), (90, [17], [], -2147483648), (91, [17], [], 2147483647), (40, [15, 16], [], 0), (0, [16], [], 1), (0, [15], [], 1), (30, [14], [], 0), (0, [14], [], 0), (43, [13, 3], [], 0), (1, [13, 2, 12], [], 0), (0, [12], [], 1), (44, [4, 11], [], 0), (0, [11], [], 57), (43, [4, 10], [], 0), (0, [10], [], 48), (42, [4, 9], [], 0), (0, [9], [], 97), (41, [4, 8], [], 0), (0, [8], [], 32), (41, [4, 7], [], 0), (0, [7], [], 13), (41, [4, 6], [], 0), (0, [6], [], 10), (41, [4, 5], [], 0), (0, [5], [], 9), (1199, [4, 1, 2], [0, 1], 0), (90, [4], [], -2147483648), (91, [4], [], 2147483647), (6000, [0, 1, 2, 3], [0], 0), (0, [0], [], 31), (90, [2], [], -2147483648), (91, [2], [], 2147483647), (90, [3], [], -2147483648), (91, [3], [], 2147483647)], (3000, [20], [3], 157)) := vOk_in fun ρ η h => by
  obtain ⟨f0, f1, f2, f3, f4, f5, f6, f7, f8, f9, f10, f11, f12, f13, f14, f15, f16, f17, f18, f19, f20, f21, f22, f23, f24, f25, f26, f27, f28, f29, f30, f31, f32, f33, f34, f35, f36, f37, _⟩ := h
  exact q_127v_28 (n0 := ρ 3) (n1 := ρ 2) (n2 := ρ 0) (n3 := ρ 1) (n4 := ρ 4) (n5 := ρ 5) (n6 := ρ 6) (n7 := ρ 7) (n8 := ρ 8) (n9 := ρ 9) (n10 := ρ 10) (n11 := ρ 11) (n12 := ρ 12) (n13 := ρ 13) (n14 := ρ 14) (n15 := ρ 15) (n16 := ρ 16) (n17 := ρ 17) (n18 := ρ 18) (n19 := ρ 19) (n20 := ρ 20) (H0 := η 0) (H1 := η 1) (H2 := η 2) (H3 := η 3) f37 f36 f35 f34 f33 f32 f31 f30 f29 f28 f27 f26 f25 f24 f23 f22 f21 f20 f19 f18 f17 f16 f15 f14 f13 f12 f11 f10 f9 f8 f7 f6 f5 f4 f3 f2 f1 f0
theorem q_127v_29 {n0 n1 n2 n3 n4 n5 n6 n7 n8 n9 n10 n11 n12 n13 n14 n15 n16 n17 : Int} {H0 H1 : gH} (f0 : n0 ≤ 2147483647) (f1 : (-2147483648) ≤ n0) (f2 : n1 ≤ 2147483647) (f3 : (-2147483648) ≤ n1) (f4 : n2 = 31) (f5 : hWt T0 H0 ∧ preb_127v n2 n3 n1 n0 H0) (f6 : n4 ≤ 2147483647) (f7 : (-2147483648) ≤ n4) (f8 : (hLe T0 H0 H1 ∧ hFr s_199vk692.2.2.2.2 H0 H1 ∧ ((0 : Int) = 0 → H1.length = H0.length) ∧ hWt T0 H1) ∧ postb_199vk692 n4 n3 n1 H0 H1) (f9 : n5 = 9) (f10 : n4 ≠ n5) (f11 : n6 = 10) (f12 : n4 ≠ n6) (f13 : n7 = 13) (f14 : n4 ≠ n7) (f15 : n8 = 32) (f16 : n4 ≠ n8) (f17 : n9 = 97) (f18 : n4 < n9) (f19 : n10 = 48) (f20 : n10 ≤ n4) (f21 : n11 = 57) (f22 : n11 < n4) (f23 : n12 = 1) (f24 : n13 = w32 (n1 + n12)) (f25 : n0 ≤ n13) (f26 : n14 = 0) (f27 : n14 = 0) (f28 : n15 = 1) (f29 : n16 = 1) (f30 : n15 ≠ n16) (f31 : n17 = 0) : preb_126v n2 n15 n1 n17 H1 := by
  have pz := f5.2
  unfold preb_127v at pz
  obtain ⟨ks, tp, wd, b0, b1, b2, b3, c0, c1⟩ := pz
  have et : ((n1).toNat : Int) = n1 := Int.toNat_of_nonneg b1
  have sm0 : SMT H0 H0 := SMT_rfl
  have wq24 := f24
  unfold w32 at wq24
  have qa0 := f8.2
  unfold postb_199vk692 at qa0
  have a0 := at8 sm0 tp qa0 (by omega) (by omega) (by omega)
  have sm1 := SMT_trans sm0 (SMT_fr f8.1.2.1 (by decide +kernel))
  have ks_0 := KS5_le f8.1.1 ks
  have tp_0 := TP_le f8.1.1 tp
  have wd_0 := WDS_fr f8.1.1 f8.1.2.1 (by decide +kernel) wd
  unfold preb_126v
  exact ⟨ks_0, by rw [sm1.1]; exact c0, by rw [sm1.1]; exact c1⟩
theorem c_127v_s_29 : vOkm T0 (eP e_127v L_127v A_127v mu_127v none) 4 ([(0, [17], [], 0), (41, [15, 16], [], 0), (0, [16], [], 1), (0, [15], [], 1), (30, [14], [], 0), (0, [14], [], 0), (43, [13, 3], [], 0), (1, [13, 2, 12], [], 0), (0, [12], [], 1), (44, [4, 11], [], 0), (0, [11], [], 57), (43, [4, 10], [], 0), (0, [10], [], 48), (42, [4, 9], [], 0), (0, [9], [], 97), (41, [4, 8], [], 0), (0, [8], [], 32), (41, [4, 7], [], 0), (0, [7], [], 13), (41, [4, 6], [], 0), (0, [6], [], 10), (41, [4, 5], [], 0), (0, [5], [], 9), (1199, [4, 1, 2], [0, 1], 0), (90, [4], [], -2147483648), (91, [4], [], 2147483647), (6000, [0, 1, 2, 3], [0], 0), (0, [0], [], 31), (90, [2], [], -2147483648), (91, [2], [], 2147483647), (90, [3], [], -2147483648), (91, [3], [], 2147483647)], (2126, [0, 15, 2, 17], [1], 0)) := vOk_in fun ρ η h => by
  obtain ⟨f0, f1, f2, f3, f4, f5, f6, f7, f8, f9, f10, f11, f12, f13, f14, f15, f16, f17, f18, f19, f20, f21, f22, f23, f24, f25, f26, f27, f28, f29, f30, f31, _⟩ := h
  exact q_127v_29 (n0 := ρ 3) (n1 := ρ 2) (n2 := ρ 0) (n3 := ρ 1) (n4 := ρ 4) (n5 := ρ 5) (n6 := ρ 6) (n7 := ρ 7) (n8 := ρ 8) (n9 := ρ 9) (n10 := ρ 10) (n11 := ρ 11) (n12 := ρ 12) (n13 := ρ 13) (n14 := ρ 14) (n15 := ρ 15) (n16 := ρ 16) (n17 := ρ 17) (H0 := η 0) (H1 := η 1) f31 f30 f29 f28 f27 f26 f25 f24 f23 f22 f21 f20 f19 f18 f17 f16 f15 f14 f13 f12 f11 f10 f9 f8 f7 f6 f5 f4 f3 f2 f1 f0
theorem q_127v_30 {n0 n1 n2 n3 n4 n5 n6 n7 n8 n9 n10 n11 n12 n13 n14 n15 n16 n17 n18 n19 : Int} {H0 H1 H2 : gH} (f0 : n0 ≤ 2147483647) (f1 : (-2147483648) ≤ n0) (f2 : n1 ≤ 2147483647) (f3 : (-2147483648) ≤ n1) (f4 : n2 = 31) (f5 : hWt T0 H0 ∧ preb_127v n2 n3 n1 n0 H0) (f6 : n4 ≤ 2147483647) (f7 : (-2147483648) ≤ n4) (f8 : (hLe T0 H0 H1 ∧ hFr s_199vk692.2.2.2.2 H0 H1 ∧ ((0 : Int) = 0 → H1.length = H0.length) ∧ hWt T0 H1) ∧ postb_199vk692 n4 n3 n1 H0 H1) (f9 : n5 = 9) (f10 : n4 ≠ n5) (f11 : n6 = 10) (f12 : n4 ≠ n6) (f13 : n7 = 13) (f14 : n4 ≠ n7) (f15 : n8 = 32) (f16 : n4 ≠ n8) (f17 : n9 = 97) (f18 : n4 < n9) (f19 : n10 = 48) (f20 : n10 ≤ n4) (f21 : n11 = 57) (f22 : n11 < n4) (f23 : n12 = 1) (f24 : n13 = w32 (n1 + n12)) (f25 : n0 ≤ n13) (f26 : n14 = 0) (f27 : n14 = 0) (f28 : n15 = 1) (f29 : n16 = 1) (f30 : n15 ≠ n16) (f31 : n17 = 0) (f32 : (hLe T0 H1 H2 ∧ hFr s_126v.2.2.2.2 H1 H2 ∧ ((0 : Int) = 0 → H2.length = H1.length) ∧ hWt T0 H2) ∧ postb_126v n2 n15 n1 n17 H1 H2) (f33 : n18 = 2) (f34 : n19 = w32 (n1 + n18)) : postb_127v n19 n2 n3 n1 n0 H0 H2 := by
  have pz := f5.2
  unfold preb_127v at pz
  obtain ⟨ks, tp, wd, b0, b1, b2, b3, c0, c1⟩ := pz
  have et : ((n1).toNat : Int) = n1 := Int.toNat_of_nonneg b1
  have sm0 : SMT H0 H0 := SMT_rfl
  have wq24 := f24
  unfold w32 at wq24
  have wq34 := f34
  unfold w32 at wq34
  have qa0 := f8.2
  unfold postb_199vk692 at qa0
  have a0 := at8 sm0 tp qa0 (by omega) (by omega) (by omega)
  have sm1 := SMT_trans sm0 (SMT_fr f8.1.2.1 (by decide +kernel))
  have ks_0 := KS5_le f8.1.1 ks
  have tp_0 := TP_le f8.1.1 tp
  have wd_0 := WDS_fr f8.1.1 f8.1.2.1 (by decide +kernel) wd
  unfold postb_127v ONE
  have lt := f32.2
  unfold postb_126v at lt
  have nt := NTp_from sm1 lt.1
  rw [f31] at nt
  first
  | (exfalso; omega)
  | (rw [pk] at nt
     exact ⟨.inr (.inr (.inr (.inl ⟨by omega, by omega, by omega, ⟨by omega, by omega, by omega⟩, by omega, nt⟩))), lt.2⟩)
theorem c_127v_s_30 : vOkm T0 (eP e_127v L_127v A_127v mu_127v none) 4 ([(1, [19, 2, 18], [], 0), (0, [18], [], 2), (1126, [0, 15, 2, 17], [1, 2], 0), (0, [17], [], 0), (41, [15, 16], [], 0), (0, [16], [], 1), (0, [15], [], 1), (30, [14], [], 0), (0, [14], [], 0), (43, [13, 3], [], 0), (1, [13, 2, 12], [], 0), (0, [12], [], 1), (44, [4, 11], [], 0), (0, [11], [], 57), (43, [4, 10], [], 0), (0, [10], [], 48), (42, [4, 9], [], 0), (0, [9], [], 97), (41, [4, 8], [], 0), (0, [8], [], 32), (41, [4, 7], [], 0), (0, [7], [], 13), (41, [4, 6], [], 0), (0, [6], [], 10), (41, [4, 5], [], 0), (0, [5], [], 9), (1199, [4, 1, 2], [0, 1], 0), (90, [4], [], -2147483648), (91, [4], [], 2147483647), (6000, [0, 1, 2, 3], [0], 0), (0, [0], [], 31), (90, [2], [], -2147483648), (91, [2], [], 2147483647), (90, [3], [], -2147483648), (91, [3], [], 2147483647)], (3000, [19], [2], 142)) := vOk_in fun ρ η h => by
  obtain ⟨f0, f1, f2, f3, f4, f5, f6, f7, f8, f9, f10, f11, f12, f13, f14, f15, f16, f17, f18, f19, f20, f21, f22, f23, f24, f25, f26, f27, f28, f29, f30, f31, f32, f33, f34, _⟩ := h
  exact q_127v_30 (n0 := ρ 3) (n1 := ρ 2) (n2 := ρ 0) (n3 := ρ 1) (n4 := ρ 4) (n5 := ρ 5) (n6 := ρ 6) (n7 := ρ 7) (n8 := ρ 8) (n9 := ρ 9) (n10 := ρ 10) (n11 := ρ 11) (n12 := ρ 12) (n13 := ρ 13) (n14 := ρ 14) (n15 := ρ 15) (n16 := ρ 16) (n17 := ρ 17) (n18 := ρ 18) (n19 := ρ 19) (H0 := η 0) (H1 := η 1) (H2 := η 2) f34 f33 f32 f31 f30 f29 f28 f27 f26 f25 f24 f23 f22 f21 f20 f19 f18 f17 f16 f15 f14 f13 f12 f11 f10 f9 f8 f7 f6 f5 f4 f3 f2 f1 f0
theorem q_127v_31 {n0 n1 n2 n3 n4 n5 n6 n7 n8 n9 n10 n11 n12 n13 n14 n15 n16 n17 n18 : Int} {H0 H1 H2 H3 : gH} (f0 : n0 ≤ 2147483647) (f1 : (-2147483648) ≤ n0) (f2 : n1 ≤ 2147483647) (f3 : (-2147483648) ≤ n1) (f4 : n2 = 31) (f5 : hWt T0 H0 ∧ preb_127v n2 n3 n1 n0 H0) (f6 : n4 ≤ 2147483647) (f7 : (-2147483648) ≤ n4) (f8 : (hLe T0 H0 H1 ∧ hFr s_199vk692.2.2.2.2 H0 H1 ∧ ((0 : Int) = 0 → H1.length = H0.length) ∧ hWt T0 H1) ∧ postb_199vk692 n4 n3 n1 H0 H1) (f9 : n5 = 9) (f10 : n4 ≠ n5) (f11 : n6 = 10) (f12 : n4 ≠ n6) (f13 : n7 = 13) (f14 : n4 ≠ n7) (f15 : n8 = 32) (f16 : n4 ≠ n8) (f17 : n9 = 97) (f18 : n4 < n9) (f19 : n10 = 48) (f20 : n10 ≤ n4) (f21 : n11 = 57) (f22 : n11 < n4) (f23 : n12 = 1) (f24 : n13 = w32 (n1 + n12)) (f25 : n0 ≤ n13) (f26 : n14 = 0) (f27 : n14 ≠ 0) (f28 : n15 ≤ 2147483647) (f29 : (-2147483648) ≤ n15) (f30 : (hLe T0 H1 H2 ∧ hFr s_131v.2.2.2.2 H1 H2 ∧ ((0 : Int) = 0 → H2.length = H1.length) ∧ hWt T0 H2) ∧ postb_131v n15 n4 H1 H2) (f31 : n16 = 1) (f32 : n15 = n16) (f33 : n17 ≤ 2147483647) (f34 : (-2147483648) ≤ n17) (f35 : (hLe T0 H2 H3 ∧ hFr s_132v.2.2.2.2 H2 H3 ∧ ((0 : Int) = 0 → H3.length = H2.length) ∧ hWt T0 H3) ∧ postb_132v n17 n4 H2 H3) (f36 : n18 = 0) : preb_126v n2 n17 n1 n18 H3 := by
  have pz := f5.2
  unfold preb_127v at pz
  obtain ⟨ks, tp, wd, b0, b1, b2, b3, c0, c1⟩ := pz
  have et : ((n1).toNat : Int) = n1 := Int.toNat_of_nonneg b1
  have sm0 : SMT H0 H0 := SMT_rfl
  have wq24 := f24
  unfold w32 at wq24
  have qa0 := f8.2
  unfold postb_199vk692 at qa0
  have a0 := at8 sm0 tp qa0 (by omega) (by omega) (by omega)
  have sm1 := SMT_trans sm0 (SMT_fr f8.1.2.1 (by decide +kernel))
  have ks_0 := KS5_le f8.1.1 ks
  have tp_0 := TP_le f8.1.1 tp
  have wd_0 := WDS_fr f8.1.1 f8.1.2.1 (by decide +kernel) wd
  have pk := f30.2
  unfold postb_131v at pk
  have sm2 := SMT_trans sm1 (SMT_fr f30.1.2.1 (by decide +kernel))
  have ks_1 := KS5_le f30.1.1 ks_0
  have tp_1 := TP_le f30.1.1 tp_0
  have wd_1 := WDS_fr f30.1.1 f30.1.2.1 (by decide +kernel) wd_0
  have sk := f35.2
  unfold postb_132v at sk
  have sm3 := SMT_trans sm2 (SMT_fr f35.1.2.1 (by decide +kernel))
  have ks_2 := KS5_le f35.1.1 ks_1
  have tp_2 := TP_le f35.1.1 tp_1
  have wd_2 := WDS_fr f35.1.1 f35.1.2.1 (by decide +kernel) wd_1
  rw [a0] at pk
  rw [a0] at sk
  unfold preb_126v
  exact ⟨ks_2, by rw [sm3.1]; exact c0, by rw [sm3.1]; exact c1⟩
theorem c_127v_s_31 : vOkm T0 (eP e_127v L_127v A_127v mu_127v none) 4 ([(0, [18], [], 0), (1132, [17, 4], [2, 3], 0), (90, [17], [], -2147483648), (91, [17], [], 2147483647), (40, [15, 16], [], 0), (0, [16], [], 1), (1131, [15, 4], [1, 2], 0), (90, [15], [], -2147483648), (91, [15], [], 2147483647), (31, [14], [], 0), (0, [14], [], 0), (43, [13, 3], [], 0), (1, [13, 2, 12], [], 0), (0, [12], [], 1), (44, [4, 11], [], 0), (0, [11], [], 57), (43, [4, 10], [], 0), (0, [10], [], 48), (42, [4, 9], [], 0), (0, [9], [], 97), (41, [4, 8], [], 0), (0, [8], [], 32), (41, [4, 7], [], 0), (0, [7], [], 13), (41, [4, 6], [], 0), (0, [6], [], 10), (41, [4, 5], [], 0), (0, [5], [], 9), (1199, [4, 1, 2], [0, 1], 0), (90, [4], [], -2147483648), (91, [4], [], 2147483647), (6000, [0, 1, 2, 3], [0], 0), (0, [0], [], 31), (90, [2], [], -2147483648), (91, [2], [], 2147483647), (90, [3], [], -2147483648), (91, [3], [], 2147483647)], (2126, [0, 17, 2, 18], [3], 0)) := vOk_in fun ρ η h => by
  obtain ⟨f0, f1, f2, f3, f4, f5, f6, f7, f8, f9, f10, f11, f12, f13, f14, f15, f16, f17, f18, f19, f20, f21, f22, f23, f24, f25, f26, f27, f28, f29, f30, f31, f32, f33, f34, f35, f36, _⟩ := h
  exact q_127v_31 (n0 := ρ 3) (n1 := ρ 2) (n2 := ρ 0) (n3 := ρ 1) (n4 := ρ 4) (n5 := ρ 5) (n6 := ρ 6) (n7 := ρ 7) (n8 := ρ 8) (n9 := ρ 9) (n10 := ρ 10) (n11 := ρ 11) (n12 := ρ 12) (n13 := ρ 13) (n14 := ρ 14) (n15 := ρ 15) (n16 := ρ 16) (n17 := ρ 17) (n18 := ρ 18) (H0 := η 0) (H1 := η 1) (H2 := η 2) (H3 := η 3) f36 f35 f34 f33 f32 f31 f30 f29 f28 f27 f26 f25 f24 f23 f22 f21 f20 f19 f18 f17 f16 f15 f14 f13 f12 f11 f10 f9 f8 f7 f6 f5 f4 f3 f2 f1 f0
theorem q_127v_32 {n0 n1 n2 n3 n4 n5 n6 n7 n8 n9 n10 n11 n12 n13 n14 n15 n16 n17 n18 n19 n20 : Int} {H0 H1 H2 H3 H4 : gH} (f0 : n0 ≤ 2147483647) (f1 : (-2147483648) ≤ n0) (f2 : n1 ≤ 2147483647) (f3 : (-2147483648) ≤ n1) (f4 : n2 = 31) (f5 : hWt T0 H0 ∧ preb_127v n2 n3 n1 n0 H0) (f6 : n4 ≤ 2147483647) (f7 : (-2147483648) ≤ n4) (f8 : (hLe T0 H0 H1 ∧ hFr s_199vk692.2.2.2.2 H0 H1 ∧ ((0 : Int) = 0 → H1.length = H0.length) ∧ hWt T0 H1) ∧ postb_199vk692 n4 n3 n1 H0 H1) (f9 : n5 = 9) (f10 : n4 ≠ n5) (f11 : n6 = 10) (f12 : n4 ≠ n6) (f13 : n7 = 13) (f14 : n4 ≠ n7) (f15 : n8 = 32) (f16 : n4 ≠ n8) (f17 : n9 = 97) (f18 : n4 < n9) (f19 : n10 = 48) (f20 : n10 ≤ n4) (f21 : n11 = 57) (f22 : n11 < n4) (f23 : n12 = 1) (f24 : n13 = w32 (n1 + n12)) (f25 : n0 ≤ n13) (f26 : n14 = 0) (f27 : n14 ≠ 0) (f28 : n15 ≤ 2147483647) (f29 : (-2147483648) ≤ n15) (f30 : (hLe T0 H1 H2 ∧ hFr s_131v.2.2.2.2 H1 H2 ∧ ((0 : Int) = 0 → H2.length = H1.length) ∧ hWt T0 H2) ∧ postb_131v n15 n4 H1 H2) (f31 : n16 = 1) (f32 : n15 = n16) (f33 : n17 ≤ 2147483647) (f34 : (-2147483648) ≤ n17) (f35 : (hLe T0 H2 H3 ∧ hFr s_132v.2.2.2.2 H2 H3 ∧ ((0 : Int) = 0 → H3.length = H2.length) ∧ hWt T0 H3) ∧ postb_132v n17 n4 H2 H3) (f36 : n18 = 0) (f37 : (hLe T0 H3 H4 ∧ hFr s_126v.2.2.2.2 H3 H4 ∧ ((0 : Int) = 0 → H4.length = H3.length) ∧ hWt T0 H4) ∧ postb_126v n2 n17 n1 n18 H3 H4) (f38 : n19 = 1) (f39 : n20 = w32 (n1 + n19)) : postb_127v n20 n2 n3 n1 n0 H0 H4 := by
  have pz := f5.2
  unfold preb_127v at pz
  obtain ⟨ks, tp, wd, b0, b1, b2, b3, c0, c1⟩ := pz
  have et : ((n1).toNat : Int) = n1 := Int.toNat_of_nonneg b1
  have sm0 : SMT H0 H0 := SMT_rfl
  have wq24 := f24
  unfold w32 at wq24
  have wq39 := f39
  unfold w32 at wq39
  have qa0 := f8.2
  unfold postb_199vk692 at qa0
  have a0 := at8 sm0 tp qa0 (by omega) (by omega) (by omega)
  have sm1 := SMT_trans sm0 (SMT_fr f8.1.2.1 (by decide +kernel))
  have ks_0 := KS5_le f8.1.1 ks
  have tp_0 := TP_le f8.1.1 tp
  have wd_0 := WDS_fr f8.1.1 f8.1.2.1 (by decide +kernel) wd
  have pk := f30.2
  unfold postb_131v at pk
  have sm2 := SMT_trans sm1 (SMT_fr f30.1.2.1 (by decide +kernel))
  have ks_1 := KS5_le f30.1.1 ks_0
  have tp_1 := TP_le f30.1.1 tp_0
  have wd_1 := WDS_fr f30.1.1 f30.1.2.1 (by decide +kernel) wd_0
  have sk := f35.2
  unfold postb_132v at sk
  have sm3 := SMT_trans sm2 (SMT_fr f35.1.2.1 (by decide +kernel))
  have ks_2 := KS5_le f35.1.1 ks_1
  have tp_2 := TP_le f35.1.1 tp_1
  have wd_2 := WDS_fr f35.1.1 f35.1.2.1 (by decide +kernel) wd_1
  rw [a0] at pk
  rw [a0] at sk
  unfold postb_127v ONE
  have lt := f37.2
  unfold postb_126v at lt
  have nt := NTp_from sm3 lt.1
  rw [f36] at nt
  first
  | exact absurd rfl (by omega)
  | (rw [sk] at nt
     exact ⟨.inr (.inr (.inr (.inr ⟨by omega, by omega, by omega, by omega, by omega, nt⟩))), lt.2⟩)
theorem c_127v_s_32 : vOkm T0 (eP e_127v L_127v A_127v mu_127v none) 4 ([(1, [20, 2, 19], [], 0), (0, [19], [], 1), (1126, [0, 17, 2, 18], [3, 4], 0), (0, [18], [], 0), (1132, [17, 4], [2, 3], 0), (90, [17], [], -2147483648), (91, [17], [], 2147483647), (40, [15, 16], [], 0), (0, [16], [], 1), (1131, [15, 4], [1, 2], 0), (90, [15], [], -2147483648), (91, [15], [], 2147483647), (31, [14], [], 0), (0, [14], [], 0), (43, [13, 3], [], 0), (1, [13, 2, 12], [], 0), (0, [12], [], 1), (44, [4, 11], [], 0), (0, [11], [], 57), (43, [4, 10], [], 0), (0, [10], [], 48), (42, [4, 9], [], 0), (0, [9], [], 97), (41, [4, 8], [], 0), (0, [8], [], 32), (41, [4, 7], [], 0), (0, [7], [], 13), (41, [4, 6], [], 0), (0, [6], [], 10), (41, [4, 5], [], 0), (0, [5], [], 9), (1199, [4, 1, 2], [0, 1], 0), (90, [4], [], -2147483648), (91, [4], [], 2147483647), (6000, [0, 1, 2, 3], [0], 0), (0, [0], [], 31), (90, [2], [], -2147483648), (91, [2], [], 2147483647), (90, [3], [], -2147483648), (91, [3], [], 2147483647)], (3000, [20], [4], 157)) := vOk_in fun ρ η h => by
  obtain ⟨f0, f1, f2, f3, f4, f5, f6, f7, f8, f9, f10, f11, f12, f13, f14, f15, f16, f17, f18, f19, f20, f21, f22, f23, f24, f25, f26, f27, f28, f29, f30, f31, f32, f33, f34, f35, f36, f37, f38, f39, _⟩ := h
  exact q_127v_32 (n0 := ρ 3) (n1 := ρ 2) (n2 := ρ 0) (n3 := ρ 1) (n4 := ρ 4) (n5 := ρ 5) (n6 := ρ 6) (n7 := ρ 7) (n8 := ρ 8) (n9 := ρ 9) (n10 := ρ 10) (n11 := ρ 11) (n12 := ρ 12) (n13 := ρ 13) (n14 := ρ 14) (n15 := ρ 15) (n16 := ρ 16) (n17 := ρ 17) (n18 := ρ 18) (n19 := ρ 19) (n20 := ρ 20) (H0 := η 0) (H1 := η 1) (H2 := η 2) (H3 := η 3) (H4 := η 4) f39 f38 f37 f36 f35 f34 f33 f32 f31 f30 f29 f28 f27 f26 f25 f24 f23 f22 f21 f20 f19 f18 f17 f16 f15 f14 f13 f12 f11 f10 f9 f8 f7 f6 f5 f4 f3 f2 f1 f0
theorem q_127v_33 {n0 n1 n2 n3 n4 n5 n6 n7 n8 n9 n10 n11 n12 n13 n14 n15 n16 n17 : Int} {H0 H1 H2 : gH} (f0 : n0 ≤ 2147483647) (f1 : (-2147483648) ≤ n0) (f2 : n1 ≤ 2147483647) (f3 : (-2147483648) ≤ n1) (f4 : n2 = 31) (f5 : hWt T0 H0 ∧ preb_127v n2 n3 n1 n0 H0) (f6 : n4 ≤ 2147483647) (f7 : (-2147483648) ≤ n4) (f8 : (hLe T0 H0 H1 ∧ hFr s_199vk692.2.2.2.2 H0 H1 ∧ ((0 : Int) = 0 → H1.length = H0.length) ∧ hWt T0 H1) ∧ postb_199vk692 n4 n3 n1 H0 H1) (f9 : n5 = 9) (f10 : n4 ≠ n5) (f11 : n6 = 10) (f12 : n4 ≠ n6) (f13 : n7 = 13) (f14 : n4 ≠ n7) (f15 : n8 = 32) (f16 : n4 ≠ n8) (f17 : n9 = 97) (f18 : n4 < n9) (f19 : n10 = 48) (f20 : n10 ≤ n4) (f21 : n11 = 57) (f22 : n11 < n4) (f23 : n12 = 1) (f24 : n13 = w32 (n1 + n12)) (f25 : n0 ≤ n13) (f26 : n14 = 0) (f27 : n14 ≠ 0) (f28 : n15 ≤ 2147483647) (f29 : (-2147483648) ≤ n15) (f30 : (hLe T0 H1 H2 ∧ hFr s_131v.2.2.2.2 H1 H2 ∧ ((0 : Int) = 0 → H2.length = H1.length) ∧ hWt T0 H2) ∧ postb_131v n15 n4 H1 H2) (f31 : n16 = 1) (f32 : n15 ≠ n16) (f33 : n17 = 0) : preb_126v n2 n15 n1 n17 H2 := by
  have pz := f5.2
  unfold preb_127v at pz
  obtain ⟨ks, tp, wd, b0, b1, b2, b3, c0, c1⟩ := pz
  have et : ((n1).toNat : Int) = n1 := Int.toNat_of_nonneg b1
  have sm0 : SMT H0 H0 := SMT_rfl
  have wq24 := f24
  unfold w32 at wq24
  have qa0 := f8.2
  unfold postb_199vk692 at qa0
  have a0 := at8 sm0 tp qa0 (by omega) (by omega) (by omega)
  have sm1 := SMT_trans sm0 (SMT_fr f8.1.2.1 (by decide +kernel))
  have ks_0 := KS5_le f8.1.1 ks
  have tp_0 := TP_le f8.1.1 tp
  have wd_0 := WDS_fr f8.1.1 f8.1.2.1 (by decide +kernel) wd
  have pk := f30.2
  unfold postb_131v at pk
  have sm2 := SMT_trans sm1 (SMT_fr f30.1.2.1 (by decide +kernel))
  have ks_1 := KS5_le f30.1.1 ks_0
  have tp_1 := TP_le f30.1.1 tp_0
  have wd_1 := WDS_fr f30.1.1 f30.1.2.1 (by decide +kernel) wd_0
  rw [a0] at pk
  unfold preb_126v
  exact ⟨ks_1, by rw [sm2.1]; exact c0, by rw [sm2.1]; exact c1⟩
theorem c_127v_s_33 : vOkm T0 (eP e_127v L_127v A_127v mu_127v none) 4 ([(0, [17], [], 0), (41, [15, 16], [], 0), (0, [16], [], 1), (1131, [15, 4], [1, 2], 0), (90, [15], [], -2147483648), (91, [15], [], 2147483647), (31, [14], [], 0), (0, [14], [], 0), (43, [13, 3], [], 0), (1, [13, 2, 12], [], 0), (0, [12], [], 1), (44, [4, 11], [], 0), (0, [11], [], 57), (43, [4, 10], [], 0), (0, [10], [], 48), (42, [4, 9], [], 0), (0, [9], [], 97), (41, [4, 8], [], 0), (0, [8], [], 32), (41, [4, 7], [], 0), (0, [7], [], 13), (41, [4, 6], [], 0), (0, [6], [], 10), (41, [4, 5], [], 0), (0, [5], [], 9), (1199, [4, 1, 2], [0, 1], 0), (90, [4], [], -2147483648), (91, [4], [], 2147483647), (6000, [0, 1, 2, 3], [0], 0), (0, [0], [], 31), (90, [2], [], -2147483648), (91, [2], [], 2147483647), (90, [3], [], -2147483648), (91, [3], [], 2147483647)], (2126, [0, 15, 2, 17], [2], 0)) := vOk_in fun ρ η h => by
  obtain ⟨f0, f1, f2, f3, f4, f5, f6, f7, f8, f9, f10, f11, f12, f13, f14, f15, f16, f17, f18, f19, f20, f21, f22, f23, f24, f25, f26, f27, f28, f29, f30, f31, f32, f33, _⟩ := h
  exact q_127v_33 (n0 := ρ 3) (n1 := ρ 2) (n2 := ρ 0) (n3 := ρ 1) (n4 := ρ 4) (n5 := ρ 5) (n6 := ρ 6) (n7 := ρ 7) (n8 := ρ 8) (n9 := ρ 9) (n10 := ρ 10) (n11 := ρ 11) (n12 := ρ 12) (n13 := ρ 13) (n14 := ρ 14) (n15 := ρ 15) (n16 := ρ 16) (n17 := ρ 17) (H0 := η 0) (H1 := η 1) (H2 := η 2) f33 f32 f31 f30 f29 f28 f27 f26 f25 f24 f23 f22 f21 f20 f19 f18 f17 f16 f15 f14 f13 f12 f11 f10 f9 f8 f7 f6 f5 f4 f3 f2 f1 f0
theorem q_127v_34 {n0 n1 n2 n3 n4 n5 n6 n7 n8 n9 n10 n11 n12 n13 n14 n15 n16 n17 n18 n19 : Int} {H0 H1 H2 H3 : gH} (f0 : n0 ≤ 2147483647) (f1 : (-2147483648) ≤ n0) (f2 : n1 ≤ 2147483647) (f3 : (-2147483648) ≤ n1) (f4 : n2 = 31) (f5 : hWt T0 H0 ∧ preb_127v n2 n3 n1 n0 H0) (f6 : n4 ≤ 2147483647) (f7 : (-2147483648) ≤ n4) (f8 : (hLe T0 H0 H1 ∧ hFr s_199vk692.2.2.2.2 H0 H1 ∧ ((0 : Int) = 0 → H1.length = H0.length) ∧ hWt T0 H1) ∧ postb_199vk692 n4 n3 n1 H0 H1) (f9 : n5 = 9) (f10 : n4 ≠ n5) (f11 : n6 = 10) (f12 : n4 ≠ n6) (f13 : n7 = 13) (f14 : n4 ≠ n7) (f15 : n8 = 32) (f16 : n4 ≠ n8) (f17 : n9 = 97) (f18 : n4 < n9) (f19 : n10 = 48) (f20 : n10 ≤ n4) (f21 : n11 = 57) (f22 : n11 < n4) (f23 : n12 = 1) (f24 : n13 = w32 (n1 + n12)) (f25 : n0 ≤ n13) (f26 : n14 = 0) (f27 : n14 ≠ 0) (f28 : n15 ≤ 2147483647) (f29 : (-2147483648) ≤ n15) (f30 : (hLe T0 H1 H2 ∧ hFr s_131v.2.2.2.2 H1 H2 ∧ ((0 : Int) = 0 → H2.length = H1.length) ∧ hWt T0 H2) ∧ postb_131v n15 n4 H1 H2) (f31 : n16 = 1) (f32 : n15 ≠ n16) (f33 : n17 = 0) (f34 : (hLe T0 H2 H3 ∧ hFr s_126v.2.2.2.2 H2 H3 ∧ ((0 : Int) = 0 → H3.length = H2.length) ∧ hWt T0 H3) ∧ postb_126v n2 n15 n1 n17 H2 H3) (f35 : n18 = 2) (f36 : n19 = w32 (n1 + n18)) : postb_127v n19 n2 n3 n1 n0 H0 H3 := by
  have pz := f5.2
  unfold preb_127v at pz
  obtain ⟨ks, tp, wd, b0, b1, b2, b3, c0, c1⟩ := pz
  have et : ((n1).toNat : Int) = n1 := Int.toNat_of_nonneg b1
  have sm0 : SMT H0 H0 := SMT_rfl
  have wq24 := f24
  unfold w32 at wq24
  have wq36 := f36
  unfold w32 at wq36
  have qa0 := f8.2
  unfold postb_199vk692 at qa0
  have a0 := at8 sm0 tp qa0 (by omega) (by omega) (by omega)
  have sm1 := SMT_trans sm0 (SMT_fr f8.1.2.1 (by decide +kernel))
  have ks_0 := KS5_le f8.1.1 ks
  have tp_0 := TP_le f8.1.1 tp
  have wd_0 := WDS_fr f8.1.1 f8.1.2.1 (by decide +kernel) wd
  have pk := f30.2
  unfold postb_131v at pk
  have sm2 := SMT_trans sm1 (SMT_fr f30.1.2.1 (by decide +kernel))
  have ks_1 := KS5_le f30.1.1 ks_0
  have tp_1 := TP_le f30.1.1 tp_0
  have wd_1 := WDS_fr f30.1.1 f30.1.2.1 (by decide +kernel) wd_0
  rw [a0] at pk
  unfold postb_127v ONE
  have lt := f34.2
  unfold postb_126v at lt
  have nt := NTp_from sm2 lt.1
  rw [f33] at nt
  first
  | (exfalso; omega)
  | (rw [pk] at nt
     exact ⟨.inr (.inr (.inr (.inl ⟨by omega, by omega, by omega, ⟨by omega, by omega, by omega⟩, by omega, nt⟩))), lt.2⟩)
theorem c_127v_s_34 : vOkm T0 (eP e_127v L_127v A_127v mu_127v none) 4 ([(1, [19, 2, 18], [], 0), (0, [18], [], 2), (1126, [0, 15, 2, 17], [2, 3], 0), (0, [17], [], 0), (41, [15, 16], [], 0), (0, [16], [], 1), (1131, [15, 4], [1, 2], 0), (90, [15], [], -2147483648), (91, [15], [], 2147483647), (31, [14], [], 0), (0, [14], [], 0), (43, [13, 3], [], 0), (1, [13, 2, 12], [], 0), (0, [12], [], 1), (44, [4, 11], [], 0), (0, [11], [], 57), (43, [4, 10], [], 0), (0, [10], [], 48), (42, [4, 9], [], 0), (0, [9], [], 97), (41, [4, 8], [], 0), (0, [8], [], 32), (41, [4, 7], [], 0), (0, [7], [], 13), (41, [4, 6], [], 0), (0, [6], [], 10), (41, [4, 5], [], 0), (0, [5], [], 9), (1199, [4, 1, 2], [0, 1], 0), (90, [4], [], -2147483648), (91, [4], [], 2147483647), (6000, [0, 1, 2, 3], [0], 0), (0, [0], [], 31), (90, [2], [], -2147483648), (91, [2], [], 2147483647), (90, [3], [], -2147483648), (91, [3], [], 2147483647)], (3000, [19], [3], 142)) := vOk_in fun ρ η h => by
  obtain ⟨f0, f1, f2, f3, f4, f5, f6, f7, f8, f9, f10, f11, f12, f13, f14, f15, f16, f17, f18, f19, f20, f21, f22, f23, f24, f25, f26, f27, f28, f29, f30, f31, f32, f33, f34, f35, f36, _⟩ := h
  exact q_127v_34 (n0 := ρ 3) (n1 := ρ 2) (n2 := ρ 0) (n3 := ρ 1) (n4 := ρ 4) (n5 := ρ 5) (n6 := ρ 6) (n7 := ρ 7) (n8 := ρ 8) (n9 := ρ 9) (n10 := ρ 10) (n11 := ρ 11) (n12 := ρ 12) (n13 := ρ 13) (n14 := ρ 14) (n15 := ρ 15) (n16 := ρ 16) (n17 := ρ 17) (n18 := ρ 18) (n19 := ρ 19) (H0 := η 0) (H1 := η 1) (H2 := η 2) (H3 := η 3) f36 f35 f34 f33 f32 f31 f30 f29 f28 f27 f26 f25 f24 f23 f22 f21 f20 f19 f18 f17 f16 f15 f14 f13 f12 f11 f10 f9 f8 f7 f6 f5 f4 f3 f2 f1 f0
theorem q_127v_35 {n0 n1 n2 n3 n4 n5 n6 n7 n8 n9 n10 n11 n12 n13 n14 n15 n16 n17 n18 n19 n20 n21 n22 : Int} {H0 H1 H2 H3 : gH} (f0 : n0 ≤ 2147483647) (f1 : (-2147483648) ≤ n0) (f2 : n1 ≤ 2147483647) (f3 : (-2147483648) ≤ n1) (f4 : n2 = 31) (f5 : hWt T0 H0 ∧ preb_127v n2 n3 n1 n0 H0) (f6 : n4 ≤ 2147483647) (f7 : (-2147483648) ≤ n4) (f8 : (hLe T0 H0 H1 ∧ hFr s_199vk692.2.2.2.2 H0 H1 ∧ ((0 : Int) = 0 → H1.length = H0.length) ∧ hWt T0 H1) ∧ postb_199vk692 n4 n3 n1 H0 H1) (f9 : n5 = 9) (f10 : n4 ≠ n5) (f11 : n6 = 10) (f12 : n4 ≠ n6) (f13 : n7 = 13) (f14 : n4 ≠ n7) (f15 : n8 = 32) (f16 : n4 ≠ n8) (f17 : n9 = 97) (f18 : n4 < n9) (f19 : n10 = 48) (f20 : n10 ≤ n4) (f21 : n11 = 57) (f22 : n11 < n4) (f23 : n12 = 1) (f24 : n13 = w32 (n1 + n12)) (f25 : n13 < n0) (f26 : n14 = 1) (f27 : n15 = w32 (n1 + n14)) (f28 : n16 ≤ 2147483647) (f29 : (-2147483648) ≤ n16) (f30 : (hLe T0 H1 H2 ∧ hFr s_199vk692.2.2.2.2 H1 H2 ∧ ((0 : Int) = 0 → H2.length = H1.length) ∧ hWt T0 H2) ∧ postb_199vk692 n16 n3 n15 H1 H2) (f31 : n17 = 61) (f32 : n16 ≠ n17) (f33 : n18 = 0) (f34 : n18 = 0) (f35 : n19 = 1) (f36 : n20 = 1) (f37 : n19 = n20) (f38 : n21 ≤ 2147483647) (f39 : (-2147483648) ≤ n21) (f40 : (hLe T0 H2 H3 ∧ hFr s_132v.2.2.2.2 H2 H3 ∧ ((0 : Int) = 0 → H3.length = H2.length) ∧ hWt T0 H3) ∧ postb_132v n21 n4 H2 H3) (f41 : n22 = 0) : preb_126v n2 n21 n1 n22 H3 := by
  have pz := f5.2
  unfold preb_127v at pz
  obtain ⟨ks, tp, wd, b0, b1, b2, b3, c0, c1⟩ := pz
  have et : ((n1).toNat : Int) = n1 := Int.toNat_of_nonneg b1
  have sm0 : SMT H0 H0 := SMT_rfl
  have wq24 := f24
  unfold w32 at wq24
  have wq27 := f27
  unfold w32 at wq27
  have qa0 := f8.2
  unfold postb_199vk692 at qa0
  have a0 := at8 sm0 tp qa0 (by omega) (by omega) (by omega)
  have sm1 := SMT_trans sm0 (SMT_fr f8.1.2.1 (by decide +kernel))
  have ks_0 := KS5_le f8.1.1 ks
  have tp_0 := TP_le f8.1.1 tp
  have wd_0 := WDS_fr f8.1.1 f8.1.2.1 (by decide +kernel) wd
  have qa1 := f30.2
  unfold postb_199vk692 at qa1
  have a1 := at8 sm1 tp_0 qa1 (by omega) (by omega) (by omega)
  rw [show (n15).toNat = (n1).toNat + 1 by omega] at a1
  have sm2 := SMT_trans sm1 (SMT_fr f30.1.2.1 (by decide +kernel))
  have ks_1 := KS5_le f30.1.1 ks_0
  have tp_1 := TP_le f30.1.1 tp_0
  have wd_1 := WDS_fr f30.1.1 f30.1.2.1 (by decide +kernel) wd_0
  have sk := f40.2
  unfold postb_132v at sk
  have sm3 := SMT_trans sm2 (SMT_fr f40.1.2.1 (by decide +kernel))
  have ks_2 := KS5_le f40.1.1 ks_1
  have tp_2 := TP_le f40.1.1 tp_1
  have wd_2 := WDS_fr f40.1.1 f40.1.2.1 (by decide +kernel) wd_1
  rw [a0] at sk
  unfold preb_126v
  exact ⟨ks_2, by rw [sm3.1]; exact c0, by rw [sm3.1]; exact c1⟩
theorem c_127v_s_35 : vOkm T0 (eP e_127v L_127v A_127v mu_127v none) 4 ([(0, [22], [], 0), (1132, [21, 4], [2, 3], 0), (90, [21], [], -2147483648), (91, [21], [], 2147483647), (40, [19, 20], [], 0), (0, [20], [], 1), (0, [19], [], 1), (30, [18], [], 0), (0, [18], [], 0), (41, [16, 17], [], 0), (0, [17], [], 61), (1199, [16, 1, 15], [1, 2], 0), (90, [16], [], -2147483648), (91, [16], [], 2147483647), (1, [15, 2, 14], [], 0), (0, [14], [], 1), (42, [13, 3], [], 0), (1, [13, 2, 12], [], 0), (0, [12], [], 1), (44, [4, 11], [], 0), (0, [11], [], 57), (43, [4, 10], [], 0), (0, [10], [], 48), (42, [4, 9], [], 0), (0, [9], [], 97), (41, [4, 8], [], 0), (0, [8], [], 32), (41, [4, 7], [], 0), (0, [7], [], 13), (41, [4, 6], [], 0), (0, [6], [], 10), (41, [4, 5], [], 0), (0, [5], [], 9), (1199, [4, 1, 2], [0, 1], 0), (90, [4], [], -2147483648), (91, [4], [], 2147483647), (6000, [0, 1, 2, 3], [0], 0), (0, [0], [], 31), (90, [2], [], -2147483648), (91, [2], [], 2147483647), (90, [3], [], -2147483648), (91, [3], [], 2147483647)], (2126, [0, 21, 2, 22], [3], 0)) := vOk_in fun ρ η h => by
  obtain ⟨f0, f1, f2, f3, f4, f5, f6, f7, f8, f9, f10, f11, f12, f13, f14, f15, f16, f17, f18, f19, f20, f21, f22, f23, f24, f25, f26, f27, f28, f29, f30, f31, f32, f33, f34, f35, f36, f37, f38, f39, f40, f41, _⟩ := h
  exact q_127v_35 (n0 := ρ 3) (n1 := ρ 2) (n2 := ρ 0) (n3 := ρ 1) (n4 := ρ 4) (n5 := ρ 5) (n6 := ρ 6) (n7 := ρ 7) (n8 := ρ 8) (n9 := ρ 9) (n10 := ρ 10) (n11 := ρ 11) (n12 := ρ 12) (n13 := ρ 13) (n14 := ρ 14) (n15 := ρ 15) (n16 := ρ 16) (n17 := ρ 17) (n18 := ρ 18) (n19 := ρ 19) (n20 := ρ 20) (n21 := ρ 21) (n22 := ρ 22) (H0 := η 0) (H1 := η 1) (H2 := η 2) (H3 := η 3) f41 f40 f39 f38 f37 f36 f35 f34 f33 f32 f31 f30 f29 f28 f27 f26 f25 f24 f23 f22 f21 f20 f19 f18 f17 f16 f15 f14 f13 f12 f11 f10 f9 f8 f7 f6 f5 f4 f3 f2 f1 f0
theorem q_127v_36 {n0 n1 n2 n3 n4 n5 n6 n7 n8 n9 n10 n11 n12 n13 n14 n15 n16 n17 n18 n19 n20 n21 n22 n23 n24 : Int} {H0 H1 H2 H3 H4 : gH} (f0 : n0 ≤ 2147483647) (f1 : (-2147483648) ≤ n0) (f2 : n1 ≤ 2147483647) (f3 : (-2147483648) ≤ n1) (f4 : n2 = 31) (f5 : hWt T0 H0 ∧ preb_127v n2 n3 n1 n0 H0) (f6 : n4 ≤ 2147483647) (f7 : (-2147483648) ≤ n4) (f8 : (hLe T0 H0 H1 ∧ hFr s_199vk692.2.2.2.2 H0 H1 ∧ ((0 : Int) = 0 → H1.length = H0.length) ∧ hWt T0 H1) ∧ postb_199vk692 n4 n3 n1 H0 H1) (f9 : n5 = 9) (f10 : n4 ≠ n5) (f11 : n6 = 10) (f12 : n4 ≠ n6) (f13 : n7 = 13) (f14 : n4 ≠ n7) (f15 : n8 = 32) (f16 : n4 ≠ n8) (f17 : n9 = 97) (f18 : n4 < n9) (f19 : n10 = 48) (f20 : n10 ≤ n4) (f21 : n11 = 57) (f22 : n11 < n4) (f23 : n12 = 1) (f24 : n13 = w32 (n1 + n12)) (f25 : n13 < n0) (f26 : n14 = 1) (f27 : n15 = w32 (n1 + n14)) (f28 : n16 ≤ 2147483647) (f29 : (-2147483648) ≤ n16) (f30 : (hLe T0 H1 H2 ∧ hFr s_199vk692.2.2.2.2 H1 H2 ∧ ((0 : Int) = 0 → H2.length = H1.length) ∧ hWt T0 H2) ∧ postb_199vk692 n16 n3 n15 H1 H2) (f31 : n17 = 61) (f32 : n16 ≠ n17) (f33 : n18 = 0) (f34 : n18 = 0) (f35 : n19 = 1) (f36 : n20 = 1) (f37 : n19 = n20) (f38 : n21 ≤ 2147483647) (f39 : (-2147483648) ≤ n21) (f40 : (hLe T0 H2 H3 ∧ hFr s_132v.2.2.2.2 H2 H3 ∧ ((0 : Int) = 0 → H3.length = H2.length) ∧ hWt T0 H3) ∧ postb_132v n21 n4 H2 H3) (f41 : n22 = 0) (f42 : (hLe T0 H3 H4 ∧ hFr s_126v.2.2.2.2 H3 H4 ∧ ((0 : Int) = 0 → H4.length = H3.length) ∧ hWt T0 H4) ∧ postb_126v n2 n21 n1 n22 H3 H4) (f43 : n23 = 1) (f44 : n24 = w32 (n1 + n23)) : postb_127v n24 n2 n3 n1 n0 H0 H4 := by
  have pz := f5.2
  unfold preb_127v at pz
  obtain ⟨ks, tp, wd, b0, b1, b2, b3, c0, c1⟩ := pz
  have et : ((n1).toNat : Int) = n1 := Int.toNat_of_nonneg b1
  have sm0 : SMT H0 H0 := SMT_rfl
  have wq24 := f24
  unfold w32 at wq24
  have wq27 := f27
  unfold w32 at wq27
  have wq44 := f44
  unfold w32 at wq44
  have qa0 := f8.2
  unfold postb_199vk692 at qa0
  have a0 := at8 sm0 tp qa0 (by omega) (by omega) (by omega)
  have sm1 := SMT_trans sm0 (SMT_fr f8.1.2.1 (by decide +kernel))
  have ks_0 := KS5_le f8.1.1 ks
  have tp_0 := TP_le f8.1.1 tp
  have wd_0 := WDS_fr f8.1.1 f8.1.2.1 (by decide +kernel) wd
  have qa1 := f30.2
  unfold postb_199vk692 at qa1
  have a1 := at8 sm1 tp_0 qa1 (by omega) (by omega) (by omega)
  rw [show (n15).toNat = (n1).toNat + 1 by omega] at a1
  have sm2 := SMT_trans sm1 (SMT_fr f30.1.2.1 (by decide +kernel))
  have ks_1 := KS5_le f30.1.1 ks_0
  have tp_1 := TP_le f30.1.1 tp_0
  have wd_1 := WDS_fr f30.1.1 f30.1.2.1 (by decide +kernel) wd_0
  have sk := f40.2
  unfold postb_132v at sk
  have sm3 := SMT_trans sm2 (SMT_fr f40.1.2.1 (by decide +kernel))
  have ks_2 := KS5_le f40.1.1 ks_1
  have tp_2 := TP_le f40.1.1 tp_1
  have wd_2 := WDS_fr f40.1.1 f40.1.2.1 (by decide +kernel) wd_1
  rw [a0] at sk
  unfold postb_127v ONE
  have lt := f42.2
  unfold postb_126v at lt
  have nt := NTp_from sm3 lt.1
  rw [f41] at nt
  first
  | exact absurd rfl (by omega)
  | (rw [sk] at nt
     exact ⟨.inr (.inr (.inr (.inr ⟨by omega, by omega, by omega, by omega, by omega, nt⟩))), lt.2⟩)
theorem c_127v_s_36 : vOkm T0 (eP e_127v L_127v A_127v mu_127v none) 4 ([(1, [24, 2, 23], [], 0), (0, [23], [], 1), (1126, [0, 21, 2, 22], [3, 4], 0), (0, [22], [], 0), (1132, [21, 4], [2, 3], 0), (90, [21], [], -2147483648), (91, [21], [], 2147483647), (40, [19, 20], [], 0), (0, [20], [], 1), (0, [19], [], 1), (30, [18], [], 0), (0, [18], [], 0), (41, [16, 17], [], 0), (0, [17], [], 61), (1199, [16, 1, 15], [1, 2], 0), (90, [16], [], -2147483648), (91, [16], [], 2147483647), (1, [15, 2, 14], [], 0), (0, [14], [], 1), (42, [13, 3], [], 0), (1, [13, 2, 12], [], 0), (0, [12], [], 1), (44, [4, 11], [], 0), (0, [11], [], 57), (43, [4, 10], [], 0), (0, [10], [], 48), (42, [4, 9], [], 0), (0, [9], [], 97), (41, [4, 8], [], 0), (0, [8], [], 32), (41, [4, 7], [], 0), (0, [7], [], 13), (41, [4, 6], [], 0), (0, [6], [], 10), (41, [4, 5], [], 0), (0, [5], [], 9), (1199, [4, 1, 2], [0, 1], 0), (90, [4], [], -2147483648), (91, [4], [], 2147483647), (6000, [0, 1, 2, 3], [0], 0), (0, [0], [], 31), (90, [2], [], -2147483648), (91, [2], [], 2147483647), (90, [3], [], -2147483648), (91, [3], [], 2147483647)], (3000, [24], [4], 157)) := vOk_in fun ρ η h => by
  obtain ⟨f0, f1, f2, f3, f4, f5, f6, f7, f8, f9, f10, f11, f12, f13, f14, f15, f16, f17, f18, f19, f20, f21, f22, f23, f24, f25, f26, f27, f28, f29, f30, f31, f32, f33, f34, f35, f36, f37, f38, f39, f40, f41, f42, f43, f44, _⟩ := h
  exact q_127v_36 (n0 := ρ 3) (n1 := ρ 2) (n2 := ρ 0) (n3 := ρ 1) (n4 := ρ 4) (n5 := ρ 5) (n6 := ρ 6) (n7 := ρ 7) (n8 := ρ 8) (n9 := ρ 9) (n10 := ρ 10) (n11 := ρ 11) (n12 := ρ 12) (n13 := ρ 13) (n14 := ρ 14) (n15 := ρ 15) (n16 := ρ 16) (n17 := ρ 17) (n18 := ρ 18) (n19 := ρ 19) (n20 := ρ 20) (n21 := ρ 21) (n22 := ρ 22) (n23 := ρ 23) (n24 := ρ 24) (H0 := η 0) (H1 := η 1) (H2 := η 2) (H3 := η 3) (H4 := η 4) f44 f43 f42 f41 f40 f39 f38 f37 f36 f35 f34 f33 f32 f31 f30 f29 f28 f27 f26 f25 f24 f23 f22 f21 f20 f19 f18 f17 f16 f15 f14 f13 f12 f11 f10 f9 f8 f7 f6 f5 f4 f3 f2 f1 f0
theorem q_127v_37 {n0 n1 n2 n3 n4 n5 n6 n7 n8 n9 n10 n11 n12 n13 n14 n15 n16 n17 n18 n19 n20 n21 : Int} {H0 H1 H2 : gH} (f0 : n0 ≤ 2147483647) (f1 : (-2147483648) ≤ n0) (f2 : n1 ≤ 2147483647) (f3 : (-2147483648) ≤ n1) (f4 : n2 = 31) (f5 : hWt T0 H0 ∧ preb_127v n2 n3 n1 n0 H0) (f6 : n4 ≤ 2147483647) (f7 : (-2147483648) ≤ n4) (f8 : (hLe T0 H0 H1 ∧ hFr s_199vk692.2.2.2.2 H0 H1 ∧ ((0 : Int) = 0 → H1.length = H0.length) ∧ hWt T0 H1) ∧ postb_199vk692 n4 n3 n1 H0 H1) (f9 : n5 = 9) (f10 : n4 ≠ n5) (f11 : n6 = 10) (f12 : n4 ≠ n6) (f13 : n7 = 13) (f14 : n4 ≠ n7) (f15 : n8 = 32) (f16 : n4 ≠ n8) (f17 : n9 = 97) (f18 : n4 < n9) (f19 : n10 = 48) (f20 : n10 ≤ n4) (f21 : n11 = 57) (f22 : n11 < n4) (f23 : n12 = 1) (f24 : n13 = w32 (n1 + n12)) (f25 : n13 < n0) (f26 : n14 = 1) (f27 : n15 = w32 (n1 + n14)) (f28 : n16 ≤ 2147483647) (f29 : (-2147483648) ≤ n16) (f30 : (hLe T0 H1 H2 ∧ hFr s_199vk692.2.2.2.2 H1 H2 ∧ ((0 : Int) = 0 → H2.length = H1.length) ∧ hWt T0 H2) ∧ postb_199vk692 n16 n3 n15 H1 H2) (f31 : n17 = 61) (f32 : n16 ≠ n17) (f33 : n18 = 0) (f34 : n18 = 0) (f35 : n19 = 1) (f36 : n20 = 1) (f37 : n19 ≠ n20) (f38 : n21 = 0) : preb_126v n2 n19 n1 n21 H2 := by
  have pz := f5.2
  unfold preb_127v at pz
  obtain ⟨ks, tp, wd, b0, b1, b2, b3, c0, c1⟩ := pz
  have et : ((n1).toNat : Int) = n1 := Int.toNat_of_nonneg b1
  have sm0 : SMT H0 H0 := SMT_rfl
  have wq24 := f24
  unfold w32 at wq24
  have wq27 := f27
  unfold w32 at wq27
  have qa0 := f8.2
  unfold postb_199vk692 at qa0
  have a0 := at8 sm0 tp qa0 (by omega) (by omega) (by omega)
  have sm1 := SMT_trans sm0 (SMT_fr f8.1.2.1 (by decide +kernel))
  have ks_0 := KS5_le f8.1.1 ks
  have tp_0 := TP_le f8.1.1 tp
  have wd_0 := WDS_fr f8.1.1 f8.1.2.1 (by decide +kernel) wd
  have qa1 := f30.2
  unfold postb_199vk692 at qa1
  have a1 := at8 sm1 tp_0 qa1 (by omega) (by omega) (by omega)
  rw [show (n15).toNat = (n1).toNat + 1 by omega] at a1
  have sm2 := SMT_trans sm1 (SMT_fr f30.1.2.1 (by decide +kernel))
  have ks_1 := KS5_le f30.1.1 ks_0
  have tp_1 := TP_le f30.1.1 tp_0
  have wd_1 := WDS_fr f30.1.1 f30.1.2.1 (by decide +kernel) wd_0
  unfold preb_126v
  exact ⟨ks_1, by rw [sm2.1]; exact c0, by rw [sm2.1]; exact c1⟩
theorem c_127v_s_37 : vOkm T0 (eP e_127v L_127v A_127v mu_127v none) 4 ([(0, [21], [], 0), (41, [19, 20], [], 0), (0, [20], [], 1), (0, [19], [], 1), (30, [18], [], 0), (0, [18], [], 0), (41, [16, 17], [], 0), (0, [17], [], 61), (1199, [16, 1, 15], [1, 2], 0), (90, [16], [], -2147483648), (91, [16], [], 2147483647), (1, [15, 2, 14], [], 0), (0, [14], [], 1), (42, [13, 3], [], 0), (1, [13, 2, 12], [], 0), (0, [12], [], 1), (44, [4, 11], [], 0), (0, [11], [], 57), (43, [4, 10], [], 0), (0, [10], [], 48), (42, [4, 9], [], 0), (0, [9], [], 97), (41, [4, 8], [], 0), (0, [8], [], 32), (41, [4, 7], [], 0), (0, [7], [], 13), (41, [4, 6], [], 0), (0, [6], [], 10), (41, [4, 5], [], 0), (0, [5], [], 9), (1199, [4, 1, 2], [0, 1], 0), (90, [4], [], -2147483648), (91, [4], [], 2147483647), (6000, [0, 1, 2, 3], [0], 0), (0, [0], [], 31), (90, [2], [], -2147483648), (91, [2], [], 2147483647), (90, [3], [], -2147483648), (91, [3], [], 2147483647)], (2126, [0, 19, 2, 21], [2], 0)) := vOk_in fun ρ η h => by
  obtain ⟨f0, f1, f2, f3, f4, f5, f6, f7, f8, f9, f10, f11, f12, f13, f14, f15, f16, f17, f18, f19, f20, f21, f22, f23, f24, f25, f26, f27, f28, f29, f30, f31, f32, f33, f34, f35, f36, f37, f38, _⟩ := h
  exact q_127v_37 (n0 := ρ 3) (n1 := ρ 2) (n2 := ρ 0) (n3 := ρ 1) (n4 := ρ 4) (n5 := ρ 5) (n6 := ρ 6) (n7 := ρ 7) (n8 := ρ 8) (n9 := ρ 9) (n10 := ρ 10) (n11 := ρ 11) (n12 := ρ 12) (n13 := ρ 13) (n14 := ρ 14) (n15 := ρ 15) (n16 := ρ 16) (n17 := ρ 17) (n18 := ρ 18) (n19 := ρ 19) (n20 := ρ 20) (n21 := ρ 21) (H0 := η 0) (H1 := η 1) (H2 := η 2) f38 f37 f36 f35 f34 f33 f32 f31 f30 f29 f28 f27 f26 f25 f24 f23 f22 f21 f20 f19 f18 f17 f16 f15 f14 f13 f12 f11 f10 f9 f8 f7 f6 f5 f4 f3 f2 f1 f0
theorem q_127v_38 {n0 n1 n2 n3 n4 n5 n6 n7 n8 n9 n10 n11 n12 n13 n14 n15 n16 n17 n18 n19 n20 n21 n22 n23 : Int} {H0 H1 H2 H3 : gH} (f0 : n0 ≤ 2147483647) (f1 : (-2147483648) ≤ n0) (f2 : n1 ≤ 2147483647) (f3 : (-2147483648) ≤ n1) (f4 : n2 = 31) (f5 : hWt T0 H0 ∧ preb_127v n2 n3 n1 n0 H0) (f6 : n4 ≤ 2147483647) (f7 : (-2147483648) ≤ n4) (f8 : (hLe T0 H0 H1 ∧ hFr s_199vk692.2.2.2.2 H0 H1 ∧ ((0 : Int) = 0 → H1.length = H0.length) ∧ hWt T0 H1) ∧ postb_199vk692 n4 n3 n1 H0 H1) (f9 : n5 = 9) (f10 : n4 ≠ n5) (f11 : n6 = 10) (f12 : n4 ≠ n6) (f13 : n7 = 13) (f14 : n4 ≠ n7) (f15 : n8 = 32) (f16 : n4 ≠ n8) (f17 : n9 = 97) (f18 : n4 < n9) (f19 : n10 = 48) (f20 : n10 ≤ n4) (f21 : n11 = 57) (f22 : n11 < n4) (f23 : n12 = 1) (f24 : n13 = w32 (n1 + n12)) (f25 : n13 < n0) (f26 : n14 = 1) (f27 : n15 = w32 (n1 + n14)) (f28 : n16 ≤ 2147483647) (f29 : (-2147483648) ≤ n16) (f30 : (hLe T0 H1 H2 ∧ hFr s_199vk692.2.2.2.2 H1 H2 ∧ ((0 : Int) = 0 → H2.length = H1.length) ∧ hWt T0 H2) ∧ postb_199vk692 n16 n3 n15 H1 H2) (f31 : n17 = 61) (f32 : n16 ≠ n17) (f33 : n18 = 0) (f34 : n18 = 0) (f35 : n19 = 1) (f36 : n20 = 1) (f37 : n19 ≠ n20) (f38 : n21 = 0) (f39 : (hLe T0 H2 H3 ∧ hFr s_126v.2.2.2.2 H2 H3 ∧ ((0 : Int) = 0 → H3.length = H2.length) ∧ hWt T0 H3) ∧ postb_126v n2 n19 n1 n21 H2 H3) (f40 : n22 = 2) (f41 : n23 = w32 (n1 + n22)) : postb_127v n23 n2 n3 n1 n0 H0 H3 := by
  have pz := f5.2
  unfold preb_127v at pz
  obtain ⟨ks, tp, wd, b0, b1, b2, b3, c0, c1⟩ := pz
  have et : ((n1).toNat : Int) = n1 := Int.toNat_of_nonneg b1
  have sm0 : SMT H0 H0 := SMT_rfl
  have wq24 := f24
  unfold w32 at wq24
  have wq27 := f27
  unfold w32 at wq27
  have wq41 := f41
  unfold w32 at wq41
  have qa0 := f8.2
  unfold postb_199vk692 at qa0
  have a0 := at8 sm0 tp qa0 (by omega) (by omega) (by omega)
  have sm1 := SMT_trans sm0 (SMT_fr f8.1.2.1 (by decide +kernel))
  have ks_0 := KS5_le f8.1.1 ks
  have tp_0 := TP_le f8.1.1 tp
  have wd_0 := WDS_fr f8.1.1 f8.1.2.1 (by decide +kernel) wd
  have qa1 := f30.2
  unfold postb_199vk692 at qa1
  have a1 := at8 sm1 tp_0 qa1 (by omega) (by omega) (by omega)
  rw [show (n15).toNat = (n1).toNat + 1 by omega] at a1
  have sm2 := SMT_trans sm1 (SMT_fr f30.1.2.1 (by decide +kernel))
  have ks_1 := KS5_le f30.1.1 ks_0
  have tp_1 := TP_le f30.1.1 tp_0
  have wd_1 := WDS_fr f30.1.1 f30.1.2.1 (by decide +kernel) wd_0
  unfold postb_127v ONE
  have lt := f39.2
  unfold postb_126v at lt
  have nt := NTp_from sm2 lt.1
  rw [f38] at nt
  first
  | (exfalso; omega)
  | (rw [pk] at nt
     exact ⟨.inr (.inr (.inr (.inl ⟨by omega, by omega, by omega, ⟨by omega, by omega, by omega⟩, by omega, nt⟩))), lt.2⟩)
theorem c_127v_s_38 : vOkm T0 (eP e_127v L_127v A_127v mu_127v none) 4 ([(1, [23, 2, 22], [], 0), (0, [22], [], 2), (1126, [0, 19, 2, 21], [2, 3], 0), (0, [21], [], 0), (41, [19, 20], [], 0), (0, [20], [], 1), (0, [19], [], 1), (30, [18], [], 0), (0, [18], [], 0), (41, [16, 17], [], 0), (0, [17], [], 61), (1199, [16, 1, 15], [1, 2], 0), (90, [16], [], -2147483648), (91, [16], [], 2147483647), (1, [15, 2, 14], [], 0), (0, [14], [], 1), (42, [13, 3], [], 0), (1, [13, 2, 12], [], 0), (0, [12], [], 1), (44, [4, 11], [], 0), (0, [11], [], 57), (43, [4, 10], [], 0), (0, [10], [], 48), (42, [4, 9], [], 0), (0, [9], [], 97), (41, [4, 8], [], 0), (0, [8], [], 32), (41, [4, 7], [], 0), (0, [7], [], 13), (41, [4, 6], [], 0), (0, [6], [], 10), (41, [4, 5], [], 0), (0, [5], [], 9), (1199, [4, 1, 2], [0, 1], 0), (90, [4], [], -2147483648), (91, [4], [], 2147483647), (6000, [0, 1, 2, 3], [0], 0), (0, [0], [], 31), (90, [2], [], -2147483648), (91, [2], [], 2147483647), (90, [3], [], -2147483648), (91, [3], [], 2147483647)], (3000, [23], [3], 142)) := vOk_in fun ρ η h => by
  obtain ⟨f0, f1, f2, f3, f4, f5, f6, f7, f8, f9, f10, f11, f12, f13, f14, f15, f16, f17, f18, f19, f20, f21, f22, f23, f24, f25, f26, f27, f28, f29, f30, f31, f32, f33, f34, f35, f36, f37, f38, f39, f40, f41, _⟩ := h
  exact q_127v_38 (n0 := ρ 3) (n1 := ρ 2) (n2 := ρ 0) (n3 := ρ 1) (n4 := ρ 4) (n5 := ρ 5) (n6 := ρ 6) (n7 := ρ 7) (n8 := ρ 8) (n9 := ρ 9) (n10 := ρ 10) (n11 := ρ 11) (n12 := ρ 12) (n13 := ρ 13) (n14 := ρ 14) (n15 := ρ 15) (n16 := ρ 16) (n17 := ρ 17) (n18 := ρ 18) (n19 := ρ 19) (n20 := ρ 20) (n21 := ρ 21) (n22 := ρ 22) (n23 := ρ 23) (H0 := η 0) (H1 := η 1) (H2 := η 2) (H3 := η 3) f41 f40 f39 f38 f37 f36 f35 f34 f33 f32 f31 f30 f29 f28 f27 f26 f25 f24 f23 f22 f21 f20 f19 f18 f17 f16 f15 f14 f13 f12 f11 f10 f9 f8 f7 f6 f5 f4 f3 f2 f1 f0
theorem q_127v_39 {n0 n1 n2 n3 n4 n5 n6 n7 n8 n9 n10 n11 n12 n13 n14 n15 n16 n17 n18 n19 n20 n21 n22 : Int} {H0 H1 H2 H3 H4 : gH} (f0 : n0 ≤ 2147483647) (f1 : (-2147483648) ≤ n0) (f2 : n1 ≤ 2147483647) (f3 : (-2147483648) ≤ n1) (f4 : n2 = 31) (f5 : hWt T0 H0 ∧ preb_127v n2 n3 n1 n0 H0) (f6 : n4 ≤ 2147483647) (f7 : (-2147483648) ≤ n4) (f8 : (hLe T0 H0 H1 ∧ hFr s_199vk692.2.2.2.2 H0 H1 ∧ ((0 : Int) = 0 → H1.length = H0.length) ∧ hWt T0 H1) ∧ postb_199vk692 n4 n3 n1 H0 H1) (f9 : n5 = 9) (f10 : n4 ≠ n5) (f11 : n6 = 10) (f12 : n4 ≠ n6) (f13 : n7 = 13) (f14 : n4 ≠ n7) (f15 : n8 = 32) (f16 : n4 ≠ n8) (f17 : n9 = 97) (f18 : n4 < n9) (f19 : n10 = 48) (f20 : n10 ≤ n4) (f21 : n11 = 57) (f22 : n11 < n4) (f23 : n12 = 1) (f24 : n13 = w32 (n1 + n12)) (f25 : n13 < n0) (f26 : n14 = 1) (f27 : n15 = w32 (n1 + n14)) (f28 : n16 ≤ 2147483647) (f29 : (-2147483648) ≤ n16) (f30 : (hLe T0 H1 H2 ∧ hFr s_199vk692.2.2.2.2 H1 H2 ∧ ((0 : Int) = 0 → H2.length = H1.length) ∧ hWt T0 H2) ∧ postb_199vk692 n16 n3 n15 H1 H2) (f31 : n17 = 61) (f32 : n16 ≠ n17) (f33 : n18 = 0) (f34 : n18 ≠ 0) (f35 : n19 ≤ 2147483647) (f36 : (-2147483648) ≤ n19) (f37 : (hLe T0 H2 H3 ∧ hFr s_131v.2.2.2.2 H2 H3 ∧ ((0 : Int) = 0 → H3.length = H2.length) ∧ hWt T0 H3) ∧ postb_131v n19 n4 H2 H3) (f38 : n20 = 1) (f39 : n19 = n20) (f40 : n21 ≤ 2147483647) (f41 : (-2147483648) ≤ n21) (f42 : (hLe T0 H3 H4 ∧ hFr s_132v.2.2.2.2 H3 H4 ∧ ((0 : Int) = 0 → H4.length = H3.length) ∧ hWt T0 H4) ∧ postb_132v n21 n4 H3 H4) (f43 : n22 = 0) : preb_126v n2 n21 n1 n22 H4 := by
  have pz := f5.2
  unfold preb_127v at pz
  obtain ⟨ks, tp, wd, b0, b1, b2, b3, c0, c1⟩ := pz
  have et : ((n1).toNat : Int) = n1 := Int.toNat_of_nonneg b1
  have sm0 : SMT H0 H0 := SMT_rfl
  have wq24 := f24
  unfold w32 at wq24
  have wq27 := f27
  unfold w32 at wq27
  have qa0 := f8.2
  unfold postb_199vk692 at qa0
  have a0 := at8 sm0 tp qa0 (by omega) (by omega) (by omega)
  have sm1 := SMT_trans sm0 (SMT_fr f8.1.2.1 (by decide +kernel))
  have ks_0 := KS5_le f8.1.1 ks
  have tp_0 := TP_le f8.1.1 tp
  have wd_0 := WDS_fr f8.1.1 f8.1.2.1 (by decide +kernel) wd
  have qa1 := f30.2
  unfold postb_199vk692 at qa1
  have a1 := at8 sm1 tp_0 qa1 (by omega) (by omega) (by omega)
  rw [show (n15).toNat = (n1).toNat + 1 by omega] at a1
  have sm2 := SMT_trans sm1 (SMT_fr f30.1.2.1 (by decide +kernel))
  have ks_1 := KS5_le f30.1.1 ks_0
  have tp_1 := TP_le f30.1.1 tp_0
  have wd_1 := WDS_fr f30.1.1 f30.1.2.1 (by decide +kernel) wd_0
  have pk := f37.2
  unfold postb_131v at pk
  have sm3 := SMT_trans sm2 (SMT_fr f37.1.2.1 (by decide +kernel))
  have ks_2 := KS5_le f37.1.1 ks_1
  have tp_2 := TP_le f37.1.1 tp_1
  have wd_2 := WDS_fr f37.1.1 f37.1.2.1 (by decide +kernel) wd_1
  have sk := f42.2
  unfold postb_132v at sk
  have sm4 := SMT_trans sm3 (SMT_fr f42.1.2.1 (by decide +kernel))
  have ks_3 := KS5_le f42.1.1 ks_2
  have tp_3 := TP_le f42.1.1 tp_2
  have wd_3 := WDS_fr f42.1.1 f42.1.2.1 (by decide +kernel) wd_2
  rw [a0] at pk
  rw [a0] at sk
  unfold preb_126v
  exact ⟨ks_3, by rw [sm4.1]; exact c0, by rw [sm4.1]; exact c1⟩
theorem c_127v_s_39 : vOkm T0 (eP e_127v L_127v A_127v mu_127v none) 4 ([(0, [22], [], 0), (1132, [21, 4], [3, 4], 0), (90, [21], [], -2147483648), (91, [21], [], 2147483647), (40, [19, 20], [], 0), (0, [20], [], 1), (1131, [19, 4], [2, 3], 0), (90, [19], [], -2147483648), (91, [19], [], 2147483647), (31, [18], [], 0), (0, [18], [], 0), (41, [16, 17], [], 0), (0, [17], [], 61), (1199, [16, 1, 15], [1, 2], 0), (90, [16], [], -2147483648), (91, [16], [], 2147483647), (1, [15, 2, 14], [], 0), (0, [14], [], 1), (42, [13, 3], [], 0), (1, [13, 2, 12], [], 0), (0, [12], [], 1), (44, [4, 11], [], 0), (0, [11], [], 57), (43, [4, 10], [], 0), (0, [10], [], 48), (42, [4, 9], [], 0), (0, [9], [], 97), (41, [4, 8], [], 0), (0, [8], [], 32), (41, [4, 7], [], 0), (0, [7], [], 13), (41, [4, 6], [], 0), (0, [6], [], 10), (41, [4, 5], [], 0), (0, [5], [], 9), (1199, [4, 1, 2], [0, 1], 0), (90, [4], [], -2147483648), (91, [4], [], 2147483647), (6000, [0, 1, 2, 3], [0], 0), (0, [0], [], 31), (90, [2], [], -2147483648), (91, [2], [], 2147483647), (90, [3], [], -2147483648), (91, [3], [], 2147483647)], (2126, [0, 21, 2, 22], [4], 0)) := vOk_in fun ρ η h => by
  obtain ⟨f0, f1, f2, f3, f4, f5, f6, f7, f8, f9, f10, f11, f12, f13, f14, f15, f16, f17, f18, f19, f20, f21, f22, f23, f24, f25, f26, f27, f28, f29, f30, f31, f32, f33, f34, f35, f36, f37, f38, f39, f40, f41, f42, f43, _⟩ := h
  exact q_127v_39 (n0 := ρ 3) (n1 := ρ 2) (n2 := ρ 0) (n3 := ρ 1) (n4 := ρ 4) (n5 := ρ 5) (n6 := ρ 6) (n7 := ρ 7) (n8 := ρ 8) (n9 := ρ 9) (n10 := ρ 10) (n11 := ρ 11) (n12 := ρ 12) (n13 := ρ 13) (n14 := ρ 14) (n15 := ρ 15) (n16 := ρ 16) (n17 := ρ 17) (n18 := ρ 18) (n19 := ρ 19) (n20 := ρ 20) (n21 := ρ 21) (n22 := ρ 22) (H0 := η 0) (H1 := η 1) (H2 := η 2) (H3 := η 3) (H4 := η 4) f43 f42 f41 f40 f39 f38 f37 f36 f35 f34 f33 f32 f31 f30 f29 f28 f27 f26 f25 f24 f23 f22 f21 f20 f19 f18 f17 f16 f15 f14 f13 f12 f11 f10 f9 f8 f7 f6 f5 f4 f3 f2 f1 f0
theorem q_127v_40 {n0 n1 n2 n3 n4 n5 n6 n7 n8 n9 n10 n11 n12 n13 n14 n15 n16 n17 n18 n19 n20 n21 n22 n23 n24 : Int} {H0 H1 H2 H3 H4 H5 : gH} (f0 : n0 ≤ 2147483647) (f1 : (-2147483648) ≤ n0) (f2 : n1 ≤ 2147483647) (f3 : (-2147483648) ≤ n1) (f4 : n2 = 31) (f5 : hWt T0 H0 ∧ preb_127v n2 n3 n1 n0 H0) (f6 : n4 ≤ 2147483647) (f7 : (-2147483648) ≤ n4) (f8 : (hLe T0 H0 H1 ∧ hFr s_199vk692.2.2.2.2 H0 H1 ∧ ((0 : Int) = 0 → H1.length = H0.length) ∧ hWt T0 H1) ∧ postb_199vk692 n4 n3 n1 H0 H1) (f9 : n5 = 9) (f10 : n4 ≠ n5) (f11 : n6 = 10) (f12 : n4 ≠ n6) (f13 : n7 = 13) (f14 : n4 ≠ n7) (f15 : n8 = 32) (f16 : n4 ≠ n8) (f17 : n9 = 97) (f18 : n4 < n9) (f19 : n10 = 48) (f20 : n10 ≤ n4) (f21 : n11 = 57) (f22 : n11 < n4) (f23 : n12 = 1) (f24 : n13 = w32 (n1 + n12)) (f25 : n13 < n0) (f26 : n14 = 1) (f27 : n15 = w32 (n1 + n14)) (f28 : n16 ≤ 2147483647) (f29 : (-2147483648) ≤ n16) (f30 : (hLe T0 H1 H2 ∧ hFr s_199vk692.2.2.2.2 H1 H2 ∧ ((0 : Int) = 0 → H2.length = H1.length) ∧ hWt T0 H2) ∧ postb_199vk692 n16 n3 n15 H1 H2) (f31 : n17 = 61) (f32 : n16 ≠ n17) (f33 : n18 = 0) (f34 : n18 ≠ 0) (f35 : n19 ≤ 2147483647) (f36 : (-2147483648) ≤ n19) (f37 : (hLe T0 H2 H3 ∧ hFr s_131v.2.2.2.2 H2 H3 ∧ ((0 : Int) = 0 → H3.length = H2.length) ∧ hWt T0 H3) ∧ postb_131v n19 n4 H2 H3) (f38 : n20 = 1) (f39 : n19 = n20) (f40 : n21 ≤ 2147483647) (f41 : (-2147483648) ≤ n21) (f42 : (hLe T0 H3 H4 ∧ hFr s_132v.2.2.2.2 H3 H4 ∧ ((0 : Int) = 0 → H4.length = H3.length) ∧ hWt T0 H4) ∧ postb_132v n21 n4 H3 H4) (f43 : n22 = 0) (f44 : (hLe T0 H4 H5 ∧ hFr s_126v.2.2.2.2 H4 H5 ∧ ((0 : Int) = 0 → H5.length = H4.length) ∧ hWt T0 H5) ∧ postb_126v n2 n21 n1 n22 H4 H5) (f45 : n23 = 1) (f46 : n24 = w32 (n1 + n23)) : postb_127v n24 n2 n3 n1 n0 H0 H5 := by
  have pz := f5.2
  unfold preb_127v at pz
  obtain ⟨ks, tp, wd, b0, b1, b2, b3, c0, c1⟩ := pz
  have et : ((n1).toNat : Int) = n1 := Int.toNat_of_nonneg b1
  have sm0 : SMT H0 H0 := SMT_rfl
  have wq24 := f24
  unfold w32 at wq24
  have wq27 := f27
  unfold w32 at wq27
  have wq46 := f46
  unfold w32 at wq46
  have qa0 := f8.2
  unfold postb_199vk692 at qa0
  have a0 := at8 sm0 tp qa0 (by omega) (by omega) (by omega)
  have sm1 := SMT_trans sm0 (SMT_fr f8.1.2.1 (by decide +kernel))
  have ks_0 := KS5_le f8.1.1 ks
  have tp_0 := TP_le f8.1.1 tp
  have wd_0 := WDS_fr f8.1.1 f8.1.2.1 (by decide +kernel) wd
  have qa1 := f30.2
  unfold postb_199vk692 at qa1
  have a1 := at8 sm1 tp_0 qa1 (by omega) (by omega) (by omega)
  rw [show (n15).toNat = (n1).toNat + 1 by omega] at a1
  have sm2 := SMT_trans sm1 (SMT_fr f30.1.2.1 (by decide +kernel))
  have ks_1 := KS5_le f30.1.1 ks_0
  have tp_1 := TP_le f30.1.1 tp_0
  have wd_1 := WDS_fr f30.1.1 f30.1.2.1 (by decide +kernel) wd_0
  have pk := f37.2
  unfold postb_131v at pk
  have sm3 := SMT_trans sm2 (SMT_fr f37.1.2.1 (by decide +kernel))
  have ks_2 := KS5_le f37.1.1 ks_1
  have tp_2 := TP_le f37.1.1 tp_1
  have wd_2 := WDS_fr f37.1.1 f37.1.2.1 (by decide +kernel) wd_1
  have sk := f42.2
  unfold postb_132v at sk
  have sm4 := SMT_trans sm3 (SMT_fr f42.1.2.1 (by decide +kernel))
  have ks_3 := KS5_le f42.1.1 ks_2
  have tp_3 := TP_le f42.1.1 tp_2
  have wd_3 := WDS_fr f42.1.1 f42.1.2.1 (by decide +kernel) wd_2
  rw [a0] at pk
  rw [a0] at sk
  unfold postb_127v ONE
  have lt := f44.2
  unfold postb_126v at lt
  have nt := NTp_from sm4 lt.1
  rw [f43] at nt
  first
  | exact absurd rfl (by omega)
  | (rw [sk] at nt
     exact ⟨.inr (.inr (.inr (.inr ⟨by omega, by omega, by omega, by omega, by omega, nt⟩))), lt.2⟩)
theorem c_127v_s_40 : vOkm T0 (eP e_127v L_127v A_127v mu_127v none) 4 ([(1, [24, 2, 23], [], 0), (0, [23], [], 1), (1126, [0, 21, 2, 22], [4, 5], 0), (0, [22], [], 0), (1132, [21, 4], [3, 4], 0), (90, [21], [], -2147483648), (91, [21], [], 2147483647), (40, [19, 20], [], 0), (0, [20], [], 1), (1131, [19, 4], [2, 3], 0), (90, [19], [], -2147483648), (91, [19], [], 2147483647), (31, [18], [], 0), (0, [18], [], 0), (41, [16, 17], [], 0), (0, [17], [], 61), (1199, [16, 1, 15], [1, 2], 0), (90, [16], [], -2147483648), (91, [16], [], 2147483647), (1, [15, 2, 14], [], 0), (0, [14], [], 1), (42, [13, 3], [], 0), (1, [13, 2, 12], [], 0), (0, [12], [], 1), (44, [4, 11], [], 0), (0, [11], [], 57), (43, [4, 10], [], 0), (0, [10], [], 48), (42, [4, 9], [], 0), (0, [9], [], 97), (41, [4, 8], [], 0), (0, [8], [], 32), (41, [4, 7], [], 0), (0, [7], [], 13), (41, [4, 6], [], 0), (0, [6], [], 10), (41, [4, 5], [], 0), (0, [5], [], 9), (1199, [4, 1, 2], [0, 1], 0), (90, [4], [], -2147483648), (91, [4], [], 2147483647), (6000, [0, 1, 2, 3], [0], 0), (0, [0], [], 31), (90, [2], [], -2147483648), (91, [2], [], 2147483647), (90, [3], [], -2147483648), (91, [3], [], 2147483647)], (3000, [24], [5], 157)) := vOk_in fun ρ η h => by
  obtain ⟨f0, f1, f2, f3, f4, f5, f6, f7, f8, f9, f10, f11, f12, f13, f14, f15, f16, f17, f18, f19, f20, f21, f22, f23, f24, f25, f26, f27, f28, f29, f30, f31, f32, f33, f34, f35, f36, f37, f38, f39, f40, f41, f42, f43, f44, f45, f46, _⟩ := h
  exact q_127v_40 (n0 := ρ 3) (n1 := ρ 2) (n2 := ρ 0) (n3 := ρ 1) (n4 := ρ 4) (n5 := ρ 5) (n6 := ρ 6) (n7 := ρ 7) (n8 := ρ 8) (n9 := ρ 9) (n10 := ρ 10) (n11 := ρ 11) (n12 := ρ 12) (n13 := ρ 13) (n14 := ρ 14) (n15 := ρ 15) (n16 := ρ 16) (n17 := ρ 17) (n18 := ρ 18) (n19 := ρ 19) (n20 := ρ 20) (n21 := ρ 21) (n22 := ρ 22) (n23 := ρ 23) (n24 := ρ 24) (H0 := η 0) (H1 := η 1) (H2 := η 2) (H3 := η 3) (H4 := η 4) (H5 := η 5) f46 f45 f44 f43 f42 f41 f40 f39 f38 f37 f36 f35 f34 f33 f32 f31 f30 f29 f28 f27 f26 f25 f24 f23 f22 f21 f20 f19 f18 f17 f16 f15 f14 f13 f12 f11 f10 f9 f8 f7 f6 f5 f4 f3 f2 f1 f0
theorem q_127v_41 {n0 n1 n2 n3 n4 n5 n6 n7 n8 n9 n10 n11 n12 n13 n14 n15 n16 n17 n18 n19 n20 n21 : Int} {H0 H1 H2 H3 : gH} (f0 : n0 ≤ 2147483647) (f1 : (-2147483648) ≤ n0) (f2 : n1 ≤ 2147483647) (f3 : (-2147483648) ≤ n1) (f4 : n2 = 31) (f5 : hWt T0 H0 ∧ preb_127v n2 n3 n1 n0 H0) (f6 : n4 ≤ 2147483647) (f7 : (-2147483648) ≤ n4) (f8 : (hLe T0 H0 H1 ∧ hFr s_199vk692.2.2.2.2 H0 H1 ∧ ((0 : Int) = 0 → H1.length = H0.length) ∧ hWt T0 H1) ∧ postb_199vk692 n4 n3 n1 H0 H1) (f9 : n5 = 9) (f10 : n4 ≠ n5) (f11 : n6 = 10) (f12 : n4 ≠ n6) (f13 : n7 = 13) (f14 : n4 ≠ n7) (f15 : n8 = 32) (f16 : n4 ≠ n8) (f17 : n9 = 97) (f18 : n4 < n9) (f19 : n10 = 48) (f20 : n10 ≤ n4) (f21 : n11 = 57) (f22 : n11 < n4) (f23 : n12 = 1) (f24 : n13 = w32 (n1 + n12)) (f25 : n13 < n0) (f26 : n14 = 1) (f27 : n15 = w32 (n1 + n14)) (f28 : n16 ≤ 2147483647) (f29 : (-2147483648) ≤ n16) (f30 : (hLe T0 H1 H2 ∧ hFr s_199vk692.2.2.2.2 H1 H2 ∧ ((0 : Int) = 0 → H2.length = H1.length) ∧ hWt T0 H2) ∧ postb_199vk692 n16 n3 n15 H1 H2) (f31 : n17 = 61) (f32 : n16 ≠ n17) (f33 : n18 = 0) (f34 : n18 ≠ 0) (f35 : n19 ≤ 2147483647) (f36 : (-2147483648) ≤ n19) (f37 : (hLe T0 H2 H3 ∧ hFr s_131v.2.2.2.2 H2 H3 ∧ ((0 : Int) = 0 → H3.length = H2.length) ∧ hWt T0 H3) ∧ postb_131v n19 n4 H2 H3) (f38 : n20 = 1) (f39 : n19 ≠ n20) (f40 : n21 = 0) : preb_126v n2 n19 n1 n21 H3 := by
  have pz := f5.2
  unfold preb_127v at pz
  obtain ⟨ks, tp, wd, b0, b1, b2, b3, c0, c1⟩ := pz
  have et : ((n1).toNat : Int) = n1 := Int.toNat_of_nonneg b1
  have sm0 : SMT H0 H0 := SMT_rfl
  have wq24 := f24
  unfold w32 at wq24
  have wq27 := f27
  unfold w32 at wq27
  have qa0 := f8.2
  unfold postb_199vk692 at qa0
  have a0 := at8 sm0 tp qa0 (by omega) (by omega) (by omega)
  have sm1 := SMT_trans sm0 (SMT_fr f8.1.2.1 (by decide +kernel))
  have ks_0 := KS5_le f8.1.1 ks
  have tp_0 := TP_le f8.1.1 tp
  have wd_0 := WDS_fr f8.1.1 f8.1.2.1 (by decide +kernel) wd
  have qa1 := f30.2
  unfold postb_199vk692 at qa1
  have a1 := at8 sm1 tp_0 qa1 (by omega) (by omega) (by omega)
  rw [show (n15).toNat = (n1).toNat + 1 by omega] at a1
  have sm2 := SMT_trans sm1 (SMT_fr f30.1.2.1 (by decide +kernel))
  have ks_1 := KS5_le f30.1.1 ks_0
  have tp_1 := TP_le f30.1.1 tp_0
  have wd_1 := WDS_fr f30.1.1 f30.1.2.1 (by decide +kernel) wd_0
  have pk := f37.2
  unfold postb_131v at pk
  have sm3 := SMT_trans sm2 (SMT_fr f37.1.2.1 (by decide +kernel))
  have ks_2 := KS5_le f37.1.1 ks_1
  have tp_2 := TP_le f37.1.1 tp_1
  have wd_2 := WDS_fr f37.1.1 f37.1.2.1 (by decide +kernel) wd_1
  rw [a0] at pk
  unfold preb_126v
  exact ⟨ks_2, by rw [sm3.1]; exact c0, by rw [sm3.1]; exact c1⟩
theorem c_127v_s_41 : vOkm T0 (eP e_127v L_127v A_127v mu_127v none) 4 ([(0, [21], [], 0), (41, [19, 20], [], 0), (0, [20], [], 1), (1131, [19, 4], [2, 3], 0), (90, [19], [], -2147483648), (91, [19], [], 2147483647), (31, [18], [], 0), (0, [18], [], 0), (41, [16, 17], [], 0), (0, [17], [], 61), (1199, [16, 1, 15], [1, 2], 0), (90, [16], [], -2147483648), (91, [16], [], 2147483647), (1, [15, 2, 14], [], 0), (0, [14], [], 1), (42, [13, 3], [], 0), (1, [13, 2, 12], [], 0), (0, [12], [], 1), (44, [4, 11], [], 0), (0, [11], [], 57), (43, [4, 10], [], 0), (0, [10], [], 48), (42, [4, 9], [], 0), (0, [9], [], 97), (41, [4, 8], [], 0), (0, [8], [], 32), (41, [4, 7], [], 0), (0, [7], [], 13), (41, [4, 6], [], 0), (0, [6], [], 10), (41, [4, 5], [], 0), (0, [5], [], 9), (1199, [4, 1, 2], [0, 1], 0), (90, [4], [], -2147483648), (91, [4], [], 2147483647), (6000, [0, 1, 2, 3], [0], 0), (0, [0], [], 31), (90, [2], [], -2147483648), (91, [2], [], 2147483647), (90, [3], [], -2147483648), (91, [3], [], 2147483647)], (2126, [0, 19, 2, 21], [3], 0)) := vOk_in fun ρ η h => by
  obtain ⟨f0, f1, f2, f3, f4, f5, f6, f7, f8, f9, f10, f11, f12, f13, f14, f15, f16, f17, f18, f19, f20, f21, f22, f23, f24, f25, f26, f27, f28, f29, f30, f31, f32, f33, f34, f35, f36, f37, f38, f39, f40, _⟩ := h
  exact q_127v_41 (n0 := ρ 3) (n1 := ρ 2) (n2 := ρ 0) (n3 := ρ 1) (n4 := ρ 4) (n5 := ρ 5) (n6 := ρ 6) (n7 := ρ 7) (n8 := ρ 8) (n9 := ρ 9) (n10 := ρ 10) (n11 := ρ 11) (n12 := ρ 12) (n13 := ρ 13) (n14 := ρ 14) (n15 := ρ 15) (n16 := ρ 16) (n17 := ρ 17) (n18 := ρ 18) (n19 := ρ 19) (n20 := ρ 20) (n21 := ρ 21) (H0 := η 0) (H1 := η 1) (H2 := η 2) (H3 := η 3) f40 f39 f38 f37 f36 f35 f34 f33 f32 f31 f30 f29 f28 f27 f26 f25 f24 f23 f22 f21 f20 f19 f18 f17 f16 f15 f14 f13 f12 f11 f10 f9 f8 f7 f6 f5 f4 f3 f2 f1 f0
theorem q_127v_42 {n0 n1 n2 n3 n4 n5 n6 n7 n8 n9 n10 n11 n12 n13 n14 n15 n16 n17 n18 n19 n20 n21 n22 n23 : Int} {H0 H1 H2 H3 H4 : gH} (f0 : n0 ≤ 2147483647) (f1 : (-2147483648) ≤ n0) (f2 : n1 ≤ 2147483647) (f3 : (-2147483648) ≤ n1) (f4 : n2 = 31) (f5 : hWt T0 H0 ∧ preb_127v n2 n3 n1 n0 H0) (f6 : n4 ≤ 2147483647) (f7 : (-2147483648) ≤ n4) (f8 : (hLe T0 H0 H1 ∧ hFr s_199vk692.2.2.2.2 H0 H1 ∧ ((0 : Int) = 0 → H1.length = H0.length) ∧ hWt T0 H1) ∧ postb_199vk692 n4 n3 n1 H0 H1) (f9 : n5 = 9) (f10 : n4 ≠ n5) (f11 : n6 = 10) (f12 : n4 ≠ n6) (f13 : n7 = 13) (f14 : n4 ≠ n7) (f15 : n8 = 32) (f16 : n4 ≠ n8) (f17 : n9 = 97) (f18 : n4 < n9) (f19 : n10 = 48) (f20 : n10 ≤ n4) (f21 : n11 = 57) (f22 : n11 < n4) (f23 : n12 = 1) (f24 : n13 = w32 (n1 + n12)) (f25 : n13 < n0) (f26 : n14 = 1) (f27 : n15 = w32 (n1 + n14)) (f28 : n16 ≤ 2147483647) (f29 : (-2147483648) ≤ n16) (f30 : (hLe T0 H1 H2 ∧ hFr s_199vk692.2.2.2.2 H1 H2 ∧ ((0 : Int) = 0 → H2.length = H1.length) ∧ hWt T0 H2) ∧ postb_199vk692 n16 n3 n15 H1 H2) (f31 : n17 = 61) (f32 : n16 ≠ n17) (f33 : n18 = 0) (f34 : n18 ≠ 0) (f35 : n19 ≤ 2147483647) (f36 : (-2147483648) ≤ n19) (f37 : (hLe T0 H2 H3 ∧ hFr s_131v.2.2.2.2 H2 H3 ∧ ((0 : Int) = 0 → H3.length = H2.length) ∧ hWt T0 H3) ∧ postb_131v n19 n4 H2 H3) (f38 : n20 = 1) (f39 : n19 ≠ n20) (f40 : n21 = 0) (f41 : (hLe T0 H3 H4 ∧ hFr s_126v.2.2.2.2 H3 H4 ∧ ((0 : Int) = 0 → H4.length = H3.length) ∧ hWt T0 H4) ∧ postb_126v n2 n19 n1 n21 H3 H4) (f42 : n22 = 2) (f43 : n23 = w32 (n1 + n22)) : postb_127v n23 n2 n3 n1 n0 H0 H4 := by
  have pz := f5.2
  unfold preb_127v at pz
  obtain ⟨ks, tp, wd, b0, b1, b2, b3, c0, c1⟩ := pz
  have et : ((n1).toNat : Int) = n1 := Int.toNat_of_nonneg b1
  have sm0 : SMT H0 H0 := SMT_rfl
  have wq24 := f24
  unfold w32 at wq24
  have wq27 := f27
  unfold w32 at wq27
  have wq43 := f43
  unfold w32 at wq43
  have qa0 := f8.2
  unfold postb_199vk692 at qa0
  have a0 := at8 sm0 tp qa0 (by omega) (by omega) (by omega)
  have sm1 := SMT_trans sm0 (SMT_fr f8.1.2.1 (by decide +kernel))
  have ks_0 := KS5_le f8.1.1 ks
  have tp_0 := TP_le f8.1.1 tp
  have wd_0 := WDS_fr f8.1.1 f8.1.2.1 (by decide +kernel) wd
  have qa1 := f30.2
  unfold postb_199vk692 at qa1
  have a1 := at8 sm1 tp_0 qa1 (by omega) (by omega) (by omega)
  rw [show (n15).toNat = (n1).toNat + 1 by omega] at a1
  have sm2 := SMT_trans sm1 (SMT_fr f30.1.2.1 (by decide +kernel))
  have ks_1 := KS5_le f30.1.1 ks_0
  have tp_1 := TP_le f30.1.1 tp_0
  have wd_1 := WDS_fr f30.1.1 f30.1.2.1 (by decide +kernel) wd_0
  have pk := f37.2
  unfold postb_131v at pk
  have sm3 := SMT_trans sm2 (SMT_fr f37.1.2.1 (by decide +kernel))
  have ks_2 := KS5_le f37.1.1 ks_1
  have tp_2 := TP_le f37.1.1 tp_1
  have wd_2 := WDS_fr f37.1.1 f37.1.2.1 (by decide +kernel) wd_1
  rw [a0] at pk
  unfold postb_127v ONE
  have lt := f41.2
  unfold postb_126v at lt
  have nt := NTp_from sm3 lt.1
  rw [f40] at nt
  first
  | (exfalso; omega)
  | (rw [pk] at nt
     exact ⟨.inr (.inr (.inr (.inl ⟨by omega, by omega, by omega, ⟨by omega, by omega, by omega⟩, by omega, nt⟩))), lt.2⟩)
theorem c_127v_s_42 : vOkm T0 (eP e_127v L_127v A_127v mu_127v none) 4 ([(1, [23, 2, 22], [], 0), (0, [22], [], 2), (1126, [0, 19, 2, 21], [3, 4], 0), (0, [21], [], 0), (41, [19, 20], [], 0), (0, [20], [], 1), (1131, [19, 4], [2, 3], 0), (90, [19], [], -2147483648), (91, [19], [], 2147483647), (31, [18], [], 0), (0, [18], [], 0), (41, [16, 17], [], 0), (0, [17], [], 61), (1199, [16, 1, 15], [1, 2], 0), (90, [16], [], -2147483648), (91, [16], [], 2147483647), (1, [15, 2, 14], [], 0), (0, [14], [], 1), (42, [13, 3], [], 0), (1, [13, 2, 12], [], 0), (0, [12], [], 1), (44, [4, 11], [], 0), (0, [11], [], 57), (43, [4, 10], [], 0), (0, [10], [], 48), (42, [4, 9], [], 0), (0, [9], [], 97), (41, [4, 8], [], 0), (0, [8], [], 32), (41, [4, 7], [], 0), (0, [7], [], 13), (41, [4, 6], [], 0), (0, [6], [], 10), (41, [4, 5], [], 0), (0, [5], [], 9), (1199, [4, 1, 2], [0, 1], 0), (90, [4], [], -2147483648), (91, [4], [], 2147483647), (6000, [0, 1, 2, 3], [0], 0), (0, [0], [], 31), (90, [2], [], -2147483648), (91, [2], [], 2147483647), (90, [3], [], -2147483648), (91, [3], [], 2147483647)], (3000, [23], [4], 142)) := vOk_in fun ρ η h => by
  obtain ⟨f0, f1, f2, f3, f4, f5, f6, f7, f8, f9, f10, f11, f12, f13, f14, f15, f16, f17, f18, f19, f20, f21, f22, f23, f24, f25, f26, f27, f28, f29, f30, f31, f32, f33, f34, f35, f36, f37, f38, f39, f40, f41, f42, f43, _⟩ := h
  exact q_127v_42 (n0 := ρ 3) (n1 := ρ 2) (n2 := ρ 0) (n3 := ρ 1) (n4 := ρ 4) (n5 := ρ 5) (n6 := ρ 6) (n7 := ρ 7) (n8 := ρ 8) (n9 := ρ 9) (n10 := ρ 10) (n11 := ρ 11) (n12 := ρ 12) (n13 := ρ 13) (n14 := ρ 14) (n15 := ρ 15) (n16 := ρ 16) (n17 := ρ 17) (n18 := ρ 18) (n19 := ρ 19) (n20 := ρ 20) (n21 := ρ 21) (n22 := ρ 22) (n23 := ρ 23) (H0 := η 0) (H1 := η 1) (H2 := η 2) (H3 := η 3) (H4 := η 4) f43 f42 f41 f40 f39 f38 f37 f36 f35 f34 f33 f32 f31 f30 f29 f28 f27 f26 f25 f24 f23 f22 f21 f20 f19 f18 f17 f16 f15 f14 f13 f12 f11 f10 f9 f8 f7 f6 f5 f4 f3 f2 f1 f0
theorem q_127v_43 {n0 n1 n2 n3 n4 n5 n6 n7 n8 n9 n10 n11 n12 n13 n14 n15 n16 n17 n18 n19 n20 n21 n22 : Int} {H0 H1 H2 H3 : gH} (f0 : n0 ≤ 2147483647) (f1 : (-2147483648) ≤ n0) (f2 : n1 ≤ 2147483647) (f3 : (-2147483648) ≤ n1) (f4 : n2 = 31) (f5 : hWt T0 H0 ∧ preb_127v n2 n3 n1 n0 H0) (f6 : n4 ≤ 2147483647) (f7 : (-2147483648) ≤ n4) (f8 : (hLe T0 H0 H1 ∧ hFr s_199vk692.2.2.2.2 H0 H1 ∧ ((0 : Int) = 0 → H1.length = H0.length) ∧ hWt T0 H1) ∧ postb_199vk692 n4 n3 n1 H0 H1) (f9 : n5 = 9) (f10 : n4 ≠ n5) (f11 : n6 = 10) (f12 : n4 ≠ n6) (f13 : n7 = 13) (f14 : n4 ≠ n7) (f15 : n8 = 32) (f16 : n4 ≠ n8) (f17 : n9 = 97) (f18 : n4 < n9) (f19 : n10 = 48) (f20 : n10 ≤ n4) (f21 : n11 = 57) (f22 : n11 < n4) (f23 : n12 = 1) (f24 : n13 = w32 (n1 + n12)) (f25 : n13 < n0) (f26 : n14 = 1) (f27 : n15 = w32 (n1 + n14)) (f28 : n16 ≤ 2147483647) (f29 : (-2147483648) ≤ n16) (f30 : (hLe T0 H1 H2 ∧ hFr s_199vk692.2.2.2.2 H1 H2 ∧ ((0 : Int) = 0 → H2.length = H1.length) ∧ hWt T0 H2) ∧ postb_199vk692 n16 n3 n15 H1 H2) (f31 : n17 = 61) (f32 : n16 = n17) (f33 : n18 = 1) (f34 : n18 = 0) (f35 : n19 = 1) (f36 : n20 = 1) (f37 : n19 = n20) (f38 : n21 ≤ 2147483647) (f39 : (-2147483648) ≤ n21) (f40 : (hLe T0 H2 H3 ∧ hFr s_132v.2.2.2.2 H2 H3 ∧ ((0 : Int) = 0 → H3.length = H2.length) ∧ hWt T0 H3) ∧ postb_132v n21 n4 H2 H3) (f41 : n22 = 0) : preb_126v n2 n21 n1 n22 H3 := by
  have pz := f5.2
  unfold preb_127v at pz
  obtain ⟨ks, tp, wd, b0, b1, b2, b3, c0, c1⟩ := pz
  have et : ((n1).toNat : Int) = n1 := Int.toNat_of_nonneg b1
  have sm0 : SMT H0 H0 := SMT_rfl
  have wq24 := f24
  unfold w32 at wq24
  have wq27 := f27
  unfold w32 at wq27
  have qa0 := f8.2
  unfold postb_199vk692 at qa0
  have a0 := at8 sm0 tp qa0 (by omega) (by omega) (by omega)
  have sm1 := SMT_trans sm0 (SMT_fr f8.1.2.1 (by decide +kernel))
  have ks_0 := KS5_le f8.1.1 ks
  have tp_0 := TP_le f8.1.1 tp
  have wd_0 := WDS_fr f8.1.1 f8.1.2.1 (by decide +kernel) wd
  have qa1 := f30.2
  unfold postb_199vk692 at qa1
  have a1 := at8 sm1 tp_0 qa1 (by omega) (by omega) (by omega)
  rw [show (n15).toNat = (n1).toNat + 1 by omega] at a1
  have sm2 := SMT_trans sm1 (SMT_fr f30.1.2.1 (by decide +kernel))
  have ks_1 := KS5_le f30.1.1 ks_0
  have tp_1 := TP_le f30.1.1 tp_0
  have wd_1 := WDS_fr f30.1.1 f30.1.2.1 (by decide +kernel) wd_0
  have sk := f40.2
  unfold postb_132v at sk
  have sm3 := SMT_trans sm2 (SMT_fr f40.1.2.1 (by decide +kernel))
  have ks_2 := KS5_le f40.1.1 ks_1
  have tp_2 := TP_le f40.1.1 tp_1
  have wd_2 := WDS_fr f40.1.1 f40.1.2.1 (by decide +kernel) wd_1
  rw [a0] at sk
  unfold preb_126v
  exact ⟨ks_2, by rw [sm3.1]; exact c0, by rw [sm3.1]; exact c1⟩
theorem c_127v_s_43 : vOkm T0 (eP e_127v L_127v A_127v mu_127v none) 4 ([(0, [22], [], 0), (1132, [21, 4], [2, 3], 0), (90, [21], [], -2147483648), (91, [21], [], 2147483647), (40, [19, 20], [], 0), (0, [20], [], 1), (0, [19], [], 1), (30, [18], [], 0), (0, [18], [], 1), (40, [16, 17], [], 0), (0, [17], [], 61), (1199, [16, 1, 15], [1, 2], 0), (90, [16], [], -2147483648), (91, [16], [], 2147483647), (1, [15, 2, 14], [], 0), (0, [14], [], 1), (42, [13, 3], [], 0), (1, [13, 2, 12], [], 0), (0, [12], [], 1), (44, [4, 11], [], 0), (0, [11], [], 57), (43, [4, 10], [], 0), (0, [10], [], 48), (42, [4, 9], [], 0), (0, [9], [], 97), (41, [4, 8], [], 0), (0, [8], [], 32), (41, [4, 7], [], 0), (0, [7], [], 13), (41, [4, 6], [], 0), (0, [6], [], 10), (41, [4, 5], [], 0), (0, [5], [], 9), (1199, [4, 1, 2], [0, 1], 0), (90, [4], [], -2147483648), (91, [4], [], 2147483647), (6000, [0, 1, 2, 3], [0], 0), (0, [0], [], 31), (90, [2], [], -2147483648), (91, [2], [], 2147483647), (90, [3], [], -2147483648), (91, [3], [], 2147483647)], (2126, [0, 21, 2, 22], [3], 0)) := vOk_in fun ρ η h => by
  obtain ⟨f0, f1, f2, f3, f4, f5, f6, f7, f8, f9, f10, f11, f12, f13, f14, f15, f16, f17, f18, f19, f20, f21, f22, f23, f24, f25, f26, f27, f28, f29, f30, f31, f32, f33, f34, f35, f36, f37, f38, f39, f40, f41, _⟩ := h
  exact q_127v_43 (n0 := ρ 3) (n1 := ρ 2) (n2 := ρ 0) (n3 := ρ 1) (n4 := ρ 4) (n5 := ρ 5) (n6 := ρ 6) (n7 := ρ 7) (n8 := ρ 8) (n9 := ρ 9) (n10 := ρ 10) (n11 := ρ 11) (n12 := ρ 12) (n13 := ρ 13) (n14 := ρ 14) (n15 := ρ 15) (n16 := ρ 16) (n17 := ρ 17) (n18 := ρ 18) (n19 := ρ 19) (n20 := ρ 20) (n21 := ρ 21) (n22 := ρ 22) (H0 := η 0) (H1 := η 1) (H2 := η 2) (H3 := η 3) f41 f40 f39 f38 f37 f36 f35 f34 f33 f32 f31 f30 f29 f28 f27 f26 f25 f24 f23 f22 f21 f20 f19 f18 f17 f16 f15 f14 f13 f12 f11 f10 f9 f8 f7 f6 f5 f4 f3 f2 f1 f0
theorem q_127v_44 {n0 n1 n2 n3 n4 n5 n6 n7 n8 n9 n10 n11 n12 n13 n14 n15 n16 n17 n18 n19 n20 n21 n22 n23 n24 : Int} {H0 H1 H2 H3 H4 : gH} (f0 : n0 ≤ 2147483647) (f1 : (-2147483648) ≤ n0) (f2 : n1 ≤ 2147483647) (f3 : (-2147483648) ≤ n1) (f4 : n2 = 31) (f5 : hWt T0 H0 ∧ preb_127v n2 n3 n1 n0 H0) (f6 : n4 ≤ 2147483647) (f7 : (-2147483648) ≤ n4) (f8 : (hLe T0 H0 H1 ∧ hFr s_199vk692.2.2.2.2 H0 H1 ∧ ((0 : Int) = 0 → H1.length = H0.length) ∧ hWt T0 H1) ∧ postb_199vk692 n4 n3 n1 H0 H1) (f9 : n5 = 9) (f10 : n4 ≠ n5) (f11 : n6 = 10) (f12 : n4 ≠ n6) (f13 : n7 = 13) (f14 : n4 ≠ n7) (f15 : n8 = 32) (f16 : n4 ≠ n8) (f17 : n9 = 97) (f18 : n4 < n9) (f19 : n10 = 48) (f20 : n10 ≤ n4) (f21 : n11 = 57) (f22 : n11 < n4) (f23 : n12 = 1) (f24 : n13 = w32 (n1 + n12)) (f25 : n13 < n0) (f26 : n14 = 1) (f27 : n15 = w32 (n1 + n14)) (f28 : n16 ≤ 2147483647) (f29 : (-2147483648) ≤ n16) (f30 : (hLe T0 H1 H2 ∧ hFr s_199vk692.2.2.2.2 H1 H2 ∧ ((0 : Int) = 0 → H2.length = H1.length) ∧ hWt T0 H2) ∧ postb_199vk692 n16 n3 n15 H1 H2) (f31 : n17 = 61) (f32 : n16 = n17) (f33 : n18 = 1) (f34 : n18 = 0) (f35 : n19 = 1) (f36 : n20 = 1) (f37 : n19 = n20) (f38 : n21 ≤ 2147483647) (f39 : (-2147483648) ≤ n21) (f40 : (hLe T0 H2 H3 ∧ hFr s_132v.2.2.2.2 H2 H3 ∧ ((0 : Int) = 0 → H3.length = H2.length) ∧ hWt T0 H3) ∧ postb_132v n21 n4 H2 H3) (f41 : n22 = 0) (f42 : (hLe T0 H3 H4 ∧ hFr s_126v.2.2.2.2 H3 H4 ∧ ((0 : Int) = 0 → H4.length = H3.length) ∧ hWt T0 H4) ∧ postb_126v n2 n21 n1 n22 H3 H4) (f43 : n23 = 1) (f44 : n24 = w32 (n1 + n23)) : postb_127v n24 n2 n3 n1 n0 H0 H4 := by
  have pz := f5.2
  unfold preb_127v at pz
  obtain ⟨ks, tp, wd, b0, b1, b2, b3, c0, c1⟩ := pz
  have et : ((n1).toNat : Int) = n1 := Int.toNat_of_nonneg b1
  have sm0 : SMT H0 H0 := SMT_rfl
  have wq24 := f24
  unfold w32 at wq24
  have wq27 := f27
  unfold w32 at wq27
  have wq44 := f44
  unfold w32 at wq44
  have qa0 := f8.2
  unfold postb_199vk692 at qa0
  have a0 := at8 sm0 tp qa0 (by omega) (by omega) (by omega)
  have sm1 := SMT_trans sm0 (SMT_fr f8.1.2.1 (by decide +kernel))
  have ks_0 := KS5_le f8.1.1 ks
  have tp_0 := TP_le f8.1.1 tp
  have wd_0 := WDS_fr f8.1.1 f8.1.2.1 (by decide +kernel) wd
  have qa1 := f30.2
  unfold postb_199vk692 at qa1
  have a1 := at8 sm1 tp_0 qa1 (by omega) (by omega) (by omega)
  rw [show (n15).toNat = (n1).toNat + 1 by omega] at a1
  have sm2 := SMT_trans sm1 (SMT_fr f30.1.2.1 (by decide +kernel))
  have ks_1 := KS5_le f30.1.1 ks_0
  have tp_1 := TP_le f30.1.1 tp_0
  have wd_1 := WDS_fr f30.1.1 f30.1.2.1 (by decide +kernel) wd_0
  have sk := f40.2
  unfold postb_132v at sk
  have sm3 := SMT_trans sm2 (SMT_fr f40.1.2.1 (by decide +kernel))
  have ks_2 := KS5_le f40.1.1 ks_1
  have tp_2 := TP_le f40.1.1 tp_1
  have wd_2 := WDS_fr f40.1.1 f40.1.2.1 (by decide +kernel) wd_1
  rw [a0] at sk
  unfold postb_127v ONE
  have lt := f42.2
  unfold postb_126v at lt
  have nt := NTp_from sm3 lt.1
  rw [f41] at nt
  first
  | exact absurd rfl (by omega)
  | (rw [sk] at nt
     exact ⟨.inr (.inr (.inr (.inr ⟨by omega, by omega, by omega, by omega, by omega, nt⟩))), lt.2⟩)
theorem c_127v_s_44 : vOkm T0 (eP e_127v L_127v A_127v mu_127v none) 4 ([(1, [24, 2, 23], [], 0), (0, [23], [], 1), (1126, [0, 21, 2, 22], [3, 4], 0), (0, [22], [], 0), (1132, [21, 4], [2, 3], 0), (90, [21], [], -2147483648), (91, [21], [], 2147483647), (40, [19, 20], [], 0), (0, [20], [], 1), (0, [19], [], 1), (30, [18], [], 0), (0, [18], [], 1), (40, [16, 17], [], 0), (0, [17], [], 61), (1199, [16, 1, 15], [1, 2], 0), (90, [16], [], -2147483648), (91, [16], [], 2147483647), (1, [15, 2, 14], [], 0), (0, [14], [], 1), (42, [13, 3], [], 0), (1, [13, 2, 12], [], 0), (0, [12], [], 1), (44, [4, 11], [], 0), (0, [11], [], 57), (43, [4, 10], [], 0), (0, [10], [], 48), (42, [4, 9], [], 0), (0, [9], [], 97), (41, [4, 8], [], 0), (0, [8], [], 32), (41, [4, 7], [], 0), (0, [7], [], 13), (41, [4, 6], [], 0), (0, [6], [], 10), (41, [4, 5], [], 0), (0, [5], [], 9), (1199, [4, 1, 2], [0, 1], 0), (90, [4], [], -2147483648), (91, [4], [], 2147483647), (6000, [0, 1, 2, 3], [0], 0), (0, [0], [], 31), (90, [2], [], -2147483648), (91, [2], [], 2147483647), (90, [3], [], -2147483648), (91, [3], [], 2147483647)], (3000, [24], [4], 157)) := vOk_in fun ρ η h => by
  obtain ⟨f0, f1, f2, f3, f4, f5, f6, f7, f8, f9, f10, f11, f12, f13, f14, f15, f16, f17, f18, f19, f20, f21, f22, f23, f24, f25, f26, f27, f28, f29, f30, f31, f32, f33, f34, f35, f36, f37, f38, f39, f40, f41, f42, f43, f44, _⟩ := h
  exact q_127v_44 (n0 := ρ 3) (n1 := ρ 2) (n2 := ρ 0) (n3 := ρ 1) (n4 := ρ 4) (n5 := ρ 5) (n6 := ρ 6) (n7 := ρ 7) (n8 := ρ 8) (n9 := ρ 9) (n10 := ρ 10) (n11 := ρ 11) (n12 := ρ 12) (n13 := ρ 13) (n14 := ρ 14) (n15 := ρ 15) (n16 := ρ 16) (n17 := ρ 17) (n18 := ρ 18) (n19 := ρ 19) (n20 := ρ 20) (n21 := ρ 21) (n22 := ρ 22) (n23 := ρ 23) (n24 := ρ 24) (H0 := η 0) (H1 := η 1) (H2 := η 2) (H3 := η 3) (H4 := η 4) f44 f43 f42 f41 f40 f39 f38 f37 f36 f35 f34 f33 f32 f31 f30 f29 f28 f27 f26 f25 f24 f23 f22 f21 f20 f19 f18 f17 f16 f15 f14 f13 f12 f11 f10 f9 f8 f7 f6 f5 f4 f3 f2 f1 f0
theorem q_127v_45 {n0 n1 n2 n3 n4 n5 n6 n7 n8 n9 n10 n11 n12 n13 n14 n15 n16 n17 n18 n19 n20 n21 : Int} {H0 H1 H2 : gH} (f0 : n0 ≤ 2147483647) (f1 : (-2147483648) ≤ n0) (f2 : n1 ≤ 2147483647) (f3 : (-2147483648) ≤ n1) (f4 : n2 = 31) (f5 : hWt T0 H0 ∧ preb_127v n2 n3 n1 n0 H0) (f6 : n4 ≤ 2147483647) (f7 : (-2147483648) ≤ n4) (f8 : (hLe T0 H0 H1 ∧ hFr s_199vk692.2.2.2.2 H0 H1 ∧ ((0 : Int) = 0 → H1.length = H0.length) ∧ hWt T0 H1) ∧ postb_199vk692 n4 n3 n1 H0 H1) (f9 : n5 = 9) (f10 : n4 ≠ n5) (f11 : n6 = 10) (f12 : n4 ≠ n6) (f13 : n7 = 13) (f14 : n4 ≠ n7) (f15 : n8 = 32) (f16 : n4 ≠ n8) (f17 : n9 = 97) (f18 : n4 < n9) (f19 : n10 = 48) (f20 : n10 ≤ n4) (f21 : n11 = 57) (f22 : n11 < n4) (f23 : n12 = 1) (f24 : n13 = w32 (n1 + n12)) (f25 : n13 < n0) (f26 : n14 = 1) (f27 : n15 = w32 (n1 + n14)) (f28 : n16 ≤ 2147483647) (f29 : (-2147483648) ≤ n16) (f30 : (hLe T0 H1 H2 ∧ hFr s_199vk692.2.2.2.2 H1 H2 ∧ ((0 : Int) = 0 → H2.length = H1.length) ∧ hWt T0 H2) ∧ postb_199vk692 n16 n3 n15 H1 H2) (f31 : n17 = 61) (f32 : n16 = n17) (f33 : n18 = 1) (f34 : n18 = 0) (f35 : n19 = 1) (f36 : n20 = 1) (f37 : n19 ≠ n20) (f38 : n21 = 0) : preb_126v n2 n19 n1 n21 H2 := by
  have pz := f5.2
  unfold preb_127v at pz
  obtain ⟨ks, tp, wd, b0, b1, b2, b3, c0, c1⟩ := pz
  have et : ((n1).toNat : Int) = n1 := Int.toNat_of_nonneg b1
  have sm0 : SMT H0 H0 := SMT_rfl
  have wq24 := f24
  unfold w32 at wq24
  have wq27 := f27
  unfold w32 at wq27
  have qa0 := f8.2
  unfold postb_199vk692 at qa0
  have a0 := at8 sm0 tp qa0 (by omega) (by omega) (by omega)
  have sm1 := SMT_trans sm0 (SMT_fr f8.1.2.1 (by decide +kernel))
  have ks_0 := KS5_le f8.1.1 ks
  have tp_0 := TP_le f8.1.1 tp
  have wd_0 := WDS_fr f8.1.1 f8.1.2.1 (by decide +kernel) wd
  have qa1 := f30.2
  unfold postb_199vk692 at qa1
  have a1 := at8 sm1 tp_0 qa1 (by omega) (by omega) (by omega)
  rw [show (n15).toNat = (n1).toNat + 1 by omega] at a1
  have sm2 := SMT_trans sm1 (SMT_fr f30.1.2.1 (by decide +kernel))
  have ks_1 := KS5_le f30.1.1 ks_0
  have tp_1 := TP_le f30.1.1 tp_0
  have wd_1 := WDS_fr f30.1.1 f30.1.2.1 (by decide +kernel) wd_0
  unfold preb_126v
  exact ⟨ks_1, by rw [sm2.1]; exact c0, by rw [sm2.1]; exact c1⟩
theorem c_127v_s_45 : vOkm T0 (eP e_127v L_127v A_127v mu_127v none) 4 ([(0, [21], [], 0), (41, [19, 20], [], 0), (0, [20], [], 1), (0, [19], [], 1), (30, [18], [], 0), (0, [18], [], 1), (40, [16, 17], [], 0), (0, [17], [], 61), (1199, [16, 1, 15], [1, 2], 0), (90, [16], [], -2147483648), (91, [16], [], 2147483647), (1, [15, 2, 14], [], 0), (0, [14], [], 1), (42, [13, 3], [], 0), (1, [13, 2, 12], [], 0), (0, [12], [], 1), (44, [4, 11], [], 0), (0, [11], [], 57), (43, [4, 10], [], 0), (0, [10], [], 48), (42, [4, 9], [], 0), (0, [9], [], 97), (41, [4, 8], [], 0), (0, [8], [], 32), (41, [4, 7], [], 0), (0, [7], [], 13), (41, [4, 6], [], 0), (0, [6], [], 10), (41, [4, 5], [], 0), (0, [5], [], 9), (1199, [4, 1, 2], [0, 1], 0), (90, [4], [], -2147483648), (91, [4], [], 2147483647), (6000, [0, 1, 2, 3], [0], 0), (0, [0], [], 31), (90, [2], [], -2147483648), (91, [2], [], 2147483647), (90, [3], [], -2147483648), (91, [3], [], 2147483647)], (2126, [0, 19, 2, 21], [2], 0)) := vOk_in fun ρ η h => by
  obtain ⟨f0, f1, f2, f3, f4, f5, f6, f7, f8, f9, f10, f11, f12, f13, f14, f15, f16, f17, f18, f19, f20, f21, f22, f23, f24, f25, f26, f27, f28, f29, f30, f31, f32, f33, f34, f35, f36, f37, f38, _⟩ := h
  exact q_127v_45 (n0 := ρ 3) (n1 := ρ 2) (n2 := ρ 0) (n3 := ρ 1) (n4 := ρ 4) (n5 := ρ 5) (n6 := ρ 6) (n7 := ρ 7) (n8 := ρ 8) (n9 := ρ 9) (n10 := ρ 10) (n11 := ρ 11) (n12 := ρ 12) (n13 := ρ 13) (n14 := ρ 14) (n15 := ρ 15) (n16 := ρ 16) (n17 := ρ 17) (n18 := ρ 18) (n19 := ρ 19) (n20 := ρ 20) (n21 := ρ 21) (H0 := η 0) (H1 := η 1) (H2 := η 2) f38 f37 f36 f35 f34 f33 f32 f31 f30 f29 f28 f27 f26 f25 f24 f23 f22 f21 f20 f19 f18 f17 f16 f15 f14 f13 f12 f11 f10 f9 f8 f7 f6 f5 f4 f3 f2 f1 f0
theorem q_127v_46 {n0 n1 n2 n3 n4 n5 n6 n7 n8 n9 n10 n11 n12 n13 n14 n15 n16 n17 n18 n19 n20 n21 n22 n23 : Int} {H0 H1 H2 H3 : gH} (f0 : n0 ≤ 2147483647) (f1 : (-2147483648) ≤ n0) (f2 : n1 ≤ 2147483647) (f3 : (-2147483648) ≤ n1) (f4 : n2 = 31) (f5 : hWt T0 H0 ∧ preb_127v n2 n3 n1 n0 H0) (f6 : n4 ≤ 2147483647) (f7 : (-2147483648) ≤ n4) (f8 : (hLe T0 H0 H1 ∧ hFr s_199vk692.2.2.2.2 H0 H1 ∧ ((0 : Int) = 0 → H1.length = H0.length) ∧ hWt T0 H1) ∧ postb_199vk692 n4 n3 n1 H0 H1) (f9 : n5 = 9) (f10 : n4 ≠ n5) (f11 : n6 = 10) (f12 : n4 ≠ n6) (f13 : n7 = 13) (f14 : n4 ≠ n7) (f15 : n8 = 32) (f16 : n4 ≠ n8) (f17 : n9 = 97) (f18 : n4 < n9) (f19 : n10 = 48) (f20 : n10 ≤ n4) (f21 : n11 = 57) (f22 : n11 < n4) (f23 : n12 = 1) (f24 : n13 = w32 (n1 + n12)) (f25 : n13 < n0) (f26 : n14 = 1) (f27 : n15 = w32 (n1 + n14)) (f28 : n16 ≤ 2147483647) (f29 : (-2147483648) ≤ n16) (f30 : (hLe T0 H1 H2 ∧ hFr s_199vk692.2.2.2.2 H1 H2 ∧ ((0 : Int) = 0 → H2.length = H1.length) ∧ hWt T0 H2) ∧ postb_199vk692 n16 n3 n15 H1 H2) (f31 : n17 = 61) (f32 : n16 = n17) (f33 : n18 = 1) (f34 : n18 = 0) (f35 : n19 = 1) (f36 : n20 = 1) (f37 : n19 ≠ n20) (f38 : n21 = 0) (f39 : (hLe T0 H2 H3 ∧ hFr s_126v.2.2.2.2 H2 H3 ∧ ((0 : Int) = 0 → H3.length = H2.length) ∧ hWt T0 H3) ∧ postb_126v n2 n19 n1 n21 H2 H3) (f40 : n22 = 2) (f41 : n23 = w32 (n1 + n22)) : postb_127v n23 n2 n3 n1 n0 H0 H3 := by
  have pz := f5.2
  unfold preb_127v at pz
  obtain ⟨ks, tp, wd, b0, b1, b2, b3, c0, c1⟩ := pz
  have et : ((n1).toNat : Int) = n1 := Int.toNat_of_nonneg b1
  have sm0 : SMT H0 H0 := SMT_rfl
  have wq24 := f24
  unfold w32 at wq24
  have wq27 := f27
  unfold w32 at wq27
  have wq41 := f41
  unfold w32 at wq41
  have qa0 := f8.2
  unfold postb_199vk692 at qa0
  have a0 := at8 sm0 tp qa0 (by omega) (by omega) (by omega)
  have sm1 := SMT_trans sm0 (SMT_fr f8.1.2.1 (by decide +kernel))
  have ks_0 := KS5_le f8.1.1 ks
  have tp_0 := TP_le f8.1.1 tp
  have wd_0 := WDS_fr f8.1.1 f8.1.2.1 (by decide +kernel) wd
  have qa1 := f30.2
  unfold postb_199vk692 at qa1
  have a1 := at8 sm1 tp_0 qa1 (by omega) (by omega) (by omega)
  rw [show (n15).toNat = (n1).toNat + 1 by omega] at a1
  have sm2 := SMT_trans sm1 (SMT_fr f30.1.2.1 (by decide +kernel))
  have ks_1 := KS5_le f30.1.1 ks_0
  have tp_1 := TP_le f30.1.1 tp_0
  have wd_1 := WDS_fr f30.1.1 f30.1.2.1 (by decide +kernel) wd_0
  unfold postb_127v ONE
  have lt := f39.2
  unfold postb_126v at lt
  have nt := NTp_from sm2 lt.1
  rw [f38] at nt
  first
  | (exfalso; omega)
  | (rw [pk] at nt
     exact ⟨.inr (.inr (.inr (.inl ⟨by omega, by omega, by omega, ⟨by omega, by omega, by omega⟩, by omega, nt⟩))), lt.2⟩)
theorem c_127v_s_46 : vOkm T0 (eP e_127v L_127v A_127v mu_127v none) 4 ([(1, [23, 2, 22], [], 0), (0, [22], [], 2), (1126, [0, 19, 2, 21], [2, 3], 0), (0, [21], [], 0), (41, [19, 20], [], 0), (0, [20], [], 1), (0, [19], [], 1), (30, [18], [], 0), (0, [18], [], 1), (40, [16, 17], [], 0), (0, [17], [], 61), (1199, [16, 1, 15], [1, 2], 0), (90, [16], [], -2147483648), (91, [16], [], 2147483647), (1, [15, 2, 14], [], 0), (0, [14], [], 1), (42, [13, 3], [], 0), (1, [13, 2, 12], [], 0), (0, [12], [], 1), (44, [4, 11], [], 0), (0, [11], [], 57), (43, [4, 10], [], 0), (0, [10], [], 48), (42, [4, 9], [], 0), (0, [9], [], 97), (41, [4, 8], [], 0), (0, [8], [], 32), (41, [4, 7], [], 0), (0, [7], [], 13), (41, [4, 6], [], 0), (0, [6], [], 10), (41, [4, 5], [], 0), (0, [5], [], 9), (1199, [4, 1, 2], [0, 1], 0), (90, [4], [], -2147483648), (91, [4], [], 2147483647), (6000, [0, 1, 2, 3], [0], 0), (0, [0], [], 31), (90, [2], [], -2147483648), (91, [2], [], 2147483647), (90, [3], [], -2147483648), (91, [3], [], 2147483647)], (3000, [23], [3], 142)) := vOk_in fun ρ η h => by
  obtain ⟨f0, f1, f2, f3, f4, f5, f6, f7, f8, f9, f10, f11, f12, f13, f14, f15, f16, f17, f18, f19, f20, f21, f22, f23, f24, f25, f26, f27, f28, f29, f30, f31, f32, f33, f34, f35, f36, f37, f38, f39, f40, f41, _⟩ := h
  exact q_127v_46 (n0 := ρ 3) (n1 := ρ 2) (n2 := ρ 0) (n3 := ρ 1) (n4 := ρ 4) (n5 := ρ 5) (n6 := ρ 6) (n7 := ρ 7) (n8 := ρ 8) (n9 := ρ 9) (n10 := ρ 10) (n11 := ρ 11) (n12 := ρ 12) (n13 := ρ 13) (n14 := ρ 14) (n15 := ρ 15) (n16 := ρ 16) (n17 := ρ 17) (n18 := ρ 18) (n19 := ρ 19) (n20 := ρ 20) (n21 := ρ 21) (n22 := ρ 22) (n23 := ρ 23) (H0 := η 0) (H1 := η 1) (H2 := η 2) (H3 := η 3) f41 f40 f39 f38 f37 f36 f35 f34 f33 f32 f31 f30 f29 f28 f27 f26 f25 f24 f23 f22 f21 f20 f19 f18 f17 f16 f15 f14 f13 f12 f11 f10 f9 f8 f7 f6 f5 f4 f3 f2 f1 f0
theorem q_127v_47 {n0 n1 n2 n3 n4 n5 n6 n7 n8 n9 n10 n11 n12 n13 n14 n15 n16 n17 n18 n19 n20 n21 n22 : Int} {H0 H1 H2 H3 H4 : gH} (f0 : n0 ≤ 2147483647) (f1 : (-2147483648) ≤ n0) (f2 : n1 ≤ 2147483647) (f3 : (-2147483648) ≤ n1) (f4 : n2 = 31) (f5 : hWt T0 H0 ∧ preb_127v n2 n3 n1 n0 H0) (f6 : n4 ≤ 2147483647) (f7 : (-2147483648) ≤ n4) (f8 : (hLe T0 H0 H1 ∧ hFr s_199vk692.2.2.2.2 H0 H1 ∧ ((0 : Int) = 0 → H1.length = H0.length) ∧ hWt T0 H1) ∧ postb_199vk692 n4 n3 n1 H0 H1) (f9 : n5 = 9) (f10 : n4 ≠ n5) (f11 : n6 = 10) (f12 : n4 ≠ n6) (f13 : n7 = 13) (f14 : n4 ≠ n7) (f15 : n8 = 32) (f16 : n4 ≠ n8) (f17 : n9 = 97) (f18 : n4 < n9) (f19 : n10 = 48) (f20 : n10 ≤ n4) (f21 : n11 = 57) (f22 : n11 < n4) (f23 : n12 = 1) (f24 : n13 = w32 (n1 + n12)) (f25 : n13 < n0) (f26 : n14 = 1) (f27 : n15 = w32 (n1 + n14)) (f28 : n16 ≤ 2147483647) (f29 : (-2147483648) ≤ n16) (f30 : (hLe T0 H1 H2 ∧ hFr s_199vk692.2.2.2.2 H1 H2 ∧ ((0 : Int) = 0 → H2.length = H1.length) ∧ hWt T0 H2) ∧ postb_199vk692 n16 n3 n15 H1 H2) (f31 : n17 = 61) (f32 : n16 = n17) (f33 : n18 = 1) (f34 : n18 ≠ 0) (f35 : n19 ≤ 2147483647) (f36 : (-2147483648) ≤ n19) (f37 : (hLe T0 H2 H3 ∧ hFr s_131v.2.2.2.2 H2 H3 ∧ ((0 : Int) = 0 → H3.length = H2.length) ∧ hWt T0 H3) ∧ postb_131v n19 n4 H2 H3) (f38 : n20 = 1) (f39 : n19 = n20) (f40 : n21 ≤ 2147483647) (f41 : (-2147483648) ≤ n21) (f42 : (hLe T0 H3 H4 ∧ hFr s_132v.2.2.2.2 H3 H4 ∧ ((0 : Int) = 0 → H4.length = H3.length) ∧ hWt T0 H4) ∧ postb_132v n21 n4 H3 H4) (f43 : n22 = 0) : preb_126v n2 n21 n1 n22 H4 := by
  have pz := f5.2
  unfold preb_127v at pz
  obtain ⟨ks, tp, wd, b0, b1, b2, b3, c0, c1⟩ := pz
  have et : ((n1).toNat : Int) = n1 := Int.toNat_of_nonneg b1
  have sm0 : SMT H0 H0 := SMT_rfl
  have wq24 := f24
  unfold w32 at wq24
  have wq27 := f27
  unfold w32 at wq27
  have qa0 := f8.2
  unfold postb_199vk692 at qa0
  have a0 := at8 sm0 tp qa0 (by omega) (by omega) (by omega)
  have sm1 := SMT_trans sm0 (SMT_fr f8.1.2.1 (by decide +kernel))
  have ks_0 := KS5_le f8.1.1 ks
  have tp_0 := TP_le f8.1.1 tp
  have wd_0 := WDS_fr f8.1.1 f8.1.2.1 (by decide +kernel) wd
  have qa1 := f30.2
  unfold postb_199vk692 at qa1
  have a1 := at8 sm1 tp_0 qa1 (by omega) (by omega) (by omega)
  rw [show (n15).toNat = (n1).toNat + 1 by omega] at a1
  have sm2 := SMT_trans sm1 (SMT_fr f30.1.2.1 (by decide +kernel))
  have ks_1 := KS5_le f30.1.1 ks_0
  have tp_1 := TP_le f30.1.1 tp_0
  have wd_1 := WDS_fr f30.1.1 f30.1.2.1 (by decide +kernel) wd_0
  have pk := f37.2
  unfold postb_131v at pk
  have sm3 := SMT_trans sm2 (SMT_fr f37.1.2.1 (by decide +kernel))
  have ks_2 := KS5_le f37.1.1 ks_1
  have tp_2 := TP_le f37.1.1 tp_1
  have wd_2 := WDS_fr f37.1.1 f37.1.2.1 (by decide +kernel) wd_1
  have sk := f42.2
  unfold postb_132v at sk
  have sm4 := SMT_trans sm3 (SMT_fr f42.1.2.1 (by decide +kernel))
  have ks_3 := KS5_le f42.1.1 ks_2
  have tp_3 := TP_le f42.1.1 tp_2
  have wd_3 := WDS_fr f42.1.1 f42.1.2.1 (by decide +kernel) wd_2
  rw [a0] at pk
  rw [a0] at sk
  unfold preb_126v
  exact ⟨ks_3, by rw [sm4.1]; exact c0, by rw [sm4.1]; exact c1⟩
theorem c_127v_s_47 : vOkm T0 (eP e_127v L_127v A_127v mu_127v none) 4 ([(0, [22], [], 0), (1132, [21, 4], [3, 4], 0), (90, [21], [], -2147483648), (91, [21], [], 2147483647), (40, [19, 20], [], 0), (0, [20], [], 1), (1131, [19, 4], [2, 3], 0), (90, [19], [], -2147483648), (91, [19], [], 2147483647), (31, [18], [], 0), (0, [18], [], 1), (40, [16, 17], [], 0), (0, [17], [], 61), (1199, [16, 1, 15], [1, 2], 0), (90, [16], [], -2147483648), (91, [16], [], 2147483647), (1, [15, 2, 14], [], 0), (0, [14], [], 1), (42, [13, 3], [], 0), (1, [13, 2, 12], [], 0), (0, [12], [], 1), (44, [4, 11], [], 0), (0, [11], [], 57), (43, [4, 10], [], 0), (0, [10], [], 48), (42, [4, 9], [], 0), (0, [9], [], 97), (41, [4, 8], [], 0), (0, [8], [], 32), (41, [4, 7], [], 0), (0, [7], [], 13), (41, [4, 6], [], 0), (0, [6], [], 10), (41, [4, 5], [], 0), (0, [5], [], 9), (1199, [4, 1, 2], [0, 1], 0), (90, [4], [], -2147483648), (91, [4], [], 2147483647), (6000, [0, 1, 2, 3], [0], 0), (0, [0], [], 31), (90, [2], [], -2147483648), (91, [2], [], 2147483647), (90, [3], [], -2147483648), (91, [3], [], 2147483647)], (2126, [0, 21, 2, 22], [4], 0)) := vOk_in fun ρ η h => by
  obtain ⟨f0, f1, f2, f3, f4, f5, f6, f7, f8, f9, f10, f11, f12, f13, f14, f15, f16, f17, f18, f19, f20, f21, f22, f23, f24, f25, f26, f27, f28, f29, f30, f31, f32, f33, f34, f35, f36, f37, f38, f39, f40, f41, f42, f43, _⟩ := h
  exact q_127v_47 (n0 := ρ 3) (n1 := ρ 2) (n2 := ρ 0) (n3 := ρ 1) (n4 := ρ 4) (n5 := ρ 5) (n6 := ρ 6) (n7 := ρ 7) (n8 := ρ 8) (n9 := ρ 9) (n10 := ρ 10) (n11 := ρ 11) (n12 := ρ 12) (n13 := ρ 13) (n14 := ρ 14) (n15 := ρ 15) (n16 := ρ 16) (n17 := ρ 17) (n18 := ρ 18) (n19 := ρ 19) (n20 := ρ 20) (n21 := ρ 21) (n22 := ρ 22) (H0 := η 0) (H1 := η 1) (H2 := η 2) (H3 := η 3) (H4 := η 4) f43 f42 f41 f40 f39 f38 f37 f36 f35 f34 f33 f32 f31 f30 f29 f28 f27 f26 f25 f24 f23 f22 f21 f20 f19 f18 f17 f16 f15 f14 f13 f12 f11 f10 f9 f8 f7 f6 f5 f4 f3 f2 f1 f0
theorem q_127v_48 {n0 n1 n2 n3 n4 n5 n6 n7 n8 n9 n10 n11 n12 n13 n14 n15 n16 n17 n18 n19 n20 n21 n22 n23 n24 : Int} {H0 H1 H2 H3 H4 H5 : gH} (f0 : n0 ≤ 2147483647) (f1 : (-2147483648) ≤ n0) (f2 : n1 ≤ 2147483647) (f3 : (-2147483648) ≤ n1) (f4 : n2 = 31) (f5 : hWt T0 H0 ∧ preb_127v n2 n3 n1 n0 H0) (f6 : n4 ≤ 2147483647) (f7 : (-2147483648) ≤ n4) (f8 : (hLe T0 H0 H1 ∧ hFr s_199vk692.2.2.2.2 H0 H1 ∧ ((0 : Int) = 0 → H1.length = H0.length) ∧ hWt T0 H1) ∧ postb_199vk692 n4 n3 n1 H0 H1) (f9 : n5 = 9) (f10 : n4 ≠ n5) (f11 : n6 = 10) (f12 : n4 ≠ n6) (f13 : n7 = 13) (f14 : n4 ≠ n7) (f15 : n8 = 32) (f16 : n4 ≠ n8) (f17 : n9 = 97) (f18 : n4 < n9) (f19 : n10 = 48) (f20 : n10 ≤ n4) (f21 : n11 = 57) (f22 : n11 < n4) (f23 : n12 = 1) (f24 : n13 = w32 (n1 + n12)) (f25 : n13 < n0) (f26 : n14 = 1) (f27 : n15 = w32 (n1 + n14)) (f28 : n16 ≤ 2147483647) (f29 : (-2147483648) ≤ n16) (f30 : (hLe T0 H1 H2 ∧ hFr s_199vk692.2.2.2.2 H1 H2 ∧ ((0 : Int) = 0 → H2.length = H1.length) ∧ hWt T0 H2) ∧ postb_199vk692 n16 n3 n15 H1 H2) (f31 : n17 = 61) (f32 : n16 = n17) (f33 : n18 = 1) (f34 : n18 ≠ 0) (f35 : n19 ≤ 2147483647) (f36 : (-2147483648) ≤ n19) (f37 : (hLe T0 H2 H3 ∧ hFr s_131v.2.2.2.2 H2 H3 ∧ ((0 : Int) = 0 → H3.length = H2.length) ∧ hWt T0 H3) ∧ postb_131v n19 n4 H2 H3) (f38 : n20 = 1) (f39 : n19 = n20) (f40 : n21 ≤ 2147483647) (f41 : (-2147483648) ≤ n21) (f42 : (hLe T0 H3 H4 ∧ hFr s_132v.2.2.2.2 H3 H4 ∧ ((0 : Int) = 0 → H4.length = H3.length) ∧ hWt T0 H4) ∧ postb_132v n21 n4 H3 H4) (f43 : n22 = 0) (f44 : (hLe T0 H4 H5 ∧ hFr s_126v.2.2.2.2 H4 H5 ∧ ((0 : Int) = 0 → H5.length = H4.length) ∧ hWt T0 H5) ∧ postb_126v n2 n21 n1 n22 H4 H5) (f45 : n23 = 1) (f46 : n24 = w32 (n1 + n23)) : postb_127v n24 n2 n3 n1 n0 H0 H5 := by
  have pz := f5.2
  unfold preb_127v at pz
  obtain ⟨ks, tp, wd, b0, b1, b2, b3, c0, c1⟩ := pz
  have et : ((n1).toNat : Int) = n1 := Int.toNat_of_nonneg b1
  have sm0 : SMT H0 H0 := SMT_rfl
  have wq24 := f24
  unfold w32 at wq24
  have wq27 := f27
  unfold w32 at wq27
  have wq46 := f46
  unfold w32 at wq46
  have qa0 := f8.2
  unfold postb_199vk692 at qa0
  have a0 := at8 sm0 tp qa0 (by omega) (by omega) (by omega)
  have sm1 := SMT_trans sm0 (SMT_fr f8.1.2.1 (by decide +kernel))
  have ks_0 := KS5_le f8.1.1 ks
  have tp_0 := TP_le f8.1.1 tp
  have wd_0 := WDS_fr f8.1.1 f8.1.2.1 (by decide +kernel) wd
  have qa1 := f30.2
  unfold postb_199vk692 at qa1
  have a1 := at8 sm1 tp_0 qa1 (by omega) (by omega) (by omega)
  rw [show (n15).toNat = (n1).toNat + 1 by omega] at a1
  have sm2 := SMT_trans sm1 (SMT_fr f30.1.2.1 (by decide +kernel))
  have ks_1 := KS5_le f30.1.1 ks_0
  have tp_1 := TP_le f30.1.1 tp_0
  have wd_1 := WDS_fr f30.1.1 f30.1.2.1 (by decide +kernel) wd_0
  have pk := f37.2
  unfold postb_131v at pk
  have sm3 := SMT_trans sm2 (SMT_fr f37.1.2.1 (by decide +kernel))
  have ks_2 := KS5_le f37.1.1 ks_1
  have tp_2 := TP_le f37.1.1 tp_1
  have wd_2 := WDS_fr f37.1.1 f37.1.2.1 (by decide +kernel) wd_1
  have sk := f42.2
  unfold postb_132v at sk
  have sm4 := SMT_trans sm3 (SMT_fr f42.1.2.1 (by decide +kernel))
  have ks_3 := KS5_le f42.1.1 ks_2
  have tp_3 := TP_le f42.1.1 tp_2
  have wd_3 := WDS_fr f42.1.1 f42.1.2.1 (by decide +kernel) wd_2
  rw [a0] at pk
  rw [a0] at sk
  unfold postb_127v ONE
  have lt := f44.2
  unfold postb_126v at lt
  have nt := NTp_from sm4 lt.1
  rw [f43] at nt
  first
  | exact absurd rfl (by omega)
  | (rw [sk] at nt
     exact ⟨.inr (.inr (.inr (.inr ⟨by omega, by omega, by omega, by omega, by omega, nt⟩))), lt.2⟩)
theorem c_127v_s_48 : vOkm T0 (eP e_127v L_127v A_127v mu_127v none) 4 ([(1, [24, 2, 23], [], 0), (0, [23], [], 1), (1126, [0, 21, 2, 22], [4, 5], 0), (0, [22], [], 0), (1132, [21, 4], [3, 4], 0), (90, [21], [], -2147483648), (91, [21], [], 2147483647), (40, [19, 20], [], 0), (0, [20], [], 1), (1131, [19, 4], [2, 3], 0), (90, [19], [], -2147483648), (91, [19], [], 2147483647), (31, [18], [], 0), (0, [18], [], 1), (40, [16, 17], [], 0), (0, [17], [], 61), (1199, [16, 1, 15], [1, 2], 0), (90, [16], [], -2147483648), (91, [16], [], 2147483647), (1, [15, 2, 14], [], 0), (0, [14], [], 1), (42, [13, 3], [], 0), (1, [13, 2, 12], [], 0), (0, [12], [], 1), (44, [4, 11], [], 0), (0, [11], [], 57), (43, [4, 10], [], 0), (0, [10], [], 48), (42, [4, 9], [], 0), (0, [9], [], 97), (41, [4, 8], [], 0), (0, [8], [], 32), (41, [4, 7], [], 0), (0, [7], [], 13), (41, [4, 6], [], 0), (0, [6], [], 10), (41, [4, 5], [], 0), (0, [5], [], 9), (1199, [4, 1, 2], [0, 1], 0), (90, [4], [], -2147483648), (91, [4], [], 2147483647), (6000, [0, 1, 2, 3], [0], 0), (0, [0], [], 31), (90, [2], [], -2147483648), (91, [2], [], 2147483647), (90, [3], [], -2147483648), (91, [3], [], 2147483647)], (3000, [24], [5], 157)) := vOk_in fun ρ η h => by
  obtain ⟨f0, f1, f2, f3, f4, f5, f6, f7, f8, f9, f10, f11, f12, f13, f14, f15, f16, f17, f18, f19, f20, f21, f22, f23, f24, f25, f26, f27, f28, f29, f30, f31, f32, f33, f34, f35, f36, f37, f38, f39, f40, f41, f42, f43, f44, f45, f46, _⟩ := h
  exact q_127v_48 (n0 := ρ 3) (n1 := ρ 2) (n2 := ρ 0) (n3 := ρ 1) (n4 := ρ 4) (n5 := ρ 5) (n6 := ρ 6) (n7 := ρ 7) (n8 := ρ 8) (n9 := ρ 9) (n10 := ρ 10) (n11 := ρ 11) (n12 := ρ 12) (n13 := ρ 13) (n14 := ρ 14) (n15 := ρ 15) (n16 := ρ 16) (n17 := ρ 17) (n18 := ρ 18) (n19 := ρ 19) (n20 := ρ 20) (n21 := ρ 21) (n22 := ρ 22) (n23 := ρ 23) (n24 := ρ 24) (H0 := η 0) (H1 := η 1) (H2 := η 2) (H3 := η 3) (H4 := η 4) (H5 := η 5) f46 f45 f44 f43 f42 f41 f40 f39 f38 f37 f36 f35 f34 f33 f32 f31 f30 f29 f28 f27 f26 f25 f24 f23 f22 f21 f20 f19 f18 f17 f16 f15 f14 f13 f12 f11 f10 f9 f8 f7 f6 f5 f4 f3 f2 f1 f0
theorem q_127v_49 {n0 n1 n2 n3 n4 n5 n6 n7 n8 n9 n10 n11 n12 n13 n14 n15 n16 n17 n18 n19 n20 n21 : Int} {H0 H1 H2 H3 : gH} (f0 : n0 ≤ 2147483647) (f1 : (-2147483648) ≤ n0) (f2 : n1 ≤ 2147483647) (f3 : (-2147483648) ≤ n1) (f4 : n2 = 31) (f5 : hWt T0 H0 ∧ preb_127v n2 n3 n1 n0 H0) (f6 : n4 ≤ 2147483647) (f7 : (-2147483648) ≤ n4) (f8 : (hLe T0 H0 H1 ∧ hFr s_199vk692.2.2.2.2 H0 H1 ∧ ((0 : Int) = 0 → H1.length = H0.length) ∧ hWt T0 H1) ∧ postb_199vk692 n4 n3 n1 H0 H1) (f9 : n5 = 9) (f10 : n4 ≠ n5) (f11 : n6 = 10) (f12 : n4 ≠ n6) (f13 : n7 = 13) (f14 : n4 ≠ n7) (f15 : n8 = 32) (f16 : n4 ≠ n8) (f17 : n9 = 97) (f18 : n4 < n9) (f19 : n10 = 48) (f20 : n10 ≤ n4) (f21 : n11 = 57) (f22 : n11 < n4) (f23 : n12 = 1) (f24 : n13 = w32 (n1 + n12)) (f25 : n13 < n0) (f26 : n14 = 1) (f27 : n15 = w32 (n1 + n14)) (f28 : n16 ≤ 2147483647) (f29 : (-2147483648) ≤ n16) (f30 : (hLe T0 H1 H2 ∧ hFr s_199vk692.2.2.2.2 H1 H2 ∧ ((0 : Int) = 0 → H2.length = H1.length) ∧ hWt T0 H2) ∧ postb_199vk692 n16 n3 n15 H1 H2) (f31 : n17 = 61) (f32 : n16 = n17) (f33 : n18 = 1) (f34 : n18 ≠ 0) (f35 : n19 ≤ 2147483647) (f36 : (-2147483648) ≤ n19) (f37 : (hLe T0 H2 H3 ∧ hFr s_131v.2.2.2.2 H2 H3 ∧ ((0 : Int) = 0 → H3.length = H2.length) ∧ hWt T0 H3) ∧ postb_131v n19 n4 H2 H3) (f38 : n20 = 1) (f39 : n19 ≠ n20) (f40 : n21 = 0) : preb_126v n2 n19 n1 n21 H3 := by
  have pz := f5.2
  unfold preb_127v at pz
  obtain ⟨ks, tp, wd, b0, b1, b2, b3, c0, c1⟩ := pz
  have et : ((n1).toNat : Int) = n1 := Int.toNat_of_nonneg b1
  have sm0 : SMT H0 H0 := SMT_rfl
  have wq24 := f24
  unfold w32 at wq24
  have wq27 := f27
  unfold w32 at wq27
  have qa0 := f8.2
  unfold postb_199vk692 at qa0
  have a0 := at8 sm0 tp qa0 (by omega) (by omega) (by omega)
  have sm1 := SMT_trans sm0 (SMT_fr f8.1.2.1 (by decide +kernel))
  have ks_0 := KS5_le f8.1.1 ks
  have tp_0 := TP_le f8.1.1 tp
  have wd_0 := WDS_fr f8.1.1 f8.1.2.1 (by decide +kernel) wd
  have qa1 := f30.2
  unfold postb_199vk692 at qa1
  have a1 := at8 sm1 tp_0 qa1 (by omega) (by omega) (by omega)
  rw [show (n15).toNat = (n1).toNat + 1 by omega] at a1
  have sm2 := SMT_trans sm1 (SMT_fr f30.1.2.1 (by decide +kernel))
  have ks_1 := KS5_le f30.1.1 ks_0
  have tp_1 := TP_le f30.1.1 tp_0
  have wd_1 := WDS_fr f30.1.1 f30.1.2.1 (by decide +kernel) wd_0
  have pk := f37.2
  unfold postb_131v at pk
  have sm3 := SMT_trans sm2 (SMT_fr f37.1.2.1 (by decide +kernel))
  have ks_2 := KS5_le f37.1.1 ks_1
  have tp_2 := TP_le f37.1.1 tp_1
  have wd_2 := WDS_fr f37.1.1 f37.1.2.1 (by decide +kernel) wd_1
  rw [a0] at pk
  unfold preb_126v
  exact ⟨ks_2, by rw [sm3.1]; exact c0, by rw [sm3.1]; exact c1⟩
theorem c_127v_s_49 : vOkm T0 (eP e_127v L_127v A_127v mu_127v none) 4 ([(0, [21], [], 0), (41, [19, 20], [], 0), (0, [20], [], 1), (1131, [19, 4], [2, 3], 0), (90, [19], [], -2147483648), (91, [19], [], 2147483647), (31, [18], [], 0), (0, [18], [], 1), (40, [16, 17], [], 0), (0, [17], [], 61), (1199, [16, 1, 15], [1, 2], 0), (90, [16], [], -2147483648), (91, [16], [], 2147483647), (1, [15, 2, 14], [], 0), (0, [14], [], 1), (42, [13, 3], [], 0), (1, [13, 2, 12], [], 0), (0, [12], [], 1), (44, [4, 11], [], 0), (0, [11], [], 57), (43, [4, 10], [], 0), (0, [10], [], 48), (42, [4, 9], [], 0), (0, [9], [], 97), (41, [4, 8], [], 0), (0, [8], [], 32), (41, [4, 7], [], 0), (0, [7], [], 13), (41, [4, 6], [], 0), (0, [6], [], 10), (41, [4, 5], [], 0), (0, [5], [], 9), (1199, [4, 1, 2], [0, 1], 0), (90, [4], [], -2147483648), (91, [4], [], 2147483647), (6000, [0, 1, 2, 3], [0], 0), (0, [0], [], 31), (90, [2], [], -2147483648), (91, [2], [], 2147483647), (90, [3], [], -2147483648), (91, [3], [], 2147483647)], (2126, [0, 19, 2, 21], [3], 0)) := vOk_in fun ρ η h => by
  obtain ⟨f0, f1, f2, f3, f4, f5, f6, f7, f8, f9, f10, f11, f12, f13, f14, f15, f16, f17, f18, f19, f20, f21, f22, f23, f24, f25, f26, f27, f28, f29, f30, f31, f32, f33, f34, f35, f36, f37, f38, f39, f40, _⟩ := h
  exact q_127v_49 (n0 := ρ 3) (n1 := ρ 2) (n2 := ρ 0) (n3 := ρ 1) (n4 := ρ 4) (n5 := ρ 5) (n6 := ρ 6) (n7 := ρ 7) (n8 := ρ 8) (n9 := ρ 9) (n10 := ρ 10) (n11 := ρ 11) (n12 := ρ 12) (n13 := ρ 13) (n14 := ρ 14) (n15 := ρ 15) (n16 := ρ 16) (n17 := ρ 17) (n18 := ρ 18) (n19 := ρ 19) (n20 := ρ 20) (n21 := ρ 21) (H0 := η 0) (H1 := η 1) (H2 := η 2) (H3 := η 3) f40 f39 f38 f37 f36 f35 f34 f33 f32 f31 f30 f29 f28 f27 f26 f25 f24 f23 f22 f21 f20 f19 f18 f17 f16 f15 f14 f13 f12 f11 f10 f9 f8 f7 f6 f5 f4 f3 f2 f1 f0
theorem q_127v_50 {n0 n1 n2 n3 n4 n5 n6 n7 n8 n9 n10 n11 n12 n13 n14 n15 n16 n17 n18 n19 n20 n21 n22 n23 : Int} {H0 H1 H2 H3 H4 : gH} (f0 : n0 ≤ 2147483647) (f1 : (-2147483648) ≤ n0) (f2 : n1 ≤ 2147483647) (f3 : (-2147483648) ≤ n1) (f4 : n2 = 31) (f5 : hWt T0 H0 ∧ preb_127v n2 n3 n1 n0 H0) (f6 : n4 ≤ 2147483647) (f7 : (-2147483648) ≤ n4) (f8 : (hLe T0 H0 H1 ∧ hFr s_199vk692.2.2.2.2 H0 H1 ∧ ((0 : Int) = 0 → H1.length = H0.length) ∧ hWt T0 H1) ∧ postb_199vk692 n4 n3 n1 H0 H1) (f9 : n5 = 9) (f10 : n4 ≠ n5) (f11 : n6 = 10) (f12 : n4 ≠ n6) (f13 : n7 = 13) (f14 : n4 ≠ n7) (f15 : n8 = 32) (f16 : n4 ≠ n8) (f17 : n9 = 97) (f18 : n4 < n9) (f19 : n10 = 48) (f20 : n10 ≤ n4) (f21 : n11 = 57) (f22 : n11 < n4) (f23 : n12 = 1) (f24 : n13 = w32 (n1 + n12)) (f25 : n13 < n0) (f26 : n14 = 1) (f27 : n15 = w32 (n1 + n14)) (f28 : n16 ≤ 2147483647) (f29 : (-2147483648) ≤ n16) (f30 : (hLe T0 H1 H2 ∧ hFr s_199vk692.2.2.2.2 H1 H2 ∧ ((0 : Int) = 0 → H2.length = H1.length) ∧ hWt T0 H2) ∧ postb_199vk692 n16 n3 n15 H1 H2) (f31 : n17 = 61) (f32 : n16 = n17) (f33 : n18 = 1) (f34 : n18 ≠ 0) (f35 : n19 ≤ 2147483647) (f36 : (-2147483648) ≤ n19) (f37 : (hLe T0 H2 H3 ∧ hFr s_131v.2.2.2.2 H2 H3 ∧ ((0 : Int) = 0 → H3.length = H2.length) ∧ hWt T0 H3) ∧ postb_131v n19 n4 H2 H3) (f38 : n20 = 1) (f39 : n19 ≠ n20) (f40 : n21 = 0) (f41 : (hLe T0 H3 H4 ∧ hFr s_126v.2.2.2.2 H3 H4 ∧ ((0 : Int) = 0 → H4.length = H3.length) ∧ hWt T0 H4) ∧ postb_126v n2 n19 n1 n21 H3 H4) (f42 : n22 = 2) (f43 : n23 = w32 (n1 + n22)) : postb_127v n23 n2 n3 n1 n0 H0 H4 := by
  have pz := f5.2
  unfold preb_127v at pz
  obtain ⟨ks, tp, wd, b0, b1, b2, b3, c0, c1⟩ := pz
  have et : ((n1).toNat : Int) = n1 := Int.toNat_of_nonneg b1
  have sm0 : SMT H0 H0 := SMT_rfl
  have wq24 := f24
  unfold w32 at wq24
  have wq27 := f27
  unfold w32 at wq27
  have wq43 := f43
  unfold w32 at wq43
  have qa0 := f8.2
  unfold postb_199vk692 at qa0
  have a0 := at8 sm0 tp qa0 (by omega) (by omega) (by omega)
  have sm1 := SMT_trans sm0 (SMT_fr f8.1.2.1 (by decide +kernel))
  have ks_0 := KS5_le f8.1.1 ks
  have tp_0 := TP_le f8.1.1 tp
  have wd_0 := WDS_fr f8.1.1 f8.1.2.1 (by decide +kernel) wd
  have qa1 := f30.2
  unfold postb_199vk692 at qa1
  have a1 := at8 sm1 tp_0 qa1 (by omega) (by omega) (by omega)
  rw [show (n15).toNat = (n1).toNat + 1 by omega] at a1
  have sm2 := SMT_trans sm1 (SMT_fr f30.1.2.1 (by decide +kernel))
  have ks_1 := KS5_le f30.1.1 ks_0
  have tp_1 := TP_le f30.1.1 tp_0
  have wd_1 := WDS_fr f30.1.1 f30.1.2.1 (by decide +kernel) wd_0
  have pk := f37.2
  unfold postb_131v at pk
  have sm3 := SMT_trans sm2 (SMT_fr f37.1.2.1 (by decide +kernel))
  have ks_2 := KS5_le f37.1.1 ks_1
  have tp_2 := TP_le f37.1.1 tp_1
  have wd_2 := WDS_fr f37.1.1 f37.1.2.1 (by decide +kernel) wd_1
  rw [a0] at pk
  unfold postb_127v ONE
  have lt := f41.2
  unfold postb_126v at lt
  have nt := NTp_from sm3 lt.1
  rw [f40] at nt
  first
  | (exfalso; omega)
  | (rw [pk] at nt
     exact ⟨.inr (.inr (.inr (.inl ⟨by omega, by omega, by omega, ⟨by omega, by omega, by omega⟩, by omega, nt⟩))), lt.2⟩)
theorem c_127v_s_50 : vOkm T0 (eP e_127v L_127v A_127v mu_127v none) 4 ([(1, [23, 2, 22], [], 0), (0, [22], [], 2), (1126, [0, 19, 2, 21], [3, 4], 0), (0, [21], [], 0), (41, [19, 20], [], 0), (0, [20], [], 1), (1131, [19, 4], [2, 3], 0), (90, [19], [], -2147483648), (91, [19], [], 2147483647), (31, [18], [], 0), (0, [18], [], 1), (40, [16, 17], [], 0), (0, [17], [], 61), (1199, [16, 1, 15], [1, 2], 0), (90, [16], [], -2147483648), (91, [16], [], 2147483647), (1, [15, 2, 14], [], 0), (0, [14], [], 1), (42, [13, 3], [], 0), (1, [13, 2, 12], [], 0), (0, [12], [], 1), (44, [4, 11], [], 0), (0, [11], [], 57), (43, [4, 10], [], 0), (0, [10], [], 48), (42, [4, 9], [], 0), (0, [9], [], 97), (41, [4, 8], [], 0), (0, [8], [], 32), (41, [4, 7], [], 0), (0, [7], [], 13), (41, [4, 6], [], 0), (0, [6], [], 10), (41, [4, 5], [], 0), (0, [5], [], 9), (1199, [4, 1, 2], [0, 1], 0), (90, [4], [], -2147483648), (91, [4], [], 2147483647), (6000, [0, 1, 2, 3], [0], 0), (0, [0], [], 31), (90, [2], [], -2147483648), (91, [2], [], 2147483647), (90, [3], [], -2147483648), (91, [3], [], 2147483647)], (3000, [23], [4], 142)) := vOk_in fun ρ η h => by
  obtain ⟨f0, f1, f2, f3, f4, f5, f6, f7, f8, f9, f10, f11, f12, f13, f14, f15, f16, f17, f18, f19, f20, f21, f22, f23, f24, f25, f26, f27, f28, f29, f30, f31, f32, f33, f34, f35, f36, f37, f38, f39, f40, f41, f42, f43, _⟩ := h
  exact q_127v_50 (n0 := ρ 3) (n1 := ρ 2) (n2 := ρ 0) (n3 := ρ 1) (n4 := ρ 4) (n5 := ρ 5) (n6 := ρ 6) (n7 := ρ 7) (n8 := ρ 8) (n9 := ρ 9) (n10 := ρ 10) (n11 := ρ 11) (n12 := ρ 12) (n13 := ρ 13) (n14 := ρ 14) (n15 := ρ 15) (n16 := ρ 16) (n17 := ρ 17) (n18 := ρ 18) (n19 := ρ 19) (n20 := ρ 20) (n21 := ρ 21) (n22 := ρ 22) (n23 := ρ 23) (H0 := η 0) (H1 := η 1) (H2 := η 2) (H3 := η 3) (H4 := η 4) f43 f42 f41 f40 f39 f38 f37 f36 f35 f34 f33 f32 f31 f30 f29 f28 f27 f26 f25 f24 f23 f22 f21 f20 f19 f18 f17 f16 f15 f14 f13 f12 f11 f10 f9 f8 f7 f6 f5 f4 f3 f2 f1 f0
theorem q_127v_51 {n0 n1 n2 n3 n4 n5 n6 n7 n8 n9 n10 n11 : Int} {H0 H1 : gH} (f0 : n0 ≤ 2147483647) (f1 : (-2147483648) ≤ n0) (f2 : n1 ≤ 2147483647) (f3 : (-2147483648) ≤ n1) (f4 : n2 = 31) (f5 : hWt T0 H0 ∧ preb_127v n2 n3 n1 n0 H0) (f6 : n4 ≤ 2147483647) (f7 : (-2147483648) ≤ n4) (f8 : (hLe T0 H0 H1 ∧ hFr s_199vk692.2.2.2.2 H0 H1 ∧ ((0 : Int) = 0 → H1.length = H0.length) ∧ hWt T0 H1) ∧ postb_199vk692 n4 n3 n1 H0 H1) (f9 : n5 = 9) (f10 : n4 ≠ n5) (f11 : n6 = 10) (f12 : n4 ≠ n6) (f13 : n7 = 13) (f14 : n4 ≠ n7) (f15 : n8 = 32) (f16 : n4 ≠ n8) (f17 : n9 = 97) (f18 : n4 < n9) (f19 : n10 = 48) (f20 : n10 ≤ n4) (f21 : n11 = 57) (f22 : n4 ≤ n11) : preb_130v n2 n3 n1 n0 H1 := by
  have pz := f5.2
  unfold preb_127v at pz
  obtain ⟨ks, tp, wd, b0, b1, b2, b3, c0, c1⟩ := pz
  have et : ((n1).toNat : Int) = n1 := Int.toNat_of_nonneg b1
  have sm0 : SMT H0 H0 := SMT_rfl
  have qa0 := f8.2
  unfold postb_199vk692 at qa0
  have a0 := at8 sm0 tp qa0 (by omega) (by omega) (by omega)
  have sm1 := SMT_trans sm0 (SMT_fr f8.1.2.1 (by decide +kernel))
  have ks_0 := KS5_le f8.1.1 ks
  have tp_0 := TP_le f8.1.1 tp
  have wd_0 := WDS_fr f8.1.1 f8.1.2.1 (by decide +kernel) wd
  unfold preb_130v
  exact ⟨ks_0, tp_0, b0, b1, b2, b3, by rw [sm1.1]; exact c0, by rw [sm1.1]; exact c1⟩
theorem c_127v_s_51 : vOkm T0 (eP e_127v L_127v A_127v mu_127v none) 4 ([(45, [4, 11], [], 0), (0, [11], [], 57), (43, [4, 10], [], 0), (0, [10], [], 48), (42, [4, 9], [], 0), (0, [9], [], 97), (41, [4, 8], [], 0), (0, [8], [], 32), (41, [4, 7], [], 0), (0, [7], [], 13), (41, [4, 6], [], 0), (0, [6], [], 10), (41, [4, 5], [], 0), (0, [5], [], 9), (1199, [4, 1, 2], [0, 1], 0), (90, [4], [], -2147483648), (91, [4], [], 2147483647), (6000, [0, 1, 2, 3], [0], 0), (0, [0], [], 31), (90, [2], [], -2147483648), (91, [2], [], 2147483647), (90, [3], [], -2147483648), (91, [3], [], 2147483647)], (2130, [0, 1, 2, 3], [1], 0)) := vOk_in fun ρ η h => by
  obtain ⟨f0, f1, f2, f3, f4, f5, f6, f7, f8, f9, f10, f11, f12, f13, f14, f15, f16, f17, f18, f19, f20, f21, f22, _⟩ := h
  exact q_127v_51 (n0 := ρ 3) (n1 := ρ 2) (n2 := ρ 0) (n3 := ρ 1) (n4 := ρ 4) (n5 := ρ 5) (n6 := ρ 6) (n7 := ρ 7) (n8 := ρ 8) (n9 := ρ 9) (n10 := ρ 10) (n11 := ρ 11) (H0 := η 0) (H1 := η 1) f22 f21 f20 f19 f18 f17 f16 f15 f14 f13 f12 f11 f10 f9 f8 f7 f6 f5 f4 f3 f2 f1 f0
theorem q_127v_52 {n0 n1 n2 n3 n4 n5 n6 n7 n8 n9 n10 n11 n12 : Int} {H0 H1 H2 : gH} (f0 : n0 ≤ 2147483647) (f1 : (-2147483648) ≤ n0) (f2 : n1 ≤ 2147483647) (f3 : (-2147483648) ≤ n1) (f4 : n2 = 31) (f5 : hWt T0 H0 ∧ preb_127v n2 n3 n1 n0 H0) (f6 : n4 ≤ 2147483647) (f7 : (-2147483648) ≤ n4) (f8 : (hLe T0 H0 H1 ∧ hFr s_199vk692.2.2.2.2 H0 H1 ∧ ((0 : Int) = 0 → H1.length = H0.length) ∧ hWt T0 H1) ∧ postb_199vk692 n4 n3 n1 H0 H1) (f9 : n5 = 9) (f10 : n4 ≠ n5) (f11 : n6 = 10) (f12 : n4 ≠ n6) (f13 : n7 = 13) (f14 : n4 ≠ n7) (f15 : n8 = 32) (f16 : n4 ≠ n8) (f17 : n9 = 97) (f18 : n4 < n9) (f19 : n10 = 48) (f20 : n10 ≤ n4) (f21 : n11 = 57) (f22 : n4 ≤ n11) (f23 : n12 ≤ 2147483647) (f24 : (-2147483648) ≤ n12) (f25 : (hLe T0 H1 H2 ∧ hFr s_130v.2.2.2.2 H1 H2 ∧ ((0 : Int) = 0 → H2.length = H1.length) ∧ hWt T0 H2) ∧ postb_130v n12 n2 n3 n1 n0 H1 H2) : postb_127v n12 n2 n3 n1 n0 H0 H2 := by
  have pz := f5.2
  unfold preb_127v at pz
  obtain ⟨ks, tp, wd, b0, b1, b2, b3, c0, c1⟩ := pz
  have et : ((n1).toNat : Int) = n1 := Int.toNat_of_nonneg b1
  have sm0 : SMT H0 H0 := SMT_rfl
  have qa0 := f8.2
  unfold postb_199vk692 at qa0
  have a0 := at8 sm0 tp qa0 (by omega) (by omega) (by omega)
  have sm1 := SMT_trans sm0 (SMT_fr f8.1.2.1 (by decide +kernel))
  have ks_0 := KS5_le f8.1.1 ks
  have tp_0 := TP_le f8.1.1 tp
  have wd_0 := WDS_fr f8.1.1 f8.1.2.1 (by decide +kernel) wd
  unfold postb_127v ONE
  have lt := f25.2
  unfold postb_130v at lt
  rw [sm1.2.2.2.2.1] at lt
  exact ⟨.inr (.inr (.inl ⟨by omega, by omega, by omega, lt.1, NTD_from sm1 lt.2.1⟩)), lt.2.2⟩
theorem c_127v_s_52 : vOkm T0 (eP e_127v L_127v A_127v mu_127v none) 4 ([(1130, [12, 0, 1, 2, 3], [1, 2], 0), (90, [12], [], -2147483648), (91, [12], [], 2147483647), (45, [4, 11], [], 0), (0, [11], [], 57), (43, [4, 10], [], 0), (0, [10], [], 48), (42, [4, 9], [], 0), (0, [9], [], 97), (41, [4, 8], [], 0), (0, [8], [], 32), (41, [4, 7], [], 0), (0, [7], [], 13), (41, [4, 6], [], 0), (0, [6], [], 10), (41, [4, 5], [], 0), (0, [5], [], 9), (1199, [4, 1, 2], [0, 1], 0), (90, [4], [], -2147483648), (91, [4], [], 2147483647), (6000, [0, 1, 2, 3], [0], 0), (0, [0], [], 31), (90, [2], [], -2147483648), (91, [2], [], 2147483647), (90, [3], [], -2147483648), (91, [3], [], 2147483647)], (3000, [12], [2], 82)) := vOk_in fun ρ η h => by
  obtain ⟨f0, f1, f2, f3, f4, f5, f6, f7, f8, f9, f10, f11, f12, f13, f14, f15, f16, f17, f18, f19, f20, f21, f22, f23, f24, f25, _⟩ := h
  exact q_127v_52 (n0 := ρ 3) (n1 := ρ 2) (n2 := ρ 0) (n3 := ρ 1) (n4 := ρ 4) (n5 := ρ 5) (n6 := ρ 6) (n7 := ρ 7) (n8 := ρ 8) (n9 := ρ 9) (n10 := ρ 10) (n11 := ρ 11) (n12 := ρ 12) (H0 := η 0) (H1 := η 1) (H2 := η 2) f25 f24 f23 f22 f21 f20 f19 f18 f17 f16 f15 f14 f13 f12 f11 f10 f9 f8 f7 f6 f5 f4 f3 f2 f1 f0
theorem q_127v_53 {n0 n1 n2 n3 n4 n5 n6 n7 n8 n9 n10 n11 n12 n13 n14 n15 n16 n17 n18 : Int} {H0 H1 H2 : gH} (f0 : n0 ≤ 2147483647) (f1 : (-2147483648) ≤ n0) (f2 : n1 ≤ 2147483647) (f3 : (-2147483648) ≤ n1) (f4 : n2 = 31) (f5 : hWt T0 H0 ∧ preb_127v n2 n3 n1 n0 H0) (f6 : n4 ≤ 2147483647) (f7 : (-2147483648) ≤ n4) (f8 : (hLe T0 H0 H1 ∧ hFr s_199vk692.2.2.2.2 H0 H1 ∧ ((0 : Int) = 0 → H1.length = H0.length) ∧ hWt T0 H1) ∧ postb_199vk692 n4 n3 n1 H0 H1) (f9 : n5 = 9) (f10 : n4 ≠ n5) (f11 : n6 = 10) (f12 : n4 ≠ n6) (f13 : n7 = 13) (f14 : n4 ≠ n7) (f15 : n8 = 32) (f16 : n4 ≠ n8) (f17 : n9 = 97) (f18 : n9 ≤ n4) (f19 : n10 = 122) (f20 : n10 < n4) (f21 : n11 = 48) (f22 : n4 < n11) (f23 : n12 = 1) (f24 : n13 = w32 (n1 + n12)) (f25 : n0 ≤ n13) (f26 : n14 = 0) (f27 : n14 = 0) (f28 : n15 = 1) (f29 : n16 = 1) (f30 : n15 = n16) (f31 : n17 ≤ 2147483647) (f32 : (-2147483648) ≤ n17) (f33 : (hLe T0 H1 H2 ∧ hFr s_132v.2.2.2.2 H1 H2 ∧ ((0 : Int) = 0 → H2.length = H1.length) ∧ hWt T0 H2) ∧ postb_132v n17 n4 H1 H2) (f34 : n18 = 0) : preb_126v n2 n17 n1 n18 H2 := by
  have pz := f5.2
  unfold preb_127v at pz
  obtain ⟨ks, tp, wd, b0, b1, b2, b3, c0, c1⟩ := pz
  have et : ((n1).toNat : Int) = n1 := Int.toNat_of_nonneg b1
  have sm0 : SMT H0 H0 := SMT_rfl
  have wq24 := f24
  unfold w32 at wq24
  have qa0 := f8.2
  unfold postb_199vk692 at qa0
  have a0 := at8 sm0 tp qa0 (by omega) (by omega) (by omega)
  have sm1 := SMT_trans sm0 (SMT_fr f8.1.2.1 (by decide +kernel))
  have ks_0 := KS5_le f8.1.1 ks
  have tp_0 := TP_le f8.1.1 tp
  have wd_0 := WDS_fr f8.1.1 f8.1.2.1 (by decide +kernel) wd
  have sk := f33.2
  unfold postb_132v at sk
  have sm2 := SMT_trans sm1 (SMT_fr f33.1.2.1 (by decide +kernel))
  have ks_1 := KS5_le f33.1.1 ks_0
  have tp_1 := TP_le f33.1.1 tp_0
  have wd_1 := WDS_fr f33.1.1 f33.1.2.1 (by decide +kernel) wd_0
  rw [a0] at sk
  unfold preb_126v
  exact ⟨ks_1, by rw [sm2.1]; exact c0, by rw [sm2.1]; exact c1⟩
theorem c_127v_s_53 : vOkm T0 (eP e_127v L_127v A_127v mu_127v none) 4 ([(0, [18], [], 0), (1132, [17, 4], [1, 2], 0), (90, [17], [], -2147483648), (91, [17], [], 2147483647), (40, [15, 16], [], 0), (0, [16], [], 1), (0, [15], [], 1), (30, [14], [], 0), (0, [14], [], 0), (43, [13, 3], [], 0), (1, [13, 2, 12], [], 0), (0, [12], [], 1), (42, [4, 11], [], 0), (0, [11], [], 48), (44, [4, 10], [], 0), (0, [10], [], 122), (43, [4, 9], [], 0), (0, [9], [], 97), (41, [4, 8], [], 0), (0, [8], [], 32), (41, [4, 7], [], 0), (0, [7], [], 13), (41, [4, 6], [], 0), (0, [6], [], 10), (41, [4, 5], [], 0), (0, [5], [], 9), (1199, [4, 1, 2], [0, 1], 0), (90, [4], [], -2147483648), (91, [4], [], 2147483647), (6000, [0, 1, 2, 3], [0], 0), (0, [0], [], 31), (90, [2], [], -2147483648), (91, [2], [], 2147483647), (90, [3], [], -2147483648), (91, [3], [], 2147483647)], (2126, [0, 17, 2, 18], [2], 0)) := vOk_in fun ρ η h => by
  obtain ⟨f0, f1, f2, f3, f4, f5, f6, f7, f8, f9, f10, f11, f12, f13, f14, f15, f16, f17, f18, f19, f20, f21, f22, f23, f24, f25, f26, f27, f28, f29, f30, f31, f32, f33, f34, _⟩ := h
  exact q_127v_53 (n0 := ρ 3) (n1 := ρ 2) (n2 := ρ 0) (n3 := ρ 1) (n4 := ρ 4) (n5 := ρ 5) (n6 := ρ 6) (n7 := ρ 7) (n8 := ρ 8) (n9 := ρ 9) (n10 := ρ 10) (n11 := ρ 11) (n12 := ρ 12) (n13 := ρ 13) (n14 := ρ 14) (n15 := ρ 15) (n16 := ρ 16) (n17 := ρ 17) (n18 := ρ 18) (H0 := η 0) (H1 := η 1) (H2 := η 2) f34 f33 f32 f31 f30 f29 f28 f27 f26 f25 f24 f23 f22 f21 f20 f19 f18 f17 f16 f15 f14 f13 f12 f11 f10 f9 f8 f7 f6 f5 f4 f3 f2 f1 f0
theorem q_127v_54 {n0 n1 n2 n3 n4 n5 n6 n7 n8 n9 n10 n11 n12 n13 n14 n15 n16 n17 n18 n19 n20 : Int} {H0 H1 H2 H3 : gH} (f0 : n0 ≤ 2147483647) (f1 : (-2147483648) ≤ n0) (f2 : n1 ≤ 2147483647) (f3 : (-2147483648) ≤ n1) (f4 : n2 = 31) (f5 : hWt T0 H0 ∧ preb_127v n2 n3 n1 n0 H0) (f6 : n4 ≤ 2147483647) (f7 : (-2147483648) ≤ n4) (f8 : (hLe T0 H0 H1 ∧ hFr s_199vk692.2.2.2.2 H0 H1 ∧ ((0 : Int) = 0 → H1.length = H0.length) ∧ hWt T0 H1) ∧ postb_199vk692 n4 n3 n1 H0 H1) (f9 : n5 = 9) (f10 : n4 ≠ n5) (f11 : n6 = 10) (f12 : n4 ≠ n6) (f13 : n7 = 13) (f14 : n4 ≠ n7) (f15 : n8 = 32) (f16 : n4 ≠ n8) (f17 : n9 = 97) (f18 : n9 ≤ n4) (f19 : n10 = 122) (f20 : n10 < n4) (f21 : n11 = 48) (f22 : n4 < n11) (f23 : n12 = 1) (f24 : n13 = w32 (n1 + n12)) (f25 : n0 ≤ n13) (f26 : n14 = 0) (f27 : n14 = 0) (f28 : n15 = 1) (f29 : n16 = 1) (f30 : n15 = n16) (f31 : n17 ≤ 2147483647) (f32 : (-2147483648) ≤ n17) (f33 : (hLe T0 H1 H2 ∧ hFr s_132v.2.2.2.2 H1 H2 ∧ ((0 : Int) = 0 → H2.length = H1.length) ∧ hWt T0 H2) ∧ postb_132v n17 n4 H1 H2) (f34 : n18 = 0) (f35 : (hLe T0 H2 H3 ∧ hFr s_126v.2.2.2.2 H2 H3 ∧ ((0 : Int) = 0 → H3.length = H2.length) ∧ hWt T0 H3) ∧ postb_126v n2 n17 n1 n18 H2 H3) (f36 : n19 = 1) (f37 : n20 = w32 (n1 + n19)) : postb_127v n20 n2 n3 n1 n0 H0 H3 := by
  have pz := f5.2
  unfold preb_127v at pz
  obtain ⟨ks, tp, wd, b0, b1, b2, b3, c0, c1⟩ := pz
  have et : ((n1).toNat : Int) = n1 := Int.toNat_of_nonneg b1
  have sm0 : SMT H0 H0 := SMT_rfl
  have wq24 := f24
  unfold w32 at wq24
  have wq37 := f37
  unfold w32 at wq37
  have qa0 := f8.2
  unfold postb_199vk692 at qa0
  have a0 := at8 sm0 tp qa0 (by omega) (by omega) (by omega)
  have sm1 := SMT_trans sm0 (SMT_fr f8.1.2.1 (by decide +kernel))
  have ks_0 := KS5_le f8.1.1 ks
  have tp_0 := TP_le f8.1.1 tp
  have wd_0 := WDS_fr f8.1.1 f8.1.2.1 (by decide +kernel) wd
  have sk := f33.2
  unfold postb_132v at sk
  have sm2 := SMT_trans sm1 (SMT_fr f33.1.2.1 (by decide +kernel))
  have ks_1 := KS5_le f33.1.1 ks_0
  have tp_1 := TP_le f33.1.1 tp_0
  have wd_1 := WDS_fr f33.1.1 f33.1.2.1 (by decide +kernel) wd_0
  rw [a0] at sk
  unfold postb_127v ONE
  have lt := f35.2
  unfold postb_126v at lt
  have nt := NTp_from sm2 lt.1
  rw [f34] at nt
  first
  | exact absurd rfl (by omega)
  | (rw [sk] at nt
     exact ⟨.inr (.inr (.inr (.inr ⟨by omega, by omega, by omega, by omega, by omega, nt⟩))), lt.2⟩)
theorem c_127v_s_54 : vOkm T0 (eP e_127v L_127v A_127v mu_127v none) 4 ([(1, [20, 2, 19], [], 0), (0, [19], [], 1), (1126, [0, 17, 2, 18], [2, 3], 0), (0, [18], [], 0), (1132, [17, 4], [1, 2], 0), (90, [17], [], -2147483648), (91, [17], [], 2147483647), (40, [15, 16], [], 0), (0, [16], [], 1), (0, [15], [], 1), (30, [14], [], 0), (0, [14], [], 0), (43, [13, 3], [], 0), (1, [13, 2, 12], [], 0), (0, [12], [], 1), (42, [4, 11], [], 0), (0, [11], [], 48), (44, [4, 10], [], 0), (0, [10], [], 122), (43, [4, 9], [], 0), (0, [9], [], 97), (41, [4, 8], [], 0), (0, [8], [], 32), (41, [4, 7], [], 0), (0, [7], [], 13), (41, [4, 6], [], 0), (0, [6], [], 10), (41, [4, 5], [], 0), (0, [5], [], 9), (1199, [4, 1, 2], [0, 1], 0), (90, [4], [], -2147483648), (91, [4], [], 2147483647), (6000, [0, 1, 2, 3], [0], 0), (0, [0], [], 31), (90, [2], [], -2147483648), (91, [2], [], 2147483647), (90, [3], [], -2147483648), (91, [3], [], 2147483647)], (3000, [20], [3], 157)) := vOk_in fun ρ η h => by
  obtain ⟨f0, f1, f2, f3, f4, f5, f6, f7, f8, f9, f10, f11, f12, f13, f14, f15, f16, f17, f18, f19, f20, f21, f22, f23, f24, f25, f26, f27, f28, f29, f30, f31, f32, f33, f34, f35, f36, f37, _⟩ := h
  exact q_127v_54 (n0 := ρ 3) (n1 := ρ 2) (n2 := ρ 0) (n3 := ρ 1) (n4 := ρ 4) (n5 := ρ 5) (n6 := ρ 6) (n7 := ρ 7) (n8 := ρ 8) (n9 := ρ 9) (n10 := ρ 10) (n11 := ρ 11) (n12 := ρ 12) (n13 := ρ 13) (n14 := ρ 14) (n15 := ρ 15) (n16 := ρ 16) (n17 := ρ 17) (n18 := ρ 18) (n19 := ρ 19) (n20 := ρ 20) (H0 := η 0) (H1 := η 1) (H2 := η 2) (H3 := η 3) f37 f36 f35 f34 f33 f32 f31 f30 f29 f28 f27 f26 f25 f24 f23 f22 f21 f20 f19 f18 f17 f16 f15 f14 f13 f12 f11 f10 f9 f8 f7 f6 f5 f4 f3 f2 f1 f0
theorem q_127v_55 {n0 n1 n2 n3 n4 n5 n6 n7 n8 n9 n10 n11 n12 n13 n14 n15 n16 n17 : Int} {H0 H1 : gH} (f0 : n0 ≤ 2147483647) (f1 : (-2147483648) ≤ n0) (f2 : n1 ≤ 2147483647) (f3 : (-2147483648) ≤ n1) (f4 : n2 = 31) (f5 : hWt T0 H0 ∧ preb_127v n2 n3 n1 n0 H0) (f6 : n4 ≤ 2147483647) (f7 : (-2147483648) ≤ n4) (f8 : (hLe T0 H0 H1 ∧ hFr s_199vk692.2.2.2.2 H0 H1 ∧ ((0 : Int) = 0 → H1.length = H0.length) ∧ hWt T0 H1) ∧ postb_199vk692 n4 n3 n1 H0 H1) (f9 : n5 = 9) (f10 : n4 ≠ n5) (f11 : n6 = 10) (f12 : n4 ≠ n6) (f13 : n7 = 13) (f14 : n4 ≠ n7) (f15 : n8 = 32) (f16 : n4 ≠ n8) (f17 : n9 = 97) (f18 : n9 ≤ n4) (f19 : n10 = 122) (f20 : n10 < n4) (f21 : n11 = 48) (f22 : n4 < n11) (f23 : n12 = 1) (f24 : n13 = w32 (n1 + n12)) (f25 : n0 ≤ n13) (f26 : n14 = 0) (f27 : n14 = 0) (f28 : n15 = 1) (f29 : n16 = 1) (f30 : n15 ≠ n16) (f31 : n17 = 0) : preb_126v n2 n15 n1 n17 H1 := by
  have pz := f5.2
  unfold preb_127v at pz
  obtain ⟨ks, tp, wd, b0, b1, b2, b3, c0, c1⟩ := pz
  have et : ((n1).toNat : Int) = n1 := Int.toNat_of_nonneg b1
  have sm0 : SMT H0 H0 := SMT_rfl
  have wq24 := f24
  unfold w32 at wq24
  have qa0 := f8.2
  unfold postb_199vk692 at qa0
  have a0 := at8 sm0 tp qa0 (by omega) (by omega) (by omega)
  have sm1 := SMT_trans sm0 (SMT_fr f8.1.2.1 (by decide +kernel))
  have ks_0 := KS5_le f8.1.1 ks
  have tp_0 := TP_le f8.1.1 tp
  have wd_0 := WDS_fr f8.1.1 f8.1.2.1 (by decide +kernel) wd
  unfold preb_126v
  exact ⟨ks_0, by rw [sm1.1]; exact c0, by rw [sm1.1]; exact c1⟩
theorem c_127v_s_55 : vOkm T0 (eP e_127v L_127v A_127v mu_127v none) 4 ([(0, [17], [], 0), (41, [15, 16], [], 0), (0, [16], [], 1), (0, [15], [], 1), (30, [14], [], 0), (0, [14], [], 0), (43, [13, 3], [], 0), (1, [13, 2, 12], [], 0), (0, [12], [], 1), (42, [4, 11], [], 0), (0, [11], [], 48), (44, [4, 10], [], 0), (0, [10], [], 122), (43, [4, 9], [], 0), (0, [9], [], 97), (41, [4, 8], [], 0), (0, [8], [], 32), (41, [4, 7], [], 0), (0, [7], [], 13), (41, [4, 6], [], 0), (0, [6], [], 10), (41, [4, 5], [], 0), (0, [5], [], 9), (1199, [4, 1, 2], [0, 1], 0), (90, [4], [], -2147483648), (91, [4], [], 2147483647), (6000, [0, 1, 2, 3], [0], 0), (0, [0], [], 31), (90, [2], [], -2147483648), (91, [2], [], 2147483647), (90, [3], [], -2147483648), (91, [3], [], 2147483647)], (2126, [0, 15, 2, 17], [1], 0)) := vOk_in fun ρ η h => by
  obtain ⟨f0, f1, f2, f3, f4, f5, f6, f7, f8, f9, f10, f11, f12, f13, f14, f15, f16, f17, f18, f19, f20, f21, f22, f23, f24, f25, f26, f27, f28, f29, f30, f31, _⟩ := h
  exact q_127v_55 (n0 := ρ 3) (n1 := ρ 2) (n2 := ρ 0) (n3 := ρ 1) (n4 := ρ 4) (n5 := ρ 5) (n6 := ρ 6) (n7 := ρ 7) (n8 := ρ 8) (n9 := ρ 9) (n10 := ρ 10) (n11 := ρ 11) (n12 := ρ 12) (n13 := ρ 13) (n14 := ρ 14) (n15 := ρ 15) (n16 := ρ 16) (n17 := ρ 17) (H0 := η 0) (H1 := η 1) f31 f30 f29 f28 f27 f26 f25 f24 f23 f22 f21 f20 f19 f18 f17 f16 f15 f14 f13 f12 f11 f10 f9 f8 f7 f6 f5 f4 f3 f2 f1 f0
theorem q_127v_56 {n0 n1 n2 n3 n4 n5 n6 n7 n8 n9 n10 n11 n12 n13 n14 n15 n16 n17 n18 n19 : Int} {H0 H1 H2 : gH} (f0 : n0 ≤ 2147483647) (f1 : (-2147483648) ≤ n0) (f2 : n1 ≤ 2147483647) (f3 : (-2147483648) ≤ n1) (f4 : n2 = 31) (f5 : hWt T0 H0 ∧ preb_127v n2 n3 n1 n0 H0) (f6 : n4 ≤ 2147483647) (f7 : (-2147483648) ≤ n4) (f8 : (hLe T0 H0 H1 ∧ hFr s_199vk692.2.2.2.2 H0 H1 ∧ ((0 : Int) = 0 → H1.length = H0.length) ∧ hWt T0 H1) ∧ postb_199vk692 n4 n3 n1 H0 H1) (f9 : n5 = 9) (f10 : n4 ≠ n5) (f11 : n6 = 10) (f12 : n4 ≠ n6) (f13 : n7 = 13) (f14 : n4 ≠ n7) (f15 : n8 = 32) (f16 : n4 ≠ n8) (f17 : n9 = 97) (f18 : n9 ≤ n4) (f19 : n10 = 122) (f20 : n10 < n4) (f21 : n11 = 48) (f22 : n4 < n11) (f23 : n12 = 1) (f24 : n13 = w32 (n1 + n12)) (f25 : n0 ≤ n13) (f26 : n14 = 0) (f27 : n14 = 0) (f28 : n15 = 1) (f29 : n16 = 1) (f30 : n15 ≠ n16) (f31 : n17 = 0) (f32 : (hLe T0 H1 H2 ∧ hFr s_126v.2.2.2.2 H1 H2 ∧ ((0 : Int) = 0 → H2.length = H1.length) ∧ hWt T0 H2) ∧ postb_126v n2 n15 n1 n17 H1 H2) (f33 : n18 = 2) (f34 : n19 = w32 (n1 + n18)) : postb_127v n19 n2 n3 n1 n0 H0 H2 := by
  have pz := f5.2
  unfold preb_127v at pz
  obtain ⟨ks, tp, wd, b0, b1, b2, b3, c0, c1⟩ := pz
  have et : ((n1).toNat : Int) = n1 := Int.toNat_of_nonneg b1
  have sm0 : SMT H0 H0 := SMT_rfl
  have wq24 := f24
  unfold w32 at wq24
  have wq34 := f34
  unfold w32 at wq34
  have qa0 := f8.2
  unfold postb_199vk692 at qa0
  have a0 := at8 sm0 tp qa0 (by omega) (by omega) (by omega)
  have sm1 := SMT_trans sm0 (SMT_fr f8.1.2.1 (by decide +kernel))
  have ks_0 := KS5_le f8.1.1 ks
  have tp_0 := TP_le f8.1.1 tp
  have wd_0 := WDS_fr f8.1.1 f8.1.2.1 (by decide +kernel) wd
  unfold postb_127v ONE
  have lt := f32.2
  unfold postb_126v at lt
  have nt := NTp_from sm1 lt.1
  rw [f31] at nt
  first
  | (exfalso; omega)
  | (rw [pk] at nt
     exact ⟨.inr (.inr (.inr (.inl ⟨by omega, by omega, by omega, ⟨by omega, by omega, by omega⟩, by omega, nt⟩))), lt.2⟩)
theorem c_127v_s_56 : vOkm T0 (eP e_127v L_127v A_127v mu_127v none) 4 ([(1, [19, 2, 18], [], 0), (0, [18], [], 2), (1126, [0, 15, 2, 17], [1, 2], 0), (0, [17], [], 0), (41, [15, 16], [], 0), (0, [16], [], 1), (0, [15], [], 1), (30, [14], [], 0), (0, [14], [], 0), (43, [13, 3], [], 0), (1, [13, 2, 12], [], 0), (0, [12], [], 1), (42, [4, 11], [], 0), (0, [11], [], 48), (44, [4, 10], [], 0), (0, [10], [], 122), (43, [4, 9], [], 0), (0, [9], [], 97), (41, [4, 8], [], 0), (0, [8], [], 32), (41, [4, 7], [], 0), (0, [7], [], 13), (41, [4, 6], [], 0), (0, [6], [], 10), (41, [4, 5], [], 0), (0, [5], [], 9), (1199, [4, 1, 2], [0, 1], 0), (90, [4], [], -2147483648), (91, [4], [], 2147483647), (6000, [0, 1, 2, 3], [0], 0), (0, [0], [], 31), (90, [2], [], -2147483648), (91, [2], [], 2147483647), (90, [3], [], -2147483648), (91, [3], [], 2147483647)], (3000, [19], [2], 142)) := vOk_in fun ρ η h => by
  obtain ⟨f0, f1, f2, f3, f4, f5, f6, f7, f8, f9, f10, f11, f12, f13, f14, f15, f16, f17, f18, f19, f20, f21, f22, f23, f24, f25, f26, f27, f28, f29, f30, f31, f32, f33, f34, _⟩ := h
  exact q_127v_56 (n0 := ρ 3) (n1 := ρ 2) (n2 := ρ 0) (n3 := ρ 1) (n4 := ρ 4) (n5 := ρ 5) (n6 := ρ 6) (n7 := ρ 7) (n8 := ρ 8) (n9 := ρ 9) (n10 := ρ 10) (n11 := ρ 11) (n12 := ρ 12) (n13 := ρ 13) (n14 := ρ 14) (n15 := ρ 15) (n16 := ρ 16) (n17 := ρ 17) (n18 := ρ 18) (n19 := ρ 19) (H0 := η 0) (H1 := η 1) (H2 := η 2) f34 f33 f32 f31 f30 f29 f28 f27 f26 f25 f24 f23 f22 f21 f20 f19 f18 f17 f16 f15 f14 f13 f12 f11 f10 f9 f8 f7 f6 f5 f4 f3 f2 f1 f0
theorem q_127v_57 {n0 n1 n2 n3 n4 n5 n6 n7 n8 n9 n10 n11 n12 n13 n14 n15 n16 n17 n18 : Int} {H0 H1 H2 H3 : gH} (f0 : n0 ≤ 2147483647) (f1 : (-2147483648) ≤ n0) (f2 : n1 ≤ 2147483647) (f3 : (-2147483648) ≤ n1) (f4 : n2 = 31) (f5 : hWt T0 H0 ∧ preb_127v n2 n3 n1 n0 H0) (f6 : n4 ≤ 2147483647) (f7 : (-2147483648) ≤ n4) (f8 : (hLe T0 H0 H1 ∧ hFr s_199vk692.2.2.2.2 H0 H1 ∧ ((0 : Int) = 0 → H1.length = H0.length) ∧ hWt T0 H1) ∧ postb_199vk692 n4 n3 n1 H0 H1) (f9 : n5 = 9) (f10 : n4 ≠ n5) (f11 : n6 = 10) (f12 : n4 ≠ n6) (f13 : n7 = 13) (f14 : n4 ≠ n7) (f15 : n8 = 32) (f16 : n4 ≠ n8) (f17 : n9 = 97) (f18 : n9 ≤ n4) (f19 : n10 = 122) (f20 : n10 < n4) (f21 : n11 = 48) (f22 : n4 < n11) (f23 : n12 = 1) (f24 : n13 = w32 (n1 + n12)) (f25 : n0 ≤ n13) (f26 : n14 = 0) (f27 : n14 ≠ 0) (f28 : n15 ≤ 2147483647) (f29 : (-2147483648) ≤ n15) (f30 : (hLe T0 H1 H2 ∧ hFr s_131v.2.2.2.2 H1 H2 ∧ ((0 : Int) = 0 → H2.length = H1.length) ∧ hWt T0 H2) ∧ postb_131v n15 n4 H1 H2) (f31 : n16 = 1) (f32 : n15 = n16) (f33 : n17 ≤ 2147483647) (f34 : (-2147483648) ≤ n17) (f35 : (hLe T0 H2 H3 ∧ hFr s_132v.2.2.2.2 H2 H3 ∧ ((0 : Int) = 0 → H3.length = H2.length) ∧ hWt T0 H3) ∧ postb_132v n17 n4 H2 H3) (f36 : n18 = 0) : preb_126v n2 n17 n1 n18 H3 := by
  have pz := f5.2
  unfold preb_127v at pz
  obtain ⟨ks, tp, wd, b0, b1, b2, b3, c0, c1⟩ := pz
  have et : ((n1).toNat : Int) = n1 := Int.toNat_of_nonneg b1
  have sm0 : SMT H0 H0 := SMT_rfl
  have wq24 := f24
  unfold w32 at wq24
  have qa0 := f8.2
  unfold postb_199vk692 at qa0
  have a0 := at8 sm0 tp qa0 (by omega) (by omega) (by omega)
  have sm1 := SMT_trans sm0 (SMT_fr f8.1.2.1 (by decide +kernel))
  have ks_0 := KS5_le f8.1.1 ks
  have tp_0 := TP_le f8.1.1 tp
  have wd_0 := WDS_fr f8.1.1 f8.1.2.1 (by decide +kernel) wd
  have pk := f30.2
  unfold postb_131v at pk
  have sm2 := SMT_trans sm1 (SMT_fr f30.1.2.1 (by decide +kernel))
  have ks_1 := KS5_le f30.1.1 ks_0
  have tp_1 := TP_le f30.1.1 tp_0
  have wd_1 := WDS_fr f30.1.1 f30.1.2.1 (by decide +kernel) wd_0
  have sk := f35.2
  unfold postb_132v at sk
  have sm3 := SMT_trans sm2 (SMT_fr f35.1.2.1 (by decide +kernel))
  have ks_2 := KS5_le f35.1.1 ks_1
  have tp_2 := TP_le f35.1.1 tp_1
  have wd_2 := WDS_fr f35.1.1 f35.1.2.1 (by decide +kernel) wd_1
  rw [a0] at pk
  rw [a0] at sk
  unfold preb_126v
  exact ⟨ks_2, by rw [sm3.1]; exact c0, by rw [sm3.1]; exact c1⟩
theorem c_127v_s_57 : vOkm T0 (eP e_127v L_127v A_127v mu_127v none) 4 ([(0, [18], [], 0), (1132, [17, 4], [2, 3], 0), (90, [17], [], -2147483648), (91, [17], [], 2147483647), (40, [15, 16], [], 0), (0, [16], [], 1), (1131, [15, 4], [1, 2], 0), (90, [15], [], -2147483648), (91, [15], [], 2147483647), (31, [14], [], 0), (0, [14], [], 0), (43, [13, 3], [], 0), (1, [13, 2, 12], [], 0), (0, [12], [], 1), (42, [4, 11], [], 0), (0, [11], [], 48), (44, [4, 10], [], 0), (0, [10], [], 122), (43, [4, 9], [], 0), (0, [9], [], 97), (41, [4, 8], [], 0), (0, [8], [], 32), (41, [4, 7], [], 0), (0, [7], [], 13), (41, [4, 6], [], 0), (0, [6], [], 10), (41, [4, 5], [], 0), (0, [5], [], 9), (1199, [4, 1, 2], [0, 1], 0), (90, [4], [], -2147483648), (91, [4], [], 2147483647), (6000, [0, 1, 2, 3], [0], 0), (0, [0], [], 31), (90, [2], [], -2147483648), (91, [2], [], 2147483647), (90, [3], [], -2147483648), (91, [3], [], 2147483647)], (2126, [0, 17, 2, 18], [3], 0)) := vOk_in fun ρ η h => by
  obtain ⟨f0, f1, f2, f3, f4, f5, f6, f7, f8, f9, f10, f11, f12, f13, f14, f15, f16, f17, f18, f19, f20, f21, f22, f23, f24, f25, f26, f27, f28, f29, f30, f31, f32, f33, f34, f35, f36, _⟩ := h
  exact q_127v_57 (n0 := ρ 3) (n1 := ρ 2) (n2 := ρ 0) (n3 := ρ 1) (n4 := ρ 4) (n5 := ρ 5) (n6 := ρ 6) (n7 := ρ 7) (n8 := ρ 8) (n9 := ρ 9) (n10 := ρ 10) (n11 := ρ 11) (n12 := ρ 12) (n13 := ρ 13) (n14 := ρ 14) (n15 := ρ 15) (n16 := ρ 16) (n17 := ρ 17) (n18 := ρ 18) (H0 := η 0) (H1 := η 1) (H2 := η 2) (H3 := η 3) f36 f35 f34 f33 f32 f31 f30 f29 f28 f27 f26 f25 f24 f23 f22 f21 f20 f19 f18 f17 f16 f15 f14 f13 f12 f11 f10 f9 f8 f7 f6 f5 f4 f3 f2 f1 f0
theorem q_127v_58 {n0 n1 n2 n3 n4 n5 n6 n7 n8 n9 n10 n11 n12 n13 n14 n15 n16 n17 n18 n19 n20 : Int} {H0 H1 H2 H3 H4 : gH} (f0 : n0 ≤ 2147483647) (f1 : (-2147483648) ≤ n0) (f2 : n1 ≤ 2147483647) (f3 : (-2147483648) ≤ n1) (f4 : n2 = 31) (f5 : hWt T0 H0 ∧ preb_127v n2 n3 n1 n0 H0) (f6 : n4 ≤ 2147483647) (f7 : (-2147483648) ≤ n4) (f8 : (hLe T0 H0 H1 ∧ hFr s_199vk692.2.2.2.2 H0 H1 ∧ ((0 : Int) = 0 → H1.length = H0.length) ∧ hWt T0 H1) ∧ postb_199vk692 n4 n3 n1 H0 H1) (f9 : n5 = 9) (f10 : n4 ≠ n5) (f11 : n6 = 10) (f12 : n4 ≠ n6) (f13 : n7 = 13) (f14 : n4 ≠ n7) (f15 : n8 = 32) (f16 : n4 ≠ n8) (f17 : n9 = 97) (f18 : n9 ≤ n4) (f19 : n10 = 122) (f20 : n10 < n4) (f21 : n11 = 48) (f22 : n4 < n11) (f23 : n12 = 1) (f24 : n13 = w32 (n1 + n12)) (f25 : n0 ≤ n13) (f26 : n14 = 0) (f27 : n14 ≠ 0) (f28 : n15 ≤ 2147483647) (f29 : (-2147483648) ≤ n15) (f30 : (hLe T0 H1 H2 ∧ hFr s_131v.2.2.2.2 H1 H2 ∧ ((0 : Int) = 0 → H2.length = H1.length) ∧ hWt T0 H2) ∧ postb_131v n15 n4 H1 H2) (f31 : n16 = 1) (f32 : n15 = n16) (f33 : n17 ≤ 2147483647) (f34 : (-2147483648) ≤ n17) (f35 : (hLe T0 H2 H3 ∧ hFr s_132v.2.2.2.2 H2 H3 ∧ ((0 : Int) = 0 → H3.length = H2.length) ∧ hWt T0 H3) ∧ postb_132v n17 n4 H2 H3) (f36 : n18 = 0) (f37 : (hLe T0 H3 H4 ∧ hFr s_126v.2.2.2.2 H3 H4 ∧ ((0 : Int) = 0 → H4.length = H3.length) ∧ hWt T0 H4) ∧ postb_126v n2 n17 n1 n18 H3 H4) (f38 : n19 = 1) (f39 : n20 = w32 (n1 + n19)) : postb_127v n20 n2 n3 n1 n0 H0 H4 := by
  have pz := f5.2
  unfold preb_127v at pz
  obtain ⟨ks, tp, wd, b0, b1, b2, b3, c0, c1⟩ := pz
  have et : ((n1).toNat : Int) = n1 := Int.toNat_of_nonneg b1
  have sm0 : SMT H0 H0 := SMT_rfl
  have wq24 := f24
  unfold w32 at wq24
  have wq39 := f39
  unfold w32 at wq39
  have qa0 := f8.2
  unfold postb_199vk692 at qa0
  have a0 := at8 sm0 tp qa0 (by omega) (by omega) (by omega)
  have sm1 := SMT_trans sm0 (SMT_fr f8.1.2.1 (by decide +kernel))
  have ks_0 := KS5_le f8.1.1 ks
  have tp_0 := TP_le f8.1.1 tp
  have wd_0 := WDS_fr f8.1.1 f8.1.2.1 (by decide +kernel) wd
  have pk := f30.2
  unfold postb_131v at pk
  have sm2 := SMT_trans sm1 (SMT_fr f30.1.2.1 (by decide +kernel))
  have ks_1 := KS5_le f30.1.1 ks_0
  have tp_1 := TP_le f30.1.1 tp_0
  have wd_1 := WDS_fr f30.1.1 f30.1.2.1 (by decide +kernel) wd_0
  have sk := f35.2
  unfold postb_132v at sk
  have sm3 := SMT_trans sm2 (SMT_fr f35.1.2.1 (by decide +kernel))
  have ks_2 := KS5_le f35.1.1 ks_1
  have tp_2 := TP_le f35.1.1 tp_1
  have wd_2 := WDS_fr f35.1.1 f35.1.2.1 (by decide +kernel) wd_1
  rw [a0] at pk
  rw [a0] at sk
  unfold postb_127v ONE
  have lt := f37.2
  unfold postb_126v at lt
  have nt := NTp_from sm3 lt.1
  rw [f36] at nt
  first
  | exact absurd rfl (by omega)
  | (rw [sk] at nt
     exact ⟨.inr (.inr (.inr (.inr ⟨by omega, by omega, by omega, by omega, by omega, nt⟩))), lt.2⟩)
theorem c_127v_s_58 : vOkm T0 (eP e_127v L_127v A_127v mu_127v none) 4 ([(1, [20, 2, 19], [], 0), (0, [19], [], 1), (1126, [0, 17, 2, 18], [3, 4], 0), (0, [18], [], 0), (1132, [17, 4], [2, 3], 0), (90, [17], [], -2147483648), (91, [17], [], 2147483647), (40, [15, 16], [], 0), (0, [16], [], 1), (1131, [15, 4], [1, 2], 0), (90, [15], [], -2147483648), (91, [15], [], 2147483647), (31, [14], [], 0), (0, [14], [], 0), (43, [13, 3], [], 0), (1, [13, 2, 12], [], 0), (0, [12], [], 1), (42, [4, 11], [], 0), (0, [11], [], 48), (44, [4, 10], [], 0), (0, [10], [], 122), (43, [4, 9], [], 0), (0, [9], [], 97), (41, [4, 8], [], 0), (0, [8], [], 32), (41, [4, 7], [], 0), (0, [7], [], 13), (41, [4, 6], [], 0), (0, [6], [], 10), (41, [4, 5], [], 0), (0, [5], [], 9), (1199, [4, 1, 2], [0, 1], 0), (90, [4], [], -2147483648), (91, [4], [], 2147483647), (6000, [0, 1, 2, 3], [0], 0), (0, [0], [], 31), (90, [2], [], -2147483648), (91, [2], [], 2147483647), (90, [3], [], -2147483648), (91, [3], [], 2147483647)], (3000, [20], [4], 157)) := vOk_in fun ρ η h => by
  obtain ⟨f0, f1, f2, f3, f4, f5, f6, f7, f8, f9, f10, f11, f12, f13, f14, f15, f16, f17, f18, f19, f20, f21, f22, f23, f24, f25, f26, f27, f28, f29, f30, f31, f32, f33, f34, f35, f36, f37, f38, f39, _⟩ := h
  exact q_127v_58 (n0 := ρ 3) (n1 := ρ 2) (n2 := ρ 0) (n3 := ρ 1) (n4 := ρ 4) (n5 := ρ 5) (n6 := ρ 6) (n7 := ρ 7) (n8 := ρ 8) (n9 := ρ 9) (n10 := ρ 10) (n11 := ρ 11) (n12 := ρ 12) (n13 := ρ 13) (n14 := ρ 14) (n15 := ρ 15) (n16 := ρ 16) (n17 := ρ 17) (n18 := ρ 18) (n19 := ρ 19) (n20 := ρ 20) (H0 := η 0) (H1 := η 1) (H2 := η 2) (H3 := η 3) (H4 := η 4) f39 f38 f37 f36 f35 f34 f33 f32 f31 f30 f29 f28 f27 f26 f25 f24 f23 f22 f21 f20 f19 f18 f17 f16 f15 f14 f13 f12 f11 f10 f9 f8 f7 f6 f5 f4 f3 f2 f1 f0
theorem q_127v_59 {n0 n1 n2 n3 n4 n5 n6 n7 n8 n9 n10 n11 n12 n13 n14 n15 n16 n17 : Int} {H0 H1 H2 : gH} (f0 : n0 ≤ 2147483647) (f1 : (-2147483648) ≤ n0) (f2 : n1 ≤ 2147483647) (f3 : (-2147483648) ≤ n1) (f4 : n2 = 31) (f5 : hWt T0 H0 ∧ preb_127v n2 n3 n1 n0 H0) (f6 : n4 ≤ 2147483647) (f7 : (-2147483648) ≤ n4) (f8 : (hLe T0 H0 H1 ∧ hFr s_199vk692.2.2.2.2 H0 H1 ∧ ((0 : Int) = 0 → H1.length = H0.length) ∧ hWt T0 H1) ∧ postb_199vk692 n4 n3 n1 H0 H1) (f9 : n5 = 9) (f10 : n4 ≠ n5) (f11 : n6 = 10) (f12 : n4 ≠ n6) (f13 : n7 = 13) (f14 : n4 ≠ n7) (f15 : n8 = 32) (f16 : n4 ≠ n8) (f17 : n9 = 97) (f18 : n9 ≤ n4) (f19 : n10 = 122) (f20 : n10 < n4) (f21 : n11 = 48) (f22 : n4 < n11) (f23 : n12 = 1) (f24 : n13 = w32 (n1 + n12)) (f25 : n0 ≤ n13) (f26 : n14 = 0) (f27 : n14 ≠ 0) (f28 : n15 ≤ 2147483647) (f29 : (-2147483648) ≤ n15) (f30 : (hLe T0 H1 H2 ∧ hFr s_131v.2.2.2.2 H1 H2 ∧ ((0 : Int) = 0 → H2.length = H1.length) ∧ hWt T0 H2) ∧ postb_131v n15 n4 H1 H2) (f31 : n16 = 1) (f32 : n15 ≠ n16) (f33 : n17 = 0) : preb_126v n2 n15 n1 n17 H2 := by
  have pz := f5.2
  unfold preb_127v at pz
  obtain ⟨ks, tp, wd, b0, b1, b2, b3, c0, c1⟩ := pz
  have et : ((n1).toNat : Int) = n1 := Int.toNat_of_nonneg b1
  have sm0 : SMT H0 H0 := SMT_rfl
  have wq24 := f24
  unfold w32 at wq24
  have qa0 := f8.2
  unfold postb_199vk692 at qa0
  have a0 := at8 sm0 tp qa0 (by omega) (by omega) (by omega)
  have sm1 := SMT_trans sm0 (SMT_fr f8.1.2.1 (by decide +kernel))
  have ks_0 := KS5_le f8.1.1 ks
  have tp_0 := TP_le f8.1.1 tp
  have wd_0 := WDS_fr f8.1.1 f8.1.2.1 (by decide +kernel) wd
  have pk := f30.2
  unfold postb_131v at pk
  have sm2 := SMT_trans sm1 (SMT_fr f30.1.2.1 (by decide +kernel))
  have ks_1 := KS5_le f30.1.1 ks_0
  have tp_1 := TP_le f30.1.1 tp_0
  have wd_1 := WDS_fr f30.1.1 f30.1.2.1 (by decide +kernel) wd_0
  rw [a0] at pk
  unfold preb_126v
  exact ⟨ks_1, by rw [sm2.1]; exact c0, by rw [sm2.1]; exact c1⟩
theorem c_127v_s_59 : vOkm T0 (eP e_127v L_127v A_127v mu_127v none) 4 ([(0, [17], [], 0), (41, [15, 16], [], 0), (0, [16], [], 1), (1131, [15, 4], [1, 2], 0), (90, [15], [], -2147483648), (91, [15], [], 2147483647), (31, [14], [], 0), (0, [14], [], 0), (43, [13, 3], [], 0), (1, [13, 2, 12], [], 0), (0, [12], [], 1), (42, [4, 11], [], 0), (0, [11], [], 48), (44, [4, 10], [], 0), (0, [10], [], 122), (43, [4, 9], [], 0), (0, [9], [], 97), (41, [4, 8], [], 0), (0, [8], [], 32), (41, [4, 7], [], 0), (0, [7], [], 13), (41, [4, 6], [], 0), (0, [6], [], 10), (41, [4, 5], [], 0), (0, [5], [], 9), (1199, [4, 1, 2], [0, 1], 0), (90, [4], [], -2147483648), (91, [4], [], 2147483647), (6000, [0, 1, 2, 3], [0], 0), (0, [0], [], 31), (90, [2], [], -2147483648), (91, [2], [], 2147483647), (90, [3], [], -2147483648), (91, [3], [], 2147483647)], (2126, [0, 15, 2, 17], [2], 0)) := vOk_in fun ρ η h => by
  obtain ⟨f0, f1, f2, f3, f4, f5, f6, f7, f8, f9, f10, f11, f12, f13, f14, f15, f16, f17, f18, f19, f20, f21, f22, f23, f24, f25, f26, f27, f28, f29, f30, f31, f32, f33, _⟩ := h
  exact q_127v_59 (n0 := ρ 3) (n1 := ρ 2) (n2 := ρ 0) (n3 := ρ 1) (n4 := ρ 4) (n5 := ρ 5) (n6 := ρ 6) (n7 := ρ 7) (n8 := ρ 8) (n9 := ρ 9) (n10 := ρ 10) (n11 := ρ 11) (n12 := ρ 12) (n13 := ρ 13) (n14 := ρ 14) (n15 := ρ 15) (n16 := ρ 16) (n17 := ρ 17) (H0 := η 0) (H1 := η 1) (H2 := η 2) f33 f32 f31 f30 f29 f28 f27 f26 f25 f24 f23 f22 f21 f20 f19 f18 f17 f16 f15 f14 f13 f12 f11 f10 f9 f8 f7 f6 f5 f4 f3 f2 f1 f0
theorem q_127v_60 {n0 n1 n2 n3 n4 n5 n6 n7 n8 n9 n10 n11 n12 n13 n14 n15 n16 n17 n18 n19 : Int} {H0 H1 H2 H3 : gH} (f0 : n0 ≤ 2147483647) (f1 : (-2147483648) ≤ n0) (f2 : n1 ≤ 2147483647) (f3 : (-2147483648) ≤ n1) (f4 : n2 = 31) (f5 : hWt T0 H0 ∧ preb_127v n2 n3 n1 n0 H0) (f6 : n4 ≤ 2147483647) (f7 : (-2147483648) ≤ n4) (f8 : (hLe T0 H0 H1 ∧ hFr s_199vk692.2.2.2.2 H0 H1 ∧ ((0 : Int) = 0 → H1.length = H0.length) ∧ hWt T0 H1) ∧ postb_199vk692 n4 n3 n1 H0 H1) (f9 : n5 = 9) (f10 : n4 ≠ n5) (f11 : n6 = 10) (f12 : n4 ≠ n6) (f13 : n7 = 13) (f14 : n4 ≠ n7) (f15 : n8 = 32) (f16 : n4 ≠ n8) (f17 : n9 = 97) (f18 : n9 ≤ n4) (f19 : n10 = 122) (f20 : n10 < n4) (f21 : n11 = 48) (f22 : n4 < n11) (f23 : n12 = 1) (f24 : n13 = w32 (n1 + n12)) (f25 : n0 ≤ n13) (f26 : n14 = 0) (f27 : n14 ≠ 0) (f28 : n15 ≤ 2147483647) (f29 : (-2147483648) ≤ n15) (f30 : (hLe T0 H1 H2 ∧ hFr s_131v.2.2.2.2 H1 H2 ∧ ((0 : Int) = 0 → H2.length = H1.length) ∧ hWt T0 H2) ∧ postb_131v n15 n4 H1 H2) (f31 : n16 = 1) (f32 : n15 ≠ n16) (f33 : n17 = 0) (f34 : (hLe T0 H2 H3 ∧ hFr s_126v.2.2.2.2 H2 H3 ∧ ((0 : Int) = 0 → H3.length = H2.length) ∧ hWt T0 H3) ∧ postb_126v n2 n15 n1 n17 H2 H3) (f35 : n18 = 2) (f36 : n19 = w32 (n1 + n18)) : postb_127v n19 n2 n3 n1 n0 H0 H3 := by
  have pz := f5.2
  unfold preb_127v at pz
  obtain ⟨ks, tp, wd, b0, b1, b2, b3, c0, c1⟩ := pz
  have et : ((n1).toNat : Int) = n1 := Int.toNat_of_nonneg b1
  have sm0 : SMT H0 H0 := SMT_rfl
  have wq24 := f24
  unfold w32 at wq24
  have wq36 := f36
  unfold w32 at wq36
  have qa0 := f8.2
  unfold postb_199vk692 at qa0
  have a0 := at8 sm0 tp qa0 (by omega) (by omega) (by omega)
  have sm1 := SMT_trans sm0 (SMT_fr f8.1.2.1 (by decide +kernel))
  have ks_0 := KS5_le f8.1.1 ks
  have tp_0 := TP_le f8.1.1 tp
  have wd_0 := WDS_fr f8.1.1 f8.1.2.1 (by decide +kernel) wd
  have pk := f30.2
  unfold postb_131v at pk
  have sm2 := SMT_trans sm1 (SMT_fr f30.1.2.1 (by decide +kernel))
  have ks_1 := KS5_le f30.1.1 ks_0
  have tp_1 := TP_le f30.1.1 tp_0
  have wd_1 := WDS_fr f30.1.1 f30.1.2.1 (by decide +kernel) wd_0
  rw [a0] at pk
  unfold postb_127v ONE
  have lt := f34.2
  unfold postb_126v at lt
  have nt := NTp_from sm2 lt.1
  rw [f33] at nt
  first
  | (exfalso; omega)
  | (rw [pk] at nt
     exact ⟨.inr (.inr (.inr (.inl ⟨by omega, by omega, by omega, ⟨by omega, by omega, by omega⟩, by omega, nt⟩))), lt.2⟩)
theorem c_127v_s_60 : vOkm T0 (eP e_127v L_127v A_127v mu_127v none) 4 ([(1, [19, 2, 18], [], 0), (0, [18], [], 2), (1126, [0, 15, 2, 17], [2, 3], 0), (0, [17], [], 0), (41, [15, 16], [], 0), (0, [16], [], 1), (1131, [15, 4], [1, 2], 0), (90, [15], [], -2147483648), (91, [15], [], 2147483647), (31, [14], [], 0), (0, [14], [], 0), (43, [13, 3], [], 0), (1, [13, 2, 12], [], 0), (0, [12], [], 1), (42, [4, 11], [], 0), (0, [11], [], 48), (44, [4, 10], [], 0), (0, [10], [], 122), (43, [4, 9], [], 0), (0, [9], [], 97), (41, [4, 8], [], 0), (0, [8], [], 32), (41, [4, 7], [], 0), (0, [7], [], 13), (41, [4, 6], [], 0), (0, [6], [], 10), (41, [4, 5], [], 0), (0, [5], [], 9), (1199, [4, 1, 2], [0, 1], 0), (90, [4], [], -2147483648), (91, [4], [], 2147483647), (6000, [0, 1, 2, 3], [0], 0), (0, [0], [], 31), (90, [2], [], -2147483648), (91, [2], [], 2147483647), (90, [3], [], -2147483648), (91, [3], [], 2147483647)], (3000, [19], [3], 142)) := vOk_in fun ρ η h => by
  obtain ⟨f0, f1, f2, f3, f4, f5, f6, f7, f8, f9, f10, f11, f12, f13, f14, f15, f16, f17, f18, f19, f20, f21, f22, f23, f24, f25, f26, f27, f28, f29, f30, f31, f32, f33, f34, f35, f36, _⟩ := h
  exact q_127v_60 (n0 := ρ 3) (n1 := ρ 2) (n2 := ρ 0) (n3 := ρ 1) (n4 := ρ 4) (n5 := ρ 5) (n6 := ρ 6) (n7 := ρ 7) (n8 := ρ 8) (n9 := ρ 9) (n10 := ρ 10) (n11 := ρ 11) (n12 := ρ 12) (n13 := ρ 13) (n14 := ρ 14) (n15 := ρ 15) (n16 := ρ 16) (n17 := ρ 17) (n18 := ρ 18) (n19 := ρ 19) (H0 := η 0) (H1 := η 1) (H2 := η 2) (H3 := η 3) f36 f35 f34 f33 f32 f31 f30 f29 f28 f27 f26 f25 f24 f23 f22 f21 f20 f19 f18 f17 f16 f15 f14 f13 f12 f11 f10 f9 f8 f7 f6 f5 f4 f3 f2 f1 f0
theorem q_127v_61 {n0 n1 n2 n3 n4 n5 n6 n7 n8 n9 n10 n11 n12 n13 n14 n15 n16 n17 n18 n19 n20 n21 n22 : Int} {H0 H1 H2 H3 : gH} (f0 : n0 ≤ 2147483647) (f1 : (-2147483648) ≤ n0) (f2 : n1 ≤ 2147483647) (f3 : (-2147483648) ≤ n1) (f4 : n2 = 31) (f5 : hWt T0 H0 ∧ preb_127v n2 n3 n1 n0 H0) (f6 : n4 ≤ 2147483647) (f7 : (-2147483648) ≤ n4) (f8 : (hLe T0 H0 H1 ∧ hFr s_199vk692.2.2.2.2 H0 H1 ∧ ((0 : Int) = 0 → H1.length = H0.length) ∧ hWt T0 H1) ∧ postb_199vk692 n4 n3 n1 H0 H1) (f9 : n5 = 9) (f10 : n4 ≠ n5) (f11 : n6 = 10) (f12 : n4 ≠ n6) (f13 : n7 = 13) (f14 : n4 ≠ n7) (f15 : n8 = 32) (f16 : n4 ≠ n8) (f17 : n9 = 97) (f18 : n9 ≤ n4) (f19 : n10 = 122) (f20 : n10 < n4) (f21 : n11 = 48) (f22 : n4 < n11) (f23 : n12 = 1) (f24 : n13 = w32 (n1 + n12)) (f25 : n13 < n0) (f26 : n14 = 1) (f27 : n15 = w32 (n1 + n14)) (f28 : n16 ≤ 2147483647) (f29 : (-2147483648) ≤ n16) (f30 : (hLe T0 H1 H2 ∧ hFr s_199vk692.2.2.2.2 H1 H2 ∧ ((0 : Int) = 0 → H2.length = H1.length) ∧ hWt T0 H2) ∧ postb_199vk692 n16 n3 n15 H1 H2) (f31 : n17 = 61) (f32 : n16 ≠ n17) (f33 : n18 = 0) (f34 : n18 = 0) (f35 : n19 = 1) (f36 : n20 = 1) (f37 : n19 = n20) (f38 : n21 ≤ 2147483647) (f39 : (-2147483648) ≤ n21) (f40 : (hLe T0 H2 H3 ∧ hFr s_132v.2.2.2.2 H2 H3 ∧ ((0 : Int) = 0 → H3.length = H2.length) ∧ hWt T0 H3) ∧ postb_132v n21 n4 H2 H3) (f41 : n22 = 0) : preb_126v n2 n21 n1 n22 H3 := by
  have pz := f5.2
  unfold preb_127v at pz
  obtain ⟨ks, tp, wd, b0, b1, b2, b3, c0, c1⟩ := pz
  have et : ((n1).toNat : Int) = n1 := Int.toNat_of_nonneg b1
  have sm0 : SMT H0 H0 := SMT_rfl
  have wq24 := f24
  unfold w32 at wq24
  have wq27 := f27
  unfold w32 at wq27
  have qa0 := f8.2
  unfold postb_199vk692 at qa0
  have a0 := at8 sm0 tp qa0 (by omega) (by omega) (by omega)
  have sm1 := SMT_trans sm0 (SMT_fr f8.1.2.1 (by decide +kernel))
  have ks_0 := KS5_le f8.1.1 ks
  have tp_0 := TP_le f8.1.1 tp
  have wd_0 := WDS_fr f8.1.1 f8.1.2.1 (by decide +kernel) wd
  have qa1 := f30.2
  unfold postb_199vk692 at qa1
  have a1 := at8 sm1 tp_0 qa1 (by omega) (by omega) (by omega)
  rw [show (n15).toNat = (n1).toNat + 1 by omega] at a1
  have sm2 := SMT_trans sm1 (SMT_fr f30.1.2.1 (by decide +kernel))
  have ks_1 := KS5_le f30.1.1 ks_0
  have tp_1 := TP_le f30.1.1 tp_0
  have wd_1 := WDS_fr f30.1.1 f30.1.2.1 (by decide +kernel) wd_0
  have sk := f40.2
  unfold postb_132v at sk
  have sm3 := SMT_trans sm2 (SMT_fr f40.1.2.1 (by decide +kernel))
  have ks_2 := KS5_le f40.1.1 ks_1
  have tp_2 := TP_le f40.1.1 tp_1
  have wd_2 := WDS_fr f40.1.1 f40.1.2.1 (by decide +kernel) wd_1
  rw [a0] at sk
  unfold preb_126v
  exact ⟨ks_2, by rw [sm3.1]; exact c0, by rw [sm3.1]; exact c1⟩
theorem c_127v_s_61 : vOkm T0 (eP e_127v L_127v A_127v mu_127v none) 4 ([(0, [22], [], 0), (1132, [21, 4], [2, 3], 0), (90, [21], [], -2147483648), (91, [21], [], 2147483647), (40, [19, 20], [], 0), (0, [20], [], 1), (0, [19], [], 1), (30, [18], [], 0), (0, [18], [], 0), (41, [16, 17], [], 0), (0, [17], [], 61), (1199, [16, 1, 15], [1, 2], 0), (90, [16], [], -2147483648), (91, [16], [], 2147483647), (1, [15, 2, 14], [], 0), (0, [14], [], 1), (42, [13, 3], [], 0), (1, [13, 2, 12], [], 0), (0, [12], [], 1), (42, [4, 11], [], 0), (0, [11], [], 48), (44, [4, 10], [], 0), (0, [10], [], 122), (43, [4, 9], [], 0), (0, [9], [], 97), (41, [4, 8], [], 0), (0, [8], [], 32), (41, [4, 7], [], 0), (0, [7], [], 13), (41, [4, 6], [], 0), (0, [6], [], 10), (41, [4, 5], [], 0), (0, [5], [], 9), (1199, [4, 1, 2], [0, 1], 0), (90, [4], [], -2147483648), (91, [4], [], 2147483647), (6000, [0, 1, 2, 3], [0], 0), (0, [0], [], 31), (90, [2], [], -2147483648), (91, [2], [], 2147483647), (90, [3], [], -2147483648), (91, [3], [], 2147483647)], (2126, [0, 21, 2, 22], [3], 0)) := vOk_in fun ρ η h => by
  obtain ⟨f0, f1, f2, f3, f4, f5, f6, f7, f8, f9, f10, f11, f12, f13, f14, f15, f16, f17, f18, f19, f20, f21, f22, f23, f24, f25, f26, f27, f28, f29, f30, f31, f32, f33, f34, f35, f36, f37, f38, f39, f40, f41, _⟩ := h
  exact q_127v_61 (n0 := ρ 3) (n1 := ρ 2) (n2 := ρ 0) (n3 := ρ 1) (n4 := ρ 4) (n5 := ρ 5) (n6 := ρ 6) (n7 := ρ 7) (n8 := ρ 8) (n9 := ρ 9) (n10 := ρ 10) (n11 := ρ 11) (n12 := ρ 12) (n13 := ρ 13) (n14 := ρ 14) (n15 := ρ 15) (n16 := ρ 16) (n17 := ρ 17) (n18 := ρ 18) (n19 := ρ 19) (n20 := ρ 20) (n21 := ρ 21) (n22 := ρ 22) (H0 := η 0) (H1 := η 1) (H2 := η 2) (H3 := η 3) f41 f40 f39 f38 f37 f36 f35 f34 f33 f32 f31 f30 f29 f28 f27 f26 f25 f24 f23 f22 f21 f20 f19 f18 f17 f16 f15 f14 f13 f12 f11 f10 f9 f8 f7 f6 f5 f4 f3 f2 f1 f0
theorem q_127v_62 {n0 n1 n2 n3 n4 n5 n6 n7 n8 n9 n10 n11 n12 n13 n14 n15 n16 n17 n18 n19 n20 n21 n22 n23 n24 : Int} {H0 H1 H2 H3 H4 : gH} (f0 : n0 ≤ 2147483647) (f1 : (-2147483648) ≤ n0) (f2 : n1 ≤ 2147483647) (f3 : (-2147483648) ≤ n1) (f4 : n2 = 31) (f5 : hWt T0 H0 ∧ preb_127v n2 n3 n1 n0 H0) (f6 : n4 ≤ 2147483647) (f7 : (-2147483648) ≤ n4) (f8 : (hLe T0 H0 H1 ∧ hFr s_199vk692.2.2.2.2 H0 H1 ∧ ((0 : Int) = 0 → H1.length = H0.length) ∧ hWt T0 H1) ∧ postb_199vk692 n4 n3 n1 H0 H1) (f9 : n5 = 9) (f10 : n4 ≠ n5) (f11 : n6 = 10) (f12 : n4 ≠ n6) (f13 : n7 = 13) (f14 : n4 ≠ n7) (f15 : n8 = 32) (f16 : n4 ≠ n8) (f17 : n9 = 97) (f18 : n9 ≤ n4) (f19 : n10 = 122) (f20 : n10 < n4) (f21 : n11 = 48) (f22 : n4 < n11) (f23 : n12 = 1) (f24 : n13 = w32 (n1 + n12)) (f25 : n13 < n0) (f26 : n14 = 1) (f27 : n15 = w32 (n1 + n14)) (f28 : n16 ≤ 2147483647) (f29 : (-2147483648) ≤ n16) (f30 : (hLe T0 H1 H2 ∧ hFr s_199vk692.2.2.2.2 H1 H2 ∧ ((0 : Int) = 0 → H2.length = H1.length) ∧ hWt T0 H2) ∧ postb_199vk692 n16 n3 n15 H1 H2) (f31 : n17 = 61) (f32 : n16 ≠ n17) (f33 : n18 = 0) (f34 : n18 = 0) (f35 : n19 = 1) (f36 : n20 = 1) (f37 : n19 = n20) (f38 : n21 ≤ 2147483647) (f39 : (-2147483648) ≤ n21) (f40 : (hLe T0 H2 H3 ∧ hFr s_132v.2.2.2.2 H2 H3 ∧ ((0 : Int) = 0 → H3.length = H2.length) ∧ hWt T0 H3) ∧ postb_132v n21 n4 H2 H3) (f41 : n22 = 0) (f42 : (hLe T0 H3 H4 ∧ hFr s_126v.2.2.2.2 H3 H4 ∧ ((0 : Int) = 0 → H4.length = H3.length) ∧ hWt T0 H4) ∧ postb_126v n2 n21 n1 n22 H3 H4) (f43 : n23 = 1) (f44 : n24 = w32 (n1 + n23)) : postb_127v n24 n2 n3 n1 n0 H0 H4 := by
  have pz := f5.2
  unfold preb_127v at pz
  obtain ⟨ks, tp, wd, b0, b1, b2, b3, c0, c1⟩ := pz
  have et : ((n1).toNat : Int) = n1 := Int.toNat_of_nonneg b1
  have sm0 : SMT H0 H0 := SMT_rfl
  have wq24 := f24
  unfold w32 at wq24
  have wq27 := f27
  unfold w32 at wq27
  have wq44 := f44
  unfold w32 at wq44
  have qa0 := f8.2
  unfold postb_199vk692 at qa0
  have a0 := at8 sm0 tp qa0 (by omega) (by omega) (by omega)
  have sm1 := SMT_trans sm0 (SMT_fr f8.1.2.1 (by decide +kernel))
  have ks_0 := KS5_le f8.1.1 ks
  have tp_0 := TP_le f8.1.1 tp
  have wd_0 := WDS_fr f8.1.1 f8.1.2.1 (by decide +kernel) wd
  have qa1 := f30.2
  unfold postb_199vk692 at qa1
  have a1 := at8 sm1 tp_0 qa1 (by omega) (by omega) (by omega)
  rw [show (n15).toNat = (n1).toNat + 1 by omega] at a1
  have sm2 := SMT_trans sm1 (SMT_fr f30.1.2.1 (by decide +kernel))
  have ks_1 := KS5_le f30.1.1 ks_0
  have tp_1 := TP_le f30.1.1 tp_0
  have wd_1 := WDS_fr f30.1.1 f30.1.2.1 (by decide +kernel) wd_0
  have sk := f40.2
  unfold postb_132v at sk
  have sm3 := SMT_trans sm2 (SMT_fr f40.1.2.1 (by decide +kernel))
  have ks_2 := KS5_le f40.1.1 ks_1
  have tp_2 := TP_le f40.1.1 tp_1
  have wd_2 := WDS_fr f40.1.1 f40.1.2.1 (by decide +kernel) wd_1
  rw [a0] at sk
  unfold postb_127v ONE
  have lt := f42.2
  unfold postb_126v at lt
  have nt := NTp_from sm3 lt.1
  rw [f41] at nt
  first
  | exact absurd rfl (by omega)
  | (rw [sk] at nt
     exact ⟨.inr (.inr (.inr (.inr ⟨by omega, by omega, by omega, by omega, by omega, nt⟩))), lt.2⟩)
theorem c_127v_s_62 : vOkm T0 (eP e_127v L_127v A_127v mu_127v none) 4 ([(1, [24, 2, 23], [], 0), (0, [23], [], 1), (1126, [0, 21, 2, 22], [3, 4], 0), (0, [22], [], 0), (1132, [21, 4], [2, 3], 0), (90, [21], [], -2147483648), (91, [21], [], 2147483647), (40, [19, 20], [], 0), (0, [20], [], 1), (0, [19], [], 1), (30, [18], [], 0), (0, [18], [], 0), (41, [16, 17], [], 0), (0, [17], [], 61), (1199, [16, 1, 15], [1, 2], 0), (90, [16], [], -2147483648), (91, [16], [], 2147483647), (1, [15, 2, 14], [], 0), (0, [14], [], 1), (42, [13, 3], [], 0), (1, [13, 2, 12], [], 0), (0, [12], [], 1), (42, [4, 11], [], 0), (0, [11], [], 48), (44, [4, 10], [], 0), (0, [10], [], 122), (43, [4, 9], [], 0), (0, [9], [], 97), (41, [4, 8], [], 0), (0, [8], [], 32), (41, [4, 7], [], 0), (0, [7], [], 13), (41, [4, 6], [], 0), (0, [6], [], 10), (41, [4, 5], [], 0), (0, [5], [], 9), (1199, [4, 1, 2], [0, 1], 0), (90, [4], [], -2147483648), (91, [4], [], 2147483647), (6000, [0, 1, 2, 3], [0], 0), (0, [0], [], 31), (90, [2], [], -2147483648), (91, [2], [], 2147483647), (90, [3], [], -2147483648), (91, [3], [], 2147483647)], (3000, [24], [4], 157)) := vOk_in fun ρ η h => by
  obtain ⟨f0, f1, f2, f3, f4, f5, f6, f7, f8, f9, f10, f11, f12, f13, f14, f15, f16, f17, f18, f19, f20, f21, f22, f23, f24, f25, f26, f27, f28, f29, f30, f31, f32, f33, f34, f35, f36, f37, f38, f39, f40, f41, f42, f43, f44, _⟩ := h
  exact q_127v_62 (n0 := ρ 3) (n1 := ρ 2) (n2 := ρ 0) (n3 := ρ 1) (n4 := ρ 4) (n5 := ρ 5) (n6 := ρ 6) (n7 := ρ 7) (n8 := ρ 8) (n9 := ρ 9) (n10 := ρ 10) (n11 := ρ 11) (n12 := ρ 12) (n13 := ρ 13) (n14 := ρ 14) (n15 := ρ 15) (n16 := ρ 16) (n17 := ρ 17) (n18 := ρ 18) (n19 := ρ 19) (n20 := ρ 20) (n21 := ρ 21) (n22 := ρ 22) (n23 := ρ 23) (n24 := ρ 24) (H0 := η 0) (H1 := η 1) (H2 := η 2) (H3 := η 3) (H4 := η 4) f44 f43 f42 f41 f40 f39 f38 f37 f36 f35 f34 f33 f32 f31 f30 f29 f28 f27 f26 f25 f24 f23 f22 f21 f20 f19 f18 f17 f16 f15 f14 f13 f12 f11 f10 f9 f8 f7 f6 f5 f4 f3 f2 f1 f0
theorem q_127v_63 {n0 n1 n2 n3 n4 n5 n6 n7 n8 n9 n10 n11 n12 n13 n14 n15 n16 n17 n18 n19 n20 n21 : Int} {H0 H1 H2 : gH} (f0 : n0 ≤ 2147483647) (f1 : (-2147483648) ≤ n0) (f2 : n1 ≤ 2147483647) (f3 : (-2147483648) ≤ n1) (f4 : n2 = 31) (f5 : hWt T0 H0 ∧ preb_127v n2 n3 n1 n0 H0) (f6 : n4 ≤ 2147483647) (f7 : (-2147483648) ≤ n4) (f8 : (hLe T0 H0 H1 ∧ hFr s_199vk692.2.2.2.2 H0 H1 ∧ ((0 : Int) = 0 → H1.length = H0.length) ∧ hWt T0 H1) ∧ postb_199vk692 n4 n3 n1 H0 H1) (f9 : n5 = 9) (f10 : n4 ≠ n5) (f11 : n6 = 10) (f12 : n4 ≠ n6) (f13 : n7 = 13) (f14 : n4 ≠ n7) (f15 : n8 = 32) (f16 : n4 ≠ n8) (f17 : n9 = 97) (f18 : n9 ≤ n4) (f19 : n10 = 122) (f20 : n10 < n4) (f21 : n11 = 48) (f22 : n4 < n11) (f23 : n12 = 1) (f24 : n13 = w32 (n1 + n12)) (f25 : n13 < n0) (f26 : n14 = 1) (f27 : n15 = w32 (n1 + n14)) (f28 : n16 ≤ 2147483647) (f29 : (-2147483648) ≤ n16) (f30 : (hLe T0 H1 H2 ∧ hFr s_199vk692.2.2.2.2 H1 H2 ∧ ((0 : Int) = 0 → H2.length = H1.length) ∧ hWt T0 H2) ∧ postb_199vk692 n16 n3 n15 H1 H2) (f31 : n17 = 61) (f32 : n16 ≠ n17) (f33 : n18 = 0) (f34 : n18 = 0) (f35 : n19 = 1) (f36 : n20 = 1) (f37 : n19 ≠ n20) (f38 : n21 = 0) : preb_126v n2 n19 n1 n21 H2 := by
  have pz := f5.2
  unfold preb_127v at pz
  obtain ⟨ks, tp, wd, b0, b1, b2, b3, c0, c1⟩ := pz
  have et : ((n1).toNat : Int) = n1 := Int.toNat_of_nonneg b1
  have sm0 : SMT H0 H0 := SMT_rfl
  have wq24 := f24
  unfold w32 at wq24
  have wq27 := f27
  unfold w32 at wq27
  have qa0 := f8.2
  unfold postb_199vk692 at qa0
  have a0 := at8 sm0 tp qa0 (by omega) (by omega) (by omega)
  have sm1 := SMT_trans sm0 (SMT_fr f8.1.2.1 (by decide +kernel))
  have ks_0 := KS5_le f8.1.1 ks
  have tp_0 := TP_le f8.1.1 tp
  have wd_0 := WDS_fr f8.1.1 f8.1.2.1 (by decide +kernel) wd
  have qa1 := f30.2
  unfold postb_199vk692 at qa1
  have a1 := at8 sm1 tp_0 qa1 (by omega) (by omega) (by omega)
  rw [show (n15).toNat = (n1).toNat + 1 by omega] at a1
  have sm2 := SMT_trans sm1 (SMT_fr f30.1.2.1 (by decide +kernel))
  have ks_1 := KS5_le f30.1.1 ks_0
  have tp_1 := TP_le f30.1.1 tp_0
  have wd_1 := WDS_fr f30.1.1 f30.1.2.1 (by decide +kernel) wd_0
  unfold preb_126v
  exact ⟨ks_1, by rw [sm2.1]; exact c0, by rw [sm2.1]; exact c1⟩
theorem c_127v_s_63 : vOkm T0 (eP e_127v L_127v A_127v mu_127v none) 4 ([(0, [21], [], 0), (41, [19, 20], [], 0), (0, [20], [], 1), (0, [19], [], 1), (30, [18], [], 0), (0, [18], [], 0), (41, [16, 17], [], 0), (0, [17], [], 61), (1199, [16, 1, 15], [1, 2], 0), (90, [16], [], -2147483648), (91, [16], [], 2147483647), (1, [15, 2, 14], [], 0), (0, [14], [], 1), (42, [13, 3], [], 0), (1, [13, 2, 12], [], 0), (0, [12], [], 1), (42, [4, 11], [], 0), (0, [11], [], 48), (44, [4, 10], [], 0), (0, [10], [], 122), (43, [4, 9], [], 0), (0, [9], [], 97), (41, [4, 8], [], 0), (0, [8], [], 32), (41, [4, 7], [], 0), (0, [7], [], 13), (41, [4, 6], [], 0), (0, [6], [], 10), (41, [4, 5], [], 0), (0, [5], [], 9), (1199, [4, 1, 2], [0, 1], 0), (90, [4], [], -2147483648), (91, [4], [], 2147483647), (6000, [0, 1, 2, 3], [0], 0), (0, [0], [], 31), (90, [2], [], -2147483648), (91, [2], [], 2147483647), (90, [3], [], -2147483648), (91, [3], [], 2147483647)], (2126, [0, 19, 2, 21], [2], 0)) := vOk_in fun ρ η h => by
  obtain ⟨f0, f1, f2, f3, f4, f5, f6, f7, f8, f9, f10, f11, f12, f13, f14, f15, f16, f17, f18, f19, f20, f21, f22, f23, f24, f25, f26, f27, f28, f29, f30, f31, f32, f33, f34, f35, f36, f37, f38, _⟩ := h
  exact q_127v_63 (n0 := ρ 3) (n1 := ρ 2) (n2 := ρ 0) (n3 := ρ 1) (n4 := ρ 4) (n5 := ρ 5) (n6 := ρ 6) (n7 := ρ 7) (n8 := ρ 8) (n9 := ρ 9) (n10 := ρ 10) (n11 := ρ 11) (n12 := ρ 12) (n13 := ρ 13) (n14 := ρ 14) (n15 := ρ 15) (n16 := ρ 16) (n17 := ρ 17) (n18 := ρ 18) (n19 := ρ 19) (n20 := ρ 20) (n21 := ρ 21) (H0 := η 0) (H1 := η 1) (H2 := η 2) f38 f37 f36 f35 f34 f33 f32 f31 f30 f29 f28 f27 f26 f25 f24 f23 f22 f21 f20 f19 f18 f17 f16 f15 f14 f13 f12 f11 f10 f9 f8 f7 f6 f5 f4 f3 f2 f1 f0
theorem q_127v_64 {n0 n1 n2 n3 n4 n5 n6 n7 n8 n9 n10 n11 n12 n13 n14 n15 n16 n17 n18 n19 n20 n21 n22 n23 : Int} {H0 H1 H2 H3 : gH} (f0 : n0 ≤ 2147483647) (f1 : (-2147483648) ≤ n0) (f2 : n1 ≤ 2147483647) (f3 : (-2147483648) ≤ n1) (f4 : n2 = 31) (f5 : hWt T0 H0 ∧ preb_127v n2 n3 n1 n0 H0) (f6 : n4 ≤ 2147483647) (f7 : (-2147483648) ≤ n4) (f8 : (hLe T0 H0 H1 ∧ hFr s_199vk692.2.2.2.2 H0 H1 ∧ ((0 : Int) = 0 → H1.length = H0.length) ∧ hWt T0 H1) ∧ postb_199vk692 n4 n3 n1 H0 H1) (f9 : n5 = 9) (f10 : n4 ≠ n5) (f11 : n6 = 10) (f12 : n4 ≠ n6) (f13 : n7 = 13) (f14 : n4 ≠ n7) (f15 : n8 = 32) (f16 : n4 ≠ n8) (f17 : n9 = 97) (f18 : n9 ≤ n4) (f19 : n10 = 122) (f20 : n10 < n4) (f21 : n11 = 48) (f22 : n4 < n11) (f23 : n12 = 1) (f24 : n13 = w32 (n1 + n12)) (f25 : n13 < n0) (f26 : n14 = 1) (f27 : n15 = w32 (n1 + n14)) (f28 : n16 ≤ 2147483647) (f29 : (-2147483648) ≤ n16) (f30 : (hLe T0 H1 H2 ∧ hFr s_199vk692.2.2.2.2 H1 H2 ∧ ((0 : Int) = 0 → H2.length = H1.length) ∧ hWt T0 H2) ∧ postb_199vk692 n16 n3 n15 H1 H2) (f31 : n17 = 61) (f32 : n16 ≠ n17) (f33 : n18 = 0) (f34 : n18 = 0) (f35 : n19 = 1) (f36 : n20 = 1) (f37 : n19 ≠ n20) (f38 : n21 = 0) (f39 : (hLe T0 H2 H3 ∧ hFr s_126v.2.2.2.2 H2 H3 ∧ ((0 : Int) = 0 → H3.length = H2.length) ∧ hWt T0 H3) ∧ postb_126v n2 n19 n1 n21 H2 H3) (f40 : n22 = 2) (f41 : n23 = w32 (n1 + n22)) : postb_127v n23 n2 n3 n1 n0 H0 H3 := by
  have pz := f5.2
  unfold preb_127v at pz
  obtain ⟨ks, tp, wd, b0, b1, b2, b3, c0, c1⟩ := pz
  have et : ((n1).toNat : Int) = n1 := Int.toNat_of_nonneg b1
  have sm0 : SMT H0 H0 := SMT_rfl
  have wq24 := f24
  unfold w32 at wq24
  have wq27 := f27
  unfold w32 at wq27
  have wq41 := f41
  unfold w32 at wq41
  have qa0 := f8.2
  unfold postb_199vk692 at qa0
  have a0 := at8 sm0 tp qa0 (by omega) (by omega) (by omega)
  have sm1 := SMT_trans sm0 (SMT_fr f8.1.2.1 (by decide +kernel))
  have ks_0 := KS5_le f8.1.1 ks
  have tp_0 := TP_le f8.1.1 tp
  have wd_0 := WDS_fr f8.1.1 f8.1.2.1 (by decide +kernel) wd
  have qa1 := f30.2
  unfold postb_199vk692 at qa1
  have a1 := at8 sm1 tp_0 qa1 (by omega) (by omega) (by omega)
  rw [show (n15).toNat = (n1).toNat + 1 by omega] at a1
  have sm2 := SMT_trans sm1 (SMT_fr f30.1.2.1 (by decide +kernel))
  have ks_1 := KS5_le f30.1.1 ks_0
  have tp_1 := TP_le f30.1.1 tp_0
  have wd_1 := WDS_fr f30.1.1 f30.1.2.1 (by decide +kernel) wd_0
  unfold postb_127v ONE
  have lt := f39.2
  unfold postb_126v at lt
  have nt := NTp_from sm2 lt.1
  rw [f38] at nt
  first
  | (exfalso; omega)
  | (rw [pk] at nt
     exact ⟨.inr (.inr (.inr (.inl ⟨by omega, by omega, by omega, ⟨by omega, by omega, by omega⟩, by omega, nt⟩))), lt.2⟩)
theorem c_127v_s_64 : vOkm T0 (eP e_127v L_127v A_127v mu_127v none) 4 ([(1, [23, 2, 22], [], 0), (0, [22], [], 2), (1126, [0, 19, 2, 21], [2, 3], 0), (0, [21], [], 0), (41, [19, 20], [], 0), (0, [20], [], 1), (0, [19], [], 1), (30, [18], [], 0), (0, [18], [], 0), (41, [16, 17], [], 0), (0, [17], [], 61), (1199, [16, 1, 15], [1, 2], 0), (90, [16], [], -2147483648), (91, [16], [], 2147483647), (1, [15, 2, 14], [], 0), (0, [14], [], 1), (42, [13, 3], [], 0), (1, [13, 2, 12], [], 0), (0, [12], [], 1), (42, [4, 11], [], 0), (0, [11], [], 48), (44, [4, 10], [], 0), (0, [10], [], 122), (43, [4, 9], [], 0), (0, [9], [], 97), (41, [4, 8], [], 0), (0, [8], [], 32), (41, [4, 7], [], 0), (0, [7], [], 13), (41, [4, 6], [], 0), (0, [6], [], 10), (41, [4, 5], [], 0), (0, [5], [], 9), (1199, [4, 1, 2], [0, 1], 0), (90, [4], [], -2147483648), (91, [4], [], 2147483647), (6000, [0, 1, 2, 3], [0], 0), (0, [0], [], 31), (90, [2], [], -2147483648), (91, [2], [], 2147483647), (90, [3], [], -2147483648), (91, [3], [], 2147483647)], (3000, [23], [3], 142)) := vOk_in fun ρ η h => by
  obtain ⟨f0, f1, f2, f3, f4, f5, f6, f7, f8, f9, f10, f11, f12, f13, f14, f15, f16, f17, f18, f19, f20, f21, f22, f23, f24, f25, f26, f27, f28, f29, f30, f31, f32, f33, f34, f35, f36, f37, f38, f39, f40, f41, _⟩ := h
  exact q_127v_64 (n0 := ρ 3) (n1 := ρ 2) (n2 := ρ 0) (n3 := ρ 1) (n4 := ρ 4) (n5 := ρ 5) (n6 := ρ 6) (n7 := ρ 7) (n8 := ρ 8) (n9 := ρ 9) (n10 := ρ 10) (n11 := ρ 11) (n12 := ρ 12) (n13 := ρ 13) (n14 := ρ 14) (n15 := ρ 15) (n16 := ρ 16) (n17 := ρ 17) (n18 := ρ 18) (n19 := ρ 19) (n20 := ρ 20) (n21 := ρ 21) (n22 := ρ 22) (n23 := ρ 23) (H0 := η 0) (H1 := η 1) (H2 := η 2) (H3 := η 3) f41 f40 f39 f38 f37 f36 f35 f34 f33 f32 f31 f30 f29 f28 f27 f26 f25 f24 f23 f22 f21 f20 f19 f18 f17 f16 f15 f14 f13 f12 f11 f10 f9 f8 f7 f6 f5 f4 f3 f2 f1 f0
theorem q_127v_65 {n0 n1 n2 n3 n4 n5 n6 n7 n8 n9 n10 n11 n12 n13 n14 n15 n16 n17 n18 n19 n20 n21 n22 : Int} {H0 H1 H2 H3 H4 : gH} (f0 : n0 ≤ 2147483647) (f1 : (-2147483648) ≤ n0) (f2 : n1 ≤ 2147483647) (f3 : (-2147483648) ≤ n1) (f4 : n2 = 31) (f5 : hWt T0 H0 ∧ preb_127v n2 n3 n1 n0 H0) (f6 : n4 ≤ 2147483647) (f7 : (-2147483648) ≤ n4) (f8 : (hLe T0 H0 H1 ∧ hFr s_199vk692.2.2.2.2 H0 H1 ∧ ((0 : Int) = 0 → H1.length = H0.length) ∧ hWt T0 H1) ∧ postb_199vk692 n4 n3 n1 H0 H1) (f9 : n5 = 9) (f10 : n4 ≠ n5) (f11 : n6 = 10) (f12 : n4 ≠ n6) (f13 : n7 = 13) (f14 : n4 ≠ n7) (f15 : n8 = 32) (f16 : n4 ≠ n8) (f17 : n9 = 97) (f18 : n9 ≤ n4) (f19 : n10 = 122) (f20 : n10 < n4) (f21 : n11 = 48) (f22 : n4 < n11) (f23 : n12 = 1) (f24 : n13 = w32 (n1 + n12)) (f25 : n13 < n0) (f26 : n14 = 1) (f27 : n15 = w32 (n1 + n14)) (f28 : n16 ≤ 2147483647) (f29 : (-2147483648) ≤ n16) (f30 : (hLe T0 H1 H2 ∧ hFr s_199vk692.2.2.2.2 H1 H2 ∧ ((0 : Int) = 0 → H2.length = H1.length) ∧ hWt T0 H2) ∧ postb_199vk692 n16 n3 n15 H1 H2) (f31 : n17 = 61) (f32 : n16 ≠ n17) (f33 : n18 = 0) (f34 : n18 ≠ 0) (f35 : n19 ≤ 2147483647) (f36 : (-2147483648) ≤ n19) (f37 : (hLe T0 H2 H3 ∧ hFr s_131v.2.2.2.2 H2 H3 ∧ ((0 : Int) = 0 → H3.length = H2.length) ∧ hWt T0 H3) ∧ postb_131v n19 n4 H2 H3) (f38 : n20 = 1) (f39 : n19 = n20) (f40 : n21 ≤ 2147483647) (f41 : (-2147483648) ≤ n21) (f42 : (hLe T0 H3 H4 ∧ hFr s_132v.2.2.2.2 H3 H4 ∧ ((0 : Int) = 0 → H4.length = H3.length) ∧ hWt T0 H4) ∧ postb_132v n21 n4 H3 H4) (f43 : n22 = 0) : preb_126v n2 n21 n1 n22 H4 := by
  have pz := f5.2
  unfold preb_127v at pz
  obtain ⟨ks, tp, wd, b0, b1, b2, b3, c0, c1⟩ := pz
  have et : ((n1).toNat : Int) = n1 := Int.toNat_of_nonneg b1
  have sm0 : SMT H0 H0 := SMT_rfl
  have wq24 := f24
  unfold w32 at wq24
  have wq27 := f27
  unfold w32 at wq27
  have qa0 := f8.2
  unfold postb_199vk692 at qa0
  have a0 := at8 sm0 tp qa0 (by omega) (by omega) (by omega)
  have sm1 := SMT_trans sm0 (SMT_fr f8.1.2.1 (by decide +kernel))
  have ks_0 := KS5_le f8.1.1 ks
  have tp_0 := TP_le f8.1.1 tp
  have wd_0 := WDS_fr f8.1.1 f8.1.2.1 (by decide +kernel) wd
  have qa1 := f30.2
  unfold postb_199vk692 at qa1
  have a1 := at8 sm1 tp_0 qa1 (by omega) (by omega) (by omega)
  rw [show (n15).toNat = (n1).toNat + 1 by omega] at a1
  have sm2 := SMT_trans sm1 (SMT_fr f30.1.2.1 (by decide +kernel))
  have ks_1 := KS5_le f30.1.1 ks_0
  have tp_1 := TP_le f30.1.1 tp_0
  have wd_1 := WDS_fr f30.1.1 f30.1.2.1 (by decide +kernel) wd_0
  have pk := f37.2
  unfold postb_131v at pk
  have sm3 := SMT_trans sm2 (SMT_fr f37.1.2.1 (by decide +kernel))
  have ks_2 := KS5_le f37.1.1 ks_1
  have tp_2 := TP_le f37.1.1 tp_1
  have wd_2 := WDS_fr f37.1.1 f37.1.2.1 (by decide +kernel) wd_1
  have sk := f42.2
  unfold postb_132v at sk
  have sm4 := SMT_trans sm3 (SMT_fr f42.1.2.1 (by decide +kernel))
  have ks_3 := KS5_le f42.1.1 ks_2
  have tp_3 := TP_le f42.1.1 tp_2
  have wd_3 := WDS_fr f42.1.1 f42.1.2.1 (by decide +kernel) wd_2
  rw [a0] at pk
  rw [a0] at sk
  unfold preb_126v
  exact ⟨ks_3, by rw [sm4.1]; exact c0, by rw [sm4.1]; exact c1⟩
theorem c_127v_s_65 : vOkm T0 (eP e_127v L_127v A_127v mu_127v none) 4 ([(0, [22], [], 0), (1132, [21, 4], [3, 4], 0), (90, [21], [], -2147483648), (91, [21], [], 2147483647), (40, [19, 20], [], 0), (0, [20], [], 1), (1131, [19, 4], [2, 3], 0), (90, [19], [], -2147483648), (91, [19], [], 2147483647), (31, [18], [], 0), (0, [18], [], 0), (41, [16, 17], [], 0), (0, [17], [], 61), (1199, [16, 1, 15], [1, 2], 0), (90, [16], [], -2147483648), (91, [16], [], 2147483647), (1, [15, 2, 14], [], 0), (0, [14], [], 1), (42, [13, 3], [], 0), (1, [13, 2, 12], [], 0), (0, [12], [], 1), (42, [4, 11], [], 0), (0, [11], [], 48), (44, [4, 10], [], 0), (0, [10], [], 122), (43, [4, 9], [], 0), (0, [9], [], 97), (41, [4, 8], [], 0), (0, [8], [], 32), (41, [4, 7], [], 0), (0, [7], [], 13), (41, [4, 6], [], 0), (0, [6], [], 10), (41, [4, 5], [], 0), (0, [5], [], 9), (1199, [4, 1, 2], [0, 1], 0), (90, [4], [], -2147483648), (91, [4], [], 2147483647), (6000, [0, 1, 2, 3], [0], 0), (0, [0], [], 31), (90, [2], [], -2147483648), (91, [2], [], 2147483647), (90, [3], [], -2147483648), (91, [3], [], 2147483647)], (2126, [0, 21, 2, 22], [4], 0)) := vOk_in fun ρ η h => by
  obtain ⟨f0, f1, f2, f3, f4, f5, f6, f7, f8, f9, f10, f11, f12, f13, f14, f15, f16, f17, f18, f19, f20, f21, f22, f23, f24, f25, f26, f27, f28, f29, f30, f31, f32, f33, f34, f35, f36, f37, f38, f39, f40, f41, f42, f43, _⟩ := h
  exact q_127v_65 (n0 := ρ 3) (n1 := ρ 2) (n2 := ρ 0) (n3 := ρ 1) (n4 := ρ 4) (n5 := ρ 5) (n6 := ρ 6) (n7 := ρ 7) (n8 := ρ 8) (n9 := ρ 9) (n10 := ρ 10) (n11 := ρ 11) (n12 := ρ 12) (n13 := ρ 13) (n14 := ρ 14) (n15 := ρ 15) (n16 := ρ 16) (n17 := ρ 17) (n18 := ρ 18) (n19 := ρ 19) (n20 := ρ 20) (n21 := ρ 21) (n22 := ρ 22) (H0 := η 0) (H1 := η 1) (H2 := η 2) (H3 := η 3) (H4 := η 4) f43 f42 f41 f40 f39 f38 f37 f36 f35 f34 f33 f32 f31 f30 f29 f28 f27 f26 f25 f24 f23 f22 f21 f20 f19 f18 f17 f16 f15 f14 f13 f12 f11 f10 f9 f8 f7 f6 f5 f4 f3 f2 f1 f0
theorem q_127v_66 {n0 n1 n2 n3 n4 n5 n6 n7 n8 n9 n10 n11 n12 n13 n14 n15 n16 n17 n18 n19 n20 n21 n22 n23 n24 : Int} {H0 H1 H2 H3 H4 H5 : gH} (f0 : n0 ≤ 2147483647) (f1 : (-2147483648) ≤ n0) (f2 : n1 ≤ 2147483647) (f3 : (-2147483648) ≤ n1) (f4 : n2 = 31) (f5 : hWt T0 H0 ∧ preb_127v n2 n3 n1 n0 H0) (f6 : n4 ≤ 2147483647) (f7 : (-2147483648) ≤ n4) (f8 : (hLe T0 H0 H1 ∧ hFr s_199vk692.2.2.2.2 H0 H1 ∧ ((0 : Int) = 0 → H1.length = H0.length) ∧ hWt T0 H1) ∧ postb_199vk692 n4 n3 n1 H0 H1) (f9 : n5 = 9) (f10 : n4 ≠ n5) (f11 : n6 = 10) (f12 : n4 ≠ n6) (f13 : n7 = 13) (f14 : n4 ≠ n7) (f15 : n8 = 32) (f16 : n4 ≠ n8) (f17 : n9 = 97) (f18 : n9 ≤ n4) (f19 : n10 = 122) (f20 : n10 < n4) (f21 : n11 = 48) (f22 : n4 < n11) (f23 : n12 = 1) (f24 : n13 = w32 (n1 + n12)) (f25 : n13 < n0) (f26 : n14 = 1) (f27 : n15 = w32 (n1 + n14)) (f28 : n16 ≤ 2147483647) (f29 : (-2147483648) ≤ n16) (f30 : (hLe T0 H1 H2 ∧ hFr s_199vk692.2.2.2.2 H1 H2 ∧ ((0 : Int) = 0 → H2.length = H1.length) ∧ hWt T0 H2) ∧ postb_199vk692 n16 n3 n15 H1 H2) (f31 : n17 = 61) (f32 : n16 ≠ n17) (f33 : n18 = 0) (f34 : n18 ≠ 0) (f35 : n19 ≤ 2147483647) (f36 : (-2147483648) ≤ n19) (f37 : (hLe T0 H2 H3 ∧ hFr s_131v.2.2.2.2 H2 H3 ∧ ((0 : Int) = 0 → H3.length = H2.length) ∧ hWt T0 H3) ∧ postb_131v n19 n4 H2 H3) (f38 : n20 = 1) (f39 : n19 = n20) (f40 : n21 ≤ 2147483647) (f41 : (-2147483648) ≤ n21) (f42 : (hLe T0 H3 H4 ∧ hFr s_132v.2.2.2.2 H3 H4 ∧ ((0 : Int) = 0 → H4.length = H3.length) ∧ hWt T0 H4) ∧ postb_132v n21 n4 H3 H4) (f43 : n22 = 0) (f44 : (hLe T0 H4 H5 ∧ hFr s_126v.2.2.2.2 H4 H5 ∧ ((0 : Int) = 0 → H5.length = H4.length) ∧ hWt T0 H5) ∧ postb_126v n2 n21 n1 n22 H4 H5) (f45 : n23 = 1) (f46 : n24 = w32 (n1 + n23)) : postb_127v n24 n2 n3 n1 n0 H0 H5 := by
  have pz := f5.2
  unfold preb_127v at pz
  obtain ⟨ks, tp, wd, b0, b1, b2, b3, c0, c1⟩ := pz
  have et : ((n1).toNat : Int) = n1 := Int.toNat_of_nonneg b1
  have sm0 : SMT H0 H0 := SMT_rfl
  have wq24 := f24
  unfold w32 at wq24
  have wq27 := f27
  unfold w32 at wq27
  have wq46 := f46
  unfold w32 at wq46
  have qa0 := f8.2
  unfold postb_199vk692 at qa0
  have a0 := at8 sm0 tp qa0 (by omega) (by omega) (by omega)
  have sm1 := SMT_trans sm0 (SMT_fr f8.1.2.1 (by decide +kernel))
  have ks_0 := KS5_le f8.1.1 ks
  have tp_0 := TP_le f8.1.1 tp
  have wd_0 := WDS_fr f8.1.1 f8.1.2.1 (by decide +kernel) wd
  have qa1 := f30.2
  unfold postb_199vk692 at qa1
  have a1 := at8 sm1 tp_0 qa1 (by omega) (by omega) (by omega)
  rw [show (n15).toNat = (n1).toNat + 1 by omega] at a1
  have sm2 := SMT_trans sm1 (SMT_fr f30.1.2.1 (by decide +kernel))
  have ks_1 := KS5_le f30.1.1 ks_0
  have tp_1 := TP_le f30.1.1 tp_0
  have wd_1 := WDS_fr f30.1.1 f30.1.2.1 (by decide +kernel) wd_0
  have pk := f37.2
  unfold postb_131v at pk
  have sm3 := SMT_trans sm2 (SMT_fr f37.1.2.1 (by decide +kernel))
  have ks_2 := KS5_le f37.1.1 ks_1
  have tp_2 := TP_le f37.1.1 tp_1
  have wd_2 := WDS_fr f37.1.1 f37.1.2.1 (by decide +kernel) wd_1
  have sk := f42.2
  unfold postb_132v at sk
  have sm4 := SMT_trans sm3 (SMT_fr f42.1.2.1 (by decide +kernel))
  have ks_3 := KS5_le f42.1.1 ks_2
  have tp_3 := TP_le f42.1.1 tp_2
  have wd_3 := WDS_fr f42.1.1 f42.1.2.1 (by decide +kernel) wd_2
  rw [a0] at pk
  rw [a0] at sk
  unfold postb_127v ONE
  have lt := f44.2
  unfold postb_126v at lt
  have nt := NTp_from sm4 lt.1
  rw [f43] at nt
  first
  | exact absurd rfl (by omega)
  | (rw [sk] at nt
     exact ⟨.inr (.inr (.inr (.inr ⟨by omega, by omega, by omega, by omega, by omega, nt⟩))), lt.2⟩)
theorem c_127v_s_66 : vOkm T0 (eP e_127v L_127v A_127v mu_127v none) 4 ([(1, [24, 2, 23], [], 0), (0, [23], [], 1), (1126, [0, 21, 2, 22], [4, 5], 0), (0, [22], [], 0), (1132, [21, 4], [3, 4], 0), (90, [21], [], -2147483648), (91, [21], [], 2147483647), (40, [19, 20], [], 0), (0, [20], [], 1), (1131, [19, 4], [2, 3], 0), (90, [19], [], -2147483648), (91, [19], [], 2147483647), (31, [18], [], 0), (0, [18], [], 0), (41, [16, 17], [], 0), (0, [17], [], 61), (1199, [16, 1, 15], [1, 2], 0), (90, [16], [], -2147483648), (91, [16], [], 2147483647), (1, [15, 2, 14], [], 0), (0, [14], [], 1), (42, [13, 3], [], 0), (1, [13, 2, 12], [], 0), (0, [12], [], 1), (42, [4, 11], [], 0), (0, [11], [], 48), (44, [4, 10], [], 0), (0, [10], [], 122), (43, [4, 9], [], 0), (0, [9], [], 97), (41, [4, 8], [], 0), (0, [8], [], 32), (41, [4, 7], [], 0), (0, [7], [], 13), (41, [4, 6], [], 0), (0, [6], [], 10), (41, [4, 5], [], 0), (0, [5], [], 9), (1199, [4, 1, 2], [0, 1], 0), (90, [4], [], -2147483648), (91, [4], [], 2147483647), (6000, [0, 1, 2, 3], [0], 0), (0, [0], [], 31), (90, [2], [], -2147483648), (91, [2], [], 2147483647), (90, [3], [], -2147483648), (91, [3], [], 2147483647)], (3000, [24], [5], 157)) := vOk_in fun ρ η h => by
  obtain ⟨f0, f1, f2, f3, f4, f5, f6, f7, f8, f9, f10, f11, f12, f13, f14, f15, f16, f17, f18, f19, f20, f21, f22, f23, f24, f25, f26, f27, f28, f29, f30, f31, f32, f33, f34, f35, f36, f37, f38, f39, f40, f41, f42, f43, f44, f45, f46, _⟩ := h
  exact q_127v_66 (n0 := ρ 3) (n1 := ρ 2) (n2 := ρ 0) (n3 := ρ 1) (n4 := ρ 4) (n5 := ρ 5) (n6 := ρ 6) (n7 := ρ 7) (n8 := ρ 8) (n9 := ρ 9) (n10 := ρ 10) (n11 := ρ 11) (n12 := ρ 12) (n13 := ρ 13) (n14 := ρ 14) (n15 := ρ 15) (n16 := ρ 16) (n17 := ρ 17) (n18 := ρ 18) (n19 := ρ 19) (n20 := ρ 20) (n21 := ρ 21) (n22 := ρ 22) (n23 := ρ 23) (n24 := ρ 24) (H0 := η 0) (H1 := η 1) (H2 := η 2) (H3 := η 3) (H4 := η 4) (H5 := η 5) f46 f45 f44 f43 f42 f41 f40 f39 f38 f37 f36 f35 f34 f33 f32 f31 f30 f29 f28 f27 f26 f25 f24 f23 f22 f21 f20 f19 f18 f17 f16 f15 f14 f13 f12 f11 f10 f9 f8 f7 f6 f5 f4 f3 f2 f1 f0
theorem q_127v_67 {n0 n1 n2 n3 n4 n5 n6 n7 n8 n9 n10 n11 n12 n13 n14 n15 n16 n17 n18 n19 n20 n21 : Int} {H0 H1 H2 H3 : gH} (f0 : n0 ≤ 2147483647) (f1 : (-2147483648) ≤ n0) (f2 : n1 ≤ 2147483647) (f3 : (-2147483648) ≤ n1) (f4 : n2 = 31) (f5 : hWt T0 H0 ∧ preb_127v n2 n3 n1 n0 H0) (f6 : n4 ≤ 2147483647) (f7 : (-2147483648) ≤ n4) (f8 : (hLe T0 H0 H1 ∧ hFr s_199vk692.2.2.2.2 H0 H1 ∧ ((0 : Int) = 0 → H1.length = H0.length) ∧ hWt T0 H1) ∧ postb_199vk692 n4 n3 n1 H0 H1) (f9 : n5 = 9) (f10 : n4 ≠ n5) (f11 : n6 = 10) (f12 : n4 ≠ n6) (f13 : n7 = 13) (f14 : n4 ≠ n7) (f15 : n8 = 32) (f16 : n4 ≠ n8) (f17 : n9 = 97) (f18 : n9 ≤ n4) (f19 : n10 = 122) (f20 : n10 < n4) (f21 : n11 = 48) (f22 : n4 < n11) (f23 : n12 = 1) (f24 : n13 = w32 (n1 + n12)) (f25 : n13 < n0) (f26 : n14 = 1) (f27 : n15 = w32 (n1 + n14)) (f28 : n16 ≤ 2147483647) (f29 : (-2147483648) ≤ n16) (f30 : (hLe T0 H1 H2 ∧ hFr s_199vk692.2.2.2.2 H1 H2 ∧ ((0 : Int) = 0 → H2.length = H1.length) ∧ hWt T0 H2) ∧ postb_199vk692 n16 n3 n15 H1 H2) (f31 : n17 = 61) (f32 : n16 ≠ n17) (f33 : n18 = 0) (f34 : n18 ≠ 0) (f35 : n19 ≤ 2147483647) (f36 : (-2147483648) ≤ n19) (f37 : (hLe T0 H2 H3 ∧ hFr s_131v.2.2.2.2 H2 H3 ∧ ((0 : Int) = 0 → H3.length = H2.length) ∧ hWt T0 H3) ∧ postb_131v n19 n4 H2 H3) (f38 : n20 = 1) (f39 : n19 ≠ n20) (f40 : n21 = 0) : preb_126v n2 n19 n1 n21 H3 := by
  have pz := f5.2
  unfold preb_127v at pz
  obtain ⟨ks, tp, wd, b0, b1, b2, b3, c0, c1⟩ := pz
  have et : ((n1).toNat : Int) = n1 := Int.toNat_of_nonneg b1
  have sm0 : SMT H0 H0 := SMT_rfl
  have wq24 := f24
  unfold w32 at wq24
  have wq27 := f27
  unfold w32 at wq27
  have qa0 := f8.2
  unfold postb_199vk692 at qa0
  have a0 := at8 sm0 tp qa0 (by omega) (by omega) (by omega)
  have sm1 := SMT_trans sm0 (SMT_fr f8.1.2.1 (by decide +kernel))
  have ks_0 := KS5_le f8.1.1 ks
  have tp_0 := TP_le f8.1.1 tp
  have wd_0 := WDS_fr f8.1.1 f8.1.2.1 (by decide +kernel) wd
  have qa1 := f30.2
  unfold postb_199vk692 at qa1
  have a1 := at8 sm1 tp_0 qa1 (by omega) (by omega) (by omega)
  rw [show (n15).toNat = (n1).toNat + 1 by omega] at a1
  have sm2 := SMT_trans sm1 (SMT_fr f30.1.2.1 (by decide +kernel))
  have ks_1 := KS5_le f30.1.1 ks_0
  have tp_1 := TP_le f30.1.1 tp_0
  have wd_1 := WDS_fr f30.1.1 f30.1.2.1 (by decide +kernel) wd_0
  have pk := f37.2
  unfold postb_131v at pk
  have sm3 := SMT_trans sm2 (SMT_fr f37.1.2.1 (by decide +kernel))
  have ks_2 := KS5_le f37.1.1 ks_1
  have tp_2 := TP_le f37.1.1 tp_1
  have wd_2 := WDS_fr f37.1.1 f37.1.2.1 (by decide +kernel) wd_1
  rw [a0] at pk
  unfold preb_126v
  exact ⟨ks_2, by rw [sm3.1]; exact c0, by rw [sm3.1]; exact c1⟩
theorem c_127v_s_67 : vOkm T0 (eP e_127v L_127v A_127v mu_127v none) 4 ([(0, [21], [], 0), (41, [19, 20], [], 0), (0, [20], [], 1), (1131, [19, 4], [2, 3], 0), (90, [19], [], -2147483648), (91, [19], [], 2147483647), (31, [18], [], 0), (0, [18], [], 0), (41, [16, 17], [], 0), (0, [17], [], 61), (1199, [16, 1, 15], [1, 2], 0), (90, [16], [], -2147483648), (91, [16], [], 2147483647), (1, [15, 2, 14], [], 0), (0, [14], [], 1), (42, [13, 3], [], 0), (1, [13, 2, 12], [], 0), (0, [12], [], 1), (42, [4, 11], [], 0), (0, [11], [], 48), (44, [4, 10], [], 0), (0, [10], [], 122), (43, [4, 9], [], 0), (0, [9], [], 97), (41, [4, 8], [], 0), (0, [8], [], 32), (41, [4, 7], [], 0), (0, [7], [], 13), (41, [4, 6], [], 0), (0, [6], [], 10), (41, [4, 5], [], 0), (0, [5], [], 9), (1199, [4, 1, 2], [0, 1], 0), (90, [4], [], -2147483648), (91, [4], [], 2147483647), (6000, [0, 1, 2, 3], [0], 0), (0, [0], [], 31), (90, [2], [], -2147483648), (91, [2], [], 2147483647), (90, [3], [], -2147483648), (91, [3], [], 2147483647)], (2126, [0, 19, 2, 21], [3], 0)) := vOk_in fun ρ η h => by
  obtain ⟨f0, f1, f2, f3, f4, f5, f6, f7, f8, f9, f10, f11, f12, f13, f14, f15, f16, f17, f18, f19, f20, f21, f22, f23, f24, f25, f26, f27, f28, f29, f30, f31, f32, f33, f34, f35, f36, f37, f38, f39, f40, _⟩ := h
  exact q_127v_67 (n0 := ρ 3) (n1 := ρ 2) (n2 := ρ 0) (n3 := ρ 1) (n4 := ρ 4) (n5 := ρ 5) (n6 := ρ 6) (n7 := ρ 7) (n8 := ρ 8) (n9 := ρ 9) (n10 := ρ 10) (n11 := ρ 11) (n12 := ρ 12) (n13 := ρ 13) (n14 := ρ 14) (n15 := ρ 15) (n16 := ρ 16) (n17 := ρ 17) (n18 := ρ 18) (n19 := ρ 19) (n20 := ρ 20) (n21 := ρ 21) (H0 := η 0) (H1 := η 1) (H2 := η 2) (H3 := η 3) f40 f39 f38 f37 f36 f35 f34 f33 f32 f31 f30 f29 f28 f27 f26 f25 f24 f23 f22 f21 f20 f19 f18 f17 f16 f15 f14 f13 f12 f11 f10 f9 f8 f7 f6 f5 f4 f3 f2 f1 f0
theorem q_127v_68 {n0 n1 n2 n3 n4 n5 n6 n7 n8 n9 n10 n11 n12 n13 n14 n15 n16 n17 n18 n19 n20 n21 n22 n23 : Int} {H0 H1 H2 H3 H4 : gH} (f0 : n0 ≤ 2147483647) (f1 : (-2147483648) ≤ n0) (f2 : n1 ≤ 2147483647) (f3 : (-2147483648) ≤ n1) (f4 : n2 = 31) (f5 : hWt T0 H0 ∧ preb_127v n2 n3 n1 n0 H0) (f6 : n4 ≤ 2147483647) (f7 : (-2147483648) ≤ n4) (f8 : (hLe T0 H0 H1 ∧ hFr s_199vk692.2.2.2.2 H0 H1 ∧ ((0 : Int) = 0 → H1.length = H0.length) ∧ hWt T0 H1) ∧ postb_199vk692 n4 n3 n1 H0 H1) (f9 : n5 = 9) (f10 : n4 ≠ n5) (f11 : n6 = 10) (f12 : n4 ≠ n6) (f13 : n7 = 13) (f14 : n4 ≠ n7) (f15 : n8 = 32) (f16 : n4 ≠ n8) (f17 : n9 = 97) (f18 : n9 ≤ n4) (f19 : n10 = 122) (f20 : n10 < n4) (f21 : n11 = 48) (f22 : n4 < n11) (f23 : n12 = 1) (f24 : n13 = w32 (n1 + n12)) (f25 : n13 < n0) (f26 : n14 = 1) (f27 : n15 = w32 (n1 + n14)) (f28 : n16 ≤ 2147483647) (f29 : (-2147483648) ≤ n16) (f30 : (hLe T0 H1 H2 ∧ hFr s_199vk692.2.2.2.2 H1 H2 ∧ ((0 : Int) = 0 → H2.length = H1.length) ∧ hWt T0 H2) ∧ postb_199vk692 n16 n3 n15 H1 H2) (f31 : n17 = 61) (f32 : n16 ≠ n17) (f33 : n18 = 0) (f34 : n18 ≠ 0) (f35 : n19 ≤ 2147483647) (f36 : (-2147483648) ≤ n19) (f37 : (hLe T0 H2 H3 ∧ hFr s_131v.2.2.2.2 H2 H3 ∧ ((0 : Int) = 0 → H3.length = H2.length) ∧ hWt T0 H3) ∧ postb_131v n19 n4 H2 H3) (f38 : n20 = 1) (f39 : n19 ≠ n20) (f40 : n21 = 0) (f41 : (hLe T0 H3 H4 ∧ hFr s_126v.2.2.2.2 H3 H4 ∧ ((0 : Int) = 0 → H4.length = H3.length) ∧ hWt T0 H4) ∧ postb_126v n2 n19 n1 n21 H3 H4) (f42 : n22 = 2) (f43 : n23 = w32 (n1 + n22)) : postb_127v n23 n2 n3 n1 n0 H0 H4 := by
  have pz := f5.2
  unfold preb_127v at pz
  obtain ⟨ks, tp, wd, b0, b1, b2, b3, c0, c1⟩ := pz
  have et : ((n1).toNat : Int) = n1 := Int.toNat_of_nonneg b1
  have sm0 : SMT H0 H0 := SMT_rfl
  have wq24 := f24
  unfold w32 at wq24
  have wq27 := f27
  unfold w32 at wq27
  have wq43 := f43
  unfold w32 at wq43
  have qa0 := f8.2
  unfold postb_199vk692 at qa0
  have a0 := at8 sm0 tp qa0 (by omega) (by omega) (by omega)
  have sm1 := SMT_trans sm0 (SMT_fr f8.1.2.1 (by decide +kernel))
  have ks_0 := KS5_le f8.1.1 ks
  have tp_0 := TP_le f8.1.1 tp
  have wd_0 := WDS_fr f8.1.1 f8.1.2.1 (by decide +kernel) wd
  have qa1 := f30.2
  unfold postb_199vk692 at qa1
  have a1 := at8 sm1 tp_0 qa1 (by omega) (by omega) (by omega)
  rw [show (n15).toNat = (n1).toNat + 1 by omega] at a1
  have sm2 := SMT_trans sm1 (SMT_fr f30.1.2.1 (by decide +kernel))
  have ks_1 := KS5_le f30.1.1 ks_0
  have tp_1 := TP_le f30.1.1 tp_0
  have wd_1 := WDS_fr f30.1.1 f30.1.2.1 (by decide +kernel) wd_0
  have pk := f37.2
  unfold postb_131v at pk
  have sm3 := SMT_trans sm2 (SMT_fr f37.1.2.1 (by decide +kernel))
  have ks_2 := KS5_le f37.1.1 ks_1
  have tp_2 := TP_le f37.1.1 tp_1
  have wd_2 := WDS_fr f37.1.1 f37.1.2.1 (by decide +kernel) wd_1
  rw [a0] at pk
  unfold postb_127v ONE
  have lt := f41.2
  unfold postb_126v at lt
  have nt := NTp_from sm3 lt.1
  rw [f40] at nt
  first
  | (exfalso; omega)
  | (rw [pk] at nt
     exact ⟨.inr (.inr (.inr (.inl ⟨by omega, by omega, by omega, ⟨by omega, by omega, by omega⟩, by omega, nt⟩))), lt.2⟩)
theorem c_127v_s_68 : vOkm T0 (eP e_127v L_127v A_127v mu_127v none) 4 ([(1, [23, 2, 22], [], 0), (0, [22], [], 2), (1126, [0, 19, 2, 21], [3, 4], 0), (0, [21], [], 0), (41, [19, 20], [], 0), (0, [20], [], 1), (1131, [19, 4], [2, 3], 0), (90, [19], [], -2147483648), (91, [19], [], 2147483647), (31, [18], [], 0), (0, [18], [], 0), (41, [16, 17], [], 0), (0, [17], [], 61), (1199, [16, 1, 15], [1, 2], 0), (90, [16], [], -2147483648), (91, [16], [], 2147483647), (1, [15, 2, 14], [], 0), (0, [14], [], 1), (42, [13, 3], [], 0), (1, [13, 2, 12], [], 0), (0, [12], [], 1), (42, [4, 11], [], 0), (0, [11], [], 48), (44, [4, 10], [], 0), (0, [10], [], 122), (43, [4, 9], [], 0), (0, [9], [], 97), (41, [4, 8], [], 0), (0, [8], [], 32), (41, [4, 7], [], 0), (0, [7], [], 13), (41, [4, 6], [], 0), (0, [6], [], 10), (41, [4, 5], [], 0), (0, [5], [], 9), (1199, [4, 1, 2], [0, 1], 0), (90, [4], [], -2147483648), (91, [4], [], 2147483647), (6000, [0, 1, 2, 3], [0], 0), (0, [0], [], 31), (90, [2], [], -2147483648), (91, [2], [], 2147483647), (90, [3], [], -2147483648), (91, [3], [], 2147483647)], (3000, [23], [4], 142)) := vOk_in fun ρ η h => by
  obtain ⟨f0, f1, f2, f3, f4, f5, f6, f7, f8, f9, f10, f11, f12, f13, f14, f15, f16, f17, f18, f19, f20, f21, f22, f23, f24, f25, f26, f27, f28, f29, f30, f31, f32, f33, f34, f35, f36, f37, f38, f39, f40, f41, f42, f43, _⟩ := h
  exact q_127v_68 (n0 := ρ 3) (n1 := ρ 2) (n2 := ρ 0) (n3 := ρ 1) (n4 := ρ 4) (n5 := ρ 5) (n6 := ρ 6) (n7 := ρ 7) (n8 := ρ 8) (n9 := ρ 9) (n10 := ρ 10) (n11 := ρ 11) (n12 := ρ 12) (n13 := ρ 13) (n14 := ρ 14) (n15 := ρ 15) (n16 := ρ 16) (n17 := ρ 17) (n18 := ρ 18) (n19 := ρ 19) (n20 := ρ 20) (n21 := ρ 21) (n22 := ρ 22) (n23 := ρ 23) (H0 := η 0) (H1 := η 1) (H2 := η 2) (H3 := η 3) (H4 := η 4) f43 f42 f41 f40 f39 f38 f37 f36 f35 f34 f33 f32 f31 f30 f29 f28 f27 f26 f25 f24 f23 f22 f21 f20 f19 f18 f17 f16 f15 f14 f13 f12 f11 f10 f9 f8 f7 f6 f5 f4 f3 f2 f1 f0
theorem q_127v_69 {n0 n1 n2 n3 n4 n5 n6 n7 n8 n9 n10 n11 n12 n13 n14 n15 n16 n17 n18 n19 n20 n21 n22 : Int} {H0 H1 H2 H3 : gH} (f0 : n0 ≤ 2147483647) (f1 : (-2147483648) ≤ n0) (f2 : n1 ≤ 2147483647) (f3 : (-2147483648) ≤ n1) (f4 : n2 = 31) (f5 : hWt T0 H0 ∧ preb_127v n2 n3 n1 n0 H0) (f6 : n4 ≤ 2147483647) (f7 : (-2147483648) ≤ n4) (f8 : (hLe T0 H0 H1 ∧ hFr s_199vk692.2.2.2.2 H0 H1 ∧ ((0 : Int) = 0 → H1.length = H0.length) ∧ hWt T0 H1) ∧ postb_199vk692 n4 n3 n1 H0 H1) (f9 : n5 = 9) (f10 : n4 ≠ n5) (f11 : n6 = 10) (f12 : n4 ≠ n6) (f13 : n7 = 13) (f14 : n4 ≠ n7) (f15 : n8 = 32) (f16 : n4 ≠ n8) (f17 : n9 = 97) (f18 : n9 ≤ n4) (f19 : n10 = 122) (f20 : n10 < n4) (f21 : n11 = 48) (f22 : n4 < n11) (f23 : n12 = 1) (f24 : n13 = w32 (n1 + n12)) (f25 : n13 < n0) (f26 : n14 = 1) (f27 : n15 = w32 (n1 + n14)) (f28 : n16 ≤ 2147483647) (f29 : (-2147483648) ≤ n16) (f30 : (hLe T0 H1 H2 ∧ hFr s_199vk692.2.2.2.2 H1 H2 ∧ ((0 : Int) = 0 → H2.length = H1.length) ∧ hWt T0 H2) ∧ postb_199vk692 n16 n3 n15 H1 H2) (f31 : n17 = 61) (f32 : n16 = n17) (f33 : n18 = 1) (f34 : n18 = 0) (f35 : n19 = 1) (f36 : n20 = 1) (f37 : n19 = n20) (f38 : n21 ≤ 2147483647) (f39 : (-2147483648) ≤ n21) (f40 : (hLe T0 H2 H3 ∧ hFr s_132v.2.2.2.2 H2 H3 ∧ ((0 : Int) = 0 → H3.length = H2.length) ∧ hWt T0 H3) ∧ postb_132v n21 n4 H2 H3) (f41 : n22 = 0) : preb_126v n2 n21 n1 n22 H3 := by
  have pz := f5.2
  unfold preb_127v at pz
  obtain ⟨ks, tp, wd, b0, b1, b2, b3, c0, c1⟩ := pz
  have et : ((n1).toNat : Int) = n1 := Int.toNat_of_nonneg b1
  have sm0 : SMT H0 H0 := SMT_rfl
  have wq24 := f24
  unfold w32 at wq24
  have wq27 := f27
  unfold w32 at wq27
  have qa0 := f8.2
  unfold postb_199vk692 at qa0
  have a0 := at8 sm0 tp qa0 (by omega) (by omega) (by omega)
  have sm1 := SMT_trans sm0 (SMT_fr f8.1.2.1 (by decide +kernel))
  have ks_0 := KS5_le f8.1.1 ks
  have tp_0 := TP_le f8.1.1 tp
  have wd_0 := WDS_fr f8.1.1 f8.1.2.1 (by decide +kernel) wd
  have qa1 := f30.2
  unfold postb_199vk692 at qa1
  have a1 := at8 sm1 tp_0 qa1 (by omega) (by omega) (by omega)
  rw [show (n15).toNat = (n1).toNat + 1 by omega] at a1
  have sm2 := SMT_trans sm1 (SMT_fr f30.1.2.1 (by decide +kernel))
  have ks_1 := KS5_le f30.1.1 ks_0
  have tp_1 := TP_le f30.1.1 tp_0
  have wd_1 := WDS_fr f30.1.1 f30.1.2.1 (by decide +kernel) wd_0
  have sk := f40.2
  unfold postb_132v at sk
  have sm3 := SMT_trans sm2 (SMT_fr f40.1.2.1 (by decide +kernel))
  have ks_2 := KS5_le f40.1.1 ks_1
  have tp_2 := TP_le f40.1.1 tp_1
  have wd_2 := WDS_fr f40.1.1 f40.1.2.1 (by decide +kernel) wd_1
  rw [a0] at sk
  unfold preb_126v
  exact ⟨ks_2, by rw [sm3.1]; exact c0, by rw [sm3.1]; exact c1⟩
theorem c_127v_s_69 : vOkm T0 (eP e_127v L_127v A_127v mu_127v none) 4 ([(0, [22], [], 0), (1132, [21, 4], [2, 3], 0), (90, [21], [], -2147483648), (91, [21], [], 2147483647), (40, [19, 20], [], 0), (0, [20], [], 1), (0, [19], [], 1), (30, [18], [], 0), (0, [18], [], 1), (40, [16, 17], [], 0), (0, [17], [], 61), (1199, [16, 1, 15], [1, 2], 0), (90, [16], [], -2147483648), (91, [16], [], 2147483647), (1, [15, 2, 14], [], 0), (0, [14], [], 1), (42, [13, 3], [], 0), (1, [13, 2, 12], [], 0), (0, [12], [], 1), (42, [4, 11], [], 0), (0, [11], [], 48), (44, [4, 10], [], 0), (0, [10], [], 122), (43, [4, 9], [], 0), (0, [9], [], 97), (41, [4, 8], [], 0), (0, [8], [], 32), (41, [4, 7], [], 0), (0, [7], [], 13), (41, [4, 6], [], 0), (0, [6], [], 10), (41, [4, 5], [], 0), (0, [5], [], 9), (1199, [4, 1, 2], [0, 1], 0), (90, [4], [], -2147483648), (91, [4], [], 2147483647), (6000, [0, 1, 2, 3], [0], 0), (0, [0], [], 31), (90, [2], [], -2147483648), (91, [2], [], 2147483647), (90, [3], [], -2147483648), (91, [3], [], 2147483647)], (2126, [0, 21, 2, 22], [3], 0)) := vOk_in fun ρ η h => by
  obtain ⟨f0, f1, f2, f3, f4, f5, f6, f7, f8, f9, f10, f11, f12, f13, f14, f15, f16, f17, f18, f19, f20, f21, f22, f23, f24, f25, f26, f27, f28, f29, f30, f31, f32, f33, f34, f35, f36, f37, f38, f39, f40, f41, _⟩ := h
  exact q_127v_69 (n0 := ρ 3) (n1 := ρ 2) (n2 := ρ 0) (n3 := ρ 1) (n4 := ρ 4) (n5 := ρ 5) (n6 := ρ 6) (n7 := ρ 7) (n8 := ρ 8) (n9 := ρ 9) (n10 := ρ 10) (n11 := ρ 11) (n12 := ρ 12) (n13 := ρ 13) (n14 := ρ 14) (n15 := ρ 15) (n16 := ρ 16) (n17 := ρ 17) (n18 := ρ 18) (n19 := ρ 19) (n20 := ρ 20) (n21 := ρ 21) (n22 := ρ 22) (H0 := η 0) (H1 := η 1) (H2 := η 2) (H3 := η 3) f41 f40 f39 f38 f37 f36 f35 f34 f33 f32 f31 f30 f29 f28 f27 f26 f25 f24 f23 f22 f21 f20 f19 f18 f17 f16 f15 f14 f13 f12 f11 f10 f9 f8 f7 f6 f5 f4 f3 f2 f1 f0
theorem q_127v_70 {n0 n1 n2 n3 n4 n5 n6 n7 n8 n9 n10 n11 n12 n13 n14 n15 n16 n17 n18 n19 n20 n21 n22 n23 n24 : Int} {H0 H1 H2 H3 H4 : gH} (f0 : n0 ≤ 2147483647) (f1 : (-2147483648) ≤ n0) (f2 : n1 ≤ 2147483647) (f3 : (-2147483648) ≤ n1) (f4 : n2 = 31) (f5 : hWt T0 H0 ∧ preb_127v n2 n3 n1 n0 H0) (f6 : n4 ≤ 2147483647) (f7 : (-2147483648) ≤ n4) (f8 : (hLe T0 H0 H1 ∧ hFr s_199vk692.2.2.2.2 H0 H1 ∧ ((0 : Int) = 0 → H1.length = H0.length) ∧ hWt T0 H1) ∧ postb_199vk692 n4 n3 n1 H0 H1) (f9 : n5 = 9) (f10 : n4 ≠ n5) (f11 : n6 = 10) (f12 : n4 ≠ n6) (f13 : n7 = 13) (f14 : n4 ≠ n7) (f15 : n8 = 32) (f16 : n4 ≠ n8) (f17 : n9 = 97) (f18 : n9 ≤ n4) (f19 : n10 = 122) (f20 : n10 < n4) (f21 : n11 = 48) (f22 : n4 < n11) (f23 : n12 = 1) (f24 : n13 = w32 (n1 + n12)) (f25 : n13 < n0) (f26 : n14 = 1) (f27 : n15 = w32 (n1 + n14)) (f28 : n16 ≤ 2147483647) (f29 : (-2147483648) ≤ n16) (f30 : (hLe T0 H1 H2 ∧ hFr s_199vk692.2.2.2.2 H1 H2 ∧ ((0 : Int) = 0 → H2.length = H1.length) ∧ hWt T0 H2) ∧ postb_199vk692 n16 n3 n15 H1 H2) (f31 : n17 = 61) (f32 : n16 = n17) (f33 : n18 = 1) (f34 : n18 = 0) (f35 : n19 = 1) (f36 : n20 = 1) (f37 : n19 = n20) (f38 : n21 ≤ 2147483647) (f39 : (-2147483648) ≤ n21) (f40 : (hLe T0 H2 H3 ∧ hFr s_132v.2.2.2.2 H2 H3 ∧ ((0 : Int) = 0 → H3.length = H2.length) ∧ hWt T0 H3) ∧ postb_132v n21 n4 H2 H3) (f41 : n22 = 0) (f42 : (hLe T0 H3 H4 ∧ hFr s_126v.2.2.2.2 H3 H4 ∧ ((0 : Int) = 0 → H4.length = H3.length) ∧ hWt T0 H4) ∧ postb_126v n2 n21 n1 n22 H3 H4) (f43 : n23 = 1) (f44 : n24 = w32 (n1 + n23)) : postb_127v n24 n2 n3 n1 n0 H0 H4 := by
  have pz := f5.2
  unfold preb_127v at pz
  obtain ⟨ks, tp, wd, b0, b1, b2, b3, c0, c1⟩ := pz
  have et : ((n1).toNat : Int) = n1 := Int.toNat_of_nonneg b1
  have sm0 : SMT H0 H0 := SMT_rfl
  have wq24 := f24
  unfold w32 at wq24
  have wq27 := f27
  unfold w32 at wq27
  have wq44 := f44
  unfold w32 at wq44
  have qa0 := f8.2
  unfold postb_199vk692 at qa0
  have a0 := at8 sm0 tp qa0 (by omega) (by omega) (by omega)
  have sm1 := SMT_trans sm0 (SMT_fr f8.1.2.1 (by decide +kernel))
  have ks_0 := KS5_le f8.1.1 ks
  have tp_0 := TP_le f8.1.1 tp
  have wd_0 := WDS_fr f8.1.1 f8.1.2.1 (by decide +kernel) wd
  have qa1 := f30.2
  unfold postb_199vk692 at qa1
  have a1 := at8 sm1 tp_0 qa1 (by omega) (by omega) (by omega)
  rw [show (n15).toNat = (n1).toNat + 1 by omega] at a1
  have sm2 := SMT_trans sm1 (SMT_fr f30.1.2.1 (by decide +kernel))
  have ks_1 := KS5_le f30.1.1 ks_0
  have tp_1 := TP_le f30.1.1 tp_0
  have wd_1 := WDS_fr f30.1.1 f30.1.2.1 (by decide +kernel) wd_0
  have sk := f40.2
  unfold postb_132v at sk
  have sm3 := SMT_trans sm2 (SMT_fr f40.1.2.1 (by decide +kernel))
  have ks_2 := KS5_le f40.1.1 ks_1
  have tp_2 := TP_le f40.1.1 tp_1
  have wd_2 := WDS_fr f40.1.1 f40.1.2.1 (by decide +kernel) wd_1
  rw [a0] at sk
  unfold postb_127v ONE
  have lt := f42.2
  unfold postb_126v at lt
  have nt := NTp_from sm3 lt.1
  rw [f41] at nt
  first
  | exact absurd rfl (by omega)
  | (rw [sk] at nt
     exact ⟨.inr (.inr (.inr (.inr ⟨by omega, by omega, by omega, by omega, by omega, nt⟩))), lt.2⟩)
theorem c_127v_s_70 : vOkm T0 (eP e_127v L_127v A_127v mu_127v none) 4 ([(1, [24, 2, 23], [], 0), (0, [23], [], 1), (1126, [0, 21, 2, 22], [3, 4], 0), (0, [22], [], 0), (1132, [21, 4], [2, 3], 0), (90, [21], [], -2147483648), (91, [21], [], 2147483647), (40, [19, 20], [], 0), (0, [20], [], 1), (0, [19], [], 1), (30, [18], [], 0), (0, [18], [], 1), (40, [16, 17], [], 0), (0, [17], [], 61), (1199, [16, 1, 15], [1, 2], 0), (90, [16], [], -2147483648), (91, [16], [], 2147483647), (1, [15, 2, 14], [], 0), (0, [14], [], 1), (42, [13, 3], [], 0), (1, [13, 2, 12], [], 0), (0, [12], [], 1), (42, [4, 11], [], 0), (0, [11], [], 48), (44, [4, 10], [], 0), (0, [10], [], 122), (43, [4, 9], [], 0), (0, [9], [], 97), (41, [4, 8], [], 0), (0, [8], [], 32), (41, [4, 7], [], 0), (0, [7], [], 13), (41, [4, 6], [], 0), (0, [6], [], 10), (41, [4, 5], [], 0), (0, [5], [], 9), (1199, [4, 1, 2], [0, 1], 0), (90, [4], [], -2147483648), (91, [4], [], 2147483647), (6000, [0, 1, 2, 3], [0], 0), (0, [0], [], 31), (90, [2], [], -2147483648), (91, [2], [], 2147483647), (90, [3], [], -2147483648), (91, [3], [], 2147483647)], (3000, [24], [4], 157)) := vOk_in fun ρ η h => by
  obtain ⟨f0, f1, f2, f3, f4, f5, f6, f7, f8, f9, f10, f11, f12, f13, f14, f15, f16, f17, f18, f19, f20, f21, f22, f23, f24, f25, f26, f27, f28, f29, f30, f31, f32, f33, f34, f35, f36, f37, f38, f39, f40, f41, f42, f43, f44, _⟩ := h
  exact q_127v_70 (n0 := ρ 3) (n1 := ρ 2) (n2 := ρ 0) (n3 := ρ 1) (n4 := ρ 4) (n5 := ρ 5) (n6 := ρ 6) (n7 := ρ 7) (n8 := ρ 8) (n9 := ρ 9) (n10 := ρ 10) (n11 := ρ 11) (n12 := ρ 12) (n13 := ρ 13) (n14 := ρ 14) (n15 := ρ 15) (n16 := ρ 16) (n17 := ρ 17) (n18 := ρ 18) (n19 := ρ 19) (n20 := ρ 20) (n21 := ρ 21) (n22 := ρ 22) (n23 := ρ 23) (n24 := ρ 24) (H0 := η 0) (H1 := η 1) (H2 := η 2) (H3 := η 3) (H4 := η 4) f44 f43 f42 f41 f40 f39 f38 f37 f36 f35 f34 f33 f32 f31 f30 f29 f28 f27 f26 f25 f24 f23 f22 f21 f20 f19 f18 f17 f16 f15 f14 f13 f12 f11 f10 f9 f8 f7 f6 f5 f4 f3 f2 f1 f0
theorem q_127v_71 {n0 n1 n2 n3 n4 n5 n6 n7 n8 n9 n10 n11 n12 n13 n14 n15 n16 n17 n18 n19 n20 n21 : Int} {H0 H1 H2 : gH} (f0 : n0 ≤ 2147483647) (f1 : (-2147483648) ≤ n0) (f2 : n1 ≤ 2147483647) (f3 : (-2147483648) ≤ n1) (f4 : n2 = 31) (f5 : hWt T0 H0 ∧ preb_127v n2 n3 n1 n0 H0) (f6 : n4 ≤ 2147483647) (f7 : (-2147483648) ≤ n4) (f8 : (hLe T0 H0 H1 ∧ hFr s_199vk692.2.2.2.2 H0 H1 ∧ ((0 : Int) = 0 → H1.length = H0.length) ∧ hWt T0 H1) ∧ postb_199vk692 n4 n3 n1 H0 H1) (f9 : n5 = 9) (f10 : n4 ≠ n5) (f11 : n6 = 10) (f12 : n4 ≠ n6) (f13 : n7 = 13) (f14 : n4 ≠ n7) (f15 : n8 = 32) (f16 : n4 ≠ n8) (f17 : n9 = 97) (f18 : n9 ≤ n4) (f19 : n10 = 122) (f20 : n10 < n4) (f21 : n11 = 48) (f22 : n4 < n11) (f23 : n12 = 1) (f24 : n13 = w32 (n1 + n12)) (f25 : n13 < n0) (f26 : n14 = 1) (f27 : n15 = w32 (n1 + n14)) (f28 : n16 ≤ 2147483647) (f29 : (-2147483648) ≤ n16) (f30 : (hLe T0 H1 H2 ∧ hFr s_199vk692.2.2.2.2 H1 H2 ∧ ((0 : Int) = 0 → H2.length = H1.length) ∧ hWt T0 H2) ∧ postb_199vk692 n16 n3 n15 H1 H2) (f31 : n17 = 61) (f32 : n16 = n17) (f33 : n18 = 1) (f34 : n18 = 0) (f35 : n19 = 1) (f36 : n20 = 1) (f37 : n19 ≠ n20) (f38 : n21 = 0) : preb_126v n2 n19 n1 n21 H2 := by
  have pz := f5.2
  unfold preb_127v at pz
  obtain ⟨ks, tp, wd, b0, b1, b2, b3, c0, c1⟩ := pz
  have et : ((n1).toNat : Int) = n1 := Int.toNat_of_nonneg b1
  have sm0 : SMT H0 H0 := SMT_rfl
  have wq24 := f24
  unfold w32 at wq24
  have wq27 := f27
  unfold w32 at wq27
  have qa0 := f8.2
  unfold postb_199vk692 at qa0
  have a0 := at8 sm0 tp qa0 (by omega) (by omega) (by omega)
  have sm1 := SMT_trans sm0 (SMT_fr f8.1.2.1 (by decide +kernel))
  have ks_0 := KS5_le f8.1.1 ks
  have tp_0 := TP_le f8.1.1 tp
  have wd_0 := WDS_fr f8.1.1 f8.1.2.1 (by decide +kernel) wd
  have qa1 := f30.2
  unfold postb_199vk692 at qa1
  have a1 := at8 sm1 tp_0 qa1 (by omega) (by omega) (by omega)
  rw [show (n15).toNat = (n1).toNat + 1 by omega] at a1
  have sm2 := SMT_trans sm1 (SMT_fr f30.1.2.1 (by decide +kernel))
  have ks_1 := KS5_le f30.1.1 ks_0
  have tp_1 := TP_le f30.1.1 tp_0
  have wd_1 := WDS_fr f30.1.1 f30.1.2.1 (by decide +kernel) wd_0
  unfold preb_126v
  exact ⟨ks_1, by rw [sm2.1]; exact c0, by rw [sm2.1]; exact c1⟩
theorem c_127v_s_71 : vOkm T0 (eP e_127v L_127v A_127v mu_127v none) 4 ([(0, [21], [], 0), (41, [19, 20], [], 0), (0, [20], [], 1), (0, [19], [], 1), (30, [18], [], 0), (0, [18], [], 1), (40, [16, 17], [], 0), (0, [17], [], 61), (1199, [16, 1, 15], [1, 2], 0), (90, [16], [], -2147483648), (91, [16], [], 2147483647), (1, [15, 2, 14], [], 0), (0, [14], [], 1), (42, [13, 3], [], 0), (1, [13, 2, 12], [], 0), (0, [12], [], 1), (42, [4, 11], [], 0), (0, [11], [], 48), (44, [4, 10], [], 0), (0, [10], [], 122), (43, [4, 9], [], 0), (0, [9], [], 97), (41, [4, 8], [], 0), (0, [8], [], 32), (41, [4, 7], [], 0), (0, [7], [], 13), (41, [4, 6], [], 0), (0, [6], [], 10), (41, [4, 5], [], 0), (0, [5], [], 9), (1199, [4, 1, 2], [0, 1], 0), (90, [4], [], -2147483648), (91, [4], [], 2147483647), (6000, [0, 1, 2, 3], [0], 0), (0, [0], [], 31), (90, [2], [], -2147483648), (91, [2], [], 2147483647), (90, [3], [], -2147483648), (91, [3], [], 2147483647)], (2126, [0, 19, 2, 21], [2], 0)) := vOk_in fun ρ η h => by
  obtain ⟨f0, f1, f2, f3, f4, f5, f6, f7, f8, f9, f10, f11, f12, f13, f14, f15, f16, f17, f18, f19, f20, f21, f22, f23, f24, f25, f26, f27, f28, f29, f30, f31, f32, f33, f34, f35, f36, f37, f38, _⟩ := h
  exact q_127v_71 (n0 := ρ 3) (n1 := ρ 2) (n2 := ρ 0) (n3 := ρ 1) (n4 := ρ 4) (n5 := ρ 5) (n6 := ρ 6) (n7 := ρ 7) (n8 := ρ 8) (n9 := ρ 9) (n10 := ρ 10) (n11 := ρ 11) (n12 := ρ 12) (n13 := ρ 13) (n14 := ρ 14) (n15 := ρ 15) (n16 := ρ 16) (n17 := ρ 17) (n18 := ρ 18) (n19 := ρ 19) (n20 := ρ 20) (n21 := ρ 21) (H0 := η 0) (H1 := η 1) (H2 := η 2) f38 f37 f36 f35 f34 f33 f32 f31 f30 f29 f28 f27 f26 f25 f24 f23 f22 f21 f20 f19 f18 f17 f16 f15 f14 f13 f12 f11 f10 f9 f8 f7 f6 f5 f4 f3 f2 f1 f0
theorem q_127v_72 {n0 n1 n2 n3 n4 n5 n6 n7 n8 n9 n10 n11 n12 n13 n14 n15 n16 n17 n18 n19 n20 n21 n22 n23 : Int} {H0 H1 H2 H3 : gH} (f0 : n0 ≤ 2147483647) (f1 : (-2147483648) ≤ n0) (f2 : n1 ≤ 2147483647) (f3 : (-2147483648) ≤ n1) (f4 : n2 = 31) (f5 : hWt T0 H0 ∧ preb_127v n2 n3 n1 n0 H0) (f6 : n4 ≤ 2147483647) (f7 : (-2147483648) ≤ n4) (f8 : (hLe T0 H0 H1 ∧ hFr s_199vk692.2.2.2.2 H0 H1 ∧ ((0 : Int) = 0 → H1.length = H0.length) ∧ hWt T0 H1) ∧ postb_199vk692 n4 n3 n1 H0 H1) (f9 : n5 = 9) (f10 : n4 ≠ n5) (f11 : n6 = 10) (f12 : n4 ≠ n6) (f13 : n7 = 13) (f14 : n4 ≠ n7) (f15 : n8 = 32) (f16 : n4 ≠ n8) (f17 : n9 = 97) (f18 : n9 ≤ n4) (f19 : n10 = 122) (f20 : n10 < n4) (f21 : n11 = 48) (f22 : n4 < n11) (f23 : n12 = 1) (f24 : n13 = w32 (n1 + n12)) (f25 : n13 < n0) (f26 : n14 = 1) (f27 : n15 = w32 (n1 + n14)) (f28 : n16 ≤ 2147483647) (f29 : (-2147483648) ≤ n16) (f30 : (hLe T0 H1 H2 ∧ hFr s_199vk692.2.2.2.2 H1 H2 ∧ ((0 : Int) = 0 → H2.length = H1.length) ∧ hWt T0 H2) ∧ postb_199vk692 n16 n3 n15 H1 H2) (f31 : n17 = 61) (f32 : n16 = n17) (f33 : n18 = 1) (f34 : n18 = 0) (f35 : n19 = 1) (f36 : n20 = 1) (f37 : n19 ≠ n20) (f38 : n21 = 0) (f39 : (hLe T0 H2 H3 ∧ hFr s_126v.2.2.2.2 H2 H3 ∧ ((0 : Int) = 0 → H3.length = H2.length) ∧ hWt T0 H3) ∧ postb_126v n2 n19 n1 n21 H2 H3) (f40 : n22 = 2) (f41 : n23 = w32 (n1 + n22)) : postb_127v n23 n2 n3 n1 n0 H0 H3 := by
  have pz := f5.2
  unfold preb_127v at pz
  obtain ⟨ks, tp, wd, b0, b1, b2, b3, c0, c1⟩ := pz
  have et : ((n1).toNat : Int) = n1 := Int.toNat_of_nonneg b1
  have sm0 : SMT H0 H0 := SMT_rfl
  have wq24 := f24
  unfold w32 at wq24
  have wq27 := f27
  unfold w32 at wq27
  have wq41 := f41
  unfold w32 at wq41
  have qa0 := f8.2
  unfold postb_199vk692 at qa0
  have a0 := at8 sm0 tp qa0 (by omega) (by omega) (by omega)
  have sm1 := SMT_trans sm0 (SMT_fr f8.1.2.1 (by decide +kernel))
  have ks_0 := KS5_le f8.1.1 ks
  have tp_0 := TP_le f8.1.1 tp
  have wd_0 := WDS_fr f8.1.1 f8.1.2.1 (by decide +kernel) wd
  have qa1 := f30.2
  unfold postb_199vk692 at qa1
  have a1 := at8 sm1 tp_0 qa1 (by omega) (by omega) (by omega)
  rw [show (n15).toNat = (n1).toNat + 1 by omega] at a1
  have sm2 := SMT_trans sm1 (SMT_fr f30.1.2.1 (by decide +kernel))
  have ks_1 := KS5_le f30.1.1 ks_0
  have tp_1 := TP_le f30.1.1 tp_0
  have wd_1 := WDS_fr f30.1.1 f30.1.2.1 (by decide +kernel) wd_0
  unfold postb_127v ONE
  have lt := f39.2
  unfold postb_126v at lt
  have nt := NTp_from sm2 lt.1
  rw [f38] at nt
  first
  | (exfalso; omega)
  | (rw [pk] at nt
     exact ⟨.inr (.inr (.inr (.inl ⟨by omega, by omega, by omega, ⟨by omega, by omega, by omega⟩, by omega, nt⟩))), lt.2⟩)
theorem c_127v_s_72 : vOkm T0 (eP e_127v L_127v A_127v mu_127v none) 4 ([(1, [23, 2, 22], [], 0), (0, [22], [], 2), (1126, [0, 19, 2, 21], [2, 3], 0), (0, [21], [], 0), (41, [19, 20], [], 0), (0, [20], [], 1), (0, [19], [], 1), (30, [18], [], 0), (0, [18], [], 1), (40, [16, 17], [], 0), (0, [17], [], 61), (1199, [16, 1, 15], [1, 2], 0), (90, [16], [], -2147483648), (91, [16], [], 2147483647), (1, [15, 2, 14], [], 0), (0, [14], [], 1), (42, [13, 3], [], 0), (1, [13, 2, 12], [], 0), (0, [12], [], 1), (42, [4, 11], [], 0), (0, [11], [], 48), (44, [4, 10], [], 0), (0, [10], [], 122), (43, [4, 9], [], 0), (0, [9], [], 97), (41, [4, 8], [], 0), (0, [8], [], 32), (41, [4, 7], [], 0), (0, [7], [], 13), (41, [4, 6], [], 0), (0, [6], [], 10), (41, [4, 5], [], 0), (0, [5], [], 9), (1199, [4, 1, 2], [0, 1], 0), (90, [4], [], -2147483648), (91, [4], [], 2147483647), (6000, [0, 1, 2, 3], [0], 0), (0, [0], [], 31), (90, [2], [], -2147483648), (91, [2], [], 2147483647), (90, [3], [], -2147483648), (91, [3], [], 2147483647)], (3000, [23], [3], 142)) := vOk_in fun ρ η h => by
  obtain ⟨f0, f1, f2, f3, f4, f5, f6, f7, f8, f9, f10, f11, f12, f13, f14, f15, f16, f17, f18, f19, f20, f21, f22, f23, f24, f25, f26, f27, f28, f29, f30, f31, f32, f33, f34, f35, f36, f37, f38, f39, f40, f41, _⟩ := h
  exact q_127v_72 (n0 := ρ 3) (n1 := ρ 2) (n2 := ρ 0) (n3 := ρ 1) (n4 := ρ 4) (n5 := ρ 5) (n6 := ρ 6) (n7 := ρ 7) (n8 := ρ 8) (n9 := ρ 9) (n10 := ρ 10) (n11 := ρ 11) (n12 := ρ 12) (n13 := ρ 13) (n14 := ρ 14) (n15 := ρ 15) (n16 := ρ 16) (n17 := ρ 17) (n18 := ρ 18) (n19 := ρ 19) (n20 := ρ 20) (n21 := ρ 21) (n22 := ρ 22) (n23 := ρ 23) (H0 := η 0) (H1 := η 1) (H2 := η 2) (H3 := η 3) f41 f40 f39 f38 f37 f36 f35 f34 f33 f32 f31 f30 f29 f28 f27 f26 f25 f24 f23 f22 f21 f20 f19 f18 f17 f16 f15 f14 f13 f12 f11 f10 f9 f8 f7 f6 f5 f4 f3 f2 f1 f0
theorem q_127v_73 {n0 n1 n2 n3 n4 n5 n6 n7 n8 n9 n10 n11 n12 n13 n14 n15 n16 n17 n18 n19 n20 n21 n22 : Int} {H0 H1 H2 H3 H4 : gH} (f0 : n0 ≤ 2147483647) (f1 : (-2147483648) ≤ n0) (f2 : n1 ≤ 2147483647) (f3 : (-2147483648) ≤ n1) (f4 : n2 = 31) (f5 : hWt T0 H0 ∧ preb_127v n2 n3 n1 n0 H0) (f6 : n4 ≤ 2147483647) (f7 : (-2147483648) ≤ n4) (f8 : (hLe T0 H0 H1 ∧ hFr s_199vk692.2.2.2.2 H0 H1 ∧ ((0 : Int) = 0 → H1.length = H0.length) ∧ hWt T0 H1) ∧ postb_199vk692 n4 n3 n1 H0 H1) (f9 : n5 = 9) (f10 : n4 ≠ n5) (f11 : n6 = 10) (f12 : n4 ≠ n6) (f13 : n7 = 13) (f14 : n4 ≠ n7) (f15 : n8 = 32) (f16 : n4 ≠ n8) (f17 : n9 = 97) (f18 : n9 ≤ n4) (f19 : n10 = 122) (f20 : n10 < n4) (f21 : n11 = 48) (f22 : n4 < n11) (f23 : n12 = 1) (f24 : n13 = w32 (n1 + n12)) (f25 : n13 < n0) (f26 : n14 = 1) (f27 : n15 = w32 (n1 + n14)) (f28 : n16 ≤ 2147483647) (f29 : (-2147483648) ≤ n16) (f30 : (hLe T0 H1 H2 ∧ hFr s_199vk692.2.2.2.2 H1 H2 ∧ ((0 : Int) = 0 → H2.length = H1.length) ∧ hWt T0 H2) ∧ postb_199vk692 n16 n3 n15 H1 H2) (f31 : n17 = 61) (f32 : n16 = n17) (f33 : n18 = 1) (f34 : n18 ≠ 0) (f35 : n19 ≤ 2147483647) (f36 : (-2147483648) ≤ n19) (f37 : (hLe T0 H2 H3 ∧ hFr s_131v.2.2.2.2 H2 H3 ∧ ((0 : Int) = 0 → H3.length = H2.length) ∧ hWt T0 H3) ∧ postb_131v n19 n4 H2 H3) (f38 : n20 = 1) (f39 : n19 = n20) (f40 : n21 ≤ 2147483647) (f41 : (-2147483648) ≤ n21) (f42 : (hLe T0 H3 H4 ∧ hFr s_132v.2.2.2.2 H3 H4 ∧ ((0 : Int) = 0 → H4.length = H3.length) ∧ hWt T0 H4) ∧ postb_132v n21 n4 H3 H4) (f43 : n22 = 0) : preb_126v n2 n21 n1 n22 H4 := by
  have pz := f5.2
  unfold preb_127v at pz
  obtain ⟨ks, tp, wd, b0, b1, b2, b3, c0, c1⟩ := pz
  have et : ((n1).toNat : Int) = n1 := Int.toNat_of_nonneg b1
  have sm0 : SMT H0 H0 := SMT_rfl
  have wq24 := f24
  unfold w32 at wq24
  have wq27 := f27
  unfold w32 at wq27
  have qa0 := f8.2
  unfold postb_199vk692 at qa0
  have a0 := at8 sm0 tp qa0 (by omega) (by omega) (by omega)
  have sm1 := SMT_trans sm0 (SMT_fr f8.1.2.1 (by decide +kernel))
  have ks_0 := KS5_le f8.1.1 ks
  have tp_0 := TP_le f8.1.1 tp
  have wd_0 := WDS_fr f8.1.1 f8.1.2.1 (by decide +kernel) wd
  have qa1 := f30.2
  unfold postb_199vk692 at qa1
  have a1 := at8 sm1 tp_0 qa1 (by omega) (by omega) (by omega)
  rw [show (n15).toNat = (n1).toNat + 1 by omega] at a1
  have sm2 := SMT_trans sm1 (SMT_fr f30.1.2.1 (by decide +kernel))
  have ks_1 := KS5_le f30.1.1 ks_0
  have tp_1 := TP_le f30.1.1 tp_0
  have wd_1 := WDS_fr f30.1.1 f30.1.2.1 (by decide +kernel) wd_0
  have pk := f37.2
  unfold postb_131v at pk
  have sm3 := SMT_trans sm2 (SMT_fr f37.1.2.1 (by decide +kernel))
  have ks_2 := KS5_le f37.1.1 ks_1
  have tp_2 := TP_le f37.1.1 tp_1
  have wd_2 := WDS_fr f37.1.1 f37.1.2.1 (by decide +kernel) wd_1
  have sk := f42.2
  unfold postb_132v at sk
  have sm4 := SMT_trans sm3 (SMT_fr f42.1.2.1 (by decide +kernel))
  have ks_3 := KS5_le f42.1.1 ks_2
  have tp_3 := TP_le f42.1.1 tp_2
  have wd_3 := WDS_fr f42.1.1 f42.1.2.1 (by decide +kernel) wd_2
  rw [a0] at pk
  rw [a0] at sk
  unfold preb_126v
  exact ⟨ks_3, by rw [sm4.1]; exact c0, by rw [sm4.1]; exact c1⟩
theorem c_127v_s_73 : vOkm T0 (eP e_127v L_127v A_127v mu_127v none) 4 ([(0, [22], [], 0), (1132, [21, 4], [3, 4], 0), (90, [21], [], -2147483648), (91, [21], [], 2147483647), (40, [19, 20], [], 0), (0, [20], [], 1), (1131, [19, 4], [2, 3], 0), (90, [19], [], -2147483648), (91, [19], [], 2147483647), (31, [18], [], 0), (0, [18], [], 1), (40, [16, 17], [], 0), (0, [17], [], 61), (1199, [16, 1, 15], [1, 2], 0), (90, [16], [], -2147483648), (91, [16], [], 2147483647), (1, [15, 2, 14], [], 0), (0, [14], [], 1), (42, [13, 3], [], 0), (1, [13, 2, 12], [], 0), (0, [12], [], 1), (42, [4, 11], [], 0), (0, [11], [], 48), (44, [4, 10], [], 0), (0, [10], [], 122), (43, [4, 9], [], 0), (0, [9], [], 97), (41, [4, 8], [], 0), (0, [8], [], 32), (41, [4, 7], [], 0), (0, [7], [], 13), (41, [4, 6], [], 0), (0, [6], [], 10), (41, [4, 5], [], 0), (0, [5], [], 9), (1199, [4, 1, 2], [0, 1], 0), (90, [4], [], -2147483648), (91, [4], [], 2147483647), (6000, [0, 1, 2, 3], [0], 0), (0, [0], [], 31), (90, [2], [], -2147483648), (91, [2], [], 2147483647), (90, [3], [], -2147483648), (91, [3], [], 2147483647)], (2126, [0, 21, 2, 22], [4], 0)) := vOk_in fun ρ η h => by
  obtain ⟨f0, f1, f2, f3, f4, f5, f6, f7, f8, f9, f10, f11, f12, f13, f14, f15, f16, f17, f18, f19, f20, f21, f22, f23, f24, f25, f26, f27, f28, f29, f30, f31, f32, f33, f34, f35, f36, f37, f38, f39, f40, f41, f42, f43, _⟩ := h
  exact q_127v_73 (n0 := ρ 3) (n1 := ρ 2) (n2 := ρ 0) (n3 := ρ 1) (n4 := ρ 4) (n5 := ρ 5) (n6 := ρ 6) (n7 := ρ 7) (n8 := ρ 8) (n9 := ρ 9) (n10 := ρ 10) (n11 := ρ 11) (n12 := ρ 12) (n13 := ρ 13) (n14 := ρ 14) (n15 := ρ 15) (n16 := ρ 16) (n17 := ρ 17) (n18 := ρ 18) (n19 := ρ 19) (n20 := ρ 20) (n21 := ρ 21) (n22 := ρ 22) (H0 := η 0) (H1 := η 1) (H2 := η 2) (H3 := η 3) (H4 := η 4) f43 f42 f41 f40 f39 f38 f37 f36 f35 f34 f33 f32 f31 f30 f29 f28 f27 f26 f25 f24 f23 f22 f21 f20 f19 f18 f17 f16 f15 f14 f13 f12 f11 f10 f9 f8 f7 f6 f5 f4 f3 f2 f1 f0
theorem q_127v_74 {n0 n1 n2 n3 n4 n5 n6 n7 n8 n9 n10 n11 n12 n13 n14 n15 n16 n17 n18 n19 n20 n21 n22 n23 n24 : Int} {H0 H1 H2 H3 H4 H5 : gH} (f0 : n0 ≤ 2147483647) (f1 : (-2147483648) ≤ n0) (f2 : n1 ≤ 2147483647) (f3 : (-2147483648) ≤ n1) (f4 : n2 = 31) (f5 : hWt T0 H0 ∧ preb_127v n2 n3 n1 n0 H0) (f6 : n4 ≤ 2147483647) (f7 : (-2147483648) ≤ n4) (f8 : (hLe T0 H0 H1 ∧ hFr s_199vk692.2.2.2.2 H0 H1 ∧ ((0 : Int) = 0 → H1.length = H0.length) ∧ hWt T0 H1) ∧ postb_199vk692 n4 n3 n1 H0 H1) (f9 : n5 = 9) (f10 : n4 ≠ n5) (f11 : n6 = 10) (f12 : n4 ≠ n6) (f13 : n7 = 13) (f14 : n4 ≠ n7) (f15 : n8 = 32) (f16 : n4 ≠ n8) (f17 : n9 = 97) (f18 : n9 ≤ n4) (f19 : n10 = 122) (f20 : n10 < n4) (f21 : n11 = 48) (f22 : n4 < n11) (f23 : n12 = 1) (f24 : n13 = w32 (n1 + n12)) (f25 : n13 < n0) (f26 : n14 = 1) (f27 : n15 = w32 (n1 + n14)) (f28 : n16 ≤ 2147483647) (f29 : (-2147483648) ≤ n16) (f30 : (hLe T0 H1 H2 ∧ hFr s_199vk692.2.2.2.2 H1 H2 ∧ ((0 : Int) = 0 → H2.length = H1.length) ∧ hWt T0 H2) ∧ postb_199vk692 n16 n3 n15 H1 H2) (f31 : n17 = 61) (f32 : n16 = n17) (f33 : n18 = 1) (f34 : n18 ≠ 0) (f35 : n19 ≤ 2147483647) (f36 : (-2147483648) ≤ n19) (f37 : (hLe T0 H2 H3 ∧ hFr s_131v.2.2.2.2 H2 H3 ∧ ((0 : Int) = 0 → H3.length = H2.length) ∧ hWt T0 H3) ∧ postb_131v n19 n4 H2 H3) (f38 : n20 = 1) (f39 : n19 = n20) (f40 : n21 ≤ 2147483647) (f41 : (-2147483648) ≤ n21) (f42 : (hLe T0 H3 H4 ∧ hFr s_132v.2.2.2.2 H3 H4 ∧ ((0 : Int) = 0 → H4.length = H3.length) ∧ hWt T0 H4) ∧ postb_132v n21 n4 H3 H4) (f43 : n22 = 0) (f44 : (hLe T0 H4 H5 ∧ hFr s_126v.2.2.2.2 H4 H5 ∧ ((0 : Int) = 0 → H5.length = H4.length) ∧ hWt T0 H5) ∧ postb_126v n2 n21 n1 n22 H4 H5) (f45 : n23 = 1) (f46 : n24 = w32 (n1 + n23)) : postb_127v n24 n2 n3 n1 n0 H0 H5 := by
  have pz := f5.2
  unfold preb_127v at pz
  obtain ⟨ks, tp, wd, b0, b1, b2, b3, c0, c1⟩ := pz
  have et : ((n1).toNat : Int) = n1 := Int.toNat_of_nonneg b1
  have sm0 : SMT H0 H0 := SMT_rfl
  have wq24 := f24
  unfold w32 at wq24
  have wq27 := f27
  unfold w32 at wq27
  have wq46 := f46
  unfold w32 at wq46
  have qa0 := f8.2
  unfold postb_199vk692 at qa0
  have a0 := at8 sm0 tp qa0 (by omega) (by omega) (by omega)
  have sm1 := SMT_trans sm0 (SMT_fr f8.1.2.1 (by decide +kernel))
  have ks_0 := KS5_le f8.1.1 ks
  have tp_0 := TP_le f8.1.1 tp
  have wd_0 := WDS_fr f8.1.1 f8.1.2.1 (by decide +kernel) wd
  have qa1 := f30.2
  unfold postb_199vk692 at qa1
  have a1 := at8 sm1 tp_0 qa1 (by omega) (by omega) (by omega)
  rw [show (n15).toNat = (n1).toNat + 1 by omega] at a1
  have sm2 := SMT_trans sm1 (SMT_fr f30.1.2.1 (by decide +kernel))
  have ks_1 := KS5_le f30.1.1 ks_0
  have tp_1 := TP_le f30.1.1 tp_0
  have wd_1 := WDS_fr f30.1.1 f30.1.2.1 (by decide +kernel) wd_0
  have pk := f37.2
  unfold postb_131v at pk
  have sm3 := SMT_trans sm2 (SMT_fr f37.1.2.1 (by decide +kernel))
  have ks_2 := KS5_le f37.1.1 ks_1
  have tp_2 := TP_le f37.1.1 tp_1
  have wd_2 := WDS_fr f37.1.1 f37.1.2.1 (by decide +kernel) wd_1
  have sk := f42.2
  unfold postb_132v at sk
  have sm4 := SMT_trans sm3 (SMT_fr f42.1.2.1 (by decide +kernel))
  have ks_3 := KS5_le f42.1.1 ks_2
  have tp_3 := TP_le f42.1.1 tp_2
  have wd_3 := WDS_fr f42.1.1 f42.1.2.1 (by decide +kernel) wd_2
  rw [a0] at pk
  rw [a0] at sk
  unfold postb_127v ONE
  have lt := f44.2
  unfold postb_126v at lt
  have nt := NTp_from sm4 lt.1
  rw [f43] at nt
  first
  | exact absurd rfl (by omega)
  | (rw [sk] at nt
     exact ⟨.inr (.inr (.inr (.inr ⟨by omega, by omega, by omega, by omega, by omega, nt⟩))), lt.2⟩)
theorem c_127v_s_74 : vOkm T0 (eP e_127v L_127v A_127v mu_127v none) 4 ([(1, [24, 2, 23], [], 0), (0, [23], [], 1), (1126, [0, 21, 2, 22], [4, 5], 0), (0, [22], [], 0), (1132, [21, 4], [3, 4], 0), (90, [21], [], -2147483648), (91, [21], [], 2147483647), (40, [19, 20], [], 0), (0, [20], [], 1), (1131, [19, 4], [2, 3], 0), (90, [19], [], -2147483648), (91, [19], [], 2147483647), (31, [18], [], 0), (0, [18], [], 1), (40, [16, 17], [], 0), (0, [17], [], 61), (1199, [16, 1, 15], [1, 2], 0), (90, [16], [], -2147483648), (91, [16], [], 2147483647), (1, [15, 2, 14], [], 0), (0, [14], [], 1), (42, [13, 3], [], 0), (1, [13, 2, 12], [], 0), (0, [12], [], 1), (42, [4, 11], [], 0), (0, [11], [], 48), (44, [4, 10], [], 0), (0, [10], [], 122), (43, [4, 9], [], 0), (0, [9], [], 97), (41, [4, 8], [], 0), (0, [8], [], 32), (41, [4, 7], [], 0), (0, [7], [], 13), (41, [4, 6], [], 0), (0, [6], [], 10), (41, [4, 5], [], 0), (0, [5], [], 9), (1199, [4, 1, 2], [0, 1], 0), (90, [4], [], -2147483648), (91, [4], [], 2147483647), (6000, [0, 1, 2, 3], [0], 0), (0, [0], [], 31), (90, [2], [], -2147483648), (91, [2], [], 2147483647), (90, [3], [], -2147483648), (91, [3], [], 2147483647)], (3000, [24], [5], 157)) := vOk_in fun ρ η h => by
  obtain ⟨f0, f1, f2, f3, f4, f5, f6, f7, f8, f9, f10, f11, f12, f13, f14, f15, f16, f17, f18, f19, f20, f21, f22, f23, f24, f25, f26, f27, f28, f29, f30, f31, f32, f33, f34, f35, f36, f37, f38, f39, f40, f41, f42, f43, f44, f45, f46, _⟩ := h
  exact q_127v_74 (n0 := ρ 3) (n1 := ρ 2) (n2 := ρ 0) (n3 := ρ 1) (n4 := ρ 4) (n5 := ρ 5) (n6 := ρ 6) (n7 := ρ 7) (n8 := ρ 8) (n9 := ρ 9) (n10 := ρ 10) (n11 := ρ 11) (n12 := ρ 12) (n13 := ρ 13) (n14 := ρ 14) (n15 := ρ 15) (n16 := ρ 16) (n17 := ρ 17) (n18 := ρ 18) (n19 := ρ 19) (n20 := ρ 20) (n21 := ρ 21) (n22 := ρ 22) (n23 := ρ 23) (n24 := ρ 24) (H0 := η 0) (H1 := η 1) (H2 := η 2) (H3 := η 3) (H4 := η 4) (H5 := η 5) f46 f45 f44 f43 f42 f41 f40 f39 f38 f37 f36 f35 f34 f33 f32 f31 f30 f29 f28 f27 f26 f25 f24 f23 f22 f21 f20 f19 f18 f17 f16 f15 f14 f13 f12 f11 f10 f9 f8 f7 f6 f5 f4 f3 f2 f1 f0
theorem q_127v_75 {n0 n1 n2 n3 n4 n5 n6 n7 n8 n9 n10 n11 n12 n13 n14 n15 n16 n17 n18 n19 n20 n21 : Int} {H0 H1 H2 H3 : gH} (f0 : n0 ≤ 2147483647) (f1 : (-2147483648) ≤ n0) (f2 : n1 ≤ 2147483647) (f3 : (-2147483648) ≤ n1) (f4 : n2 = 31) (f5 : hWt T0 H0 ∧ preb_127v n2 n3 n1 n0 H0) (f6 : n4 ≤ 2147483647) (f7 : (-2147483648) ≤ n4) (f8 : (hLe T0 H0 H1 ∧ hFr s_199vk692.2.2.2.2 H0 H1 ∧ ((0 : Int) = 0 → H1.length = H0.length) ∧ hWt T0 H1) ∧ postb_199vk692 n4 n3 n1 H0 H1) (f9 : n5 = 9) (f10 : n4 ≠ n5) (f11 : n6 = 10) (f12 : n4 ≠ n6) (f13 : n7 = 13) (f14 : n4 ≠ n7) (f15 : n8 = 32) (f16 : n4 ≠ n8) (f17 : n9 = 97) (f18 : n9 ≤ n4) (f19 : n10 = 122) (f20 : n10 < n4) (f21 : n11 = 48) (f22 : n4 < n11) (f23 : n12 = 1) (f24 : n13 = w32 (n1 + n12)) (f25 : n13 < n0) (f26 : n14 = 1) (f27 : n15 = w32 (n1 + n14)) (f28 : n16 ≤ 2147483647) (f29 : (-2147483648) ≤ n16) (f30 : (hLe T0 H1 H2 ∧ hFr s_199vk692.2.2.2.2 H1 H2 ∧ ((0 : Int) = 0 → H2.length = H1.length) ∧ hWt T0 H2) ∧ postb_199vk692 n16 n3 n15 H1 H2) (f31 : n17 = 61) (f32 : n16 = n17) (f33 : n18 = 1) (f34 : n18 ≠ 0) (f35 : n19 ≤ 2147483647) (f36 : (-2147483648) ≤ n19) (f37 : (hLe T0 H2 H3 ∧ hFr s_131v.2.2.2.2 H2 H3 ∧ ((0 : Int) = 0 → H3.length = H2.length) ∧ hWt T0 H3) ∧ postb_131v n19 n4 H2 H3) (f38 : n20 = 1) (f39 : n19 ≠ n20) (f40 : n21 = 0) : preb_126v n2 n19 n1 n21 H3 := by
  have pz := f5.2
  unfold preb_127v at pz
  obtain ⟨ks, tp, wd, b0, b1, b2, b3, c0, c1⟩ := pz
  have et : ((n1).toNat : Int) = n1 := Int.toNat_of_nonneg b1
  have sm0 : SMT H0 H0 := SMT_rfl
  have wq24 := f24
  unfold w32 at wq24
  have wq27 := f27
  unfold w32 at wq27
  have qa0 := f8.2
  unfold postb_199vk692 at qa0
  have a0 := at8 sm0 tp qa0 (by omega) (by omega) (by omega)
  have sm1 := SMT_trans sm0 (SMT_fr f8.1.2.1 (by decide +kernel))
  have ks_0 := KS5_le f8.1.1 ks
  have tp_0 := TP_le f8.1.1 tp
  have wd_0 := WDS_fr f8.1.1 f8.1.2.1 (by decide +kernel) wd
  have qa1 := f30.2
  unfold postb_199vk692 at qa1
  have a1 := at8 sm1 tp_0 qa1 (by omega) (by omega) (by omega)
  rw [show (n15).toNat = (n1).toNat + 1 by omega] at a1
  have sm2 := SMT_trans sm1 (SMT_fr f30.1.2.1 (by decide +kernel))
  have ks_1 := KS5_le f30.1.1 ks_0
  have tp_1 := TP_le f30.1.1 tp_0
  have wd_1 := WDS_fr f30.1.1 f30.1.2.1 (by decide +kernel) wd_0
  have pk := f37.2
  unfold postb_131v at pk
  have sm3 := SMT_trans sm2 (SMT_fr f37.1.2.1 (by decide +kernel))
  have ks_2 := KS5_le f37.1.1 ks_1
  have tp_2 := TP_le f37.1.1 tp_1
  have wd_2 := WDS_fr f37.1.1 f37.1.2.1 (by decide +kernel) wd_1
  rw [a0] at pk
  unfold preb_126v
  exact ⟨ks_2, by rw [sm3.1]; exact c0, by rw [sm3.1]; exact c1⟩
theorem c_127v_s_75 : vOkm T0 (eP e_127v L_127v A_127v mu_127v none) 4 ([(0, [21], [], 0), (41, [19, 20], [], 0), (0, [20], [], 1), (1131, [19, 4], [2, 3], 0), (90, [19], [], -2147483648), (91, [19], [], 2147483647), (31, [18], [], 0), (0, [18], [], 1), (40, [16, 17], [], 0), (0, [17], [], 61), (1199, [16, 1, 15], [1, 2], 0), (90, [16], [], -2147483648), (91, [16], [], 2147483647), (1, [15, 2, 14], [], 0), (0, [14], [], 1), (42, [13, 3], [], 0), (1, [13, 2, 12], [], 0), (0, [12], [], 1), (42, [4, 11], [], 0), (0, [11], [], 48), (44, [4, 10], [], 0), (0, [10], [], 122), (43, [4, 9], [], 0), (0, [9], [], 97), (41, [4, 8], [], 0), (0, [8], [], 32), (41, [4, 7], [], 0), (0, [7], [], 13), (41, [4, 6], [], 0), (0, [6], [], 10), (41, [4, 5], [], 0), (0, [5], [], 9), (1199, [4, 1, 2], [0, 1], 0), (90, [4], [], -2147483648), (91, [4], [], 2147483647), (6000, [0, 1, 2, 3], [0], 0), (0, [0], [], 31), (90, [2], [], -2147483648), (91, [2], [], 2147483647), (90, [3], [], -2147483648), (91, [3], [], 2147483647)], (2126, [0, 19, 2, 21], [3], 0)) := vOk_in fun ρ η h => by
  obtain ⟨f0, f1, f2, f3, f4, f5, f6, f7, f8, f9, f10, f11, f12, f13, f14, f15, f16, f17, f18, f19, f20, f21, f22, f23, f24, f25, f26, f27, f28, f29, f30, f31, f32, f33, f34, f35, f36, f37, f38, f39, f40, _⟩ := h
  exact q_127v_75 (n0 := ρ 3) (n1 := ρ 2) (n2 := ρ 0) (n3 := ρ 1) (n4 := ρ 4) (n5 := ρ 5) (n6 := ρ 6) (n7 := ρ 7) (n8 := ρ 8) (n9 := ρ 9) (n10 := ρ 10) (n11 := ρ 11) (n12 := ρ 12) (n13 := ρ 13) (n14 := ρ 14) (n15 := ρ 15) (n16 := ρ 16) (n17 := ρ 17) (n18 := ρ 18) (n19 := ρ 19) (n20 := ρ 20) (n21 := ρ 21) (H0 := η 0) (H1 := η 1) (H2 := η 2) (H3 := η 3) f40 f39 f38 f37 f36 f35 f34 f33 f32 f31 f30 f29 f28 f27 f26 f25 f24 f23 f22 f21 f20 f19 f18 f17 f16 f15 f14 f13 f12 f11 f10 f9 f8 f7 f6 f5 f4 f3 f2 f1 f0
theorem q_127v_76 {n0 n1 n2 n3 n4 n5 n6 n7 n8 n9 n10 n11 n12 n13 n14 n15 n16 n17 n18 n19 n20 n21 n22 n23 : Int} {H0 H1 H2 H3 H4 : gH} (f0 : n0 ≤ 2147483647) (f1 : (-2147483648) ≤ n0) (f2 : n1 ≤ 2147483647) (f3 : (-2147483648) ≤ n1) (f4 : n2 = 31) (f5 : hWt T0 H0 ∧ preb_127v n2 n3 n1 n0 H0) (f6 : n4 ≤ 2147483647) (f7 : (-2147483648) ≤ n4) (f8 : (hLe T0 H0 H1 ∧ hFr s_199vk692.2.2.2.2 H0 H1 ∧ ((0 : Int) = 0 → H1.length = H0.length) ∧ hWt T0 H1) ∧ postb_199vk692 n4 n3 n1 H0 H1) (f9 : n5 = 9) (f10 : n4 ≠ n5) (f11 : n6 = 10) (f12 : n4 ≠ n6) (f13 : n7 = 13) (f14 : n4 ≠ n7) (f15 : n8 = 32) (f16 : n4 ≠ n8) (f17 : n9 = 97) (f18 : n9 ≤ n4) (f19 : n10 = 122) (f20 : n10 < n4) (f21 : n11 = 48) (f22 : n4 < n11) (f23 : n12 = 1) (f24 : n13 = w32 (n1 + n12)) (f25 : n13 < n0) (f26 : n14 = 1) (f27 : n15 = w32 (n1 + n14)) (f28 : n16 ≤ 2147483647) (f29 : (-2147483648) ≤ n16) (f30 : (hLe T0 H1 H2 ∧ hFr s_199vk692.2.2.2.2 H1 H2 ∧ ((0 : Int) = 0 → H2.length = H1.length) ∧ hWt T0 H2) ∧ postb_199vk692 n16 n3 n15 H1 H2) (f31 : n17 = 61) (f32 : n16 = n17) (f33 : n18 = 1) (f34 : n18 ≠ 0) (f35 : n19 ≤ 2147483647) (f36 : (-2147483648) ≤ n19) (f37 : (hLe T0 H2 H3 ∧ hFr s_131v.2.2.2.2 H2 H3 ∧ ((0 : Int) = 0 → H3.length = H2.length) ∧ hWt T0 H3) ∧ postb_131v n19 n4 H2 H3) (f38 : n20 = 1) (f39 : n19 ≠ n20) (f40 : n21 = 0) (f41 : (hLe T0 H3 H4 ∧ hFr s_126v.2.2.2.2 H3 H4 ∧ ((0 : Int) = 0 → H4.length = H3.length) ∧ hWt T0 H4) ∧ postb_126v n2 n19 n1 n21 H3 H4) (f42 : n22 = 2) (f43 : n23 = w32 (n1 + n22)) : postb_127v n23 n2 n3 n1 n0 H0 H4 := by
  have pz := f5.2
  unfold preb_127v at pz
  obtain ⟨ks, tp, wd, b0, b1, b2, b3, c0, c1⟩ := pz
  have et : ((n1).toNat : Int) = n1 := Int.toNat_of_nonneg b1
  have sm0 : SMT H0 H0 := SMT_rfl
  have wq24 := f24
  unfold w32 at wq24
  have wq27 := f27
  unfold w32 at wq27
  have wq43 := f43
  unfold w32 at wq43
  have qa0 := f8.2
  unfold postb_199vk692 at qa0
  have a0 := at8 sm0 tp qa0 (by omega) (by omega) (by omega)
  have sm1 := SMT_trans sm0 (SMT_fr f8.1.2.1 (by decide +kernel))
  have ks_0 := KS5_le f8.1.1 ks
  have tp_0 := TP_le f8.1.1 tp
  have wd_0 := WDS_fr f8.1.1 f8.1.2.1 (by decide +kernel) wd
  have qa1 := f30.2
  unfold postb_199vk692 at qa1
  have a1 := at8 sm1 tp_0 qa1 (by omega) (by omega) (by omega)
  rw [show (n15).toNat = (n1).toNat + 1 by omega] at a1
  have sm2 := SMT_trans sm1 (SMT_fr f30.1.2.1 (by decide +kernel))
  have ks_1 := KS5_le f30.1.1 ks_0
  have tp_1 := TP_le f30.1.1 tp_0
  have wd_1 := WDS_fr f30.1.1 f30.1.2.1 (by decide +kernel) wd_0
  have pk := f37.2
  unfold postb_131v at pk
  have sm3 := SMT_trans sm2 (SMT_fr f37.1.2.1 (by decide +kernel))
  have ks_2 := KS5_le f37.1.1 ks_1
  have tp_2 := TP_le f37.1.1 tp_1
  have wd_2 := WDS_fr f37.1.1 f37.1.2.1 (by decide +kernel) wd_1
  rw [a0] at pk
  unfold postb_127v ONE
  have lt := f41.2
  unfold postb_126v at lt
  have nt := NTp_from sm3 lt.1
  rw [f40] at nt
  first
  | (exfalso; omega)
  | (rw [pk] at nt
     exact ⟨.inr (.inr (.inr (.inl ⟨by omega, by omega, by omega, ⟨by omega, by omega, by omega⟩, by omega, nt⟩))), lt.2⟩)
theorem c_127v_s_76 : vOkm T0 (eP e_127v L_127v A_127v mu_127v none) 4 ([(1, [23, 2, 22], [], 0), (0, [22], [], 2), (1126, [0, 19, 2, 21], [3, 4], 0), (0, [21], [], 0), (41, [19, 20], [], 0), (0, [20], [], 1), (1131, [19, 4], [2, 3], 0), (90, [19], [], -2147483648), (91, [19], [], 2147483647), (31, [18], [], 0), (0, [18], [], 1), (40, [16, 17], [], 0), (0, [17], [], 61), (1199, [16, 1, 15], [1, 2], 0), (90, [16], [], -2147483648), (91, [16], [], 2147483647), (1, [15, 2, 14], [], 0), (0, [14], [], 1), (42, [13, 3], [], 0), (1, [13, 2, 12], [], 0), (0, [12], [], 1), (42, [4, 11], [], 0), (0, [11], [], 48), (44, [4, 10], [], 0), (0, [10], [], 122), (43, [4, 9], [], 0), (0, [9], [], 97), (41, [4, 8], [], 0), (0, [8], [], 32), (41, [4, 7], [], 0), (0, [7], [], 13), (41, [4, 6], [], 0), (0, [6], [], 10), (41, [4, 5], [], 0), (0, [5], [], 9), (1199, [4, 1, 2], [0, 1], 0), (90, [4], [], -2147483648), (91, [4], [], 2147483647), (6000, [0, 1, 2, 3], [0], 0), (0, [0], [], 31), (90, [2], [], -2147483648), (91, [2], [], 2147483647), (90, [3], [], -2147483648), (91, [3], [], 2147483647)], (3000, [23], [4], 142)) := vOk_in fun ρ η h => by
  obtain ⟨f0, f1, f2, f3, f4, f5, f6, f7, f8, f9, f10, f11, f12, f13, f14, f15, f16, f17, f18, f19, f20, f21, f22, f23, f24, f25, f26, f27, f28, f29, f30, f31, f32, f33, f34, f35, f36, f37, f38, f39, f40, f41, f42, f43, _⟩ := h
  exact q_127v_76 (n0 := ρ 3) (n1 := ρ 2) (n2 := ρ 0) (n3 := ρ 1) (n4 := ρ 4) (n5 := ρ 5) (n6 := ρ 6) (n7 := ρ 7) (n8 := ρ 8) (n9 := ρ 9) (n10 := ρ 10) (n11 := ρ 11) (n12 := ρ 12) (n13 := ρ 13) (n14 := ρ 14) (n15 := ρ 15) (n16 := ρ 16) (n17 := ρ 17) (n18 := ρ 18) (n19 := ρ 19) (n20 := ρ 20) (n21 := ρ 21) (n22 := ρ 22) (n23 := ρ 23) (H0 := η 0) (H1 := η 1) (H2 := η 2) (H3 := η 3) (H4 := η 4) f43 f42 f41 f40 f39 f38 f37 f36 f35 f34 f33 f32 f31 f30 f29 f28 f27 f26 f25 f24 f23 f22 f21 f20 f19 f18 f17 f16 f15 f14 f13 f12 f11 f10 f9 f8 f7 f6 f5 f4 f3 f2 f1 f0
theorem q_127v_77 {n0 n1 n2 n3 n4 n5 n6 n7 n8 n9 n10 n11 n12 n13 n14 n15 n16 n17 n18 n19 : Int} {H0 H1 H2 : gH} (f0 : n0 ≤ 2147483647) (f1 : (-2147483648) ≤ n0) (f2 : n1 ≤ 2147483647) (f3 : (-2147483648) ≤ n1) (f4 : n2 = 31) (f5 : hWt T0 H0 ∧ preb_127v n2 n3 n1 n0 H0) (f6 : n4 ≤ 2147483647) (f7 : (-2147483648) ≤ n4) (f8 : (hLe T0 H0 H1 ∧ hFr s_199vk692.2.2.2.2 H0 H1 ∧ ((0 : Int) = 0 → H1.length = H0.length) ∧ hWt T0 H1) ∧ postb_199vk692 n4 n3 n1 H0 H1) (f9 : n5 = 9) (f10 : n4 ≠ n5) (f11 : n6 = 10) (f12 : n4 ≠ n6) (f13 : n7 = 13) (f14 : n4 ≠ n7) (f15 : n8 = 32) (f16 : n4 ≠ n8) (f17 : n9 = 97) (f18 : n9 ≤ n4) (f19 : n10 = 122) (f20 : n10 < n4) (f21 : n11 = 48) (f22 : n11 ≤ n4) (f23 : n12 = 57) (f24 : n12 < n4) (f25 : n13 = 1) (f26 : n14 = w32 (n1 + n13)) (f27 : n0 ≤ n14) (f28 : n15 = 0) (f29 : n15 = 0) (f30 : n16 = 1) (f31 : n17 = 1) (f32 : n16 = n17) (f33 : n18 ≤ 2147483647) (f34 : (-2147483648) ≤ n18) (f35 : (hLe T0 H1 H2 ∧ hFr s_132v.2.2.2.2 H1 H2 ∧ ((0 : Int) = 0 → H2.length = H1.length) ∧ hWt T0 H2) ∧ postb_132v n18 n4 H1 H2) (f36 : n19 = 0) : preb_126v n2 n18 n1 n19 H2 := by
  have pz := f5.2
  unfold preb_127v at pz
  obtain ⟨ks, tp, wd, b0, b1, b2, b3, c0, c1⟩ := pz
  have et : ((n1).toNat : Int) = n1 := Int.toNat_of_nonneg b1
  have sm0 : SMT H0 H0 := SMT_rfl
  have wq26 := f26
  unfold w32 at wq26
  have qa0 := f8.2
  unfold postb_199vk692 at qa0
  have a0 := at8 sm0 tp qa0 (by omega) (by omega) (by omega)
  have sm1 := SMT_trans sm0 (SMT_fr f8.1.2.1 (by decide +kernel))
  have ks_0 := KS5_le f8.1.1 ks
  have tp_0 := TP_le f8.1.1 tp
  have wd_0 := WDS_fr f8.1.1 f8.1.2.1 (by decide +kernel) wd
  have sk := f35.2
  unfold postb_132v at sk
  have sm2 := SMT_trans sm1 (SMT_fr f35.1.2.1 (by decide +kernel))
  have ks_1 := KS5_le f35.1.1 ks_0
  have tp_1 := TP_le f35.1.1 tp_0
  have wd_1 := WDS_fr f35.1.1 f35.1.2.1 (by decide +kernel) wd_0
  rw [a0] at sk
  unfold preb_126v
  exact ⟨ks_1, by rw [sm2.1]; exact c0, by rw [sm2.1]; exact c1⟩
theorem c_127v_s_77 : vOkm T0 (eP e_127v L_127v A_127v mu_127v none) 4 ([(0, [19], [], 0), (1132, [18, 4], [1, 2], 0), (90, [18], [], -2147483648), (91, [18], [], 2147483647), (40, [16, 17], [], 0), (0, [17], [], 1), (0, [16], [], 1), (30, [15], [], 0), (0, [15], [], 0), (43, [14, 3], [], 0), (1, [14, 2, 13], [], 0), (0, [13], [], 1), (44, [4, 12], [], 0), (0, [12], [], 57), (43, [4, 11], [], 0), (0, [11], [], 48), (44, [4, 10], [], 0), (0, [10], [], 122), (43, [4, 9], [], 0), (0, [9], [], 97), (41, [4, 8], [], 0), (0, [8], [], 32), (41, [4, 7], [], 0), (0, [7], [], 13), (41, [4, 6], [], 0), (0, [6], [], 10), (41, [4, 5], [], 0), (0, [5], [], 9), (1199, [4, 1, 2], [0, 1], 0), (90, [4], [], -2147483648), (91, [4], [], 2147483647), (6000, [0, 1, 2, 3], [0], 0), (0, [0], [], 31), (90, [2], [], -2147483648), (91, [2], [], 2147483647), (90, [3], [], -2147483648), (91, [3], [], 2147483647)], (2126, [0, 18, 2, 19], [2], 0)) := vOk_in fun ρ η h => by
  obtain ⟨f0, f1, f2, f3, f4, f5, f6, f7, f8, f9, f10, f11, f12, f13, f14, f15, f16, f17, f18, f19, f20, f21, f22, f23, f24, f25, f26, f27, f28, f29, f30, f31, f32, f33, f34, f35, f36, _⟩ := h
  exact q_127v_77 (n0 := ρ 3) (n1 := ρ 2) (n2 := ρ 0) (n3 := ρ 1) (n4 := ρ 4) (n5 := ρ 5) (n6 := ρ 6) (n7 := ρ 7) (n8 := ρ 8) (n9 := ρ 9) (n10 := ρ 10) (n11 := ρ 11) (n12 := ρ 12) (n13 := ρ 13) (n14 := ρ 14) (n15 := ρ 15) (n16 := ρ 16) (n17 := ρ 17) (n18 := ρ 18) (n19 := ρ 19) (H0 := η 0) (H1 := η 1) (H2 := η 2) f36 f35 f34 f33 f32 f31 f30 f29 f28 f27 f26 f25 f24 f23 f22 f21 f20 f19 f18 f17 f16 f15 f14 f13 f12 f11 f10 f9 f8 f7 f6 f5 f4 f3 f2 f1 f0
theorem q_127v_78 {n0 n1 n2 n3 n4 n5 n6 n7 n8 n9 n10 n11 n12 n13 n14 n15 n16 n17 n18 n19 n20 n21 : Int} {H0 H1 H2 H3 : gH} (f0 : n0 ≤ 2147483647) (f1 : (-2147483648) ≤ n0) (f2 : n1 ≤ 2147483647) (f3 : (-2147483648) ≤ n1) (f4 : n2 = 31) (f5 : hWt T0 H0 ∧ preb_127v n2 n3 n1 n0 H0) (f6 : n4 ≤ 2147483647) (f7 : (-2147483648) ≤ n4) (f8 : (hLe T0 H0 H1 ∧ hFr s_199vk692.2.2.2.2 H0 H1 ∧ ((0 : Int) = 0 → H1.length = H0.length) ∧ hWt T0 H1) ∧ postb_199vk692 n4 n3 n1 H0 H1) (f9 : n5 = 9) (f10 : n4 ≠ n5) (f11 : n6 = 10) (f12 : n4 ≠ n6) (f13 : n7 = 13) (f14 : n4 ≠ n7) (f15 : n8 = 32) (f16 : n4 ≠ n8) (f17 : n9 = 97) (f18 : n9 ≤ n4) (f19 : n10 = 122) (f20 : n10 < n4) (f21 : n11 = 48) (f22 : n11 ≤ n4) (f23 : n12 = 57) (f24 : n12 < n4) (f25 : n13 = 1) (f26 : n14 = w32 (n1 + n13)) (f27 : n0 ≤ n14) (f28 : n15 = 0) (f29 : n15 = 0) (f30 : n16 = 1) (f31 : n17 = 1) (f32 : n16 = n17) (f33 : n18 ≤ 2147483647) (f34 : (-2147483648) ≤ n18) (f35 : (hLe T0 H1 H2 ∧ hFr s_132v.2.2.2.2 H1 H2 ∧ ((0 : Int) = 0 → H2.length = H1.length) ∧ hWt T0 H2) ∧ postb_132v n18 n4 H1 H2) (f36 : n19 = 0) (f37 : (hLe T0 H2 H3 ∧ hFr s_126v.2.2.2.2 H2 H3 ∧ ((0 : Int) = 0 → H3.length = H2.length) ∧ hWt T0 H3) ∧ postb_126v n2 n18 n1 n19 H2 H3) (f38 : n20 = 1) (f39 : n21 = w32 (n1 + n20)) : postb_127v n21 n2 n3 n1 n0 H0 H3 := by
  have pz := f5.2
  unfold preb_127v at pz
  obtain ⟨ks, tp, wd, b0, b1, b2, b3, c0, c1⟩ := pz
  have et : ((n1).toNat : Int) = n1 := Int.toNat_of_nonneg b1
  have sm0 : SMT H0 H0 := SMT_rfl
  have wq26 := f26
  unfold w32 at wq26
  have wq39 := f39
  unfold w32 at wq39
  have qa0 := f8.2
  unfold postb_199vk692 at qa0
  have a0 := at8 sm0 tp qa0 (by omega) (by omega) (by omega)
  have sm1 := SMT_trans sm0 (SMT_fr f8.1.2.1 (by decide +kernel))
  have ks_0 := KS5_le f8.1.1 ks
  have tp_0 := TP_le f8.1.1 tp
  have wd_0 := WDS_fr f8.1.1 f8.1.2.1 (by decide +kernel) wd
  have sk := f35.2
  unfold postb_132v at sk
  have sm2 := SMT_trans sm1 (SMT_fr f35.1.2.1 (by decide +kernel))
  have ks_1 := KS5_le f35.1.1 ks_0
  have tp_1 := TP_le f35.1.1 tp_0
  have wd_1 := WDS_fr f35.1.1 f35.1.2.1 (by decide +kernel) wd_0
  rw [a0] at sk
  unfold postb_127v ONE
  have lt := f37.2
  unfold postb_126v at lt
  have nt := NTp_from sm2 lt.1
  rw [f36] at nt
  first
  | exact absurd rfl (by omega)
  | (rw [sk] at nt
     exact ⟨.inr (.inr (.inr (.inr ⟨by omega, by omega, by omega, by omega, by omega, nt⟩))), lt.2⟩)
theorem c_127v_s_78 : vOkm T0 (eP e_127v L_127v A_127v mu_127v none) 4 ([(1, [21, 2, 20], [], 0), (0, [20], [], 1), (1126, [0, 18, 2, 19], [2, 3], 0), (0, [19], [], 0), (1132, [18, 4], [1, 2], 0), (90, [18], [], -2147483648), (91, [18], [], 2147483647), (40, [16, 17], [], 0), (0, [17], [], 1), (0, [16], [], 1), (30, [15], [], 0), (0, [15], [], 0), (43, [14, 3], [], 0), (1, [14, 2, 13], [], 0), (0, [13], [], 1), (44, [4, 12], [], 0), (0, [12], [], 57), (43, [4, 11], [], 0), (0, [11], [], 48), (44, [4, 10], [], 0), (0, [10], [], 122), (43, [4, 9], [], 0), (0, [9], [], 97), (41, [4, 8], [], 0), (0, [8], [], 32), (41, [4, 7], [], 0), (0, [7], [], 13), (41, [4, 6], [], 0), (0, [6], [], 10), (41, [4, 5], [], 0), (0, [5], [], 9), (1199, [4, 1, 2], [0, 1], 0), (90, [4], [], -2147483648), (91, [4], [], 2147483647), (6000, [0, 1, 2, 3], [0], 0), (0, [0], [], 31), (90, [2], [], -2147483648), (91, [2], [], 2147483647), (90, [3], [], -2147483648), (91, [3], [], 2147483647)], (3000, [21], [3], 157)) := vOk_in fun ρ η h => by
  obtain ⟨f0, f1, f2, f3, f4, f5, f6, f7, f8, f9, f10, f11, f12, f13, f14, f15, f16, f17, f18, f19, f20, f21, f22, f23, f24, f25, f26, f27, f28, f29, f30, f31, f32, f33, f34, f35, f36, f37, f38, f39, _⟩ := h
  exact q_127v_78 (n0 := ρ 3) (n1 := ρ 2) (n2 := ρ 0) (n3 := ρ 1) (n4 := ρ 4) (n5 := ρ 5) (n6 := ρ 6) (n7 := ρ 7) (n8 := ρ 8) (n9 := ρ 9) (n10 := ρ 10) (n11 := ρ 11) (n12 := ρ 12) (n13 := ρ 13) (n14 := ρ 14) (n15 := ρ 15) (n16 := ρ 16) (n17 := ρ 17) (n18 := ρ 18) (n19 := ρ 19) (n20 := ρ 20) (n21 := ρ 21) (H0 := η 0) (H1 := η 1) (H2 := η 2) (H3 := η 3) f39 f38 f37 f36 f35 f34 f33 f32 f31 f30 f29 f28 f27 f26 f25 f24 f23 f22 f21 f20 f19 f18 f17 f16 f15 f14 f13 f12 f11 f10 f9 f8 f7 f6 f5 f4 f3 f2 f1 f0
theorem q_127v_79 {n0 n1 n2 n3 n4 n5 n6 n7 n8 n9 n10 n11 n12 n13 n14 n15 n16 n17 n18 : Int} {H0 H1 : gH} (f0 : n0 ≤ 2147483647) (f1 : (-2147483648) ≤ n0) (f2 : n1 ≤ 2147483647) (f3 : (-2147483648) ≤ n1) (f4 : n2 = 31) (f5 : hWt T0 H0 ∧ preb_127v n2 n3 n1 n0 H0) (f6 : n4 ≤ 2147483647) (f7 : (-2147483648) ≤ n4) (f8 : (hLe T0 H0 H1 ∧ hFr s_199vk692.2.2.2.2 H0 H1 ∧ ((0 : Int) = 0 → H1.length = H0.length) ∧ hWt T0 H1) ∧ postb_199vk692 n4 n3 n1 H0 H1) (f9 : n5 = 9) (f10 : n4 ≠ n5) (f11 : n6 = 10) (f12 : n4 ≠ n6) (f13 : n7 = 13) (f14 : n4 ≠ n7) (f15 : n8 = 32) (f16 : n4 ≠ n8) (f17 : n9 = 97) (f18 : n9 ≤ n4) (f19 : n10 = 122) (f20 : n10 < n4) (f21 : n11 = 48) (f22 : n11 ≤ n4) (f23 : n12 = 57) (f24 : n12 < n4) (f25 : n13 = 1) (f26 : n14 = w32 (n1 + n13)) (f27 : n0 ≤ n14) (f28 : n15 = 0) (f29 : n15 = 0) (f30 : n16 = 1) (f31 : n17 = 1) (f32 : n16 ≠ n17) (f33 : n18 = 0) : preb_126v n2 n16 n1 n18 H1 := by
  have pz := f5.2
  unfold preb_127v at pz
  obtain ⟨ks, tp, wd, b0, b1, b2, b3, c0, c1⟩ := pz
  have et : ((n1).toNat : Int) = n1 := Int.toNat_of_nonneg b1
  have sm0 : SMT H0 H0 := SMT_rfl
  have wq26 := f26
  unfold w32 at wq26
  have qa0 := f8.2
  unfold postb_199vk692 at qa0
  have a0 := at8 sm0 tp qa0 (by omega) (by omega) (by omega)
  have sm1 := SMT_trans sm0 (SMT_fr f8.1.2.1 (by decide +kernel))
  have ks_0 := KS5_le f8.1.1 ks
  have tp_0 := TP_le f8.1.1 tp
  have wd_0 := WDS_fr f8.1.1 f8.1.2.1 (by decide +kernel) wd
  unfold preb_126v
  exact ⟨ks_0, by rw [sm1.1]; exact c0, by rw [sm1.1]; exact c1⟩
theorem c_127v_s_79 : vOkm T0 (eP e_127v L_127v A_127v mu_127v none) 4 ([(0, [18], [], 0), (41, [16, 17], [], 0), (0, [17], [], 1), (0, [16], [], 1), (30, [15], [], 0), (0, [15], [], 0), (43, [14, 3], [], 0), (1, [14, 2, 13], [], 0), (0, [13], [], 1), (44, [4, 12], [], 0), (0, [12], [], 57), (43, [4, 11], [], 0), (0, [11], [], 48), (44, [4, 10], [], 0), (0, [10], [], 122), (43, [4, 9], [], 0), (0, [9], [], 97), (41, [4, 8], [], 0), (0, [8], [], 32), (41, [4, 7], [], 0), (0, [7], [], 13), (41, [4, 6], [], 0), (0, [6], [], 10), (41, [4, 5], [], 0), (0, [5], [], 9), (1199, [4, 1, 2], [0, 1], 0), (90, [4], [], -2147483648), (91, [4], [], 2147483647), (6000, [0, 1, 2, 3], [0], 0), (0, [0], [], 31), (90, [2], [], -2147483648), (91, [2], [], 2147483647), (90, [3], [], -2147483648), (91, [3], [], 2147483647)], (2126, [0, 16, 2, 18], [1], 0)) := vOk_in fun ρ η h => by
  obtain ⟨f0, f1, f2, f3, f4, f5, f6, f7, f8, f9, f10, f11, f12, f13, f14, f15, f16, f17, f18, f19, f20, f21, f22, f23, f24, f25, f26, f27, f28, f29, f30, f31, f32, f33, _⟩ := h
  exact q_127v_79 (n0 := ρ 3) (n1 := ρ 2) (n2 := ρ 0) (n3 := ρ 1) (n4 := ρ 4) (n5 := ρ 5) (n6 := ρ 6) (n7 := ρ 7) (n8 := ρ 8) (n9 := ρ 9) (n10 := ρ 10) (n11 := ρ 11) (n12 := ρ 12) (n13 := ρ 13) (n14 := ρ 14) (n15 := ρ 15) (n16 := ρ 16) (n17 := ρ 17) (n18 := ρ 18) (H0 := η 0) (H1 := η 1) f33 f32 f31 f30 f29 f28 f27 f26 f25 f24 f23 f22 f21 f20 f19 f18 f17 f16 f15 f14 f13 f12 f11 f10 f9 f8 f7 f6 f5 f4 f3 f2 f1 f0
theorem q_127v_80 {n0 n1 n2 n3 n4 n5 n6 n7 n8 n9 n10 n11 n12 n13 n14 n15 n16 n17 n18 n19 n20 : Int} {H0 H1 H2 : gH} (f0 : n0 ≤ 2147483647) (f1 : (-2147483648) ≤ n0) (f2 : n1 ≤ 2147483647) (f3 : (-2147483648) ≤ n1) (f4 : n2 = 31) (f5 : hWt T0 H0 ∧ preb_127v n2 n3 n1 n0 H0) (f6 : n4 ≤ 2147483647) (f7 : (-2147483648) ≤ n4) (f8 : (hLe T0 H0 H1 ∧ hFr s_199vk692.2.2.2.2 H0 H1 ∧ ((0 : Int) = 0 → H1.length = H0.length) ∧ hWt T0 H1) ∧ postb_199vk692 n4 n3 n1 H0 H1) (f9 : n5 = 9) (f10 : n4 ≠ n5) (f11 : n6 = 10) (f12 : n4 ≠ n6) (f13 : n7 = 13) (f14 : n4 ≠ n7) (f15 : n8 = 32) (f16 : n4 ≠ n8) (f17 : n9 = 97) (f18 : n9 ≤ n4) (f19 : n10 = 122) (f20 : n10 < n4) (f21 : n11 = 48) (f22 : n11 ≤ n4) (f23 : n12 = 57) (f24 : n12 < n4) (f25 : n13 = 1) (f26 : n14 = w32 (n1 + n13)) (f27 : n0 ≤ n14) (f28 : n15 = 0) (f29 : n15 = 0) (f30 : n16 = 1) (f31 : n17 = 1) (f32 : n16 ≠ n17) (f33 : n18 = 0) (f34 : (hLe T0 H1 H2 ∧ hFr s_126v.2.2.2.2 H1 H2 ∧ ((0 : Int) = 0 → H2.length = H1.length) ∧ hWt T0 H2) ∧ postb_126v n2 n16 n1 n18 H1 H2) (f35 : n19 = 2) (f36 : n20 = w32 (n1 + n19)) : postb_127v n20 n2 n3 n1 n0 H0 H2 := by
  have pz := f5.2
  unfold preb_127v at pz
  obtain ⟨ks, tp, wd, b0, b1, b2, b3, c0, c1⟩ := pz
  have et : ((n1).toNat : Int) = n1 := Int.toNat_of_nonneg b1
  have sm0 : SMT H0 H0 := SMT_rfl
  have wq26 := f26
  unfold w32 at wq26
  have wq36 := f36
  unfold w32 at wq36
  have qa0 := f8.2
  unfold postb_199vk692 at qa0
  have a0 := at8 sm0 tp qa0 (by omega) (by omega) (by omega)
  have sm1 := SMT_trans sm0 (SMT_fr f8.1.2.1 (by decide +kernel))
  have ks_0 := KS5_le f8.1.1 ks
  have tp_0 := TP_le f8.1.1 tp
  have wd_0 := WDS_fr f8.1.1 f8.1.2.1 (by decide +kernel) wd
  unfold postb_127v ONE
  have lt := f34.2
  unfold postb_126v at lt
  have nt := NTp_from sm1 lt.1
  rw [f33] at nt
  first
  | (exfalso; omega)
  | (rw [pk] at nt
     exact ⟨.inr (.inr (.inr (.inl ⟨by omega, by omega, by omega, ⟨by omega, by omega, by omega⟩, by omega, nt⟩))), lt.2⟩)
theorem c_127v_s_80 : vOkm T0 (eP e_127v L_127v A_127v mu_127v none) 4 ([(1, [20, 2, 19], [], 0), (0, [19], [], 2), (1126, [0, 16, 2, 18], [1, 2], 0), (0, [18], [], 0), (41, [16, 17], [], 0), (0, [17], [], 1), (0, [16], [], 1), (30, [15], [], 0), (0, [15], [], 0), (43, [14, 3], [], 0), (1, [14, 2, 13], [], 0), (0, [13], [], 1), (44, [4, 12], [], 0), (0, [12], [], 57), (43, [4, 11], [], 0), (0, [11], [], 48), (44, [4, 10], [], 0), (0, [10], [], 122), (43, [4, 9], [], 0), (0, [9], [], 97), (41, [4, 8], [], 0), (0, [8], [], 32), (41, [4, 7], [], 0), (0, [7], [], 13), (41, [4, 6], [], 0), (0, [6], [], 10), (41, [4, 5], [], 0), (0, [5], [], 9), (1199, [4, 1, 2], [0, 1], 0), (90, [4], [], -2147483648), (91, [4], [], 2147483647), (6000, [0, 1, 2, 3], [0], 0), (0, [0], [], 31), (90, [2], [], -2147483648), (91, [2], [], 2147483647), (90, [3], [], -2147483648), (91, [3], [], 2147483647)], (3000, [20], [2], 142)) := vOk_in fun ρ η h => by
  obtain ⟨f0, f1, f2, f3, f4, f5, f6, f7, f8, f9, f10, f11, f12, f13, f14, f15, f16, f17, f18, f19, f20, f21, f22, f23, f24, f25, f26, f27, f28, f29, f30, f31, f32, f33, f34, f35, f36, _⟩ := h
  exact q_127v_80 (n0 := ρ 3) (n1 := ρ 2) (n2 := ρ 0) (n3 := ρ 1) (n4 := ρ 4) (n5 := ρ 5) (n6 := ρ 6) (n7 := ρ 7) (n8 := ρ 8) (n9 := ρ 9) (n10 := ρ 10) (n11 := ρ 11) (n12 := ρ 12) (n13 := ρ 13) (n14 := ρ 14) (n15 := ρ 15) (n16 := ρ 16) (n17 := ρ 17) (n18 := ρ 18) (n19 := ρ 19) (n20 := ρ 20) (H0 := η 0) (H1 := η 1) (H2 := η 2) f36 f35 f34 f33 f32 f31 f30 f29 f28 f27 f26 f25 f24 f23 f22 f21 f20 f19 f18 f17 f16 f15 f14 f13 f12 f11 f10 f9 f8 f7 f6 f5 f4 f3 f2 f1 f0
theorem q_127v_81 {n0 n1 n2 n3 n4 n5 n6 n7 n8 n9 n10 n11 n12 n13 n14 n15 n16 n17 n18 n19 : Int} {H0 H1 H2 H3 : gH} (f0 : n0 ≤ 2147483647) (f1 : (-2147483648) ≤ n0) (f2 : n1 ≤ 2147483647) (f3 : (-2147483648) ≤ n1) (f4 : n2 = 31) (f5 : hWt T0 H0 ∧ preb_127v n2 n3 n1 n0 H0) (f6 : n4 ≤ 2147483647) (f7 : (-2147483648) ≤ n4) (f8 : (hLe T0 H0 H1 ∧ hFr s_199vk692.2.2.2.2 H0 H1 ∧ ((0 : Int) = 0 → H1.length = H0.length) ∧ hWt T0 H1) ∧ postb_199vk692 n4 n3 n1 H0 H1) (f9 : n5 = 9) (f10 : n4 ≠ n5) (f11 : n6 = 10) (f12 : n4 ≠ n6) (f13 : n7 = 13) (f14 : n4 ≠ n7) (f15 : n8 = 32) (f16 : n4 ≠ n8) (f17 : n9 = 97) (f18 : n9 ≤ n4) (f19 : n10 = 122) (f20 : n10 < n4) (f21 : n11 = 48) (f22 : n11 ≤ n4) (f23 : n12 = 57) (f24 : n12 < n4) (f25 : n13 = 1) (f26 : n14 = w32 (n1 + n13)) (f27 : n0 ≤ n14) (f28 : n15 = 0) (f29 : n15 ≠ 0) (f30 : n16 ≤ 2147483647) (f31 : (-2147483648) ≤ n16) (f32 : (hLe T0 H1 H2 ∧ hFr s_131v.2.2.2.2 H1 H2 ∧ ((0 : Int) = 0 → H2.length = H1.length) ∧ hWt T0 H2) ∧ postb_131v n16 n4 H1 H2) (f33 : n17 = 1) (f34 : n16 = n17) (f35 : n18 ≤ 2147483647) (f36 : (-2147483648) ≤ n18) (f37 : (hLe T0 H2 H3 ∧ hFr s_132v.2.2.2.2 H2 H3 ∧ ((0 : Int) = 0 → H3.length = H2.length) ∧ hWt T0 H3) ∧ postb_132v n18 n4 H2 H3) (f38 : n19 = 0) : preb_126v n2 n18 n1 n19 H3 := by
  have pz := f5.2
  unfold preb_127v at pz
  obtain ⟨ks, tp, wd, b0, b1, b2, b3, c0, c1⟩ := pz
  have et : ((n1).toNat : Int) = n1 := Int.toNat_of_nonneg b1
  have sm0 : SMT H0 H0 := SMT_rfl
  have wq26 := f26
  unfold w32 at wq26
  have qa0 := f8.2
  unfold postb_199vk692 at qa0
  have a0 := at8 sm0 tp qa0 (by omega) (by omega) (by omega)
  have sm1 := SMT_trans sm0 (SMT_fr f8.1.2.1 (by decide +kernel))
  have ks_0 := KS5_le f8.1.1 ks
  have tp_0 := TP_le f8.1.1 tp
  have wd_0 := WDS_fr f8.1.1 f8.1.2.1 (by decide +kernel) wd
  have pk := f32.2
  unfold postb_131v at pk
  have sm2 := SMT_trans sm1 (SMT_fr f32.1.2.1 (by decide +kernel))
  have ks_1 := KS5_le f32.1.1 ks_0
  have tp_1 := TP_le f32.1.1 tp_0
  have wd_1 := WDS_fr f32.1.1 f32.1.2.1 (by decide +kernel) wd_0
  have sk := f37.2
  unfold postb_132v at sk
  have sm3 := SMT_trans sm2 (SMT_fr f37.1.2.1 (by decide +kernel))
  have ks_2 := KS5_le f37.1.1 ks_1
  have tp_2 := TP_le f37.1.1 tp_1
  have wd_2 := WDS_fr f37.1.1 f37.1.2.1 (by decide +kernel) wd_1
  rw [a0] at pk
  rw [a0] at sk
  unfold preb_126v
  exact ⟨ks_2, by rw [sm3.1]; exact c0, by rw [sm3.1]; exact c1⟩
theorem c_127v_s_81 : vOkm T0 (eP e_127v L_127v A_127v mu_127v none) 4 ([(0, [19], [], 0), (1132, [18, 4], [2, 3], 0), (90, [18], [], -2147483648), (91, [18], [], 2147483647), (40, [16, 17], [], 0), (0, [17], [], 1), (1131, [16, 4], [1, 2], 0), (90, [16], [], -2147483648), (91, [16], [], 2147483647), (31, [15], [], 0), (0, [15], [], 0), (43, [14, 3], [], 0), (1, [14, 2, 13], [], 0), (0, [13], [], 1), (44, [4, 12], [], 0), (0, [12], [], 57), (43, [4, 11], [], 0), (0, [11], [], 48), (44, [4, 10], [], 0), (0, [10], [], 122), (43, [4, 9], [], 0), (0, [9], [], 97), (41, [4, 8], [], 0), (0, [8], [], 32), (41, [4, 7], [], 0), (0, [7], [], 13), (41, [4, 6], [], 0), (0, [6], [], 10), (41, [4, 5], [], 0), (0, [5], [], 9), (1199, [4, 1, 2], [0, 1], 0), (90, [4], [], -2147483648), (91, [4], [], 2147483647), (6000, [0, 1, 2, 3], [0], 0), (0, [0], [], 31), (90, [2], [], -2147483648), (91, [2], [], 2147483647), (90, [3], [], -2147483648), (91, [3], [], 2147483647)], (2126, [0, 18, 2, 19], [3], 0)) := vOk_in fun ρ η h => by
  obtain ⟨f0, f1, f2, f3, f4, f5, f6, f7, f8, f9, f10, f11, f12, f13, f14, f15, f16, f17, f18, f19, f20, f21, f22, f23, f24, f25, f26, f27, f28, f29, f30, f31, f32, f33, f34, f35, f36, f37, f38, _⟩ := h
  exact q_127v_81 (n0 := ρ 3) (n1 := ρ 2) (n2 := ρ 0) (n3 := ρ 1) (n4 := ρ 4) (n5 := ρ 5) (n6 := ρ 6) (n7 := ρ 7) (n8 := ρ 8) (n9 := ρ 9) (n10 := ρ 10) (n11 := ρ 11) (n12 := ρ 12) (n13 := ρ 13) (n14 := ρ 14) (n15 := ρ 15) (n16 := ρ 16) (n17 := ρ 17) (n18 := ρ 18) (n19 := ρ 19) (H0 := η 0) (H1 := η 1) (H2 := η 2) (H3 := η 3) f38 f37 f36 f35 f34 f33 f32 f31 f30 f29 f28 f27 f26 f25 f24 f23 f22 f21 f20 f19 f18 f17 f16 f15 f14 f13 f12 f11 f10 f9 f8 f7 f6 f5 f4 f3 f2 f1 f0
theorem q_127v_82 {n0 n1 n2 n3 n4 n5 n6 n7 n8 n9 n10 n11 n12 n13 n14 n15 n16 n17 n18 n19 n20 n21 : Int} {H0 H1 H2 H3 H4 : gH} (f0 : n0 ≤ 2147483647) (f1 : (-2147483648) ≤ n0) (f2 : n1 ≤ 2147483647) (f3 : (-2147483648) ≤ n1) (f4 : n2 = 31) (f5 : hWt T0 H0 ∧ preb_127v n2 n3 n1 n0 H0) (f6 : n4 ≤ 2147483647) (f7 : (-2147483648) ≤ n4) (f8 : (hLe T0 H0 H1 ∧ hFr s_199vk692.2.2.2.2 H0 H1 ∧ ((0 : Int) = 0 → H1.length = H0.length) ∧ hWt T0 H1) ∧ postb_199vk692 n4 n3 n1 H0 H1) (f9 : n5 = 9) (f10 : n4 ≠ n5) (f11 : n6 = 10) (f12 : n4 ≠ n6) (f13 : n7 = 13) (f14 : n4 ≠ n7) (f15 : n8 = 32) (f16 : n4 ≠ n8) (f17 : n9 = 97) (f18 : n9 ≤ n4) (f19 : n10 = 122) (f20 : n10 < n4) (f21 : n11 = 48) (f22 : n11 ≤ n4) (f23 : n12 = 57) (f24 : n12 < n4) (f25 : n13 = 1) (f26 : n14 = w32 (n1 + n13)) (f27 : n0 ≤ n14) (f28 : n15 = 0) (f29 : n15 ≠ 0) (f30 : n16 ≤ 2147483647) (f31 : (-2147483648) ≤ n16) (f32 : (hLe T0 H1 H2 ∧ hFr s_131v.2.2.2.2 H1 H2 ∧ ((0 : Int) = 0 → H2.length = H1.length) ∧ hWt T0 H2) ∧ postb_131v n16 n4 H1 H2) (f33 : n17 = 1) (f34 : n16 = n17) (f35 : n18 ≤ 2147483647) (f36 : (-2147483648) ≤ n18) (f37 : (hLe T0 H2 H3 ∧ hFr s_132v.2.2.2.2 H2 H3 ∧ ((0 : Int) = 0 → H3.length = H2.length) ∧ hWt T0 H3) ∧ postb_132v n18 n4 H2 H3) (f38 : n19 = 0) (f39 : (hLe T0 H3 H4 ∧ hFr s_126v.2.2.2.2 H3 H4 ∧ ((0 : Int) = 0 → H4.length = H3.length) ∧ hWt T0 H4) ∧ postb_126v n2 n18 n1 n19 H3 H4) (f40 : n20 = 1) (f41 : n21 = w32 (n1 + n20)) : postb_127v n21 n2 n3 n1 n0 H0 H4 := by
  have pz := f5.2
  unfold preb_127v at pz
  obtain ⟨ks, tp, wd, b0, b1, b2, b3, c0, c1⟩ := pz
  have et : ((n1).toNat : Int) = n1 := Int.toNat_of_nonneg b1
  have sm0 : SMT H0 H0 := SMT_rfl
  have wq26 := f26
  unfold w32 at wq26
  have wq41 := f41
  unfold w32 at wq41
  have qa0 := f8.2
  unfold postb_199vk692 at qa0
  have a0 := at8 sm0 tp qa0 (by omega) (by omega) (by omega)
  have sm1 := SMT_trans sm0 (SMT_fr f8.1.2.1 (by decide +kernel))
  have ks_0 := KS5_le f8.1.1 ks
  have tp_0 := TP_le f8.1.1 tp
  have wd_0 := WDS_fr f8.1.1 f8.1.2.1 (by decide +kernel) wd
  have pk := f32.2
  unfold postb_131v at pk
  have sm2 := SMT_trans sm1 (SMT_fr f32.1.2.1 (by decide +kernel))
  have ks_1 := KS5_le f32.1.1 ks_0
  have tp_1 := TP_le f32.1.1 tp_0
  have wd_1 := WDS_fr f32.1.1 f32.1.2.1 (by decide +kernel) wd_0
  have sk := f37.2
  unfold postb_132v at sk
  have sm3 := SMT_trans sm2 (SMT_fr f37.1.2.1 (by decide +kernel))
  have ks_2 := KS5_le f37.1.1 ks_1
  have tp_2 := TP_le f37.1.1 tp_1
  have wd_2 := WDS_fr f37.1.1 f37.1.2.1 (by decide +kernel) wd_1
  rw [a0] at pk
  rw [a0] at sk
  unfold postb_127v ONE
  have lt := f39.2
  unfold postb_126v at lt
  have nt := NTp_from sm3 lt.1
  rw [f38] at nt
  first
  | exact absurd rfl (by omega)
  | (rw [sk] at nt
     exact ⟨.inr (.inr (.inr (.inr ⟨by omega, by omega, by omega, by omega, by omega, nt⟩))), lt.2⟩)
theorem c_127v_s_82 : vOkm T0 (eP e_127v L_127v A_127v mu_127v none) 4 ([(1, [21, 2, 20], [], 0), (0, [20], [], 1), (1126, [0, 18, 2, 19], [3, 4], 0), (0, [19], [], 0), (1132, [18, 4], [2, 3], 0), (90, [18], [], -2147483648), (91, [18], [], 2147483647), (40, [16, 17], [], 0), (0, [17], [], 1), (1131, [16, 4], [1, 2], 0), (90, [16], [], -2147483648), (91, [16], [], 2147483647), (31, [15], [], 0), (0, [15], [], 0), (43, [14, 3], [], 0), (1, [14, 2, 13], [], 0), (0, [13], [], 1), (44, [4, 12], [], 0), (0, [12], [], 57), (43, [4, 11], [], 0), (0, [11], [], 48), (44, [4, 10], [], 0), (0, [10], [], 122), (43, [4, 9], [], 0), (0, [9], [], 97), (41, [4, 8], [], 0), (0, [8], [], 32), (41, [4, 7], [], 0), (0, [7], [], 13), (41, [4, 6], [], 0), (0, [6], [], 10), (41, [4, 5], [], 0), (0, [5], [], 9), (1199, [4, 1, 2], [0, 1], 0), (90, [4], [], -2147483648), (91, [4], [], 2147483647), (6000, [0, 1, 2, 3], [0], 0), (0, [0], [], 31), (90, [2], [], -2147483648), (91, [2], [], 2147483647), (90, [3], [], -2147483648), (91, [3], [], 2147483647)], (3000, [21], [4], 157)) := vOk_in fun ρ η h => by
  obtain ⟨f0, f1, f2, f3, f4, f5, f6, f7, f8, f9, f10, f11, f12, f13, f14, f15, f16, f17, f18, f19, f20, f21, f22, f23, f24, f25, f26, f27, f28, f29, f30, f31, f32, f33, f34, f35, f36, f37, f38, f39, f40, f41, _⟩ := h
  exact q_127v_82 (n0 := ρ 3) (n1 := ρ 2) (n2 := ρ 0) (n3 := ρ 1) (n4 := ρ 4) (n5 := ρ 5) (n6 := ρ 6) (n7 := ρ 7) (n8 := ρ 8) (n9 := ρ 9) (n10 := ρ 10) (n11 := ρ 11) (n12 := ρ 12) (n13 := ρ 13) (n14 := ρ 14) (n15 := ρ 15) (n16 := ρ 16) (n17 := ρ 17) (n18 := ρ 18) (n19 := ρ 19) (n20 := ρ 20) (n21 := ρ 21) (H0 := η 0) (H1 := η 1) (H2 := η 2) (H3 := η 3) (H4 := η 4) f41 f40 f39 f38 f37 f36 f35 f34 f33 f32 f31 f30 f29 f28 f27 f26 f25 f24 f23 f22 f21 f20 f19 f18 f17 f16 f15 f14 f13 f12 f11 f10 f9 f8 f7 f6 f5 f4 f3 f2 f1 f0
theorem q_127v_83 {n0 n1 n2 n3 n4 n5 n6 n7 n8 n9 n10 n11 n12 n13 n14 n15 n16 n17 n18 : Int} {H0 H1 H2 : gH} (f0 : n0 ≤ 2147483647) (f1 : (-2147483648) ≤ n0) (f2 : n1 ≤ 2147483647) (f3 : (-2147483648) ≤ n1) (f4 : n2 = 31) (f5 : hWt T0 H0 ∧ preb_127v n2 n3 n1 n0 H0) (f6 : n4 ≤ 2147483647) (f7 : (-2147483648) ≤ n4) (f8 : (hLe T0 H0 H1 ∧ hFr s_199vk692.2.2.2.2 H0 H1 ∧ ((0 : Int) = 0 → H1.length = H0.length) ∧ hWt T0 H1) ∧ postb_199vk692 n4 n3 n1 H0 H1) (f9 : n5 = 9) (f10 : n4 ≠ n5) (f11 : n6 = 10) (f12 : n4 ≠ n6) (f13 : n7 = 13) (f14 : n4 ≠ n7) (f15 : n8 = 32) (f16 : n4 ≠ n8) (f17 : n9 = 97) (f18 : n9 ≤ n4) (f19 : n10 = 122) (f20 : n10 < n4) (f21 : n11 = 48) (f22 : n11 ≤ n4) (f23 : n12 = 57) (f24 : n12 < n4) (f25 : n13 = 1) (f26 : n14 = w32 (n1 + n13)) (f27 : n0 ≤ n14) (f28 : n15 = 0) (f29 : n15 ≠ 0) (f30 : n16 ≤ 2147483647) (f31 : (-2147483648) ≤ n16) (f32 : (hLe T0 H1 H2 ∧ hFr s_131v.2.2.2.2 H1 H2 ∧ ((0 : Int) = 0 → H2.length = H1.length) ∧ hWt T0 H2) ∧ postb_131v n16 n4 H1 H2) (f33 : n17 = 1) (f34 : n16 ≠ n17) (f35 : n18 = 0) : preb_126v n2 n16 n1 n18 H2 := by
  have pz := f5.2
  unfold preb_127v at pz
  obtain ⟨ks, tp, wd, b0, b1, b2, b3, c0, c1⟩ := pz
  have et : ((n1).toNat : Int) = n1 := Int.toNat_of_nonneg b1
  have sm0 : SMT H0 H0 := SMT_rfl
  have wq26 := f26
  unfold w32 at wq26
  have qa0 := f8.2
  unfold postb_199vk692 at qa0
  have a0 := at8 sm0 tp qa0 (by omega) (by omega) (by omega)
  have sm1 := SMT_trans sm0 (SMT_fr f8.1.2.1 (by decide +kernel))
  have ks_0 := KS5_le f8.1.1 ks
  have tp_0 := TP_le f8.1.1 tp
  have wd_0 := WDS_fr f8.1.1 f8.1.2.1 (by decide +kernel) wd
  have pk := f32.2
  unfold postb_131v at pk
  have sm2 := SMT_trans sm1 (SMT_fr f32.1.2.1 (by decide +kernel))
  have ks_1 := KS5_le f32.1.1 ks_0
  have tp_1 := TP_le f32.1.1 tp_0
  have wd_1 := WDS_fr f32.1.1 f32.1.2.1 (by decide +kernel) wd_0
  rw [a0] at pk
  unfold preb_126v
  exact ⟨ks_1, by rw [sm2.1]; exact c0, by rw [sm2.1]; exact c1⟩
theorem c_127v_s_83 : vOkm T0 (eP e_127v L_127v A_127v mu_127v none) 4 ([(0, [18], [], 0), (41, [16, 17], [], 0), (0, [17], [], 1), (1131, [16, 4], [1, 2], 0), (90, [16], [], -2147483648), (91, [16], [], 2147483647), (31, [15], [], 0), (0, [15], [], 0), (43, [14, 3], [], 0), (1, [14, 2, 13], [], 0), (0, [13], [], 1), (44, [4, 12], [], 0), (0, [12], [], 57), (43, [4, 11], [], 0), (0, [11], [], 48), (44, [4, 10], [], 0), (0, [10], [], 122), (43, [4, 9], [], 0), (0, [9], [], 97), (41, [4, 8], [], 0), (0, [8], [], 32), (41, [4, 7], [], 0), (0, [7], [], 13), (41, [4, 6], [], 0), (0, [6], [], 10), (41, [4, 5], [], 0), (0, [5], [], 9), (1199, [4, 1, 2], [0, 1], 0), (90, [4], [], -2147483648), (91, [4], [], 2147483647), (6000, [0, 1, 2, 3], [0], 0), (0, [0], [], 31), (90, [2], [], -2147483648), (91, [2], [], 2147483647), (90, [3], [], -2147483648), (91, [3], [], 2147483647)], (2126, [0, 16, 2, 18], [2], 0)) := vOk_in fun ρ η h => by
  obtain ⟨f0, f1, f2, f3, f4, f5, f6, f7, f8, f9, f10, f11, f12, f13, f14, f15, f16, f17, f18, f19, f20, f21, f22, f23, f24, f25, f26, f27, f28, f29, f30, f31, f32, f33, f34, f35, _⟩ := h
  exact q_127v_83 (n0 := ρ 3) (n1 := ρ 2) (n2 := ρ 0) (n3 := ρ 1) (n4 := ρ 4) (n5 := ρ 5) (n6 := ρ 6) (n7 := ρ 7) (n8 := ρ 8) (n9 := ρ 9) (n10 := ρ 10) (n11 := ρ 11) (n12 := ρ 12) (n13 := ρ 13) (n14 := ρ 14) (n15 := ρ 15) (n16 := ρ 16) (n17 := ρ 17) (n18 := ρ 18) (H0 := η 0) (H1 := η 1) (H2 := η 2) f35 f34 f33 f32 f31 f30 f29 f28 f27 f26 f25 f24 f23 f22 f21 f20 f19 f18 f17 f16 f15 f14 f13 f12 f11 f10 f9 f8 f7 f6 f5 f4 f3 f2 f1 f0
theorem q_127v_84 {n0 n1 n2 n3 n4 n5 n6 n7 n8 n9 n10 n11 n12 n13 n14 n15 n16 n17 n18 n19 n20 : Int} {H0 H1 H2 H3 : gH} (f0 : n0 ≤ 2147483647) (f1 : (-2147483648) ≤ n0) (f2 : n1 ≤ 2147483647) (f3 : (-2147483648) ≤ n1) (f4 : n2 = 31) (f5 : hWt T0 H0 ∧ preb_127v n2 n3 n1 n0 H0) (f6 : n4 ≤ 2147483647) (f7 : (-2147483648) ≤ n4) (f8 : (hLe T0 H0 H1 ∧ hFr s_199vk692.2.2.2.2 H0 H1 ∧ ((0 : Int) = 0 → H1.length = H0.length) ∧ hWt T0 H1) ∧ postb_199vk692 n4 n3 n1 H0 H1) (f9 : n5 = 9) (f10 : n4 ≠ n5) (f11 : n6 = 10) (f12 : n4 ≠ n6) (f13 : n7 = 13) (f14 : n4 ≠ n7) (f15 : n8 = 32) (f16 : n4 ≠ n8) (f17 : n9 = 97) (f18 : n9 ≤ n4) (f19 : n10 = 122) (f20 : n10 < n4) (f21 : n11 = 48) (f22 : n11 ≤ n4) (f23 : n12 = 57) (f24 : n12 < n4) (f25 : n13 = 1) (f26 : n14 = w32 (n1 + n13)) (f27 : n0 ≤ n14) (f28 : n15 = 0) (f29 : n15 ≠ 0) (f30 : n16 ≤ 2147483647) (f31 : (-2147483648) ≤ n16) (f32 : (hLe T0 H1 H2 ∧ hFr s_131v.2.2.2.2 H1 H2 ∧ ((0 : Int) = 0 → H2.length = H1.length) ∧ hWt T0 H2) ∧ postb_131v n16 n4 H1 H2) (f33 : n17 = 1) (f34 : n16 ≠ n17) (f35 : n18 = 0) (f36 : (hLe T0 H2 H3 ∧ hFr s_126v.2.2.2.2 H2 H3 ∧ ((0 : Int) = 0 → H3.length = H2.length) ∧ hWt T0 H3) ∧ postb_126v n2 n16 n1 n18 H2 H3) (f37 : n19 = 2) (f38 : n20 = w32 (n1 + n19)) : postb_127v n20 n2 n3 n1 n0 H0 H3 := by
  have pz := f5.2
  unfold preb_127v at pz
  obtain ⟨ks, tp, wd, b0, b1, b2, b3, c0, c1⟩ := pz
  have et : ((n1).toNat : Int) = n1 := Int.toNat_of_nonneg b1
  have sm0 : SMT H0 H0 := SMT_rfl
  have wq26 := f26
  unfold w32 at wq26
  have wq38 := f38
  unfold w32 at wq38
  have qa0 := f8.2
  unfold postb_199vk692 at qa0
  have a0 := at8 sm0 tp qa0 (by omega) (by omega) (by omega)
  have sm1 := SMT_trans sm0 (SMT_fr f8.1.2.1 (by decide +kernel))
  have ks_0 := KS5_le f8.1.1 ks
  have tp_0 := TP_le f8.1.1 tp
  have wd_0 := WDS_fr f8.1.1 f8.1.2.1 (by decide +kernel) wd
  have pk := f32.2
  unfold postb_131v at pk
  have sm2 := SMT_trans sm1 (SMT_fr f32.1.2.1 (by decide +kernel))
  have ks_1 := KS5_le f32.1.1 ks_0
  have tp_1 := TP_le f32.1.1 tp_0
  have wd_1 := WDS_fr f32.1.1 f32.1.2.1 (by decide +kernel) wd_0
  rw [a0] at pk
  unfold postb_127v ONE
  have lt := f36.2
  unfold postb_126v at lt
  have nt := NTp_from sm2 lt.1
  rw [f35] at nt
  first
  | (exfalso; omega)
  | (rw [pk] at nt
     exact ⟨.inr (.inr (.inr (.inl ⟨by omega, by omega, by omega, ⟨by omega, by omega, by omega⟩, by omega, nt⟩))), lt.2⟩)
theorem c_127v_s_84 : vOkm T0 (eP e_127v L_127v A_127v mu_127v none) 4 ([(1, [20, 2, 19], [], 0), (0, [19], [], 2), (1126, [0, 16, 2, 18], [2, 3], 0), (0, [18], [], 0), (41, [16, 17], [], 0), (0, [17], [], 1), (1131, [16, 4], [1, 2], 0), (90, [16], [], -2147483648), (91, [16], [], 2147483647), (31, [15], [], 0), (0, [15], [], 0), (43, [14, 3], [], 0), (1, [14, 2, 13], [], 0), (0, [13], [], 1), (44, [4, 12], [], 0), (0, [12], [], 57), (43, [4, 11], [], 0), (0, [11], [], 48), (44, [4, 10], [], 0), (0, [10], [], 122), (43, [4, 9], [], 0), (0, [9], [], 97), (41, [4, 8], [], 0), (0, [8], [], 32), (41, [4, 7], [], 0), (0, [7], [], 13), (41, [4, 6], [], 0), (0, [6], [], 10), (41, [4, 5], [], 0), (0, [5], [], 9), (1199, [4, 1, 2], [0, 1], 0), (90, [4], [], -2147483648), (91, [4], [], 2147483647), (6000, [0, 1, 2, 3], [0], 0), (0, [0], [], 31), (90, [2], [], -2147483648), (91, [2], [], 2147483647), (90, [3], [], -2147483648), (91, [3], [], 2147483647)], (3000, [20], [3], 142)) := vOk_in fun ρ η h => by
  obtain ⟨f0, f1, f2, f3, f4, f5, f6, f7, f8, f9, f10, f11, f12, f13, f14, f15, f16, f17, f18, f19, f20, f21, f22, f23, f24, f25, f26, f27, f28, f29, f30, f31, f32, f33, f34, f35, f36, f37, f38, _⟩ := h
  exact q_127v_84 (n0 := ρ 3) (n1 := ρ 2) (n2 := ρ 0) (n3 := ρ 1) (n4 := ρ 4) (n5 := ρ 5) (n6 := ρ 6) (n7 := ρ 7) (n8 := ρ 8) (n9 := ρ 9) (n10 := ρ 10) (n11 := ρ 11) (n12 := ρ 12) (n13 := ρ 13) (n14 := ρ 14) (n15 := ρ 15) (n16 := ρ 16) (n17 := ρ 17) (n18 := ρ 18) (n19 := ρ 19) (n20 := ρ 20) (H0 := η 0) (H1 := η 1) (H2 := η 2) (H3 := η 3) f38 f37 f36 f35 f34 f33 f32 f31 f30 f29 f28 f27 f26 f25 f24 f23 f22 f21 f20 f19 f18 f17 f16 f15 f14 f13 f12 f11 f10 f9 f8 f7 f6 f5 f4 f3 f2 f1 f0
theorem q_127v_85 {n0 n1 n2 n3 n4 n5 n6 n7 n8 n9 n10 n11 n12 n13 n14 n15 n16 n17 n18 n19 n20 n21 n22 n23 : Int} {H0 H1 H2 H3 : gH} (f0 : n0 ≤ 2147483647) (f1 : (-2147483648) ≤ n0) (f2 : n1 ≤ 2147483647) (f3 : (-2147483648) ≤ n1) (f4 : n2 = 31) (f5 : hWt T0 H0 ∧ preb_127v n2 n3 n1 n0 H0) (f6 : n4 ≤ 2147483647) (f7 : (-2147483648) ≤ n4) (f8 : (hLe T0 H0 H1 ∧ hFr s_199vk692.2.2.2.2 H0 H1 ∧ ((0 : Int) = 0 → H1.length = H0.length) ∧ hWt T0 H1) ∧ postb_199vk692 n4 n3 n1 H0 H1) (f9 : n5 = 9) (f10 : n4 ≠ n5) (f11 : n6 = 10) (f12 : n4 ≠ n6) (f13 : n7 = 13) (f14 : n4 ≠ n7) (f15 : n8 = 32) (f16 : n4 ≠ n8) (f17 : n9 = 97) (f18 : n9 ≤ n4) (f19 : n10 = 122) (f20 : n10 < n4) (f21 : n11 = 48) (f22 : n11 ≤ n4) (f23 : n12 = 57) (f24 : n12 < n4) (f25 : n13 = 1) (f26 : n14 = w32 (n1 + n13)) (f27 : n14 < n0) (f28 : n15 = 1) (f29 : n16 = w32 (n1 + n15)) (f30 : n17 ≤ 2147483647) (f31 : (-2147483648) ≤ n17) (f32 : (hLe T0 H1 H2 ∧ hFr s_199vk692.2.2.2.2 H1 H2 ∧ ((0 : Int) = 0 → H2.length = H1.length) ∧ hWt T0 H2) ∧ postb_199vk692 n17 n3 n16 H1 H2) (f33 : n18 = 61) (f34 : n17 ≠ n18) (f35 : n19 = 0) (f36 : n19 = 0) (f37 : n20 = 1) (f38 : n21 = 1) (f39 : n20 = n21) (f40 : n22 ≤ 2147483647) (f41 : (-2147483648) ≤ n22) (f42 : (hLe T0 H2 H3 ∧ hFr s_132v.2.2.2.2 H2 H3 ∧ ((0 : Int) = 0 → H3.length = H2.length) ∧ hWt T0 H3) ∧ postb_132v n22 n4 H2 H3) (f43 : n23 = 0) : preb_126v n2 n22 n1 n23 H3 := by
  have pz := f5.2
  unfold preb_127v at pz
  obtain ⟨ks, tp, wd, b0, b1, b2, b3, c0, c1⟩ := pz
  have et : ((n1).toNat : Int) = n1 := Int.toNat_of_nonneg b1
  have sm0 : SMT H0 H0 := SMT_rfl
  have wq26 := f26
  unfold w32 at wq26
  have wq29 := f29
  unfold w32 at wq29
  have qa0 := f8.2
  unfold postb_199vk692 at qa0
  have a0 := at8 sm0 tp qa0 (by omega) (by omega) (by omega)
  have sm1 := SMT_trans sm0 (SMT_fr f8.1.2.1 (by decide +kernel))
  have ks_0 := KS5_le f8.1.1 ks
  have tp_0 := TP_le f8.1.1 tp
  have wd_0 := WDS_fr f8.1.1 f8.1.2.1 (by decide +kernel) wd
  have qa1 := f32.2
  unfold postb_199vk692 at qa1
  have a1 := at8 sm1 tp_0 qa1 (by omega) (by omega) (by omega)
  rw [show (n16).toNat = (n1).toNat + 1 by omega] at a1
  have sm2 := SMT_trans sm1 (SMT_fr f32.1.2.1 (by decide +kernel))
  have ks_1 := KS5_le f32.1.1 ks_0
  have tp_1 := TP_le f32.1.1 tp_0
  have wd_1 := WDS_fr f32.1.1 f32.1.2.1 (by decide +kernel) wd_0
  have sk := f42.2
  unfold postb_132v at sk
  have sm3 := SMT_trans sm2 (SMT_fr f42.1.2.1 (by decide +kernel))
  have ks_2 := KS5_le f42.1.1 ks_1
  have tp_2 := TP_le f42.1.1 tp_1
  have wd_2 := WDS_fr f42.1.1 f42.1.2.1 (by decide +kernel) wd_1
  rw [a0] at sk
  unfold preb_126v
  exact ⟨ks_2, by rw [sm3.1]; exact c0, by rw [sm3.1]; exact c1⟩
theorem c_127v_s_85 : vOkm T0 (eP e_127v L_127v A_127v mu_127v none) 4 ([(0, [23], [], 0), (1132, [22, 4], [2, 3], 0), (90, [22], [], -2147483648), (91, [22], [], 2147483647), (40, [20, 21], [], 0), (0, [21], [], 1), (0, [20], [], 1), (30, [19], [], 0), (0, [19], [], 0), (41, [17, 18], [], 0), (0, [18], [], 61), (1199, [17, 1, 16], [1, 2], 0), (90, [17], [], -2147483648), (91, [17], [], 2147483647), (1, [16, 2, 15], [], 0), (0, [15], [], 1), (42, [14, 3], [], 0), (1, [14, 2, 13], [], 0), (0, [13], [], 1), (44, [4, 12], [], 0), (0, [12], [], 57), (43, [4, 11], [], 0), (0, [11], [], 48), (44, [4, 10], [], 0), (0, [10], [], 122), (43, [4, 9], [], 0), (0, [9], [], 97), (41, [4, 8], [], 0), (0, [8], [], 32), (41, [4, 7], [], 0), (0, [7], [], 13), (41, [4, 6], [], 0), (0, [6], [], 10), (41, [4, 5], [], 0), (0, [5], [], 9), (1199, [4, 1, 2], [0, 1], 0), (90, [4], [], -2147483648), (91, [4], [], 2147483647), (6000, [0, 1, 2, 3], [0], 0), (0, [0], [], 31), (90, [2], [], -2147483648), (91, [2], [], 2147483647), (90, [3], [], -2147483648), (91, [3], [], 2147483647)], (2126, [0, 22, 2, 23], [3], 0)) := vOk_in fun ρ η h => by
  obtain ⟨f0, f1, f2, f3, f4, f5, f6, f7, f8, f9, f10, f11, f12, f13, f14, f15, f16, f17, f18, f19, f20, f21, f22, f23, f24, f25, f26, f27, f28, f29, f30, f31, f32, f33, f34, f35, f36, f37, f38, f39, f40, f41, f42, f43, _⟩ := h
  exact q_127v_85 (n0 := ρ 3) (n1 := ρ 2) (n2 := ρ 0) (n3 := ρ 1) (n4 := ρ 4) (n5 := ρ 5) (n6 := ρ 6) (n7 := ρ 7) (n8 := ρ 8) (n9 := ρ 9) (n10 := ρ 10) (n11 := ρ 11) (n12 := ρ 12) (n13 := ρ 13) (n14 := ρ 14) (n15 := ρ 15) (n16 := ρ 16) (n17 := ρ 17) (n18 := ρ 18) (n19 := ρ 19) (n20 := ρ 20) (n21 := ρ 21) (n22 := ρ 22) (n23 := ρ 23) (H0 := η 0) (H1 := η 1) (H2 := η 2) (H3 := η 3) f43 f42 f41 f40 f39 f38 f37 f36 f35 f34 f33 f32 f31 f30 f29 f28 f27 f26 f25 f24 f23 f22 f21 f20 f19 f18 f17 f16 f15 f14 f13 f12 f11 f10 f9 f8 f7 f6 f5 f4 f3 f2 f1 f0
theorem q_127v_86 {n0 n1 n2 n3 n4 n5 n6 n7 n8 n9 n10 n11 n12 n13 n14 n15 n16 n17 n18 n19 n20 n21 n22 n23 n24 n25 : Int} {H0 H1 H2 H3 H4 : gH} (f0 : n0 ≤ 2147483647) (f1 : (-2147483648) ≤ n0) (f2 : n1 ≤ 2147483647) (f3 : (-2147483648) ≤ n1) (f4 : n2 = 31) (f5 : hWt T0 H0 ∧ preb_127v n2 n3 n1 n0 H0) (f6 : n4 ≤ 2147483647) (f7 : (-2147483648) ≤ n4) (f8 : (hLe T0 H0 H1 ∧ hFr s_199vk692.2.2.2.2 H0 H1 ∧ ((0 : Int) = 0 → H1.length = H0.length) ∧ hWt T0 H1) ∧ postb_199vk692 n4 n3 n1 H0 H1) (f9 : n5 = 9) (f10 : n4 ≠ n5) (f11 : n6 = 10) (f12 : n4 ≠ n6) (f13 : n7 = 13) (f14 : n4 ≠ n7) (f15 : n8 = 32) (f16 : n4 ≠ n8) (f17 : n9 = 97) (f18 : n9 ≤ n4) (f19 : n10 = 122) (f20 : n10 < n4) (f21 : n11 = 48) (f22 : n11 ≤ n4) (f23 : n12 = 57) (f24 : n12 < n4) (f25 : n13 = 1) (f26 : n14 = w32 (n1 + n13)) (f27 : n14 < n0) (f28 : n15 = 1) (f29 : n16 = w32 (n1 + n15)) (f30 : n17 ≤ 2147483647) (f31 : (-2147483648) ≤ n17) (f32 : (hLe T0 H1 H2 ∧ hFr s_199vk692.2.2.2.2 H1 H2 ∧ ((0 : Int) = 0 → H2.length = H1.length) ∧ hWt T0 H2) ∧ postb_199vk692 n17 n3 n16 H1 H2) (f33 : n18 = 61) (f34 : n17 ≠ n18) (f35 : n19 = 0) (f36 : n19 = 0) (f37 : n20 = 1) (f38 : n21 = 1) (f39 : n20 = n21) (f40 : n22 ≤ 2147483647) (f41 : (-2147483648) ≤ n22) (f42 : (hLe T0 H2 H3 ∧ hFr s_132v.2.2.2.2 H2 H3 ∧ ((0 : Int) = 0 → H3.length = H2.length) ∧ hWt T0 H3) ∧ postb_132v n22 n4 H2 H3) (f43 : n23 = 0) (f44 : (hLe T0 H3 H4 ∧ hFr s_126v.2.2.2.2 H3 H4 ∧ ((0 : Int) = 0 → H4.length = H3.length) ∧ hWt T0 H4) ∧ postb_126v n2 n22 n1 n23 H3 H4) (f45 : n24 = 1) (f46 : n25 = w32 (n1 + n24)) : postb_127v n25 n2 n3 n1 n0 H0 H4 := by
  have pz := f5.2
  unfold preb_127v at pz
  obtain ⟨ks, tp, wd, b0, b1, b2, b3, c0, c1⟩ := pz
  have et : ((n1).toNat : Int) = n1 := Int.toNat_of_nonneg b1
  have sm0 : SMT H0 H0 := SMT_rfl
  have wq26 := f26
  unfold w32 at wq26
  have wq29 := f29
  unfold w32 at wq29
  have wq46 := f46
  unfold w32 at wq46
  have qa0 := f8.2
  unfold postb_199vk692 at qa0
  have a0 := at8 sm0 tp qa0 (by omega) (by omega) (by omega)
  have sm1 := SMT_trans sm0 (SMT_fr f8.1.2.1 (by decide +kernel))
  have ks_0 := KS5_le f8.1.1 ks
  have tp_0 := TP_le f8.1.1 tp
  have wd_0 := WDS_fr f8.1.1 f8.1.2.1 (by decide +kernel) wd
  have qa1 := f32.2
  unfold postb_199vk692 at qa1
  have a1 := at8 sm1 tp_0 qa1 (by omega) (by omega) (by omega)
  rw [show (n16).toNat = (n1).toNat + 1 by omega] at a1
  have sm2 := SMT_trans sm1 (SMT_fr f32.1.2.1 (by decide +kernel))
  have ks_1 := KS5_le f32.1.1 ks_0
  have tp_1 := TP_le f32.1.1 tp_0
  have wd_1 := WDS_fr f32.1.1 f32.1.2.1 (by decide +kernel) wd_0
  have sk := f42.2
  unfold postb_132v at sk
  have sm3 := SMT_trans sm2 (SMT_fr f42.1.2.1 (by decide +kernel))
  have ks_2 := KS5_le f42.1.1 ks_1
  have tp_2 := TP_le f42.1.1 tp_1
  have wd_2 := WDS_fr f42.1.1 f42.1.2.1 (by decide +kernel) wd_1
  rw [a0] at sk
  unfold postb_127v ONE
  have lt := f44.2
  unfold postb_126v at lt
  have nt := NTp_from sm3 lt.1
  rw [f43] at nt
  first
  | exact absurd rfl (by omega)
  | (rw [sk] at nt
     exact ⟨.inr (.inr (.inr (.inr ⟨by omega, by omega, by omega, by omega, by omega, nt⟩))), lt.2⟩)
theorem c_127v_s_86 : vOkm T0 (eP e_127v L_127v A_127v mu_127v none) 4 ([(1, [25, 2, 24], [], 0), (0, [24], [], 1), (1126, [0, 22, 2, 23], [3, 4], 0), (0, [23], [], 0), (1132, [22, 4], [2, 3], 0), (90, [22], [], -2147483648), (91, [22], [], 2147483647), (40, [20, 21], [], 0), (0, [21], [], 1), (0, [20], [], 1), (30, [19], [], 0), (0, [19], [], 0), (41, [17, 18], [], 0), (0, [18], [], 61), (1199, [17, 1, 16], [1, 2], 0), (90, [17], [], -2147483648), (91, [17], [], 2147483647), (1, [16, 2, 15], [], 0), (0, [15], [], 1), (42, [14, 3], [], 0), (1, [14, 2, 13], [], 0), (0, [13], [], 1), (44, [4, 12], [], 0), (0, [12], [], 57), (43, [4, 11], [], 0), (0, [11], [], 48), (44, [4, 10], [], 0), (0, [10], [], 122), (43, [4, 9], [], 0), (0, [9], [], 97), (41, [4, 8], [], 0), (0, [8], [], 32), (41, [4, 7], [], 0), (0, [7], [], 13), (41, [4, 6], [], 0), (0, [6], [], 10), (41, [4, 5], [], 0), (0, [5], [], 9), (1199, [4, 1, 2], [0, 1], 0), (90, [4], [], -2147483648), (91, [4], [], 2147483647), (6000, [0, 1, 2, 3], [0], 0), (0, [0], [], 31), (90, [2], [], -2147483648), (91, [2], [], 2147483647), (90, [3], [], -2147483648), (91, [3], [], 2147483647)], (3000, [25], [4], 157)) := vOk_in fun ρ η h => by
  obtain ⟨f0, f1, f2, f3, f4, f5, f6, f7, f8, f9, f10, f11, f12, f13, f14, f15, f16, f17, f18, f19, f20, f21, f22, f23, f24, f25, f26, f27, f28, f29, f30, f31, f32, f33, f34, f35, f36, f37, f38, f39, f40, f41, f42, f43, f44, f45, f46, _⟩ := h
  exact q_127v_86 (n0 := ρ 3) (n1 := ρ 2) (n2 := ρ 0) (n3 := ρ 1) (n4 := ρ 4) (n5 := ρ 5) (n6 := ρ 6) (n7 := ρ 7) (n8 := ρ 8) (n9 := ρ 9) (n10 := ρ 10) (n11 := ρ 11) (n12 := ρ 12) (n13 := ρ 13) (n14 := ρ 14) (n15 := ρ 15) (n16 := ρ 16) (n17 := ρ 17) (n18 := ρ 18) (n19 := ρ 19) (n20 := ρ 20) (n21 := ρ 21) (n22 := ρ 22) (n23 := ρ 23) (n24 := ρ 24) (n25 := ρ 25) (H0 := η 0) (H1 := η 1) (H2 := η 2) (H3 := η 3) (H4 := η 4) f46 f45 f44 f43 f42 f41 f40 f39 f38 f37 f36 f35 f34 f33 f32 f31 f30 f29 f28 f27 f26 f25 f24 f23 f22 f21 f20 f19 f18 f17 f16 f15 f14 f13 f12 f11 f10 f9 f8 f7 f6 f5 f4 f3 f2 f1 f0
theorem q_127v_87 {n0 n1 n2 n3 n4 n5 n6 n7 n8 n9 n10 n11 n12 n13 n14 n15 n16 n17 n18 n19 n20 n21 n22 : Int} {H0 H1 H2 : gH} (f0 : n0 ≤ 2147483647) (f1 : (-2147483648) ≤ n0) (f2 : n1 ≤ 2147483647) (f3 : (-2147483648) ≤ n1) (f4 : n2 = 31) (f5 : hWt T0 H0 ∧ preb_127v n2 n3 n1 n0 H0) (f6 : n4 ≤ 2147483647) (f7 : (-2147483648) ≤ n4) (f8 : (hLe T0 H0 H1 ∧ hFr s_199vk692.2.2.2.2 H0 H1 ∧ ((0 : Int) = 0 → H1.length = H0.length) ∧ hWt T0 H1) ∧ postb_199vk692 n4 n3 n1 H0 H1) (f9 : n5 = 9) (f10 : n4 ≠ n5) (f11 : n6 = 10) (f12 : n4 ≠ n6) (f13 : n7 = 13) (f14 : n4 ≠ n7) (f15 : n8 = 32) (f16 : n4 ≠ n8) (f17 : n9 = 97) (f18 : n9 ≤ n4) (f19 : n10 = 122) (f20 : n10 < n4) (f21 : n11 = 48) (f22 : n11 ≤ n4) (f23 : n12 = 57) (f24 : n12 < n4) (f25 : n13 = 1) (f26 : n14 = w32 (n1 + n13)) (f27 : n14 < n0) (f28 : n15 = 1) (f29 : n16 = w32 (n1 + n15)) (f30 : n17 ≤ 2147483647) (f31 : (-2147483648) ≤ n17) (f32 : (hLe T0 H1 H2 ∧ hFr s_199vk692.2.2.2.2 H1 H2 ∧ ((0 : Int) = 0 → H2.length = H1.length) ∧ hWt T0 H2) ∧ postb_199vk692 n17 n3 n16 H1 H2) (f33 : n18 = 61) (f34 : n17 ≠ n18) (f35 : n19 = 0) (f36 : n19 = 0) (f37 : n20 = 1) (f38 : n21 = 1) (f39 : n20 ≠ n21) (f40 : n22 = 0) : preb_126v n2 n20 n1 n22 H2 := by
  have pz := f5.2
  unfold preb_127v at pz
  obtain ⟨ks, tp, wd, b0, b1, b2, b3, c0, c1⟩ := pz
  have et : ((n1).toNat : Int) = n1 := Int.toNat_of_nonneg b1
  have sm0 : SMT H0 H0 := SMT_rfl
  have wq26 := f26
  unfold w32 at wq26
  have wq29 := f29
  unfold w32 at wq29
  have qa0 := f8.2
  unfold postb_199vk692 at qa0
  have a0 := at8 sm0 tp qa0 (by omega) (by omega) (by omega)
  have sm1 := SMT_trans sm0 (SMT_fr f8.1.2.1 (by decide +kernel))
  have ks_0 := KS5_le f8.1.1 ks
  have tp_0 := TP_le f8.1.1 tp
  have wd_0 := WDS_fr f8.1.1 f8.1.2.1 (by decide +kernel) wd
  have qa1 := f32.2
  unfold postb_199vk692 at qa1
  have a1 := at8 sm1 tp_0 qa1 (by omega) (by omega) (by omega)
  rw [show (n16).toNat = (n1).toNat + 1 by omega] at a1
  have sm2 := SMT_trans sm1 (SMT_fr f32.1.2.1 (by decide +kernel))
  have ks_1 := KS5_le f32.1.1 ks_0
  have tp_1 := TP_le f32.1.1 tp_0
  have wd_1 := WDS_fr f32.1.1 f32.1.2.1 (by decide +kernel) wd_0
  unfold preb_126v
  exact ⟨ks_1, by rw [sm2.1]; exact c0, by rw [sm2.1]; exact c1⟩
theorem c_127v_s_87 : vOkm T0 (eP e_127v L_127v A_127v mu_127v none) 4 ([(0, [22], [], 0), (41, [20, 21], [], 0), (0, [21], [], 1), (0, [20], [], 1), (30, [19], [], 0), (0, [19], [], 0), (41, [17, 18], [], 0), (0, [18], [], 61), (1199, [17, 1, 16], [1, 2], 0), (90, [17], [], -2147483648), (91, [17], [], 2147483647), (1, [16, 2, 15], [], 0), (0, [15], [], 1), (42, [14, 3], [], 0), (1, [14, 2, 13], [], 0), (0, [13], [], 1), (44, [4, 12], [], 0), (0, [12], [], 57), (43, [4, 11], [], 0), (0, [11], [], 48), (44, [4, 10], [], 0), (0, [10], [], 122), (43, [4, 9], [], 0), (0, [9], [], 97), (41, [4, 8], [], 0), (0, [8], [], 32), (41, [4, 7], [], 0), (0, [7], [], 13), (41, [4, 6], [], 0), (0, [6], [], 10), (41, [4, 5], [], 0), (0, [5], [], 9), (1199, [4, 1, 2], [0, 1], 0), (90, [4], [], -2147483648), (91, [4], [], 2147483647), (6000, [0, 1, 2, 3], [0], 0), (0, [0], [], 31), (90, [2], [], -2147483648), (91, [2], [], 2147483647), (90, [3], [], -2147483648), (91, [3], [], 2147483647)], (2126, [0, 20, 2, 22], [2], 0)) := vOk_in fun ρ η h => by
  obtain ⟨f0, f1, f2, f3, f4, f5, f6, f7, f8, f9, f10, f11, f12, f13, f14, f15, f16, f17, f18, f19, f20, f21, f22, f23, f24, f25, f26, f27, f28, f29, f30, f31, f32, f33, f34, f35, f36, f37, f38, f39, f40, _⟩ := h
  exact q_127v_87 (n0 := ρ 3) (n1 := ρ 2) (n2 := ρ 0) (n3 := ρ 1) (n4 := ρ 4) (n5 := ρ 5) (n6 := ρ 6) (n7 := ρ 7) (n8 := ρ 8) (n9 := ρ 9) (n10 := ρ 10) (n11 := ρ 11) (n12 := ρ 12) (n13 := ρ 13) (n14 := ρ 14) (n15 := ρ 15) (n16 := ρ 16) (n17 := ρ 17) (n18 := ρ 18) (n19 := ρ 19) (n20 := ρ 20) (n21 := ρ 21) (n22 := ρ 22) (H0 := η 0) (H1 := η 1) (H2 := η 2) f40 f39 f38 f37 f36 f35 f34 f33 f32 f31 f30 f29 f28 f27 f26 f25 f24 f23 f22 f21 f20 f19 f18 f17 f16 f15 f14 f13 f12 f11 f10 f9 f8 f7 f6 f5 f4 f3 f2 f1 f0
theorem q_127v_88 {n0 n1 n2 n3 n4 n5 n6 n7 n8 n9 n10 n11 n12 n13 n14 n15 n16 n17 n18 n19 n20 n21 n22 n23 n24 : Int} {H0 H1 H2 H3 : gH} (f0 : n0 ≤ 2147483647) (f1 : (-2147483648) ≤ n0) (f2 : n1 ≤ 2147483647) (f3 : (-2147483648) ≤ n1) (f4 : n2 = 31) (f5 : hWt T0 H0 ∧ preb_127v n2 n3 n1 n0 H0) (f6 : n4 ≤ 2147483647) (f7 : (-2147483648) ≤ n4) (f8 : (hLe T0 H0 H1 ∧ hFr s_199vk692.2.2.2.2 H0 H1 ∧ ((0 : Int) = 0 → H1.length = H0.length) ∧ hWt T0 H1) ∧ postb_199vk692 n4 n3 n1 H0 H1) (f9 : n5 = 9) (f10 : n4 ≠ n5) (f11 : n6 = 10) (f12 : n4 ≠ n6) (f13 : n7 = 13) (f14 : n4 ≠ n7) (f15 : n8 = 32) (f16 : n4 ≠ n8) (f17 : n9 = 97) (f18 : n9 ≤ n4) (f19 : n10 = 122) (f20 : n10 < n4) (f21 : n11 = 48) (f22 : n11 ≤ n4) (f23 : n12 = 57) (f24 : n12 < n4) (f25 : n13 = 1) (f26 : n14 = w32 (n1 + n13)) (f27 : n14 < n0) (f28 : n15 = 1) (f29 : n16 = w32 (n1 + n15)) (f30 : n17 ≤ 2147483647) (f31 : (-2147483648) ≤ n17) (f32 : (hLe T0 H1 H2 ∧ hFr s_199vk692.2.2.2.2 H1 H2 ∧ ((0 : Int) = 0 → H2.length = H1.length) ∧ hWt T0 H2) ∧ postb_199vk692 n17 n3 n16 H1 H2) (f33 : n18 = 61) (f34 : n17 ≠ n18) (f35 : n19 = 0) (f36 : n19 = 0) (f37 : n20 = 1) (f38 : n21 = 1) (f39 : n20 ≠ n21) (f40 : n22 = 0) (f41 : (hLe T0 H2 H3 ∧ hFr s_126v.2.2.2.2 H2 H3 ∧ ((0 : Int) = 0 → H3.length = H2.length) ∧ hWt T0 H3) ∧ postb_126v n2 n20 n1 n22 H2 H3) (f42 : n23 = 2) (f43 : n24 = w32 (n1 + n23)) : postb_127v n24 n2 n3 n1 n0 H0 H3 := by
  have pz := f5.2
  unfold preb_127v at pz
  obtain ⟨ks, tp, wd, b0, b1, b2, b3, c0, c1⟩ := pz
  have et : ((n1).toNat : Int) = n1 := Int.toNat_of_nonneg b1
  have sm0 : SMT H0 H0 := SMT_rfl
  have wq26 := f26
  unfold w32 at wq26
  have wq29 := f29
  unfold w32 at wq29
  have wq43 := f43
  unfold w32 at wq43
  have qa0 := f8.2
  unfold postb_199vk692 at qa0
  have a0 := at8 sm0 tp qa0 (by omega) (by omega) (by omega)
  have sm1 := SMT_trans sm0 (SMT_fr f8.1.2.1 (by decide +kernel))
  have ks_0 := KS5_le f8.1.1 ks
  have tp_0 := TP_le f8.1.1 tp
  have wd_0 := WDS_fr f8.1.1 f8.1.2.1 (by decide +kernel) wd
  have qa1 := f32.2
  unfold postb_199vk692 at qa1
  have a1 := at8 sm1 tp_0 qa1 (by omega) (by omega) (by omega)
  rw [show (n16).toNat = (n1).toNat + 1 by omega] at a1
  have sm2 := SMT_trans sm1 (SMT_fr f32.1.2.1 (by decide +kernel))
  have ks_1 := KS5_le f32.1.1 ks_0
  have tp_1 := TP_le f32.1.1 tp_0
  have wd_1 := WDS_fr f32.1.1 f32.1.2.1 (by decide +kernel) wd_0
  unfold postb_127v ONE
  have lt := f41.2
  unfold postb_126v at lt
  have nt := NTp_from sm2 lt.1
  rw [f40] at nt
  first
  | (exfalso; omega)
  | (rw [pk] at nt
     exact ⟨.inr (.inr (.inr (.inl ⟨by omega, by omega, by omega, ⟨by omega, by omega, by omega⟩, by omega, nt⟩))), lt.2⟩)
theorem c_127v_s_88 : vOkm T0 (eP e_127v L_127v A_127v mu_127v none) 4 ([(1, [24, 2, 23], [], 0), (0, [23], [], 2), (1126, [0, 20, 2, 22], [2, 3], 0), (0, [22], [], 0), (41, [20, 21], [], 0), (0, [21], [], 1), (0, [20], [], 1), (30, [19], [], 0), (0, [19], [], 0), (41, [17, 18], [], 0), (0, [18], [], 61), (1199, [17, 1, 16], [1, 2], 0), (90, [17], [], -2147483648), (91, [17], [], 2147483647), (1, [16, 2, 15], [], 0), (0, [15], [], 1), (42, [14, 3], [], 0), (1, [14, 2, 13], [], 0), (0, [13], [], 1), (44, [4, 12], [], 0), (0, [12], [], 57), (43, [4, 11], [], 0), (0, [11], [], 48), (44, [4, 10], [], 0), (0, [10], [], 122), (43, [4, 9], [], 0), (0, [9], [], 97), (41, [4, 8], [], 0), (0, [8], [], 32), (41, [4, 7], [], 0), (0, [7], [], 13), (41, [4, 6], [], 0), (0, [6], [], 10), (41, [4, 5], [], 0), (0, [5], [], 9), (1199, [4, 1, 2], [0, 1], 0), (90, [4], [], -2147483648), (91, [4], [], 2147483647), (6000, [0, 1, 2, 3], [0], 0), (0, [0], [], 31), (90, [2], [], -2147483648), (91, [2], [], 2147483647), (90, [3], [], -2147483648), (91, [3], [], 2147483647)], (3000, [24], [3], 142)) := vOk_in fun ρ η h => by
  obtain ⟨f0, f1, f2, f3, f4, f5, f6, f7, f8, f9, f10, f11, f12, f13, f14, f15, f16, f17, f18, f19, f20, f21, f22, f23, f24, f25, f26, f27, f28, f29, f30, f31, f32, f33, f34, f35, f36, f37, f38, f39, f40, f41, f42, f43, _⟩ := h
  exact q_127v_88 (n0 := ρ 3) (n1 := ρ 2) (n2 := ρ 0) (n3 := ρ 1) (n4 := ρ 4) (n5 := ρ 5) (n6 := ρ 6) (n7 := ρ 7) (n8 := ρ 8) (n9 := ρ 9) (n10 := ρ 10) (n11 := ρ 11) (n12 := ρ 12) (n13 := ρ 13) (n14 := ρ 14) (n15 := ρ 15) (n16 := ρ 16) (n17 := ρ 17) (n18 := ρ 18) (n19 := ρ 19) (n20 := ρ 20) (n21 := ρ 21) (n22 := ρ 22) (n23 := ρ 23) (n24 := ρ 24) (H0 := η 0) (H1 := η 1) (H2 := η 2) (H3 := η 3) f43 f42 f41 f40 f39 f38 f37 f36 f35 f34 f33 f32 f31 f30 f29 f28 f27 f26 f25 f24 f23 f22 f21 f20 f19 f18 f17 f16 f15 f14 f13 f12 f11 f10 f9 f8 f7 f6 f5 f4 f3 f2 f1 f0
theorem q_127v_89 {n0 n1 n2 n3 n4 n5 n6 n7 n8 n9 n10 n11 n12 n13 n14 n15 n16 n17 n18 n19 n20 n21 n22 n23 : Int} {H0 H1 H2 H3 H4 : gH} (f0 : n0 ≤ 2147483647) (f1 : (-2147483648) ≤ n0) (f2 : n1 ≤ 2147483647) (f3 : (-2147483648) ≤ n1) (f4 : n2 = 31) (f5 : hWt T0 H0 ∧ preb_127v n2 n3 n1 n0 H0) (f6 : n4 ≤ 2147483647) (f7 : (-2147483648) ≤ n4) (f8 : (hLe T0 H0 H1 ∧ hFr s_199vk692.2.2.2.2 H0 H1 ∧ ((0 : Int) = 0 → H1.length = H0.length) ∧ hWt T0 H1) ∧ postb_199vk692 n4 n3 n1 H0 H1) (f9 : n5 = 9) (f10 : n4 ≠ n5) (f11 : n6 = 10) (f12 : n4 ≠ n6) (f13 : n7 = 13) (f14 : n4 ≠ n7) (f15 : n8 = 32) (f16 : n4 ≠ n8) (f17 : n9 = 97) (f18 : n9 ≤ n4) (f19 : n10 = 122) (f20 : n10 < n4) (f21 : n11 = 48) (f22 : n11 ≤ n4) (f23 : n12 = 57) (f24 : n12 < n4) (f25 : n13 = 1) (f26 : n14 = w32 (n1 + n13)) (f27 : n14 < n0) (f28 : n15 = 1) (f29 : n16 = w32 (n1 + n15)) (f30 : n17 ≤ 2147483647) (f31 : (-2147483648) ≤ n17) (f32 : (hLe T0 H1 H2 ∧ hFr s_199vk692.2.2.2.2 H1 H2 ∧ ((0 : Int) = 0 → H2.length = H1.length) ∧ hWt T0 H2) ∧ postb_199vk692 n17 n3 n16 H1 H2) (f33 : n18 = 61) (f34 : n17 ≠ n18) (f35 : n19 = 0) (f36 : n19 ≠ 0) (f37 : n20 ≤ 2147483647) (f38 : (-2147483648) ≤ n20) (f39 : (hLe T0 H2 H3 ∧ hFr s_131v.2.2.2.2 H2 H3 ∧ ((0 : Int) = 0 → H3.length = H2.length) ∧ hWt T0 H3) ∧ postb_131v n20 n4 H2 H3) (f40 : n21 = 1) (f41 : n20 = n21) (f42 : n22 ≤ 2147483647) (f43 : (-2147483648) ≤ n22) (f44 : (hLe T0 H3 H4 ∧ hFr s_132v.2.2.2.2 H3 H4 ∧ ((0 : Int) = 0 → H4.length = H3.length) ∧ hWt T0 H4) ∧ postb_132v n22 n4 H3 H4) (f45 : n23 = 0) : preb_126v n2 n22 n1 n23 H4 := by
  have pz := f5.2
  unfold preb_127v at pz
  obtain ⟨ks, tp, wd, b0, b1, b2, b3, c0, c1⟩ := pz
  have et : ((n1).toNat : Int) = n1 := Int.toNat_of_nonneg b1
  have sm0 : SMT H0 H0 := SMT_rfl
  have wq26 := f26
  unfold w32 at wq26
  have wq29 := f29
  unfold w32 at wq29
  have qa0 := f8.2
  unfold postb_199vk692 at qa0
  have a0 := at8 sm0 tp qa0 (by omega) (by omega) (by omega)
  have sm1 := SMT_trans sm0 (SMT_fr f8.1.2.1 (by decide +kernel))
  have ks_0 := KS5_le f8.1.1 ks
  have tp_0 := TP_le f8.1.1 tp
  have wd_0 := WDS_fr f8.1.1 f8.1.2.1 (by decide +kernel) wd
  have qa1 := f32.2
  unfold postb_199vk692 at qa1
  have a1 := at8 sm1 tp_0 qa1 (by omega) (by omega) (by omega)
  rw [show (n16).toNat = (n1).toNat + 1 by omega] at a1
  have sm2 := SMT_trans sm1 (SMT_fr f32.1.2.1 (by decide +kernel))
  have ks_1 := KS5_le f32.1.1 ks_0
  have tp_1 := TP_le f32.1.1 tp_0
  have wd_1 := WDS_fr f32.1.1 f32.1.2.1 (by decide +kernel) wd_0
  have pk := f39.2
  unfold postb_131v at pk
  have sm3 := SMT_trans sm2 (SMT_fr f39.1.2.1 (by decide +kernel))
  have ks_2 := KS5_le f39.1.1 ks_1
  have tp_2 := TP_le f39.1.1 tp_1
  have wd_2 := WDS_fr f39.1.1 f39.1.2.1 (by decide +kernel) wd_1
  have sk := f44.2
  unfold postb_132v at sk
  have sm4 := SMT_trans sm3 (SMT_fr f44.1.2.1 (by decide +kernel))
  have ks_3 := KS5_le f44.1.1 ks_2
  have tp_3 := TP_le f44.1.1 tp_2
  have wd_3 := WDS_fr f44.1.1 f44.1.2.1 (by decide +kernel) wd_2
  rw [a0] at pk
  rw [a0] at sk
  unfold preb_126v
  exact ⟨ks_3, by rw [sm4.1]; exact c0, by rw [sm4.1]; exact c1⟩
theorem c_127v_s_89 : vOkm T0 (eP e_127v L_127v A_127v mu_127v none) 4 ([(0, [23], [], 0), (1132, [22, 4], [3, 4], 0), (90, [22], [], -2147483648), (91, [22], [], 2147483647), (40, [20, 21], [], 0), (0, [21], [], 1), (1131, [20, 4], [2, 3], 0), (90, [20], [], -2147483648), (91, [20], [], 2147483647), (31, [19], [], 0), (0, [19], [], 0), (41, [17, 18], [], 0), (0, [18], [], 61), (1199, [17, 1, 16], [1, 2], 0), (90, [17], [], -2147483648), (91, [17], [], 2147483647), (1, [16, 2, 15], [], 0), (0, [15], [], 1), (42, [14, 3], [], 0), (1, [14, 2, 13], [], 0), (0, [13], [], 1), (44, [4, 12], [], 0), (0, [12], [], 57), (43, [4, 11], [], 0), (0, [11], [], 48), (44, [4, 10], [], 0), (0, [10], [], 122), (43, [4, 9], [], 0), (0, [9], [], 97), (41, [4, 8], [], 0), (0, [8], [], 32), (41, [4, 7], [], 0), (0, [7], [], 13), (41, [4, 6], [], 0), (0, [6], [], 10), (41, [4, 5], [], 0), (0, [5], [], 9), (1199, [4, 1, 2], [0, 1], 0), (90, [4], [], -2147483648), (91, [4], [], 2147483647), (6000, [0, 1, 2, 3], [0], 0), (0, [0], [], 31), (90, [2], [], -2147483648), (91, [2], [], 2147483647), (90, [3], [], -2147483648), (91, [3], [], 2147483647)], (2126, [0, 22, 2, 23], [4], 0)) := vOk_in fun ρ η h => by
  obtain ⟨f0, f1, f2, f3, f4, f5, f6, f7, f8, f9, f10, f11, f12, f13, f14, f15, f16, f17, f18, f19, f20, f21, f22, f23, f24, f25, f26, f27, f28, f29, f30, f31, f32, f33, f34, f35, f36, f37, f38, f39, f40, f41, f42, f43, f44, f45, _⟩ := h
  exact q_127v_89 (n0 := ρ 3) (n1 := ρ 2) (n2 := ρ 0) (n3 := ρ 1) (n4 := ρ 4) (n5 := ρ 5) (n6 := ρ 6) (n7 := ρ 7) (n8 := ρ 8) (n9 := ρ 9) (n10 := ρ 10) (n11 := ρ 11) (n12 := ρ 12) (n13 := ρ 13) (n14 := ρ 14) (n15 := ρ 15) (n16 := ρ 16) (n17 := ρ 17) (n18 := ρ 18) (n19 := ρ 19) (n20 := ρ 20) (n21 := ρ 21) (n22 := ρ 22) (n23 := ρ 23) (H0 := η 0) (H1 := η 1) (H2 := η 2) (H3 := η 3) (H4 := η 4) f45 f44 f43 f42 f41 f40 f39 f38 f37 f36 f35 f34 f33 f32 f31 f30 f29 f28 f27 f26 f25 f24 f23 f22 f21 f20 f19 f18 f17 f16 f15 f14 f13 f12 f11 f10 f9 f8 f7 f6 f5 f4 f3 f2 f1 f0
theorem q_127v_90 {n0 n1 n2 n3 n4 n5 n6 n7 n8 n9 n10 n11 n12 n13 n14 n15 n16 n17 n18 n19 n20 n21 n22 n23 n24 n25 : Int} {H0 H1 H2 H3 H4 H5 : gH} (f0 : n0 ≤ 2147483647) (f1 : (-2147483648) ≤ n0) (f2 : n1 ≤ 2147483647) (f3 : (-2147483648) ≤ n1) (f4 : n2 = 31) (f5 : hWt T0 H0 ∧ preb_127v n2 n3 n1 n0 H0) (f6 : n4 ≤ 2147483647) (f7 : (-2147483648) ≤ n4) (f8 : (hLe T0 H0 H1 ∧ hFr s_199vk692.2.2.2.2 H0 H1 ∧ ((0 : Int) = 0 → H1.length = H0.length) ∧ hWt T0 H1) ∧ postb_199vk692 n4 n3 n1 H0 H1) (f9 : n5 = 9) (f10 : n4 ≠ n5) (f11 : n6 = 10) (f12 : n4 ≠ n6) (f13 : n7 = 13) (f14 : n4 ≠ n7) (f15 : n8 = 32) (f16 : n4 ≠ n8) (f17 : n9 = 97) (f18 : n9 ≤ n4) (f19 : n10 = 122) (f20 : n10 < n4) (f21 : n11 = 48) (f22 : n11 ≤ n4) (f23 : n12 = 57) (f24 : n12 < n4) (f25 : n13 = 1) (f26 : n14 = w32 (n1 + n13)) (f27 : n14 < n0) (f28 : n15 = 1) (f29 : n16 = w32 (n1 + n15)) (f30 : n17 ≤ 2147483647) (f31 : (-2147483648) ≤ n17) (f32 : (hLe T0 H1 H2 ∧ hFr s_199vk692.2.2.2.2 H1 H2 ∧ ((0 : Int) = 0 → H2.length = H1.length) ∧ hWt T0 H2) ∧ postb_199vk692 n17 n3 n16 H1 H2) (f33 : n18 = 61) (f34 : n17 ≠ n18) (f35 : n19 = 0) (f36 : n19 ≠ 0) (f37 : n20 ≤ 2147483647) (f38 : (-2147483648) ≤ n20) (f39 : (hLe T0 H2 H3 ∧ hFr s_131v.2.2.2.2 H2 H3 ∧ ((0 : Int) = 0 → H3.length = H2.length) ∧ hWt T0 H3) ∧ postb_131v n20 n4 H2 H3) (f40 : n21 = 1) (f41 : n20 = n21) (f42 : n22 ≤ 2147483647) (f43 : (-2147483648) ≤ n22) (f44 : (hLe T0 H3 H4 ∧ hFr s_132v.2.2.2.2 H3 H4 ∧ ((0 : Int) = 0 → H4.length = H3.length) ∧ hWt T0 H4) ∧ postb_132v n22 n4 H3 H4) (f45 : n23 = 0) (f46 : (hLe T0 H4 H5 ∧ hFr s_126v.2.2.2.2 H4 H5 ∧ ((0 : Int) = 0 → H5.length = H4.length) ∧ hWt T0 H5) ∧ postb_126v n2 n22 n1 n23 H4 H5) (f47 : n24 = 1) (f48 : n25 = w32 (n1 + n24)) : postb_127v n25 n2 n3 n1 n0 H0 H5 := by
  have pz := f5.2
  unfold preb_127v at pz
  obtain ⟨ks, tp, wd, b0, b1, b2, b3, c0, c1⟩ := pz
  have et : ((n1).toNat : Int) = n1 := Int.toNat_of_nonneg b1
  have sm0 : SMT H0 H0 := SMT_rfl
  have wq26 := f26
  unfold w32 at wq26
  have wq29 := f29
  unfold w32 at wq29
  have wq48 := f48
  unfold w32 at wq48
  have qa0 := f8.2
  unfold postb_199vk692 at qa0
  have a0 := at8 sm0 tp qa0 (by omega) (by omega) (by omega)
  have sm1 := SMT_trans sm0 (SMT_fr f8.1.2.1 (by decide +kernel))
  have ks_0 := KS5_le f8.1.1 ks
  have tp_0 := TP_le f8.1.1 tp
  have wd_0 := WDS_fr f8.1.1 f8.1.2.1 (by decide +kernel) wd
  have qa1 := f32.2
  unfold postb_199vk692 at qa1
  have a1 := at8 sm1 tp_0 qa1 (by omega) (by omega) (by omega)
  rw [show (n16).toNat = (n1).toNat + 1 by omega] at a1
  have sm2 := SMT_trans sm1 (SMT_fr f32.1.2.1 (by decide +kernel))
  have ks_1 := KS5_le f32.1.1 ks_0
  have tp_1 := TP_le f32.1.1 tp_0
  have wd_1 := WDS_fr f32.1.1 f32.1.2.1 (by decide +kernel) wd_0
  have pk := f39.2
  unfold postb_131v at pk
  have sm3 := SMT_trans sm2 (SMT_fr f39.1.2.1 (by decide +kernel))
  have ks_2 := KS5_le f39.1.1 ks_1
  have tp_2 := TP_le f39.1.1 tp_1
  have wd_2 := WDS_fr f39.1.1 f39.1.2.1 (by decide +kernel) wd_1
  have sk := f44.2
  unfold postb_132v at sk
  have sm4 := SMT_trans sm3 (SMT_fr f44.1.2.1 (by decide +kernel))
  have ks_3 := KS5_le f44.1.1 ks_2
  have tp_3 := TP_le f44.1.1 tp_2
  have wd_3 := WDS_fr f44.1.1 f44.1.2.1 (by decide +kernel) wd_2
  rw [a0] at pk
  rw [a0] at sk
  unfold postb_127v ONE
  have lt := f46.2
  unfold postb_126v at lt
  have nt := NTp_from sm4 lt.1
  rw [f45] at nt
  first
  | exact absurd rfl (by omega)
  | (rw [sk] at nt
     exact ⟨.inr (.inr (.inr (.inr ⟨by omega, by omega, by omega, by omega, by omega, nt⟩))), lt.2⟩)
theorem c_127v_s_90 : vOkm T0 (eP e_127v L_127v A_127v mu_127v none) 4 ([(1, [25, 2, 24], [], 0), (0, [24], [], 1), (1126, [0, 22, 2, 23], [4, 5], 0), (0, [23], [], 0), (1132, [22, 4], [3, 4], 0), (90, [22], [], -2147483648), (91, [22], [], 2147483647), (40, [20, 21], [], 0), (0, [21], [], 1), (1131, [20, 4], [2, 3], 0), (90, [20], [], -2147483648), (91, [20], [], 2147483647), (31, [19], [], 0), (0, [19], [], 0), (41, [17, 18], [], 0), (0, [18], [], 61), (1199, [17, 1, 16], [1, 2], 0), (90, [17], [], -2147483648), (91, [17], [], 2147483647), (1, [16, 2, 15], [], 0), (0, [15], [], 1), (42, [14, 3], [], 0), (1, [14, 2, 13], [], 0), (0, [13], [], 1), (44, [4, 12], [], 0), (0, [12], [], 57), (43, [4, 11], [], 0), (0, [11], [], 48), (44, [4, 10], [], 0), (0, [10], [], 122), (43, [4, 9], [], 0), (0, [9], [], 97), (41, [4, 8], [], 0), (0, [8], [], 32), (41, [4, 7], [], 0), (0, [7], [], 13), (41, [4, 6], [], 0), (0, [6], [], 10), (41, [4, 5], [], 0), (0, [5], [], 9), (1199, [4, 1, 2], [0, 1], 0), (90, [4], [], -2147483648), (91, [4], [], 2147483647), (6000, [0, 1, 2, 3], [0], 0), (0, [0], [], 31), (90, [2], [], -2147483648), (91, [2], [], 2147483647), (90, [3], [], -2147483648), (91, [3], [], 2147483647)], (3000, [25], [5], 157)) := vOk_in fun ρ η h => by
  obtain ⟨f0, f1, f2, f3, f4, f5, f6, f7, f8, f9, f10, f11, f12, f13, f14, f15, f16, f17, f18, f19, f20, f21, f22, f23, f24, f25, f26, f27, f28, f29, f30, f31, f32, f33, f34, f35, f36, f37, f38, f39, f40, f41, f42, f43, f44, f45, f46, f47, f48, _⟩ := h
  exact q_127v_90 (n0 := ρ 3) (n1 := ρ 2) (n2 := ρ 0) (n3 := ρ 1) (n4 := ρ 4) (n5 := ρ 5) (n6 := ρ 6) (n7 := ρ 7) (n8 := ρ 8) (n9 := ρ 9) (n10 := ρ 10) (n11 := ρ 11) (n12 := ρ 12) (n13 := ρ 13) (n14 := ρ 14) (n15 := ρ 15) (n16 := ρ 16) (n17 := ρ 17) (n18 := ρ 18) (n19 := ρ 19) (n20 := ρ 20) (n21 := ρ 21) (n22 := ρ 22) (n23 := ρ 23) (n24 := ρ 24) (n25 := ρ 25) (H0 := η 0) (H1 := η 1) (H2 := η 2) (H3 := η 3) (H4 := η 4) (H5 := η 5) f48 f47 f46 f45 f44 f43 f42 f41 f40 f39 f38 f37 f36 f35 f34 f33 f32 f31 f30 f29 f28 f27 f26 f25 f24 f23 f22 f21 f20 f19 f18 f17 f16 f15 f14 f13 f12 f11 f10 f9 f8 f7 f6 f5 f4 f3 f2 f1 f0
theorem q_127v_91 {n0 n1 n2 n3 n4 n5 n6 n7 n8 n9 n10 n11 n12 n13 n14 n15 n16 n17 n18 n19 n20 n21 n22 : Int} {H0 H1 H2 H3 : gH} (f0 : n0 ≤ 2147483647) (f1 : (-2147483648) ≤ n0) (f2 : n1 ≤ 2147483647) (f3 : (-2147483648) ≤ n1) (f4 : n2 = 31) (f5 : hWt T0 H0 ∧ preb_127v n2 n3 n1 n0 H0) (f6 : n4 ≤ 2147483647) (f7 : (-2147483648) ≤ n4) (f8 : (hLe T0 H0 H1 ∧ hFr s_199vk692.2.2.2.2 H0 H1 ∧ ((0 : Int) = 0 → H1.length = H0.length) ∧ hWt T0 H1) ∧ postb_199vk692 n4 n3 n1 H0 H1) (f9 : n5 = 9) (f10 : n4 ≠ n5) (f11 : n6 = 10) (f12 : n4 ≠ n6) (f13 : n7 = 13) (f14 : n4 ≠ n7) (f15 : n8 = 32) (f16 : n4 ≠ n8) (f17 : n9 = 97) (f18 : n9 ≤ n4) (f19 : n10 = 122) (f20 : n10 < n4) (f21 : n11 = 48) (f22 : n11 ≤ n4) (f23 : n12 = 57) (f24 : n12 < n4) (f25 : n13 = 1) (f26 : n14 = w32 (n1 + n13)) (f27 : n14 < n0) (f28 : n15 = 1) (f29 : n16 = w32 (n1 + n15)) (f30 : n17 ≤ 2147483647) (f31 : (-2147483648) ≤ n17) (f32 : (hLe T0 H1 H2 ∧ hFr s_199vk692.2.2.2.2 H1 H2 ∧ ((0 : Int) = 0 → H2.length = H1.length) ∧ hWt T0 H2) ∧ postb_199vk692 n17 n3 n16 H1 H2) (f33 : n18 = 61) (f34 : n17 ≠ n18) (f35 : n19 = 0) (f36 : n19 ≠ 0) (f37 : n20 ≤ 2147483647) (f38 : (-2147483648) ≤ n20) (f39 : (hLe T0 H2 H3 ∧ hFr s_131v.2.2.2.2 H2 H3 ∧ ((0 : Int) = 0 → H3.length = H2.length) ∧ hWt T0 H3) ∧ postb_131v n20 n4 H2 H3) (f40 : n21 = 1) (f41 : n20 ≠ n21) (f42 : n22 = 0) : preb_126v n2 n20 n1 n22 H3 := by
  have pz := f5.2
  unfold preb_127v at pz
  obtain ⟨ks, tp, wd, b0, b1, b2, b3, c0, c1⟩ := pz
  have et : ((n1).toNat : Int) = n1 := Int.toNat_of_nonneg b1
  have sm0 : SMT H0 H0 := SMT_rfl
  have wq26 := f26
  unfold w32 at wq26
  have wq29 := f29
  unfold w32 at wq29
  have qa0 := f8.2
  unfold postb_199vk692 at qa0
  have a0 := at8 sm0 tp qa0 (by omega) (by omega) (by omega)
  have sm1 := SMT_trans sm0 (SMT_fr f8.1.2.1 (by decide +kernel))
  have ks_0 := KS5_le f8.1.1 ks
  have tp_0 := TP_le f8.1.1 tp
  have wd_0 := WDS_fr f8.1.1 f8.1.2.1 (by decide +kernel) wd
  have qa1 := f32.2
  unfold postb_199vk692 at qa1
  have a1 := at8 sm1 tp_0 qa1 (by omega) (by omega) (by omega)
  rw [show (n16).toNat = (n1).toNat + 1 by omega] at a1
  have sm2 := SMT_trans sm1 (SMT_fr f32.1.2.1 (by decide +kernel))
  have ks_1 := KS5_le f32.1.1 ks_0
  have tp_1 := TP_le f32.1.1 tp_0
  have wd_1 := WDS_fr f32.1.1 f32.1.2.1 (by decide +kernel) wd_0
  have pk := f39.2
  unfold postb_131v at pk
  have sm3 := SMT_trans sm2 (SMT_fr f39.1.2.1 (by decide +kernel))
  have ks_2 := KS5_le f39.1.1 ks_1
  have tp_2 := TP_le f39.1.1 tp_1
  have wd_2 := WDS_fr f39.1.1 f39.1.2.1 (by decide +kernel) wd_1
  rw [a0] at pk
  unfold preb_126v
  exact ⟨ks_2, by rw [sm3.1]; exact c0, by rw [sm3.1]; exact c1⟩
theorem c_127v_s_91 : vOkm T0 (eP e_127v L_127v A_127v mu_127v none) 4 ([(0, [22], [], 0), (41, [20, 21], [], 0), (0, [21], [], 1), (1131, [20, 4], [2, 3], 0), (90, [20], [], -2147483648), (91, [20], [], 2147483647), (31, [19], [], 0), (0, [19], [], 0), (41, [17, 18], [], 0), (0, [18], [], 61), (1199, [17, 1, 16], [1, 2], 0), (90, [17], [], -2147483648), (91, [17], [], 2147483647), (1, [16, 2, 15], [], 0), (0, [15], [], 1), (42, [14, 3], [], 0), (1, [14, 2, 13], [], 0), (0, [13], [], 1), (44, [4, 12], [], 0), (0, [12], [], 57), (43, [4, 11], [], 0), (0, [11], [], 48), (44, [4, 10], [], 0), (0, [10], [], 122), (43, [4, 9], [], 0), (0, [9], [], 97), (41, [4, 8], [], 0), (0, [8], [], 32), (41, [4, 7], [], 0), (0, [7], [], 13), (41, [4, 6], [], 0), (0, [6], [], 10), (41, [4, 5], [], 0), (0, [5], [], 9), (1199, [4, 1, 2], [0, 1], 0), (90, [4], [], -2147483648), (91, [4], [], 2147483647), (6000, [0, 1, 2, 3], [0], 0), (0, [0], [], 31), (90, [2], [], -2147483648), (91, [2], [], 2147483647), (90, [3], [], -2147483648), (91, [3], [], 2147483647)], (2126, [0, 20, 2, 22], [3], 0)) := vOk_in fun ρ η h => by
  obtain ⟨f0, f1, f2, f3, f4, f5, f6, f7, f8, f9, f10, f11, f12, f13, f14, f15, f16, f17, f18, f19, f20, f21, f22, f23, f24, f25, f26, f27, f28, f29, f30, f31, f32, f33, f34, f35, f36, f37, f38, f39, f40, f41, f42, _⟩ := h
  exact q_127v_91 (n0 := ρ 3) (n1 := ρ 2) (n2 := ρ 0) (n3 := ρ 1) (n4 := ρ 4) (n5 := ρ 5) (n6 := ρ 6) (n7 := ρ 7) (n8 := ρ 8) (n9 := ρ 9) (n10 := ρ 10) (n11 := ρ 11) (n12 := ρ 12) (n13 := ρ 13) (n14 := ρ 14) (n15 := ρ 15) (n16 := ρ 16) (n17 := ρ 17) (n18 := ρ 18) (n19 := ρ 19) (n20 := ρ 20) (n21 := ρ 21) (n22 := ρ 22) (H0 := η 0) (H1 := η 1) (H2 := η 2) (H3 := η 3) f42 f41 f40 f39 f38 f37 f36 f35 f34 f33 f32 f31 f30 f29 f28 f27 f26 f25 f24 f23 f22 f21 f20 f19 f18 f17 f16 f15 f14 f13 f12 f11 f10 f9 f8 f7 f6 f5 f4 f3 f2 f1 f0
theorem q_127v_92 {n0 n1 n2 n3 n4 n5 n6 n7 n8 n9 n10 n11 n12 n13 n14 n15 n16 n17 n18 n19 n20 n21 n22 n23 n24 : Int} {H0 H1 H2 H3 H4 : gH} (f0 : n0 ≤ 2147483647) (f1 : (-2147483648) ≤ n0) (f2 : n1 ≤ 2147483647) (f3 : (-2147483648) ≤ n1) (f4 : n2 = 31) (f5 : hWt T0 H0 ∧ preb_127v n2 n3 n1 n0 H0) (f6 : n4 ≤ 2147483647) (f7 : (-2147483648) ≤ n4) (f8 : (hLe T0 H0 H1 ∧ hFr s_199vk692.2.2.2.2 H0 H1 ∧ ((0 : Int) = 0 → H1.length = H0.length) ∧ hWt T0 H1) ∧ postb_199vk692 n4 n3 n1 H0 H1) (f9 : n5 = 9) (f10 : n4 ≠ n5) (f11 : n6 = 10) (f12 : n4 ≠ n6) (f13 : n7 = 13) (f14 : n4 ≠ n7) (f15 : n8 = 32) (f16 : n4 ≠ n8) (f17 : n9 = 97) (f18 : n9 ≤ n4) (f19 : n10 = 122) (f20 : n10 < n4) (f21 : n11 = 48) (f22 : n11 ≤ n4) (f23 : n12 = 57) (f24 : n12 < n4) (f25 : n13 = 1) (f26 : n14 = w32 (n1 + n13)) (f27 : n14 < n0) (f28 : n15 = 1) (f29 : n16 = w32 (n1 + n15)) (f30 : n17 ≤ 2147483647) (f31 : (-2147483648) ≤ n17) (f32 : (hLe T0 H1 H2 ∧ hFr s_199vk692.2.2.2.2 H1 H2 ∧ ((0 : Int) = 0 → H2.length = H1.length) ∧ hWt T0 H2) ∧ postb_199vk692 n17 n3 n16 H1 H2) (f33 : n18 = 61) (f34 : n17 ≠ n18) (f35 : n19 = 0) (f36 : n19 ≠ 0) (f37 : n20 ≤ 2147483647) (f38 : (-2147483648) ≤ n20) (f39 : (hLe T0 H2 H3 ∧ hFr s_131v.2.2.2.2 H2 H3 ∧ ((0 : Int) = 0 → H3.length = H2.length) ∧ hWt T0 H3) ∧ postb_131v n20 n4 H2 H3) (f40 : n21 = 1) (f41 : n20 ≠ n21) (f42 : n22 = 0) (f43 : (hLe T0 H3 H4 ∧ hFr s_126v.2.2.2.2 H3 H4 ∧ ((0 : Int) = 0 → H4.length = H3.length) ∧ hWt T0 H4) ∧ postb_126v n2 n20 n1 n22 H3 H4) (f44 : n23 = 2) (f45 : n24 = w32 (n1 + n23)) : postb_127v n24 n2 n3 n1 n0 H0 H4 := by
  have pz := f5.2
  unfold preb_127v at pz
  obtain ⟨ks, tp, wd, b0, b1, b2, b3, c0, c1⟩ := pz
  have et : ((n1).toNat : Int) = n1 := Int.toNat_of_nonneg b1
  have sm0 : SMT H0 H0 := SMT_rfl
  have wq26 := f26
  unfold w32 at wq26
  have wq29 := f29
  unfold w32 at wq29
  have wq45 := f45
  unfold w32 at wq45
  have qa0 := f8.2
  unfold postb_199vk692 at qa0
  have a0 := at8 sm0 tp qa0 (by omega) (by omega) (by omega)
  have sm1 := SMT_trans sm0 (SMT_fr f8.1.2.1 (by decide +kernel))
  have ks_0 := KS5_le f8.1.1 ks
  have tp_0 := TP_le f8.1.1 tp
  have wd_0 := WDS_fr f8.1.1 f8.1.2.1 (by decide +kernel) wd
  have qa1 := f32.2
  unfold postb_199vk692 at qa1
  have a1 := at8 sm1 tp_0 qa1 (by omega) (by omega) (by omega)
  rw [show (n16).toNat = (n1).toNat + 1 by omega] at a1
  have sm2 := SMT_trans sm1 (SMT_fr f32.1.2.1 (by decide +kernel))
  have ks_1 := KS5_le f32.1.1 ks_0
  have tp_1 := TP_le f32.1.1 tp_0
  have wd_1 := WDS_fr f32.1.1 f32.1.2.1 (by decide +kernel) wd_0
  have pk := f39.2
  unfold postb_131v at pk
  have sm3 := SMT_trans sm2 (SMT_fr f39.1.2.1 (by decide +kernel))
  have ks_2 := KS5_le f39.1.1 ks_1
  have tp_2 := TP_le f39.1.1 tp_1
  have wd_2 := WDS_fr f39.1.1 f39.1.2.1 (by decide +kernel) wd_1
  rw [a0] at pk
  unfold postb_127v ONE
  have lt := f43.2
  unfold postb_126v at lt
  have nt := NTp_from sm3 lt.1
  rw [f42] at nt
  first
  | (exfalso; omega)
  | (rw [pk] at nt
     exact ⟨.inr (.inr (.inr (.inl ⟨by omega, by omega, by omega, ⟨by omega, by omega, by omega⟩, by omega, nt⟩))), lt.2⟩)
theorem c_127v_s_92 : vOkm T0 (eP e_127v L_127v A_127v mu_127v none) 4 ([(1, [24, 2, 23], [], 0), (0, [23], [], 2), (1126, [0, 20, 2, 22], [3, 4], 0), (0, [22], [], 0), (41, [20, 21], [], 0), (0, [21], [], 1), (1131, [20, 4], [2, 3], 0), (90, [20], [], -2147483648), (91, [20], [], 2147483647), (31, [19], [], 0), (0, [19], [], 0), (41, [17, 18], [], 0), (0, [18], [], 61), (1199, [17, 1, 16], [1, 2], 0), (90, [17], [], -2147483648), (91, [17], [], 2147483647), (1, [16, 2, 15], [], 0), (0, [15], [], 1), (42, [14, 3], [], 0), (1, [14, 2, 13], [], 0), (0, [13], [], 1), (44, [4, 12], [], 0), (0, [12], [], 57), (43, [4, 11], [], 0), (0, [11], [], 48), (44, [4, 10], [], 0), (0, [10], [], 122), (43, [4, 9], [], 0), (0, [9], [], 97), (41, [4, 8], [], 0), (0, [8], [], 32), (41, [4, 7], [], 0), (0, [7], [], 13), (41, [4, 6], [], 0), (0, [6], [], 10), (41, [4, 5], [], 0), (0, [5], [], 9), (1199, [4, 1, 2], [0, 1], 0), (90, [4], [], -2147483648), (91, [4], [], 2147483647), (6000, [0, 1, 2, 3], [0], 0), (0, [0], [], 31), (90, [2], [], -2147483648), (91, [2], [], 2147483647), (90, [3], [], -2147483648), (91, [3], [], 2147483647)], (3000, [24], [4], 142)) := vOk_in fun ρ η h => by
  obtain ⟨f0, f1, f2, f3, f4, f5, f6, f7, f8, f9, f10, f11, f12, f13, f14, f15, f16, f17, f18, f19, f20, f21, f22, f23, f24, f25, f26, f27, f28, f29, f30, f31, f32, f33, f34, f35, f36, f37, f38, f39, f40, f41, f42, f43, f44, f45, _⟩ := h
  exact q_127v_92 (n0 := ρ 3) (n1 := ρ 2) (n2 := ρ 0) (n3 := ρ 1) (n4 := ρ 4) (n5 := ρ 5) (n6 := ρ 6) (n7 := ρ 7) (n8 := ρ 8) (n9 := ρ 9) (n10 := ρ 10) (n11 := ρ 11) (n12 := ρ 12) (n13 := ρ 13) (n14 := ρ 14) (n15 := ρ 15) (n16 := ρ 16) (n17 := ρ 17) (n18 := ρ 18) (n19 := ρ 19) (n20 := ρ 20) (n21 := ρ 21) (n22 := ρ 22) (n23 := ρ 23) (n24 := ρ 24) (H0 := η 0) (H1 := η 1) (H2 := η 2) (H3 := η 3) (H4 := η 4) f45 f44 f43 f42 f41 f40 f39 f38 f37 f36 f35 f34 f33 f32 f31 f30 f29 f28 f27 f26 f25 f24 f23 f22 f21 f20 f19 f18 f17 f16 f15 f14 f13 f12 f11 f10 f9 f8 f7 f6 f5 f4 f3 f2 f1 f0
theorem q_127v_93 {n0 n1 n2 n3 n4 n5 n6 n7 n8 n9 n10 n11 n12 n13 n14 n15 n16 n17 n18 n19 n20 n21 n22 n23 : Int} {H0 H1 H2 H3 : gH} (f0 : n0 ≤ 2147483647) (f1 : (-2147483648) ≤ n0) (f2 : n1 ≤ 2147483647) (f3 : (-2147483648) ≤ n1) (f4 : n2 = 31) (f5 : hWt T0 H0 ∧ preb_127v n2 n3 n1 n0 H0) (f6 : n4 ≤ 2147483647) (f7 : (-2147483648) ≤ n4) (f8 : (hLe T0 H0 H1 ∧ hFr s_199vk692.2.2.2.2 H0 H1 ∧ ((0 : Int) = 0 → H1.length = H0.length) ∧ hWt T0 H1) ∧ postb_199vk692 n4 n3 n1 H0 H1) (f9 : n5 = 9) (f10 : n4 ≠ n5) (f11 : n6 = 10) (f12 : n4 ≠ n6) (f13 : n7 = 13) (f14 : n4 ≠ n7) (f15 : n8 = 32) (f16 : n4 ≠ n8) (f17 : n9 = 97) (f18 : n9 ≤ n4) (f19 : n10 = 122) (f20 : n10 < n4) (f21 : n11 = 48) (f22 : n11 ≤ n4) (f23 : n12 = 57) (f24 : n12 < n4) (f25 : n13 = 1) (f26 : n14 = w32 (n1 + n13)) (f27 : n14 < n0) (f28 : n15 = 1) (f29 : n16 = w32 (n1 + n15)) (f30 : n17 ≤ 2147483647) (f31 : (-2147483648) ≤ n17) (f32 : (hLe T0 H1 H2 ∧ hFr s_199vk692.2.2.2.2 H1 H2 ∧ ((0 : Int) = 0 → H2.length = H1.length) ∧ hWt T0 H2) ∧ postb_199vk692 n17 n3 n16 H1 H2) (f33 : n18 = 61) (f34 : n17 = n18) (f35 : n19 = 1) (f36 : n19 = 0) (f37 : n20 = 1) (f38 : n21 = 1) (f39 : n20 = n21) (f40 : n22 ≤ 2147483647) (f41 : (-2147483648) ≤ n22) (f42 : (hLe T0 H2 H3 ∧ hFr s_132v.2.2.2.2 H2 H3 ∧ ((0 : Int) = 0 → H3.length = H2.length) ∧ hWt T0 H3) ∧ postb_132v n22 n4 H2 H3) (f43 : n23 = 0) : preb_126v n2 n22 n1 n23 H3 := by
  have pz := f5.2
  unfold preb_127v at pz
  obtain ⟨ks, tp, wd, b0, b1, b2, b3, c0, c1⟩ := pz
  have et : ((n1).toNat : Int) = n1 := Int.toNat_of_nonneg b1
  have sm0 : SMT H0 H0 := SMT_rfl
  have wq26 := f26
  unfold w32 at wq26
  have wq29 := f29
  unfold w32 at wq29
  have qa0 := f8.2
  unfold postb_199vk692 at qa0
  have a0 := at8 sm0 tp qa0 (by omega) (by omega) (by omega)
  have sm1 := SMT_trans sm0 (SMT_fr f8.1.2.1 (by decide +kernel))
  have ks_0 := KS5_le f8.1.1 ks
  have tp_0 := TP_le f8.1.1 tp
  have wd_0 := WDS_fr f8.1.1 f8.1.2.1 (by decide +kernel) wd
  have qa1 := f32.2
  unfold postb_199vk692 at qa1
  have a1 := at8 sm1 tp_0 qa1 (by omega) (by omega) (by omega)
  rw [show (n16).toNat = (n1).toNat + 1 by omega] at a1
  have sm2 := SMT_trans sm1 (SMT_fr f32.1.2.1 (by decide +kernel))
  have ks_1 := KS5_le f32.1.1 ks_0
  have tp_1 := TP_le f32.1.1 tp_0
  have wd_1 := WDS_fr f32.1.1 f32.1.2.1 (by decide +kernel) wd_0
  have sk := f42.2
  unfold postb_132v at sk
  have sm3 := SMT_trans sm2 (SMT_fr f42.1.2.1 (by decide +kernel))
  have ks_2 := KS5_le f42.1.1 ks_1
  have tp_2 := TP_le f42.1.1 tp_1
  have wd_2 := WDS_fr f42.1.1 f42.1.2.1 (by decide +kernel) wd_1
  rw [a0] at sk
  unfold preb_126v
  exact ⟨ks_2, by rw [sm3.1]; exact c0, by rw [sm3.1]; exact c1⟩
theorem c_127v_s_93 : vOkm T0 (eP e_127v L_127v A_127v mu_127v none) 4 ([(0, [23], [], 0), (1132, [22, 4], [2, 3], 0), (90, [22], [], -2147483648), (91, [22], [], 2147483647), (40, [20, 21], [], 0), (0, [21], [], 1), (0, [20], [], 1), (30, [19], [], 0), (0, [19], [], 1), (40, [17, 18], [], 0), (0, [18], [], 61), (1199, [17, 1, 16], [1, 2], 0), (90, [17], [], -2147483648), (91, [17], [], 2147483647), (1, [16, 2, 15], [], 0), (0, [15], [], 1), (42, [14, 3], [], 0), (1, [14, 2, 13], [], 0), (0, [13], [], 1), (44, [4, 12], [], 0), (0, [12], [], 57), (43, [4, 11], [], 0), (0, [11], [], 48), (44, [4, 10], [], 0), (0, [10], [], 122), (43, [4, 9], [], 0), (0, [9], [], 97), (41, [4, 8], [], 0), (0, [8], [], 32), (41, [4, 7], [], 0), (0, [7], [], 13), (41, [4, 6], [], 0), (0, [6], [], 10), (41, [4, 5], [], 0), (0, [5], [], 9), (1199, [4, 1, 2], [0, 1], 0), (90, [4], [], -2147483648), (91, [4], [], 2147483647), (6000, [0, 1, 2, 3], [0], 0), (0, [0], [], 31), (90, [2], [], -2147483648), (91, [2], [], 2147483647), (90, [3], [], -2147483648), (91, [3], [], 2147483647)], (2126, [0, 22, 2, 23], [3], 0)) := vOk_in fun ρ η h => by
  obtain ⟨f0, f1, f2, f3, f4, f5, f6, f7, f8, f9, f10, f11, f12, f13, f14, f15, f16, f17, f18, f19, f20, f21, f22, f23, f24, f25, f26, f27, f28, f29, f30, f31, f32, f33, f34, f35, f36, f37, f38, f39, f40, f41, f42, f43, _⟩ := h
  exact q_127v_93 (n0 := ρ 3) (n1 := ρ 2) (n2 := ρ 0) (n3 := ρ 1) (n4 := ρ 4) (n5 := ρ 5) (n6 := ρ 6) (n7 := ρ 7) (n8 := ρ 8) (n9 := ρ 9) (n10 := ρ 10) (n11 := ρ 11) (n12 := ρ 12) (n13 := ρ 13) (n14 := ρ 14) (n15 := ρ 15) (n16 := ρ 16) (n17 := ρ 17) (n18 := ρ 18) (n19 := ρ 19) (n20 := ρ 20) (n21 := ρ 21) (n22 := ρ 22) (n23 := ρ 23) (H0 := η 0) (H1 := η 1) (H2 := η 2) (H3 := η 3) f43 f42 f41 f40 f39 f38 f37 f36 f35 f34 f33 f32 f31 f30 f29 f28 f27 f26 f25 f24 f23 f22 f21 f20 f19 f18 f17 f16 f15 f14 f13 f12 f11 f10 f9 f8 f7 f6 f5 f4 f3 f2 f1 f0
theorem q_127v_94 {n0 n1 n2 n3 n4 n5 n6 n7 n8 n9 n10 n11 n12 n13 n14 n15 n16 n17 n18 n19 n20 n21 n22 n23 n24 n25 : Int} {H0 H1 H2 H3 H4 : gH} (f0 : n0 ≤ 2147483647) (f1 : (-2147483648) ≤ n0) (f2 : n1 ≤ 2147483647) (f3 : (-2147483648) ≤ n1) (f4 : n2 = 31) (f5 : hWt T0 H0 ∧ preb_127v n2 n3 n1 n0 H0) (f6 : n4 ≤ 2147483647) (f7 : (-2147483648) ≤ n4) (f8 : (hLe T0 H0 H1 ∧ hFr s_199vk692.2.2.2.2 H0 H1 ∧ ((0 : Int) = 0 → H1.length = H0.length) ∧ hWt T0 H1) ∧ postb_199vk692 n4 n3 n1 H0 H1) (f9 : n5 = 9) (f10 : n4 ≠ n5) (f11 : n6 = 10) (f12 : n4 ≠ n6) (f13 : n7 = 13) (f14 : n4 ≠ n7) (f15 : n8 = 32) (f16 : n4 ≠ n8) (f17 : n9 = 97) (f18 : n9 ≤ n4) (f19 : n10 = 122) (f20 : n10 < n4) (f21 : n11 = 48) (f22 : n11 ≤ n4) (f23 : n12 = 57) (f24 : n12 < n4) (f25 : n13 = 1) (f26 : n14 = w32 (n1 + n13)) (f27 : n14 < n0) (f28 : n15 = 1) (f29 : n16 = w32 (n1 + n15)) (f30 : n17 ≤ 2147483647) (f31 : (-2147483648) ≤ n17) (f32 : (hLe T0 H1 H2 ∧ hFr s_199vk692.2.2.2.2 H1 H2 ∧ ((0 : Int) = 0 → H2.length = H1.length) ∧ hWt T0 H2) ∧ postb_199vk692 n17 n3 n16 H1 H2) (f33 : n18 = 61) (f34 : n17 = n18) (f35 : n19 = 1) (f36 : n19 = 0) (f37 : n20 = 1) (f38 : n21 = 1) (f39 : n20 = n21) (f40 : n22 ≤ 2147483647) (f41 : (-2147483648) ≤ n22) (f42 : (hLe T0 H2 H3 ∧ hFr s_132v.2.2.2.2 H2 H3 ∧ ((0 : Int) = 0 → H3.length = H2.length) ∧ hWt T0 H3) ∧ postb_132v n22 n4 H2 H3) (f43 : n23 = 0) (f44 : (hLe T0 H3 H4 ∧ hFr s_126v.2.2.2.2 H3 H4 ∧ ((0 : Int) = 0 → H4.length = H3.length) ∧ hWt T0 H4) ∧ postb_126v n2 n22 n1 n23 H3 H4) (f45 : n24 = 1) (f46 : n25 = w32 (n1 + n24)) : postb_127v n25 n2 n3 n1 n0 H0 H4 := by
  have pz := f5.2
  unfold preb_127v at pz
  obtain ⟨ks, tp, wd, b0, b1, b2, b3, c0, c1⟩ := pz
  have et : ((n1).toNat : Int) = n1 := Int.toNat_of_nonneg b1
  have sm0 : SMT H0 H0 := SMT_rfl
  have wq26 := f26
  unfold w32 at wq26
  have wq29 := f29
  unfold w32 at wq29
  have wq46 := f46
  unfold w32 at wq46
  have qa0 := f8.2
  unfold postb_199vk692 at qa0
  have a0 := at8 sm0 tp qa0 (by omega) (by omega) (by omega)
  have sm1 := SMT_trans sm0 (SMT_fr f8.1.2.1 (by decide +kernel))
  have ks_0 := KS5_le f8.1.1 ks
  have tp_0 := TP_le f8.1.1 tp
  have wd_0 := WDS_fr f8.1.1 f8.1.2.1 (by decide +kernel) wd
  have qa1 := f32.2
  unfold postb_199vk692 at qa1
  have a1 := at8 sm1 tp_0 qa1 (by omega) (by omega) (by omega)
  rw [show (n16).toNat = (n1).toNat + 1 by omega] at a1
  have sm2 := SMT_trans sm1 (SMT_fr f32.1.2.1 (by decide +kernel))
  have ks_1 := KS5_le f32.1.1 ks_0
  have tp_1 := TP_le f32.1.1 tp_0
  have wd_1 := WDS_fr f32.1.1 f32.1.2.1 (by decide +kernel) wd_0
  have sk := f42.2
  unfold postb_132v at sk
  have sm3 := SMT_trans sm2 (SMT_fr f42.1.2.1 (by decide +kernel))
  have ks_2 := KS5_le f42.1.1 ks_1
  have tp_2 := TP_le f42.1.1 tp_1
  have wd_2 := WDS_fr f42.1.1 f42.1.2.1 (by decide +kernel) wd_1
  rw [a0] at sk
  unfold postb_127v ONE
  have lt := f44.2
  unfold postb_126v at lt
  have nt := NTp_from sm3 lt.1
  rw [f43] at nt
  first
  | exact absurd rfl (by omega)
  | (rw [sk] at nt
     exact ⟨.inr (.inr (.inr (.inr ⟨by omega, by omega, by omega, by omega, by omega, nt⟩))), lt.2⟩)
theorem c_127v_s_94 : vOkm T0 (eP e_127v L_127v A_127v mu_127v none) 4 ([(1, [25, 2, 24], [], 0), (0, [24], [], 1), (1126, [0, 22, 2, 23], [3, 4], 0), (0, [23], [], 0), (1132, [22, 4], [2, 3], 0), (90, [22], [], -2147483648), (91, [22], [], 2147483647), (40, [20, 21], [], 0), (0, [21], [], 1), (0, [20], [], 1), (30, [19], [], 0), (0, [19], [], 1), (40, [17, 18], [], 0), (0, [18], [], 61), (1199, [17, 1, 16], [1, 2], 0), (90, [17], [], -2147483648), (91, [17], [], 2147483647), (1, [16, 2, 15], [], 0), (0, [15], [], 1), (42, [14, 3], [], 0), (1, [14, 2, 13], [], 0), (0, [13], [], 1), (44, [4, 12], [], 0), (0, [12], [], 57), (43, [4, 11], [], 0), (0, [11], [], 48), (44, [4, 10], [], 0), (0, [10], [], 122), (43, [4, 9], [], 0), (0, [9], [], 97), (41, [4, 8], [], 0), (0, [8], [], 32), (41, [4, 7], [], 0), (0, [7], [], 13), (41, [4, 6], [], 0), (0, [6], [], 10), (41, [4, 5], [], 0), (0, [5], [], 9), (1199, [4, 1, 2], [0, 1], 0), (90, [4], [], -2147483648), (91, [4], [], 2147483647), (6000, [0, 1, 2, 3], [0], 0), (0, [0], [], 31), (90, [2], [], -2147483648), (91, [2], [], 2147483647), (90, [3], [], -2147483648), (91, [3], [], 2147483647)], (3000, [25], [4], 157)) := vOk_in fun ρ η h => by
  obtain ⟨f0, f1, f2, f3, f4, f5, f6, f7, f8, f9, f10, f11, f12, f13, f14, f15, f16, f17, f18, f19, f20, f21, f22, f23, f24, f25, f26, f27, f28, f29, f30, f31, f32, f33, f34, f35, f36, f37, f38, f39, f40, f41, f42, f43, f44, f45, f46, _⟩ := h
  exact q_127v_94 (n0 := ρ 3) (n1 := ρ 2) (n2 := ρ 0) (n3 := ρ 1) (n4 := ρ 4) (n5 := ρ 5) (n6 := ρ 6) (n7 := ρ 7) (n8 := ρ 8) (n9 := ρ 9) (n10 := ρ 10) (n11 := ρ 11) (n12 := ρ 12) (n13 := ρ 13) (n14 := ρ 14) (n15 := ρ 15) (n16 := ρ 16) (n17 := ρ 17) (n18 := ρ 18) (n19 := ρ 19) (n20 := ρ 20) (n21 := ρ 21) (n22 := ρ 22) (n23 := ρ 23) (n24 := ρ 24) (n25 := ρ 25) (H0 := η 0) (H1 := η 1) (H2 := η 2) (H3 := η 3) (H4 := η 4) f46 f45 f44 f43 f42 f41 f40 f39 f38 f37 f36 f35 f34 f33 f32 f31 f30 f29 f28 f27 f26 f25 f24 f23 f22 f21 f20 f19 f18 f17 f16 f15 f14 f13 f12 f11 f10 f9 f8 f7 f6 f5 f4 f3 f2 f1 f0
theorem q_127v_95 {n0 n1 n2 n3 n4 n5 n6 n7 n8 n9 n10 n11 n12 n13 n14 n15 n16 n17 n18 n19 n20 n21 n22 : Int} {H0 H1 H2 : gH} (f0 : n0 ≤ 2147483647) (f1 : (-2147483648) ≤ n0) (f2 : n1 ≤ 2147483647) (f3 : (-2147483648) ≤ n1) (f4 : n2 = 31) (f5 : hWt T0 H0 ∧ preb_127v n2 n3 n1 n0 H0) (f6 : n4 ≤ 2147483647) (f7 : (-2147483648) ≤ n4) (f8 : (hLe T0 H0 H1 ∧ hFr s_199vk692.2.2.2.2 H0 H1 ∧ ((0 : Int) = 0 → H1.length = H0.length) ∧ hWt T0 H1) ∧ postb_199vk692 n4 n3 n1 H0 H1) (f9 : n5 = 9) (f10 : n4 ≠ n5) (f11 : n6 = 10) (f12 : n4 ≠ n6) (f13 : n7 = 13) (f14 : n4 ≠ n7) (f15 : n8 = 32) (f16 : n4 ≠ n8) (f17 : n9 = 97) (f18 : n9 ≤ n4) (f19 : n10 = 122) (f20 : n10 < n4) (f21 : n11 = 48) (f22 : n11 ≤ n4) (f23 : n12 = 57) (f24 : n12 < n4) (f25 : n13 = 1) (f26 : n14 = w32 (n1 + n13)) (f27 : n14 < n0) (f28 : n15 = 1) (f29 : n16 = w32 (n1 + n15)) (f30 : n17 ≤ 2147483647) (f31 : (-2147483648) ≤ n17) (f32 : (hLe T0 H1 H2 ∧ hFr s_199vk692.2.2.2.2 H1 H2 ∧ ((0 : Int) = 0 → H2.length = H1.length) ∧ hWt T0 H2) ∧ postb_199vk692 n17 n3 n16 H1 H2) (f33 : n18 = 61) (f34 : n17 = n18) (f35 : n19 = 1) (f36 : n19 = 0) (f37 : n20 = 1) (f38 : n21 = 1) (f39 : n20 ≠ n21) (f40 : n22 = 0) : preb_126v n2 n20 n1 n22 H2 := by
  have pz := f5.2
  unfold preb_127v at pz
  obtain ⟨ks, tp, wd, b0, b1, b2, b3, c0, c1⟩ := pz
  have et : ((n1).toNat : Int) = n1 := Int.toNat_of_nonneg b1
  have sm0 : SMT H0 H0 := SMT_rfl
  have wq26 := f26
  unfold w32 at wq26
  have wq29 := f29
  unfold w32 at wq29
  have qa0 := f8.2
  unfold postb_199vk692 at qa0
  have a0 := at8 sm0 tp qa0 (by omega) (by omega) (by omega)
  have sm1 := SMT_trans sm0 (SMT_fr f8.1.2.1 (by decide +kernel))
  have ks_0 := KS5_le f8.1.1 ks
  have tp_0 := TP_le f8.1.1 tp
  have wd_0 := WDS_fr f8.1.1 f8.1.2.1 (by decide +kernel) wd
  have qa1 := f32.2
  unfold postb_199vk692 at qa1
  have a1 := at8 sm1 tp_0 qa1 (by omega) (by omega) (by omega)
  rw [show (n16).toNat = (n1).toNat + 1 by omega] at a1
  have sm2 := SMT_trans sm1 (SMT_fr f32.1.2.1 (by decide +kernel))
  have ks_1 := KS5_le f32.1.1 ks_0
  have tp_1 := TP_le f32.1.1 tp_0
  have wd_1 := WDS_fr f32.1.1 f32.1.2.1 (by decide +kernel) wd_0
  unfold preb_126v
  exact ⟨ks_1, by rw [sm2.1]; exact c0, by rw [sm2.1]; exact c1⟩
theorem c_127v_s_95 : vOkm T0 (eP e_127v L_127v A_127v mu_127v none) 4 ([(0, [22], [], 0), (41, [20, 21], [], 0), (0, [21], [], 1), (0, [20], [], 1), (30, [19], [], 0), (0, [19], [], 1), (40, [17, 18], [], 0), (0, [18], [], 61), (1199, [17, 1, 16], [1, 2], 0), (90, [17], [], -2147483648), (91, [17], [], 2147483647), (1, [16, 2, 15], [], 0), (0, [15], [], 1), (42, [14, 3], [], 0), (1, [14, 2, 13], [], 0), (0, [13], [], 1), (44, [4, 12], [], 0), (0, [12], [], 57), (43, [4, 11], [], 0), (0, [11], [], 48), (44, [4, 10], [], 0), (0, [10], [], 122), (43, [4, 9], [], 0), (0, [9], [], 97), (41, [4, 8], [], 0), (0, [8], [], 32), (41, [4, 7], [], 0), (0, [7], [], 13), (41, [4, 6], [], 0), (0, [6], [], 10), (41, [4, 5], [], 0), (0, [5], [], 9), (1199, [4, 1, 2], [0, 1], 0), (90, [4], [], -2147483648), (91, [4], [], 2147483647), (6000, [0, 1, 2, 3], [0], 0), (0, [0], [], 31), (90, [2], [], -2147483648), (91, [2], [], 2147483647), (90, [3], [], -2147483648), (91, [3], [], 2147483647)], (2126, [0, 20, 2, 22], [2], 0)) := vOk_in fun ρ η h => by
  obtain ⟨f0, f1, f2, f3, f4, f5, f6, f7, f8, f9, f10, f11, f12, f13, f14, f15, f16, f17, f18, f19, f20, f21, f22, f23, f24, f25, f26, f27, f28, f29, f30, f31, f32, f33, f34, f35, f36, f37, f38, f39, f40, _⟩ := h
  exact q_127v_95 (n0 := ρ 3) (n1 := ρ 2) (n2 := ρ 0) (n3 := ρ 1) (n4 := ρ 4) (n5 := ρ 5) (n6 := ρ 6) (n7 := ρ 7) (n8 := ρ 8) (n9 := ρ 9) (n10 := ρ 10) (n11 := ρ 11) (n12 := ρ 12) (n13 := ρ 13) (n14 := ρ 14) (n15 := ρ 15) (n16 := ρ 16) (n17 := ρ 17) (n18 := ρ 18) (n19 := ρ 19) (n20 := ρ 20) (n21 := ρ 21) (n22 := ρ 22) (H0 := η 0) (H1 := η 1) (H2 := η 2) f40 f39 f38 f37 f36 f35 f34 f33 f32 f31 f30 f29 f28 f27 f26 f25 f24 f23 f22 f21 f20 f19 f18 f17 f16 f15 f14 f13 f12 f11 f10 f9 f8 f7 f6 f5 f4 f3 f2 f1 f0
theorem q_127v_96 {n0 n1 n2 n3 n4 n5 n6 n7 n8 n9 n10 n11 n12 n13 n14 n15 n16 n17 n18 n19 n20 n21 n22 n23 n24 : Int} {H0 H1 H2 H3 : gH} (f0 : n0 ≤ 2147483647) (f1 : (-2147483648) ≤ n0) (f2 : n1 ≤ 2147483647) (f3 : (-2147483648) ≤ n1) (f4 : n2 = 31) (f5 : hWt T0 H0 ∧ preb_127v n2 n3 n1 n0 H0) (f6 : n4 ≤ 2147483647) (f7 : (-2147483648) ≤ n4) (f8 : (hLe T0 H0 H1 ∧ hFr s_199vk692.2.2.2.2 H0 H1 ∧ ((0 : Int) = 0 → H1.length = H0.length) ∧ hWt T0 H1) ∧ postb_199vk692 n4 n3 n1 H0 H1) (f9 : n5 = 9) (f10 : n4 ≠ n5) (f11 : n6 = 10) (f12 : n4 ≠ n6) (f13 : n7 = 13) (f14 : n4 ≠ n7) (f15 : n8 = 32) (f16 : n4 ≠ n8) (f17 : n9 = 97) (f18 : n9 ≤ n4) (f19 : n10 = 122) (f20 : n10 < n4) (f21 : n11 = 48) (f22 : n11 ≤ n4) (f23 : n12 = 57) (f24 : n12 < n4) (f25 : n13 = 1) (f26 : n14 = w32 (n1 + n13)) (f27 : n14 < n0) (f28 : n15 = 1) (f29 : n16 = w32 (n1 + n15)) (f30 : n17 ≤ 2147483647) (f31 : (-2147483648) ≤ n17) (f32 : (hLe T0 H1 H2 ∧ hFr s_199vk692.2.2.2.2 H1 H2 ∧ ((0 : Int) = 0 → H2.length = H1.length) ∧ hWt T0 H2) ∧ postb_199vk692 n17 n3 n16 H1 H2) (f33 : n18 = 61) (f34 : n17 = n18) (f35 : n19 = 1) (f36 : n19 = 0) (f37 : n20 = 1) (f38 : n21 = 1) (f39 : n20 ≠ n21) (f40 : n22 = 0) (f41 : (hLe T0 H2 H3 ∧ hFr s_126v.2.2.2.2 H2 H3 ∧ ((0 : Int) = 0 → H3.length = H2.length) ∧ hWt T0 H3) ∧ postb_126v n2 n20 n1 n22 H2 H3) (f42 : n23 = 2) (f43 : n24 = w32 (n1 + n23)) : postb_127v n24 n2 n3 n1 n0 H0 H3 := by
  have pz := f5.2
  unfold preb_127v at pz
  obtain ⟨ks, tp, wd, b0, b1, b2, b3, c0, c1⟩ := pz
  have et : ((n1).toNat : Int) = n1 := Int.toNat_of_nonneg b1
  have sm0 : SMT H0 H0 := SMT_rfl
  have wq26 := f26
  unfold w32 at wq26
  have wq29 := f29
  unfold w32 at wq29
  have wq43 := f43
  unfold w32 at wq43
  have qa0 := f8.2
  unfold postb_199vk692 at qa0
  have a0 := at8 sm0 tp qa0 (by omega) (by omega) (by omega)
  have sm1 := SMT_trans sm0 (SMT_fr f8.1.2.1 (by decide +kernel))
  have ks_0 := KS5_le f8.1.1 ks
  have tp_0 := TP_le f8.1.1 tp
  have wd_0 := WDS_fr f8.1.1 f8.1.2.1 (by decide +kernel) wd
  have qa1 := f32.2
  unfold postb_199vk692 at qa1
  have a1 := at8 sm1 tp_0 qa1 (by omega) (by omega) (by omega)
  rw [show (n16).toNat = (n1).toNat + 1 by omega] at a1
  have sm2 := SMT_trans sm1 (SMT_fr f32.1.2.1 (by decide +kernel))
  have ks_1 := KS5_le f32.1.1 ks_0
  have tp_1 := TP_le f32.1.1 tp_0
  have wd_1 := WDS_fr f32.1.1 f32.1.2.1 (by decide +kernel) wd_0
  unfold postb_127v ONE
  have lt := f41.2
  unfold postb_126v at lt
  have nt := NTp_from sm2 lt.1
  rw [f40] at nt
  first
  | (exfalso; omega)
  | (rw [pk] at nt
     exact ⟨.inr (.inr (.inr (.inl ⟨by omega, by omega, by omega, ⟨by omega, by omega, by omega⟩, by omega, nt⟩))), lt.2⟩)
theorem c_127v_s_96 : vOkm T0 (eP e_127v L_127v A_127v mu_127v none) 4 ([(1, [24, 2, 23], [], 0), (0, [23], [], 2), (1126, [0, 20, 2, 22], [2, 3], 0), (0, [22], [], 0), (41, [20, 21], [], 0), (0, [21], [], 1), (0, [20], [], 1), (30, [19], [], 0), (0, [19], [], 1), (40, [17, 18], [], 0), (0, [18], [], 61), (1199, [17, 1, 16], [1, 2], 0), (90, [17], [], -2147483648), (91, [17], [], 2147483647), (1, [16, 2, 15], [], 0), (0, [15], [], 1), (42, [14, 3], [], 0), (1, [14, 2, 13], [], 0), (0, [13], [], 1), (44, [4, 12], [], 0), (0, [12], [], 57), (43, [4, 11], [], 0), (0, [11], [], 48), (44, [4, 10], [], 0), (0, [10], [], 122), (43, [4, 9], [], 0), (0, [9], [], 97), (41, [4, 8], [], 0), (0, [8], [], 32), (41, [4, 7], [], 0), (0, [7], [], 13), (41, [4, 6], [], 0), (0, [6], [], 10), (41, [4, 5], [], 0), (0, [5], [], 9), (1199, [4, 1, 2], [0, 1], 0), (90, [4], [], -2147483648), (91, [4], [], 2147483647), (6000, [0, 1, 2, 3], [0], 0), (0, [0], [], 31), (90, [2], [], -2147483648), (91, [2], [], 2147483647), (90, [3], [], -2147483648), (91, [3], [], 2147483647)], (3000, [24], [3], 142)) := vOk_in fun ρ η h => by
  obtain ⟨f0, f1, f2, f3, f4, f5, f6, f7, f8, f9, f10, f11, f12, f13, f14, f15, f16, f17, f18, f19, f20, f21, f22, f23, f24, f25, f26, f27, f28, f29, f30, f31, f32, f33, f34, f35, f36, f37, f38, f39, f40, f41, f42, f43, _⟩ := h
  exact q_127v_96 (n0 := ρ 3) (n1 := ρ 2) (n2 := ρ 0) (n3 := ρ 1) (n4 := ρ 4) (n5 := ρ 5) (n6 := ρ 6) (n7 := ρ 7) (n8 := ρ 8) (n9 := ρ 9) (n10 := ρ 10) (n11 := ρ 11) (n12 := ρ 12) (n13 := ρ 13) (n14 := ρ 14) (n15 := ρ 15) (n16 := ρ 16) (n17 := ρ 17) (n18 := ρ 18) (n19 := ρ 19) (n20 := ρ 20) (n21 := ρ 21) (n22 := ρ 22) (n23 := ρ 23) (n24 := ρ 24) (H0 := η 0) (H1 := η 1) (H2 := η 2) (H3 := η 3) f43 f42 f41 f40 f39 f38 f37 f36 f35 f34 f33 f32 f31 f30 f29 f28 f27 f26 f25 f24 f23 f22 f21 f20 f19 f18 f17 f16 f15 f14 f13 f12 f11 f10 f9 f8 f7 f6 f5 f4 f3 f2 f1 f0
theorem q_127v_97 {n0 n1 n2 n3 n4 n5 n6 n7 n8 n9 n10 n11 n12 n13 n14 n15 n16 n17 n18 n19 n20 n21 n22 n23 : Int} {H0 H1 H2 H3 H4 : gH} (f0 : n0 ≤ 2147483647) (f1 : (-2147483648) ≤ n0) (f2 : n1 ≤ 2147483647) (f3 : (-2147483648) ≤ n1) (f4 : n2 = 31) (f5 : hWt T0 H0 ∧ preb_127v n2 n3 n1 n0 H0) (f6 : n4 ≤ 2147483647) (f7 : (-2147483648) ≤ n4) (f8 : (hLe T0 H0 H1 ∧ hFr s_199vk692.2.2.2.2 H0 H1 ∧ ((0 : Int) = 0 → H1.length = H0.length) ∧ hWt T0 H1) ∧ postb_199vk692 n4 n3 n1 H0 H1) (f9 : n5 = 9) (f10 : n4 ≠ n5) (f11 : n6 = 10) (f12 : n4 ≠ n6) (f13 : n7 = 13) (f14 : n4 ≠ n7) (f15 : n8 = 32) (f16 : n4 ≠ n8) (f17 : n9 = 97) (f18 : n9 ≤ n4) (f19 : n10 = 122) (f20 : n10 < n4) (f21 : n11 = 48) (f22 : n11 ≤ n4) (f23 : n12 = 57) (f24 : n12 < n4) (f25 : n13 = 1) (f26 : n14 = w32 (n1 + n13)) (f27 : n14 < n0) (f28 : n15 = 1) (f29 : n16 = w32 (n1 + n15)) (f30 : n17 ≤ 2147483647) (f31 : (-2147483648) ≤ n17) (f32 : (hLe T0 H1 H2 ∧ hFr s_199vk692.2.2.2.2 H1 H2 ∧ ((0 : Int) = 0 → H2.length = H1.length) ∧ hWt T0 H2) ∧ postb_199vk692 n17 n3 n16 H1 H2) (f33 : n18 = 61) (f34 : n17 = n18) (f35 : n19 = 1) (f36 : n19 ≠ 0) (f37 : n20 ≤ 2147483647) (f38 : (-2147483648) ≤ n20) (f39 : (hLe T0 H2 H3 ∧ hFr s_131v.2.2.2.2 H2 H3 ∧ ((0 : Int) = 0 → H3.length = H2.length) ∧ hWt T0 H3) ∧ postb_131v n20 n4 H2 H3) (f40 : n21 = 1) (f41 : n20 = n21) (f42 : n22 ≤ 2147483647) (f43 : (-2147483648) ≤ n22) (f44 : (hLe T0 H3 H4 ∧ hFr s_132v.2.2.2.2 H3 H4 ∧ ((0 : Int) = 0 → H4.length = H3.length) ∧ hWt T0 H4) ∧ postb_132v n22 n4 H3 H4) (f45 : n23 = 0) : preb_126v n2 n22 n1 n23 H4 := by
  have pz := f5.2
  unfold preb_127v at pz
  obtain ⟨ks, tp, wd, b0, b1, b2, b3, c0, c1⟩ := pz
  have et : ((n1).toNat : Int) = n1 := Int.toNat_of_nonneg b1
  have sm0 : SMT H0 H0 := SMT_rfl
  have wq26 := f26
  unfold w32 at wq26
  have wq29 := f29
  unfold w32 at wq29
  have qa0 := f8.2
  unfold postb_199vk692 at qa0
  have a0 := at8 sm0 tp qa0 (by omega) (by omega) (by omega)
  have sm1 := SMT_trans sm0 (SMT_fr f8.1.2.1 (by decide +kernel))
  have ks_0 := KS5_le f8.1.1 ks
  have tp_0 := TP_le f8.1.1 tp
  have wd_0 := WDS_fr f8.1.1 f8.1.2.1 (by decide +kernel) wd
  have qa1 := f32.2
  unfold postb_199vk692 at qa1
  have a1 := at8 sm1 tp_0 qa1 (by omega) (by omega) (by omega)
  rw [show (n16).toNat = (n1).toNat + 1 by omega] at a1
  have sm2 := SMT_trans sm1 (SMT_fr f32.1.2.1 (by decide +kernel))
  have ks_1 := KS5_le f32.1.1 ks_0
  have tp_1 := TP_le f32.1.1 tp_0
  have wd_1 := WDS_fr f32.1.1 f32.1.2.1 (by decide +kernel) wd_0
  have pk := f39.2
  unfold postb_131v at pk
  have sm3 := SMT_trans sm2 (SMT_fr f39.1.2.1 (by decide +kernel))
  have ks_2 := KS5_le f39.1.1 ks_1
  have tp_2 := TP_le f39.1.1 tp_1
  have wd_2 := WDS_fr f39.1.1 f39.1.2.1 (by decide +kernel) wd_1
  have sk := f44.2
  unfold postb_132v at sk
  have sm4 := SMT_trans sm3 (SMT_fr f44.1.2.1 (by decide +kernel))
  have ks_3 := KS5_le f44.1.1 ks_2
  have tp_3 := TP_le f44.1.1 tp_2
  have wd_3 := WDS_fr f44.1.1 f44.1.2.1 (by decide +kernel) wd_2
  rw [a0] at pk
  rw [a0] at sk
  unfold preb_126v
  exact ⟨ks_3, by rw [sm4.1]; exact c0, by rw [sm4.1]; exact c1⟩
theorem c_127v_s_97 : vOkm T0 (eP e_127v L_127v A_127v mu_127v none) 4 ([(0, [23], [], 0), (1132, [22, 4], [3, 4], 0), (90, [22], [], -2147483648), (91, [22], [], 2147483647), (40, [20, 21], [], 0), (0, [21], [], 1), (1131, [20, 4], [2, 3], 0), (90, [20], [], -2147483648), (91, [20], [], 2147483647), (31, [19], [], 0), (0, [19], [], 1), (40, [17, 18], [], 0), (0, [18], [], 61), (1199, [17, 1, 16], [1, 2], 0), (90, [17], [], -2147483648), (91, [17], [], 2147483647), (1, [16, 2, 15], [], 0), (0, [15], [], 1), (42, [14, 3], [], 0), (1, [14, 2, 13], [], 0), (0, [13], [], 1), (44, [4, 12], [], 0), (0, [12], [], 57), (43, [4, 11], [], 0), (0, [11], [], 48), (44, [4, 10], [], 0), (0, [10], [], 122), (43, [4, 9], [], 0), (0, [9], [], 97), (41, [4, 8], [], 0), (0, [8], [], 32), (41, [4, 7], [], 0), (0, [7], [], 13), (41, [4, 6], [], 0), (0, [6], [], 10), (41, [4, 5], [], 0), (0, [5], [], 9), (1199, [4, 1, 2], [0, 1], 0), (90, [4], [], -2147483648), (91, [4], [], 2147483647), (6000, [0, 1, 2, 3], [0], 0), (0, [0], [], 31), (90, [2], [], -2147483648), (91, [2], [], 2147483647), (90, [3], [], -2147483648), (91, [3], [], 2147483647)], (2126, [0, 22, 2, 23], [4], 0)) := vOk_in fun ρ η h => by
  obtain ⟨f0, f1, f2, f3, f4, f5, f6, f7, f8, f9, f10, f11, f12, f13, f14, f15, f16, f17, f18, f19, f20, f21, f22, f23, f24, f25, f26, f27, f28, f29, f30, f31, f32, f33, f34, f35, f36, f37, f38, f39, f40, f41, f42, f43, f44, f45, _⟩ := h
  exact q_127v_97 (n0 := ρ 3) (n1 := ρ 2) (n2 := ρ 0) (n3 := ρ 1) (n4 := ρ 4) (n5 := ρ 5) (n6 := ρ 6) (n7 := ρ 7) (n8 := ρ 8) (n9 := ρ 9) (n10 := ρ 10) (n11 := ρ 11) (n12 := ρ 12) (n13 := ρ 13) (n14 := ρ 14) (n15 := ρ 15) (n16 := ρ 16) (n17 := ρ 17) (n18 := ρ 18) (n19 := ρ 19) (n20 := ρ 20) (n21 := ρ 21) (n22 := ρ 22) (n23 := ρ 23) (H0 := η 0) (H1 := η 1) (H2 := η 2) (H3 := η 3) (H4 := η 4) f45 f44 f43 f42 f41 f40 f39 f38 f37 f36 f35 f34 f33 f32 f31 f30 f29 f28 f27 f26 f25 f24 f23 f22 f21 f20 f19 f18 f17 f16 f15 f14 f13 f12 f11 f10 f9 f8 f7 f6 f5 f4 f3 f2 f1 f0
theorem q_127v_98 {n0 n1 n2 n3 n4 n5 n6 n7 n8 n9 n10 n11 n12 n13 n14 n15 n16 n17 n18 n19 n20 n21 n22 n23 n24 n25 : Int} {H0 H1 H2 H3 H4 H5 : gH} (f0 : n0 ≤ 2147483647) (f1 : (-2147483648) ≤ n0) (f2 : n1 ≤ 2147483647) (f3 : (-2147483648) ≤ n1) (f4 : n2 = 31) (f5 : hWt T0 H0 ∧ preb_127v n2 n3 n1 n0 H0) (f6 : n4 ≤ 2147483647) (f7 : (-2147483648) ≤ n4) (f8 : (hLe T0 H0 H1 ∧ hFr s_199vk692.2.2.2.2 H0 H1 ∧ ((0 : Int) = 0 → H1.length = H0.length) ∧ hWt T0 H1) ∧ postb_199vk692 n4 n3 n1 H0 H1) (f9 : n5 = 9) (f10 : n4 ≠ n5) (f11 : n6 = 10) (f12 : n4 ≠ n6) (f13 : n7 = 13) (f14 : n4 ≠ n7) (f15 : n8 = 32) (f16 : n4 ≠ n8) (f17 : n9 = 97) (f18 : n9 ≤ n4) (f19 : n10 = 122) (f20 : n10 < n4) (f21 : n11 = 48) (f22 : n11 ≤ n4) (f23 : n12 = 57) (f24 : n12 < n4) (f25 : n13 = 1) (f26 : n14 = w32 (n1 + n13)) (f27 : n14 < n0) (f28 : n15 = 1) (f29 : n16 = w32 (n1 + n15)) (f30 : n17 ≤ 2147483647) (f31 : (-2147483648) ≤ n17) (f32 : (hLe T0 H1 H2 ∧ hFr s_199vk692.2.2.2.2 H1 H2 ∧ ((0 : Int) = 0 → H2.length = H1.length) ∧ hWt T0 H2) ∧ postb_199vk692 n17 n3 n16 H1 H2) (f33 : n18 = 61) (f34 : n17 = n18) (f35 : n19 = 1) (f36 : n19 ≠ 0) (f37 : n20 ≤ 2147483647) (f38 : (-2147483648) ≤ n20) (f39 : (hLe T0 H2 H3 ∧ hFr s_131v.2.2.2.2 H2 H3 ∧ ((0 : Int) = 0 → H3.length = H2.length) ∧ hWt T0 H3) ∧ postb_131v n20 n4 H2 H3) (f40 : n21 = 1) (f41 : n20 = n21) (f42 : n22 ≤ 2147483647) (f43 : (-2147483648) ≤ n22) (f44 : (hLe T0 H3 H4 ∧ hFr s_132v.2.2.2.2 H3 H4 ∧ ((0 : Int) = 0 → H4.length = H3.length) ∧ hWt T0 H4) ∧ postb_132v n22 n4 H3 H4) (f45 : n23 = 0) (f46 : (hLe T0 H4 H5 ∧ hFr s_126v.2.2.2.2 H4 H5 ∧ ((0 : Int) = 0 → H5.length = H4.length) ∧ hWt T0 H5) ∧ postb_126v n2 n22 n1 n23 H4 H5) (f47 : n24 = 1) (f48 : n25 = w32 (n1 + n24)) : postb_127v n25 n2 n3 n1 n0 H0 H5 := by
  have pz := f5.2
  unfold preb_127v at pz
  obtain ⟨ks, tp, wd, b0, b1, b2, b3, c0, c1⟩ := pz
  have et : ((n1).toNat : Int) = n1 := Int.toNat_of_nonneg b1
  have sm0 : SMT H0 H0 := SMT_rfl
  have wq26 := f26
  unfold w32 at wq26
  have wq29 := f29
  unfold w32 at wq29
  have wq48 := f48
  unfold w32 at wq48
  have qa0 := f8.2
  unfold postb_199vk692 at qa0
  have a0 := at8 sm0 tp qa0 (by omega) (by omega) (by omega)
  have sm1 := SMT_trans sm0 (SMT_fr f8.1.2.1 (by decide +kernel))
  have ks_0 := KS5_le f8.1.1 ks
  have tp_0 := TP_le f8.1.1 tp
  have wd_0 := WDS_fr f8.1.1 f8.1.2.1 (by decide +kernel) wd
  have qa1 := f32.2
  unfold postb_199vk692 at qa1
  have a1 := at8 sm1 tp_0 qa1 (by omega) (by omega) (by omega)
  rw [show (n16).toNat = (n1).toNat + 1 by omega] at a1
  have sm2 := SMT_trans sm1 (SMT_fr f32.1.2.1 (by decide +kernel))
  have ks_1 := KS5_le f32.1.1 ks_0
  have tp_1 := TP_le f32.1.1 tp_0
  have wd_1 := WDS_fr f32.1.1 f32.1.2.1 (by decide +kernel) wd_0
  have pk := f39.2
  unfold postb_131v at pk
  have sm3 := SMT_trans sm2 (SMT_fr f39.1.2.1 (by decide +kernel))
  have ks_2 := KS5_le f39.1.1 ks_1
  have tp_2 := TP_le f39.1.1 tp_1
  have wd_2 := WDS_fr f39.1.1 f39.1.2.1 (by decide +kernel) wd_1
  have sk := f44.2
  unfold postb_132v at sk
  have sm4 := SMT_trans sm3 (SMT_fr f44.1.2.1 (by decide +kernel))
  have ks_3 := KS5_le f44.1.1 ks_2
  have tp_3 := TP_le f44.1.1 tp_2
  have wd_3 := WDS_fr f44.1.1 f44.1.2.1 (by decide +kernel) wd_2
  rw [a0] at pk
  rw [a0] at sk
  unfold postb_127v ONE
  have lt := f46.2
  unfold postb_126v at lt
  have nt := NTp_from sm4 lt.1
  rw [f45] at nt
  first
  | exact absurd rfl (by omega)
  | (rw [sk] at nt
     exact ⟨.inr (.inr (.inr (.inr ⟨by omega, by omega, by omega, by omega, by omega, nt⟩))), lt.2⟩)
theorem c_127v_s_98 : vOkm T0 (eP e_127v L_127v A_127v mu_127v none) 4 ([(1, [25, 2, 24], [], 0), (0, [24], [], 1), (1126, [0, 22, 2, 23], [4, 5], 0), (0, [23], [], 0), (1132, [22, 4], [3, 4], 0), (90, [22], [], -2147483648), (91, [22], [], 2147483647), (40, [20, 21], [], 0), (0, [21], [], 1), (1131, [20, 4], [2, 3], 0), (90, [20], [], -2147483648), (91, [20], [], 2147483647), (31, [19], [], 0), (0, [19], [], 1), (40, [17, 18], [], 0), (0, [18], [], 61), (1199, [17, 1, 16], [1, 2], 0), (90, [17], [], -2147483648), (91, [17], [], 2147483647), (1, [16, 2, 15], [], 0), (0, [15], [], 1), (42, [14, 3], [], 0), (1, [14, 2, 13], [], 0), (0, [13], [], 1), (44, [4, 12], [], 0), (0, [12], [], 57), (43, [4, 11], [], 0), (0, [11], [], 48), (44, [4, 10], [], 0), (0, [10], [], 122), (43, [4, 9], [], 0), (0, [9], [], 97), (41, [4, 8], [], 0), (0, [8], [], 32), (41, [4, 7], [], 0), (0, [7], [], 13), (41, [4, 6], [], 0), (0, [6], [], 10), (41, [4, 5], [], 0), (0, [5], [], 9), (1199, [4, 1, 2], [0, 1], 0), (90, [4], [], -2147483648), (91, [4], [], 2147483647), (6000, [0, 1, 2, 3], [0], 0), (0, [0], [], 31), (90, [2], [], -2147483648), (91, [2], [], 2147483647), (90, [3], [], -2147483648), (91, [3], [], 2147483647)], (3000, [25], [5], 157)) := vOk_in fun ρ η h => by
  obtain ⟨f0, f1, f2, f3, f4, f5, f6, f7, f8, f9, f10, f11, f12, f13, f14, f15, f16, f17, f18, f19, f20, f21, f22, f23, f24, f25, f26, f27, f28, f29, f30, f31, f32, f33, f34, f35, f36, f37, f38, f39, f40, f41, f42, f43, f44, f45, f46, f47, f48, _⟩ := h
  exact q_127v_98 (n0 := ρ 3) (n1 := ρ 2) (n2 := ρ 0) (n3 := ρ 1) (n4 := ρ 4) (n5 := ρ 5) (n6 := ρ 6) (n7 := ρ 7) (n8 := ρ 8) (n9 := ρ 9) (n10 := ρ 10) (n11 := ρ 11) (n12 := ρ 12) (n13 := ρ 13) (n14 := ρ 14) (n15 := ρ 15) (n16 := ρ 16) (n17 := ρ 17) (n18 := ρ 18) (n19 := ρ 19) (n20 := ρ 20) (n21 := ρ 21) (n22 := ρ 22) (n23 := ρ 23) (n24 := ρ 24) (n25 := ρ 25) (H0 := η 0) (H1 := η 1) (H2 := η 2) (H3 := η 3) (H4 := η 4) (H5 := η 5) f48 f47 f46 f45 f44 f43 f42 f41 f40 f39 f38 f37 f36 f35 f34 f33 f32 f31 f30 f29 f28 f27 f26 f25 f24 f23 f22 f21 f20 f19 f18 f17 f16 f15 f14 f13 f12 f11 f10 f9 f8 f7 f6 f5 f4 f3 f2 f1 f0
theorem q_127v_99 {n0 n1 n2 n3 n4 n5 n6 n7 n8 n9 n10 n11 n12 n13 n14 n15 n16 n17 n18 n19 n20 n21 n22 : Int} {H0 H1 H2 H3 : gH} (f0 : n0 ≤ 2147483647) (f1 : (-2147483648) ≤ n0) (f2 : n1 ≤ 2147483647) (f3 : (-2147483648) ≤ n1) (f4 : n2 = 31) (f5 : hWt T0 H0 ∧ preb_127v n2 n3 n1 n0 H0) (f6 : n4 ≤ 2147483647) (f7 : (-2147483648) ≤ n4) (f8 : (hLe T0 H0 H1 ∧ hFr s_199vk692.2.2.2.2 H0 H1 ∧ ((0 : Int) = 0 → H1.length = H0.length) ∧ hWt T0 H1) ∧ postb_199vk692 n4 n3 n1 H0 H1) (f9 : n5 = 9) (f10 : n4 ≠ n5) (f11 : n6 = 10) (f12 : n4 ≠ n6) (f13 : n7 = 13) (f14 : n4 ≠ n7) (f15 : n8 = 32) (f16 : n4 ≠ n8) (f17 : n9 = 97) (f18 : n9 ≤ n4) (f19 : n10 = 122) (f20 : n10 < n4) (f21 : n11 = 48) (f22 : n11 ≤ n4) (f23 : n12 = 57) (f24 : n12 < n4) (f25 : n13 = 1) (f26 : n14 = w32 (n1 + n13)) (f27 : n14 < n0) (f28 : n15 = 1) (f29 : n16 = w32 (n1 + n15)) (f30 : n17 ≤ 2147483647) (f31 : (-2147483648) ≤ n17) (f32 : (hLe T0 H1 H2 ∧ hFr s_199vk692.2.2.2.2 H1 H2 ∧ ((0 : Int) = 0 → H2.length = H1.length) ∧ hWt T0 H2) ∧ postb_199vk692 n17 n3 n16 H1 H2) (f33 : n18 = 61) (f34 : n17 = n18) (f35 : n19 = 1) (f36 : n19 ≠ 0) (f37 : n20 ≤ 2147483647) (f38 : (-2147483648) ≤ n20) (f39 : (hLe T0 H2 H3 ∧ hFr s_131v.2.2.2.2 H2 H3 ∧ ((0 : Int) = 0 → H3.length = H2.length) ∧ hWt T0 H3) ∧ postb_131v n20 n4 H2 H3) (f40 : n21 = 1) (f41 : n20 ≠ n21) (f42 : n22 = 0) : preb_126v n2 n20 n1 n22 H3 := by
  have pz := f5.2
  unfold preb_127v at pz
  obtain ⟨ks, tp, wd, b0, b1, b2, b3, c0, c1⟩ := pz
  have et : ((n1).toNat : Int) = n1 := Int.toNat_of_nonneg b1
  have sm0 : SMT H0 H0 := SMT_rfl
  have wq26 := f26
  unfold w32 at wq26
  have wq29 := f29
  unfold w32 at wq29
  have qa0 := f8.2
  unfold postb_199vk692 at qa0
  have a0 := at8 sm0 tp qa0 (by omega) (by omega) (by omega)
  have sm1 := SMT_trans sm0 (SMT_fr f8.1.2.1 (by decide +kernel))
  have ks_0 := KS5_le f8.1.1 ks
  have tp_0 := TP_le f8.1.1 tp
  have wd_0 := WDS_fr f8.1.1 f8.1.2.1 (by decide +kernel) wd
  have qa1 := f32.2
  unfold postb_199vk692 at qa1
  have a1 := at8 sm1 tp_0 qa1 (by omega) (by omega) (by omega)
  rw [show (n16).toNat = (n1).toNat + 1 by omega] at a1
  have sm2 := SMT_trans sm1 (SMT_fr f32.1.2.1 (by decide +kernel))
  have ks_1 := KS5_le f32.1.1 ks_0
  have tp_1 := TP_le f32.1.1 tp_0
  have wd_1 := WDS_fr f32.1.1 f32.1.2.1 (by decide +kernel) wd_0
  have pk := f39.2
  unfold postb_131v at pk
  have sm3 := SMT_trans sm2 (SMT_fr f39.1.2.1 (by decide +kernel))
  have ks_2 := KS5_le f39.1.1 ks_1
  have tp_2 := TP_le f39.1.1 tp_1
  have wd_2 := WDS_fr f39.1.1 f39.1.2.1 (by decide +kernel) wd_1
  rw [a0] at pk
  unfold preb_126v
  exact ⟨ks_2, by rw [sm3.1]; exact c0, by rw [sm3.1]; exact c1⟩
theorem c_127v_s_99 : vOkm T0 (eP e_127v L_127v A_127v mu_127v none) 4 ([(0, [22], [], 0), (41, [20, 21], [], 0), (0, [21], [], 1), (1131, [20, 4], [2, 3], 0), (90, [20], [], -2147483648), (91, [20], [], 2147483647), (31, [19], [], 0), (0, [19], [], 1), (40, [17, 18], [], 0), (0, [18], [], 61), (1199, [17, 1, 16], [1, 2], 0), (90, [17], [], -2147483648), (91, [17], [], 2147483647), (1, [16, 2, 15], [], 0), (0, [15], [], 1), (42, [14, 3], [], 0), (1, [14, 2, 13], [], 0), (0, [13], [], 1), (44, [4, 12], [], 0), (0, [12], [], 57), (43, [4, 11], [], 0), (0, [11], [], 48), (44, [4, 10], [], 0), (0, [10], [], 122), (43, [4, 9], [], 0), (0, [9], [], 97), (41, [4, 8], [], 0), (0, [8], [], 32), (41, [4, 7], [], 0), (0, [7], [], 13), (41, [4, 6], [], 0), (0, [6], [], 10), (41, [4, 5], [], 0), (0, [5], [], 9), (1199, [4, 1, 2], [0, 1], 0), (90, [4], [], -2147483648), (91, [4], [], 2147483647), (6000, [0, 1, 2, 3], [0], 0), (0, [0], [], 31), (90, [2], [], -2147483648), (91, [2], [], 2147483647), (90, [3], [], -2147483648), (91, [3], [], 2147483647)], (2126, [0, 20, 2, 22], [3], 0)) := vOk_in fun ρ η h => by
  obtain ⟨f0, f1, f2, f3, f4, f5, f6, f7, f8, f9, f10, f11, f12, f13, f14, f15, f16, f17, f18, f19, f20, f21, f22, f23, f24, f25, f26, f27, f28, f29, f30, f31, f32, f33, f34, f35, f36, f37, f38, f39, f40, f41, f42, _⟩ := h
  exact q_127v_99 (n0 := ρ 3) (n1 := ρ 2) (n2 := ρ 0) (n3 := ρ 1) (n4 := ρ 4) (n5 := ρ 5) (n6 := ρ 6) (n7 := ρ 7) (n8 := ρ 8) (n9 := ρ 9) (n10 := ρ 10) (n11 := ρ 11) (n12 := ρ 12) (n13 := ρ 13) (n14 := ρ 14) (n15 := ρ 15) (n16 := ρ 16) (n17 := ρ 17) (n18 := ρ 18) (n19 := ρ 19) (n20 := ρ 20) (n21 := ρ 21) (n22 := ρ 22) (H0 := η 0) (H1 := η 1) (H2 := η 2) (H3 := η 3) f42 f41 f40 f39 f38 f37 f36 f35 f34 f33 f32 f31 f30 f29 f28 f27 f26 f25 f24 f23 f22 f21 f20 f19 f18 f17 f16 f15 f14 f13 f12 f11 f10 f9 f8 f7 f6 f5 f4 f3 f2 f1 f0
theorem q_127v_100 {n0 n1 n2 n3 n4 n5 n6 n7 n8 n9 n10 n11 n12 n13 n14 n15 n16 n17 n18 n19 n20 n21 n22 n23 n24 : Int} {H0 H1 H2 H3 H4 : gH} (f0 : n0 ≤ 2147483647) (f1 : (-2147483648) ≤ n0) (f2 : n1 ≤ 2147483647) (f3 : (-2147483648) ≤ n1) (f4 : n2 = 31) (f5 : hWt T0 H0 ∧ preb_127v n2 n3 n1 n0 H0) (f6 : n4 ≤ 2147483647) (f7 : (-2147483648) ≤ n4) (f8 : (hLe T0 H0 H1 ∧ hFr s_199vk692.2.2.2.2 H0 H1 ∧ ((0 : Int) = 0 → H1.length = H0.length) ∧ hWt T0 H1) ∧ postb_199vk692 n4 n3 n1 H0 H1) (f9 : n5 = 9) (f10 : n4 ≠ n5) (f11 : n6 = 10) (f12 : n4 ≠ n6) (f13 : n7 = 13) (f14 : n4 ≠ n7) (f15 : n8 = 32) (f16 : n4 ≠ n8) (f17 : n9 = 97) (f18 : n9 ≤ n4) (f19 : n10 = 122) (f20 : n10 < n4) (f21 : n11 = 48) (f22 : n11 ≤ n4) (f23 : n12 = 57) (f24 : n12 < n4) (f25 : n13 = 1) (f26 : n14 = w32 (n1 + n13)) (f27 : n14 < n0) (f28 : n15 = 1) (f29 : n16 = w32 (n1 + n15)) (f30 : n17 ≤ 2147483647) (f31 : (-2147483648) ≤ n17) (f32 : (hLe T0 H1 H2 ∧ hFr s_199vk692.2.2.2.2 H1 H2 ∧ ((0 : Int) = 0 → H2.length = H1.length) ∧ hWt T0 H2) ∧ postb_199vk692 n17 n3 n16 H1 H2) (f33 : n18 = 61) (f34 : n17 = n18) (f35 : n19 = 1) (f36 : n19 ≠ 0) (f37 : n20 ≤ 2147483647) (f38 : (-2147483648) ≤ n20) (f39 : (hLe T0 H2 H3 ∧ hFr s_131v.2.2.2.2 H2 H3 ∧ ((0 : Int) = 0 → H3.length = H2.length) ∧ hWt T0 H3) ∧ postb_131v n20 n4 H2 H3) (f40 : n21 = 1) (f41 : n20 ≠ n21) (f42 : n22 = 0) (f43 : (hLe T0 H3 H4 ∧ hFr s_126v.2.2.2.2 H3 H4 ∧ ((0 : Int) = 0 → H4.length = H3.length) ∧ hWt T0 H4) ∧ postb_126v n2 n20 n1 n22 H3 H4) (f44 : n23 = 2) (f45 : n24 = w32 (n1 + n23)) : postb_127v n24 n2 n3 n1 n0 H0 H4 := by
  have pz := f5.2
  unfold preb_127v at pz
  obtain ⟨ks, tp, wd, b0, b1, b2, b3, c0, c1⟩ := pz
  have et : ((n1).toNat : Int) = n1 := Int.toNat_of_nonneg b1
  have sm0 : SMT H0 H0 := SMT_rfl
  have wq26 := f26
  unfold w32 at wq26
  have wq29 := f29
  unfold w32 at wq29
  have wq45 := f45
  unfold w32 at wq45
  have qa0 := f8.2
  unfold postb_199vk692 at qa0
  have a0 := at8 sm0 tp qa0 (by omega) (by omega) (by omega)
  have sm1 := SMT_trans sm0 (SMT_fr f8.1.2.1 (by decide +kernel))
  have ks_0 := KS5_le f8.1.1 ks
  have tp_0 := TP_le f8.1.1 tp
  have wd_0 := WDS_fr f8.1.1 f8.1.2.1 (by decide +kernel) wd
  have qa1 := f32.2
  unfold postb_199vk692 at qa1
  have a1 := at8 sm1 tp_0 qa1 (by omega) (by omega) (by omega)
  rw [show (n16).toNat = (n1).toNat + 1 by omega] at a1
  have sm2 := SMT_trans sm1 (SMT_fr f32.1.2.1 (by decide +kernel))
  have ks_1 := KS5_le f32.1.1 ks_0
  have tp_1 := TP_le f32.1.1 tp_0
  have wd_1 := WDS_fr f32.1.1 f32.1.2.1 (by decide +kernel) wd_0
  have pk := f39.2
  unfold postb_131v at pk
  have sm3 := SMT_trans sm2 (SMT_fr f39.1.2.1 (by decide +kernel))
  have ks_2 := KS5_le f39.1.1 ks_1
  have tp_2 := TP_le f39.1.1 tp_1
  have wd_2 := WDS_fr f39.1.1 f39.1.2.1 (by decide +kernel) wd_1
  rw [a0] at pk
  unfold postb_127v ONE
  have lt := f43.2
  unfold postb_126v at lt
  have nt := NTp_from sm3 lt.1
  rw [f42] at nt
  first
  | (exfalso; omega)
  | (rw [pk] at nt
     exact ⟨.inr (.inr (.inr (.inl ⟨by omega, by omega, by omega, ⟨by omega, by omega, by omega⟩, by omega, nt⟩))), lt.2⟩)
theorem c_127v_s_100 : vOkm T0 (eP e_127v L_127v A_127v mu_127v none) 4 ([(1, [24, 2, 23], [], 0), (0, [23], [], 2), (1126, [0, 20, 2, 22], [3, 4], 0), (0, [22], [], 0), (41, [20, 21], [], 0), (0, [21], [], 1), (1131, [20, 4], [2, 3], 0), (90, [20], [], -2147483648), (91, [20], [], 2147483647), (31, [19], [], 0), (0, [19], [], 1), (40, [17, 18], [], 0), (0, [18], [], 61), (1199, [17, 1, 16], [1, 2], 0), (90, [17], [], -2147483648), (91, [17], [], 2147483647), (1, [16, 2, 15], [], 0), (0, [15], [], 1), (42, [14, 3], [], 0), (1, [14, 2, 13], [], 0), (0, [13], [], 1), (44, [4, 12], [], 0), (0, [12], [], 57), (43, [4, 11], [], 0), (0, [11], [], 48), (44, [4, 10], [], 0), (0, [10], [], 122), (43, [4, 9], [], 0), (0, [9], [], 97), (41, [4, 8], [], 0), (0, [8], [], 32), (41, [4, 7], [], 0), (0, [7], [], 13), (41, [4, 6], [], 0), (0, [6], [], 10), (41, [4, 5], [], 0), (0, [5], [], 9), (1199, [4, 1, 2], [0, 1], 0), (90, [4], [], -2147483648), (91, [4], [], 2147483647), (6000, [0, 1, 2, 3], [0], 0), (0, [0], [], 31), (90, [2], [], -2147483648), (91, [2], [], 2147483647), (90, [3], [], -2147483648), (91, [3], [], 2147483647)], (3000, [24], [4], 142)) := vOk_in fun ρ η h => by
  obtain ⟨f0, f1, f2, f3, f4, f5, f6, f7, f8, f9, f10, f11, f12, f13, f14, f15, f16, f17, f18, f19, f20, f21, f22, f23, f24, f25, f26, f27, f28, f29, f30, f31, f32, f33, f34, f35, f36, f37, f38, f39, f40, f41, f42, f43, f44, f45, _⟩ := h
  exact q_127v_100 (n0 := ρ 3) (n1 := ρ 2) (n2 := ρ 0) (n3 := ρ 1) (n4 := ρ 4) (n5 := ρ 5) (n6 := ρ 6) (n7 := ρ 7) (n8 := ρ 8) (n9 := ρ 9) (n10 := ρ 10) (n11 := ρ 11) (n12 := ρ 12) (n13 := ρ 13) (n14 := ρ 14) (n15 := ρ 15) (n16 := ρ 16) (n17 := ρ 17) (n18 := ρ 18) (n19 := ρ 19) (n20 := ρ 20) (n21 := ρ 21) (n22 := ρ 22) (n23 := ρ 23) (n24 := ρ 24) (H0 := η 0) (H1 := η 1) (H2 := η 2) (H3 := η 3) (H4 := η 4) f45 f44 f43 f42 f41 f40 f39 f38 f37 f36 f35 f34 f33 f32 f31 f30 f29 f28 f27 f26 f25 f24 f23 f22 f21 f20 f19 f18 f17 f16 f15 f14 f13 f12 f11 f10 f9 f8 f7 f6 f5 f4 f3 f2 f1 f0
theorem q_127v_101 {n0 n1 n2 n3 n4 n5 n6 n7 n8 n9 n10 n11 n12 : Int} {H0 H1 : gH} (f0 : n0 ≤ 2147483647) (f1 : (-2147483648) ≤ n0) (f2 : n1 ≤ 2147483647) (f3 : (-2147483648) ≤ n1) (f4 : n2 = 31) (f5 : hWt T0 H0 ∧ preb_127v n2 n3 n1 n0 H0) (f6 : n4 ≤ 2147483647) (f7 : (-2147483648) ≤ n4) (f8 : (hLe T0 H0 H1 ∧ hFr s_199vk692.2.2.2.2 H0 H1 ∧ ((0 : Int) = 0 → H1.length = H0.length) ∧ hWt T0 H1) ∧ postb_199vk692 n4 n3 n1 H0 H1) (f9 : n5 = 9) (f10 : n4 ≠ n5) (f11 : n6 = 10) (f12 : n4 ≠ n6) (f13 : n7 = 13) (f14 : n4 ≠ n7) (f15 : n8 = 32) (f16 : n4 ≠ n8) (f17 : n9 = 97) (f18 : n9 ≤ n4) (f19 : n10 = 122) (f20 : n10 < n4) (f21 : n11 = 48) (f22 : n11 ≤ n4) (f23 : n12 = 57) (f24 : n4 ≤ n12) : preb_130v n2 n3 n1 n0 H1 := by
  have pz := f5.2
  unfold preb_127v at pz
  obtain ⟨ks, tp, wd, b0, b1, b2, b3, c0, c1⟩ := pz
  have et : ((n1).toNat : Int) = n1 := Int.toNat_of_nonneg b1
  have sm0 : SMT H0 H0 := SMT_rfl
  have qa0 := f8.2
  unfold postb_199vk692 at qa0
  have a0 := at8 sm0 tp qa0 (by omega) (by omega) (by omega)
  have sm1 := SMT_trans sm0 (SMT_fr f8.1.2.1 (by decide +kernel))
  have ks_0 := KS5_le f8.1.1 ks
  have tp_0 := TP_le f8.1.1 tp
  have wd_0 := WDS_fr f8.1.1 f8.1.2.1 (by decide +kernel) wd
  unfold preb_130v
  exact ⟨ks_0, tp_0, b0, b1, b2, b3, by rw [sm1.1]; exact c0, by rw [sm1.1]; exact c1⟩
theorem c_127v_s_101 : vOkm T0 (eP e_127v L_127v A_127v mu_127v none) 4 ([(45, [4, 12], [], 0), (0, [12], [], 57), (43, [4, 11], [], 0), (0, [11], [], 48), (44, [4, 10], [], 0), (0, [10], [], 122), (43, [4, 9], [], 0), (0, [9], [], 97), (41, [4, 8], [], 0), (0, [8], [], 32), (41, [4, 7], [], 0), (0, [7], [], 13), (41, [4, 6], [], 0), (0, [6], [], 10), (41, [4, 5], [], 0), (0, [5], [], 9), (1199, [4, 1, 2], [0, 1], 0), (90, [4], [], -2147483648), (91, [4], [], 2147483647), (6000, [0, 1, 2, 3], [0], 0), (0, [0], [], 31), (90, [2], [], -2147483648), (91, [2], [], 2147483647), (90, [3], [], -2147483648), (91, [3], [], 2147483647)], (2130, [0, 1, 2, 3], [1], 0)) := vOk_in fun ρ η h => by
  obtain ⟨f0, f1, f2, f3, f4, f5, f6, f7, f8, f9, f10, f11, f12, f13, f14, f15, f16, f17, f18, f19, f20, f21, f22, f23, f24, _⟩ := h
  exact q_127v_101 (n0 := ρ 3) (n1 := ρ 2) (n2 := ρ 0) (n3 := ρ 1) (n4 := ρ 4) (n5 := ρ 5) (n6 := ρ 6) (n7 := ρ 7) (n8 := ρ 8) (n9 := ρ 9) (n10 := ρ 10) (n11 := ρ 11) (n12 := ρ 12) (H0 := η 0) (H1 := η 1) f24 f23 f22 f21 f20 f19 f18 f17 f16 f15 f14 f13 f12 f11 f10 f9 f8 f7 f6 f5 f4 f3 f2 f1 f0
theorem q_127v_102 {n0 n1 n2 n3 n4 n5 n6 n7 n8 n9 n10 n11 n12 n13 : Int} {H0 H1 H2 : gH} (f0 : n0 ≤ 2147483647) (f1 : (-2147483648) ≤ n0) (f2 : n1 ≤ 2147483647) (f3 : (-2147483648) ≤ n1) (f4 : n2 = 31) (f5 : hWt T0 H0 ∧ preb_127v n2 n3 n1 n0 H0) (f6 : n4 ≤ 2147483647) (f7 : (-2147483648) ≤ n4) (f8 : (hLe T0 H0 H1 ∧ hFr s_199vk692.2.2.2.2 H0 H1 ∧ ((0 : Int) = 0 → H1.length = H0.length) ∧ hWt T0 H1) ∧ postb_199vk692 n4 n3 n1 H0 H1) (f9 : n5 = 9) (f10 : n4 ≠ n5) (f11 : n6 = 10) (f12 : n4 ≠ n6) (f13 : n7 = 13) (f14 : n4 ≠ n7) (f15 : n8 = 32) (f16 : n4 ≠ n8) (f17 : n9 = 97) (f18 : n9 ≤ n4) (f19 : n10 = 122) (f20 : n10 < n4) (f21 : n11 = 48) (f22 : n11 ≤ n4) (f23 : n12 = 57) (f24 : n4 ≤ n12) (f25 : n13 ≤ 2147483647) (f26 : (-2147483648) ≤ n13) (f27 : (hLe T0 H1 H2 ∧ hFr s_130v.2.2.2.2 H1 H2 ∧ ((0 : Int) = 0 → H2.length = H1.length) ∧ hWt T0 H2) ∧ postb_130v n13 n2 n3 n1 n0 H1 H2) : postb_127v n13 n2 n3 n1 n0 H0 H2 := by
  have pz := f5.2
  unfold preb_127v at pz
  obtain ⟨ks, tp, wd, b0, b1, b2, b3, c0, c1⟩ := pz
  have et : ((n1).toNat : Int) = n1 := Int.toNat_of_nonneg b1
  have sm0 : SMT H0 H0 := SMT_rfl
  have qa0 := f8.2
  unfold postb_199vk692 at qa0
  have a0 := at8 sm0 tp qa0 (by omega) (by omega) (by omega)
  have sm1 := SMT_trans sm0 (SMT_fr f8.1.2.1 (by decide +kernel))
  have ks_0 := KS5_le f8.1.1 ks
  have tp_0 := TP_le f8.1.1 tp
  have wd_0 := WDS_fr f8.1.1 f8.1.2.1 (by decide +kernel) wd
  unfold postb_127v ONE
  have lt := f27.2
  unfold postb_130v at lt
  rw [sm1.2.2.2.2.1] at lt
  exact ⟨.inr (.inr (.inl ⟨by omega, by omega, by omega, lt.1, NTD_from sm1 lt.2.1⟩)), lt.2.2⟩
theorem c_127v_s_102 : vOkm T0 (eP e_127v L_127v A_127v mu_127v none) 4 ([(1130, [13, 0, 1, 2, 3], [1, 2], 0), (90, [13], [], -2147483648), (91, [13], [], 2147483647), (45, [4, 12], [], 0), (0, [12], [], 57), (43, [4, 11], [], 0), (0, [11], [], 48), (44, [4, 10], [], 0), (0, [10], [], 122), (43, [4, 9], [], 0), (0, [9], [], 97), (41, [4, 8], [], 0), (0, [8], [], 32), (41, [4, 7], [], 0), (0, [7], [], 13), (41, [4, 6], [], 0), (0, [6], [], 10), (41, [4, 5], [], 0), (0, [5], [], 9), (1199, [4, 1, 2], [0, 1], 0), (90, [4], [], -2147483648), (91, [4], [], 2147483647), (6000, [0, 1, 2, 3], [0], 0), (0, [0], [], 31), (90, [2], [], -2147483648), (91, [2], [], 2147483647), (90, [3], [], -2147483648), (91, [3], [], 2147483647)], (3000, [13], [2], 82)) := vOk_in fun ρ η h => by
  obtain ⟨f0, f1, f2, f3, f4, f5, f6, f7, f8, f9, f10, f11, f12, f13, f14, f15, f16, f17, f18, f19, f20, f21, f22, f23, f24, f25, f26, f27, _⟩ := h
  exact q_127v_102 (n0 := ρ 3) (n1 := ρ 2) (n2 := ρ 0) (n3 := ρ 1) (n4 := ρ 4) (n5 := ρ 5) (n6 := ρ 6) (n7 := ρ 7) (n8 := ρ 8) (n9 := ρ 9) (n10 := ρ 10) (n11 := ρ 11) (n12 := ρ 12) (n13 := ρ 13) (H0 := η 0) (H1 := η 1) (H2 := η 2) f27 f26 f25 f24 f23 f22 f21 f20 f19 f18 f17 f16 f15 f14 f13 f12 f11 f10 f9 f8 f7 f6 f5 f4 f3 f2 f1 f0
theorem q_127v_103 {n0 n1 n2 n3 n4 n5 n6 n7 n8 n9 n10 : Int} {H0 H1 : gH} (f0 : n0 ≤ 2147483647) (f1 : (-2147483648) ≤ n0) (f2 : n1 ≤ 2147483647) (f3 : (-2147483648) ≤ n1) (f4 : n2 = 31) (f5 : hWt T0 H0 ∧ preb_127v n2 n3 n1 n0 H0) (f6 : n4 ≤ 2147483647) (f7 : (-2147483648) ≤ n4) (f8 : (hLe T0 H0 H1 ∧ hFr s_199vk692.2.2.2.2 H0 H1 ∧ ((0 : Int) = 0 → H1.length = H0.length) ∧ hWt T0 H1) ∧ postb_199vk692 n4 n3 n1 H0 H1) (f9 : n5 = 9) (f10 : n4 ≠ n5) (f11 : n6 = 10) (f12 : n4 ≠ n6) (f13 : n7 = 13) (f14 : n4 ≠ n7) (f15 : n8 = 32) (f16 : n4 ≠ n8) (f17 : n9 = 97) (f18 : n9 ≤ n4) (f19 : n10 = 122) (f20 : n4 ≤ n10) : preb_128v n2 n3 n1 n0 H1 := by
  have pz := f5.2
  unfold preb_127v at pz
  obtain ⟨ks, tp, wd, b0, b1, b2, b3, c0, c1⟩ := pz
  have et : ((n1).toNat : Int) = n1 := Int.toNat_of_nonneg b1
  have sm0 : SMT H0 H0 := SMT_rfl
  have qa0 := f8.2
  unfold postb_199vk692 at qa0
  have a0 := at8 sm0 tp qa0 (by omega) (by omega) (by omega)
  have sm1 := SMT_trans sm0 (SMT_fr f8.1.2.1 (by decide +kernel))
  have ks_0 := KS5_le f8.1.1 ks
  have tp_0 := TP_le f8.1.1 tp
  have wd_0 := WDS_fr f8.1.1 f8.1.2.1 (by decide +kernel) wd
  unfold preb_128v
  exact ⟨ks_0, tp_0, wd_0, b0, b1, b2, b3, by rw [sm1.1]; exact c0, by rw [sm1.1]; exact c1, by rw [sm1.2.2.2.2.1]; omega, by rw [sm1.2.2.2.2.1]; omega⟩
theorem c_127v_s_103 : vOkm T0 (eP e_127v L_127v A_127v mu_127v none) 4 ([(45, [4, 10], [], 0), (0, [10], [], 122), (43, [4, 9], [], 0), (0, [9], [], 97), (41, [4, 8], [], 0), (0, [8], [], 32), (41, [4, 7], [], 0), (0, [7], [], 13), (41, [4, 6], [], 0), (0, [6], [], 10), (41, [4, 5], [], 0), (0, [5], [], 9), (1199, [4, 1, 2], [0, 1], 0), (90, [4], [], -2147483648), (91, [4], [], 2147483647), (6000, [0, 1, 2, 3], [0], 0), (0, [0], [], 31), (90, [2], [], -2147483648), (91, [2], [], 2147483647), (90, [3], [], -2147483648), (91, [3], [], 2147483647)], (2128, [0, 1, 2, 3], [1], 0)) := vOk_in fun ρ η h => by
  obtain ⟨f0, f1, f2, f3, f4, f5, f6, f7, f8, f9, f10, f11, f12, f13, f14, f15, f16, f17, f18, f19, f20, _⟩ := h
  exact q_127v_103 (n0 := ρ 3) (n1 := ρ 2) (n2 := ρ 0) (n3 := ρ 1) (n4 := ρ 4) (n5 := ρ 5) (n6 := ρ 6) (n7 := ρ 7) (n8 := ρ 8) (n9 := ρ 9) (n10 := ρ 10) (H0 := η 0) (H1 := η 1) f20 f19 f18 f17 f16 f15 f14 f13 f12 f11 f10 f9 f8 f7 f6 f5 f4 f3 f2 f1 f0
theorem q_127v_104 {n0 n1 n2 n3 n4 n5 n6 n7 n8 n9 n10 n11 : Int} {H0 H1 H2 : gH} (f0 : n0 ≤ 2147483647) (f1 : (-2147483648) ≤ n0) (f2 : n1 ≤ 2147483647) (f3 : (-2147483648) ≤ n1) (f4 : n2 = 31) (f5 : hWt T0 H0 ∧ preb_127v n2 n3 n1 n0 H0) (f6 : n4 ≤ 2147483647) (f7 : (-2147483648) ≤ n4) (f8 : (hLe T0 H0 H1 ∧ hFr s_199vk692.2.2.2.2 H0 H1 ∧ ((0 : Int) = 0 → H1.length = H0.length) ∧ hWt T0 H1) ∧ postb_199vk692 n4 n3 n1 H0 H1) (f9 : n5 = 9) (f10 : n4 ≠ n5) (f11 : n6 = 10) (f12 : n4 ≠ n6) (f13 : n7 = 13) (f14 : n4 ≠ n7) (f15 : n8 = 32) (f16 : n4 ≠ n8) (f17 : n9 = 97) (f18 : n9 ≤ n4) (f19 : n10 = 122) (f20 : n4 ≤ n10) (f21 : n11 ≤ 2147483647) (f22 : (-2147483648) ≤ n11) (f23 : (hLe T0 H1 H2 ∧ hFr s_128v.2.2.2.2 H1 H2 ∧ ((0 : Int) = 0 → H2.length = H1.length) ∧ hWt T0 H2) ∧ postb_128v n11 n2 n3 n1 n0 H1 H2) : postb_127v n11 n2 n3 n1 n0 H0 H2 := by
  have pz := f5.2
  unfold preb_127v at pz
  obtain ⟨ks, tp, wd, b0, b1, b2, b3, c0, c1⟩ := pz
  have et : ((n1).toNat : Int) = n1 := Int.toNat_of_nonneg b1
  have sm0 : SMT H0 H0 := SMT_rfl
  have qa0 := f8.2
  unfold postb_199vk692 at qa0
  have a0 := at8 sm0 tp qa0 (by omega) (by omega) (by omega)
  have sm1 := SMT_trans sm0 (SMT_fr f8.1.2.1 (by decide +kernel))
  have ks_0 := KS5_le f8.1.1 ks
  have tp_0 := TP_le f8.1.1 tp
  have wd_0 := WDS_fr f8.1.1 f8.1.2.1 (by decide +kernel) wd
  unfold postb_127v ONE
  have lt := f23.2
  unfold postb_128v at lt
  rw [sm1.2.2.2.2.1] at lt
  exact ⟨.inr (.inl ⟨by omega, by omega, lt.1, NTL_from sm1 lt.2.1⟩), lt.2.2⟩
theorem c_127v_s_104 : vOkm T0 (eP e_127v L_127v A_127v mu_127v none) 4 ([(1128, [11, 0, 1, 2, 3], [1, 2], 0), (90, [11], [], -2147483648), (91, [11], [], 2147483647), (45, [4, 10], [], 0), (0, [10], [], 122), (43, [4, 9], [], 0), (0, [9], [], 97), (41, [4, 8], [], 0), (0, [8], [], 32), (41, [4, 7], [], 0), (0, [7], [], 13), (41, [4, 6], [], 0), (0, [6], [], 10), (41, [4, 5], [], 0), (0, [5], [], 9), (1199, [4, 1, 2], [0, 1], 0), (90, [4], [], -2147483648), (91, [4], [], 2147483647), (6000, [0, 1, 2, 3], [0], 0), (0, [0], [], 31), (90, [2], [], -2147483648), (91, [2], [], 2147483647), (90, [3], [], -2147483648), (91, [3], [], 2147483647)], (3000, [11], [2], 60)) := vOk_in fun ρ η h => by
  obtain ⟨f0, f1, f2, f3, f4, f5, f6, f7, f8, f9, f10, f11, f12, f13, f14, f15, f16, f17, f18, f19, f20, f21, f22, f23, _⟩ := h
  exact q_127v_104 (n0 := ρ 3) (n1 := ρ 2) (n2 := ρ 0) (n3 := ρ 1) (n4 := ρ 4) (n5 := ρ 5) (n6 := ρ 6) (n7 := ρ 7) (n8 := ρ 8) (n9 := ρ 9) (n10 := ρ 10) (n11 := ρ 11) (H0 := η 0) (H1 := η 1) (H2 := η 2) f23 f22 f21 f20 f19 f18 f17 f16 f15 f14 f13 f12 f11 f10 f9 f8 f7 f6 f5 f4 f3 f2 f1 f0
theorem q_127v_105 {n0 n1 n2 n3 n4 n5 n6 n7 n8 n9 n10 : Int} {H0 H1 : gH} (f0 : n0 ≤ 2147483647) (f1 : (-2147483648) ≤ n0) (f2 : n1 ≤ 2147483647) (f3 : (-2147483648) ≤ n1) (f4 : n2 = 31) (f5 : hWt T0 H0 ∧ preb_127v n2 n3 n1 n0 H0) (f6 : n4 ≤ 2147483647) (f7 : (-2147483648) ≤ n4) (f8 : (hLe T0 H0 H1 ∧ hFr s_199vk692.2.2.2.2 H0 H1 ∧ ((0 : Int) = 0 → H1.length = H0.length) ∧ hWt T0 H1) ∧ postb_199vk692 n4 n3 n1 H0 H1) (f9 : n5 = 9) (f10 : n4 ≠ n5) (f11 : n6 = 10) (f12 : n4 ≠ n6) (f13 : n7 = 13) (f14 : n4 ≠ n7) (f15 : n8 = 32) (f16 : n4 = n8) (f17 : n9 = 1) (f18 : n10 = w32 (n1 + n9)) : postb_127v n10 n2 n3 n1 n0 H0 H1 := by
  have pz := f5.2
  unfold preb_127v at pz
  obtain ⟨ks, tp, wd, b0, b1, b2, b3, c0, c1⟩ := pz
  have et : ((n1).toNat : Int) = n1 := Int.toNat_of_nonneg b1
  have sm0 : SMT H0 H0 := SMT_rfl
  have wq18 := f18
  unfold w32 at wq18
  have qa0 := f8.2
  unfold postb_199vk692 at qa0
  have a0 := at8 sm0 tp qa0 (by omega) (by omega) (by omega)
  have sm1 := SMT_trans sm0 (SMT_fr f8.1.2.1 (by decide +kernel))
  have ks_0 := KS5_le f8.1.1 ks
  have tp_0 := TP_le f8.1.1 tp
  have wd_0 := WDS_fr f8.1.1 f8.1.2.1 (by decide +kernel) wd
  unfold postb_127v ONE
  exact ⟨.inl ⟨by omega, by omega, sm1⟩, ks_0⟩
theorem c_127v_s_105 : vOkm T0 (eP e_127v L_127v A_127v mu_127v none) 4 ([(1, [10, 2, 9], [], 0), (0, [9], [], 1), (40, [4, 8], [], 0), (0, [8], [], 32), (41, [4, 7], [], 0), (0, [7], [], 13), (41, [4, 6], [], 0), (0, [6], [], 10), (41, [4, 5], [], 0), (0, [5], [], 9), (1199, [4, 1, 2], [0, 1], 0), (90, [4], [], -2147483648), (91, [4], [], 2147483647), (6000, [0, 1, 2, 3], [0], 0), (0, [0], [], 31), (90, [2], [], -2147483648), (91, [2], [], 2147483647), (90, [3], [], -2147483648), (91, [3], [], 2147483647)], (3000, [10], [1], 38)) := vOk_in fun ρ η h => by
  obtain ⟨f0, f1, f2, f3, f4, f5, f6, f7, f8, f9, f10, f11, f12, f13, f14, f15, f16, f17, f18, _⟩ := h
  exact q_127v_105 (n0 := ρ 3) (n1 := ρ 2) (n2 := ρ 0) (n3 := ρ 1) (n4 := ρ 4) (n5 := ρ 5) (n6 := ρ 6) (n7 := ρ 7) (n8 := ρ 8) (n9 := ρ 9) (n10 := ρ 10) (H0 := η 0) (H1 := η 1) f18 f17 f16 f15 f14 f13 f12 f11 f10 f9 f8 f7 f6 f5 f4 f3 f2 f1 f0
set_option maxHeartbeats 20000000 in
def p_127v_s : List vG := [([(1, [7, 2, 6], [], 0), (0, [6], [], 1), (40, [4, 5], [], 0), (0, [5], [], 9), (1199, [4, 1, 2], [0, 1], 0), (90, [4], [], -2147483648), (91, [4], [], 2147483647), (6000, [0, 1, 2, 3], [0], 0), (0, [0], [], 31), (90, [2], [], -2147483648), (91, [2], [], 2147483647), (90, [3], [], -2147483648), (91, [3], [], 2147483647)], (3000, [7], [1], 38)),
  ([(1, [8, 2, 7], [], 0), (0, [7], [], 1), (40, [4, 6], [], 0), (0, [6], [], 10), (41, [4, 5], [], 0), (0, [5], [], 9), (1199, [4, 1, 2], [0, 1], 0), (90, [4], [], -2147483648), (91, [4], [], 2147483647), (6000, [0, 1, 2, 3], [0], 0), (0, [0], [], 31), (90, [2], [], -2147483648), (91, [2], [], 2147483647), (90, [3], [], -2147483648), (91, [3], [], 2147483647)], (3000, [8], [1], 38)),
  ([(1, [9, 2, 8], [], 0), (0, [8], [], 1), (40, [4, 7], [], 0), (0, [7], [], 13), (41, [4, 6], [], 0), (0, [6], [], 10), (41, [4, 5], [], 0), (0, [5], [], 9), (1199, [4, 1, 2], [0, 1], 0), (90, [4], [], -2147483648), (91, [4], [], 2147483647), (6000, [0, 1, 2, 3], [0], 0), (0, [0], [], 31), (90, [2], [], -2147483648), (91, [2], [], 2147483647), (90, [3], [], -2147483648), (91, [3], [], 2147483647)], (3000, [9], [1], 38)),
  ([(0, [17], [], 0), (1132, [16, 4], [1, 2], 0), (90, [16], [], -2147483648), (91, [16], [], 2147483647), (40, [14, 15], [], 0), (0, [15], [], 1), (0, [14], [], 1), (30, [13], [], 0), (0, [13], [], 0), (43, [12, 3], [], 0), (1, [12, 2, 11], [], 0), (0, [11], [], 1), (42, [4, 10], [], 0), (0, [10], [], 48), (42, [4, 9], [], 0), (0, [9], [], 97), (41, [4, 8], [], 0), (0, [8], [], 32), (41, [4, 7], [], 0), (0, [7], [], 13), (41, [4, 6], [], 0), (0, [6], [], 10), (41, [4, 5], [], 0), (0, [5], [], 9), (1199, [4, 1, 2], [0, 1], 0), (90, [4], [], -2147483648), (91, [4], [], 2147483647), (6000, [0, 1, 2, 3], [0], 0), (0, [0], [], 31), (90, [2], [], -2147483648), (91, [2], [], 2147483647), (90, [3], [], -2147483648), (91, [3], [], 2147483647)], (2126, [0, 16, 2, 17], [2], 0)),
  ([(1, [19, 2, 18], [], 0), (0, [18], [], 1), (1126, [0, 16, 2, 17], [2, 3], 0), (0, [17], [], 0), (1132, [16, 4], [1, 2], 0), (90, [16], [], -2147483648), (91, [16], [], 2147483647), (40, [14, 15], [], 0), (0, [15], [], 1), (0, [14], [], 1), (30, [13], [], 0), (0, [13], [], 0), (43, [12, 3], [], 0), (1, [12, 2, 11], [], 0), (0, [11], [], 1), (42, [4, 10], [], 0), (0, [10], [], 48), (42, [4, 9], [], 0), (0, [9], [], 97), (41, [4, 8], [], 0), (0, [8], [], 32), (41, [4, 7], [], 0), (0, [7], [], 13), (41, [4, 6], [], 0), (0, [6], [], 10), (41, [4, 5], [], 0), (0, [5], [], 9), (1199, [4, 1, 2], [0, 1], 0), (90, [4], [], -2147483648), (91, [4], [], 2147483647), (6000, [0, 1, 2, 3], [0], 0), (0, [0], [], 31), (90, [2], [], -2147483648), (91, [2], [], 2147483647), (90, [3], [], -2147483648), (91, [3], [], 2147483647)], (3000, [19], [3], 157)),
  ([(0, [16], [], 0), (41, [14, 15], [], 0), (0, [15], [], 1), (0, [14], [], 1), (30, [13], [], 0), (0, [13], [], 0), (43, [12, 3], [], 0), (1, [12, 2, 11], [], 0), (0, [11], [], 1), (42, [4, 10], [], 0), (0, [10], [], 48), (42, [4, 9], [], 0), (0, [9], [], 97), (41, [4, 8], [], 0), (0, [8], [], 32), (41, [4, 7], [], 0), (0, [7], [], 13), (41, [4, 6], [], 0), (0, [6], [], 10), (41, [4, 5], [], 0), (0, [5], [], 9), (1199, [4, 1, 2], [0, 1], 0), (90, [4], [], -2147483648), (91, [4], [], 2147483647), (6000, [0, 1, 2, 3], [0], 0), (0, [0], [], 31), (90, [2], [], -2147483648), (91, [2], [], 2147483647), (90, [3], [], -2147483648), (91, [3], [], 2147483647)], (2126, [0, 14, 2, 16], [1], 0)),
  ([(1, [18, 2, 17], [], 0), (0, [17], [], 2), (1126, [0, 14, 2, 16], [1, 2], 0), (0, [16], [], 0), (41, [14, 15], [], 0), (0, [15], [], 1), (0, [14], [], 1), (30, [13], [], 0), (0, [13], [], 0), (43, [12, 3], [], 0), (1, [12, 2, 11], [], 0), (0, [11], [], 1), (42, [4, 10], [], 0), (0, [10], [], 48), (42, [4, 9], [], 0), (0, [9], [], 97), (41, [4, 8], [], 0), (0, [8], [], 32), (41, [4, 7], [], 0), (0, [7], [], 13), (41, [4, 6], [], 0), (0, [6], [], 10), (41, [4, 5], [], 0), (0, [5], [], 9), (1199, [4, 1, 2], [0, 1], 0), (90, [4], [], -2147483648), (91, [4], [], 2147483647), (6000, [0, 1, 2, 3], [0], 0), (0, [0], [], 31), (90, [2], [], -2147483648), (91, [2], [], 2147483647), (90, [3], [], -2147483648), (91, [3], [], 2147483647)], (3000, [18], [2], 142)),
  ([(0, [17], [], 0), (1132, [16, 4], [2, 3], 0), (90, [16], [], -2147483648), (91, [16], [], 2147483647), (40, [14, 15], [], 0), (0, [15], [], 1), (1131, [14, 4], [1, 2], 0), (90, [14], [], -2147483648), (91, [14], [], 2147483647), (31, [13], [], 0), (0, [13], [], 0), (43, [12, 3], [], 0), (1, [12, 2, 11], [], 0), (0, [11], [], 1), (42, [4, 10], [], 0), (0, [10], [], 48), (42, [4, 9], [], 0), (0, [9], [], 97), (41, [4, 8], [], 0), (0, [8], [], 32), (41, [4, 7], [], 0), (0, [7], [], 13), (41, [4, 6], [], 0), (0, [6], [], 10), (41, [4, 5], [], 0), (0, [5], [], 9), (1199, [4, 1, 2], [0, 1], 0), (90, [4], [], -2147483648), (91, [4], [], 2147483647), (6000, [0, 1, 2, 3], [0], 0), (0, [0], [], 31), (90, [2], [], -2147483648), (91, [2], [], 2147483647), (90, [3], [], -2147483648), (91, [3], [], 2147483647)], (2126, [0, 16, 2, 17], [3], 0)),
  ([(1, [19, 2, 18], [], 0), (0, [18], [], 1), (1126, [0, 16, 2, 17], [3, 4], 0), (0, [17], [], 0), (1132, [16, 4], [2, 3], 0), (90, [16], [], -2147483648), (91, [16], [], 2147483647), (40, [14, 15], [], 0), (0, [15], [], 1), (1131, [14, 4], [1, 2], 0), (90, [14], [], -2147483648), (91, [14], [], 2147483647), (31, [13], [], 0), (0, [13], [], 0), (43, [12, 3], [], 0), (1, [12, 2, 11], [], 0), (0, [11], [], 1), (42, [4, 10], [], 0), (0, [10], [], 48), (42, [4, 9], [], 0), (0, [9], [], 97), (41, [4, 8], [], 0), (0, [8], [], 32), (41, [4, 7], [], 0), (0, [7], [], 13), (41, [4, 6], [], 0), (0, [6], [], 10), (41, [4, 5], [], 0), (0, [5], [], 9), (1199, [4, 1, 2], [0, 1], 0), (90, [4], [], -2147483648), (91, [4], [], 2147483647), (6000, [0, 1, 2, 3], [0], 0), (0, [0], [], 31), (90, [2], [], -2147483648), (91, [2], [], 2147483647), (90, [3], [], -2147483648), (91, [3], [], 2147483647)], (3000, [19], [4], 157)),
  ([(0, [16], [], 0), (41, [14, 15], [], 0), (0, [15], [], 1), (1131, [14, 4], [1, 2], 0), (90, [14], [], -2147483648), (91, [14], [], 2147483647), (31, [13], [], 0), (0, [13], [], 0), (43, [12, 3], [], 0), (1, [12, 2, 11], [], 0), (0, [11], [], 1), (42, [4, 10], [], 0), (0, [10], [], 48), (42, [4, 9], [], 0), (0, [9], [], 97), (41, [4, 8], [], 0), (0, [8], [], 32), (41, [4, 7], [], 0), (0, [7], [], 13), (41, [4, 6], [], 0), (0, [6], [], 10), (41, [4, 5], [], 0), (0, [5], [], 9), (1199, [4, 1, 2], [0, 1], 0), (90, [4], [], -2147483648), (91, [4], [], 2147483647), (6000, [0, 1, 2, 3], [0], 0), (0, [0], [], 31), (90, [2], [], -2147483648), (91, [2], [], 2147483647), (90, [3], [], -2147483648), (91, [3], [], 2147483647)], (2126, [0, 14, 2, 16], [2], 0)),
  ([(1, [18, 2, 17], [], 0), (0, [17], [], 2), (1126, [0, 14, 2, 16], [2, 3], 0), (0, [16], [], 0), (41, [14, 15], [], 0), (0, [15], [], 1), (1131, [14, 4], [1, 2], 0), (90, [14], [], -2147483648), (91, [14], [], 2147483647), (31, [13], [], 0), (0, [13], [], 0), (43, [12, 3], [], 0), (1, [12, 2, 11], [], 0), (0, [11], [], 1), (42, [4, 10], [], 0), (0, [10], [], 48), (42, [4, 9], [], 0), (0, [9], [], 97), (41, [4, 8], [], 0), (0, [8], [], 32), (41, [4, 7], [], 0), (0, [7], [], 13), (41, [4, 6], [], 0), (0, [6], [], 10), (41, [4, 5], [], 0), (0, [5], [], 9), (1199, [4, 1, 2], [0, 1], 0), (90, [4], [], -2147483648), (91, [4], [], 2147483647), (6000, [0, 1, 2, 3], [0], 0), (0, [0], [], 31), (90, [2], [], -2147483648), (91, [2], [], 2147483647), (90, [3], [], -2147483648), (91, [3], [], 2147483647)], (3000, [18], [3], 142)),
  ([(0, [21], [], 0), (1132, [20, 4], [2, 3], 0), (90, [20], [], -2147483648), (91, [20], [], 2147483647), (40, [18, 19], [], 0), (0, [19], [], 1), (0, [18], [], 1), (30, [17], [], 0), (0, [17], [], 0), (41, [15, 16], [], 0), (0, [16], [], 61), (1199, [15, 1, 14], [1, 2], 0), (90, [15], [], -2147483648), (91, [15], [], 2147483647), (1, [14, 2, 13], [], 0), (0, [13], [], 1), (42, [12, 3], [], 0), (1, [12, 2, 11], [], 0), (0, [11], [], 1), (42, [4, 10], [], 0), (0, [10], [], 48), (42, [4, 9], [], 0), (0, [9], [], 97), (41, [4, 8], [], 0), (0, [8], [], 32), (41, [4, 7], [], 0), (0, [7], [], 13), (41, [4, 6], [], 0), (0, [6], [], 10), (41, [4, 5], [], 0), (0, [5], [], 9), (1199, [4, 1, 2], [0, 1], 0), (90, [4], [], -2147483648), (91, [4], [], 2147483647), (6000, [0, 1, 2, 3], [0], 0), (0, [0], [], 31), (90, [2], [], -2147483648), (91, [2], [], 2147483647), (90, [3], [], -2147483648), (91, [3], [], 2147483647)], (2126, [0, 20, 2, 21], [3], 0)),
  ([(1, [23, 2, 22], [], 0), (0, [22], [], 1), (1126, [0, 20, 2, 21], [3, 4], 0), (0, [21], [], 0), (1132, [20, 4], [2, 3], 0), (90, [20], [], -2147483648), (91, [20], [], 2147483647), (40, [18, 19], [], 0), (0, [19], [], 1), (0, [18], [], 1), (30, [17], [], 0), (0, [17], [], 0), (41, [15, 16], [], 0), (0, [16], [], 61), (1199, [15, 1, 14], [1, 2], 0), (90, [15], [], -2147483648), (91, [15], [], 2147483647), (1, [14, 2, 13], [], 0), (0, [13], [], 1), (42, [12, 3], [], 0), (1, [12, 2, 11], [], 0), (0, [11], [], 1), (42, [4, 10], [], 0), (0, [10], [], 48), (42, [4, 9], [], 0), (0, [9], [], 97), (41, [4, 8], [], 0), (0, [8], [], 32), (41, [4, 7], [], 0), (0, [7], [], 13), (41, [4, 6], [], 0), (0, [6], [], 10), (41, [4, 5], [], 0), (0, [5], [], 9), (1199, [4, 1, 2], [0, 1], 0), (90, [4], [], -2147483648), (91, [4], [], 2147483647), (6000, [0, 1, 2, 3], [0], 0), (0, [0], [], 31), (90, [2], [], -2147483648), (91, [2], [], 2147483647), (90, [3], [], -2147483648), (91, [3], [], 2147483647)], (3000, [23], [4], 157)),
  ([(0, [20], [], 0), (41, [18, 19], [], 0), (0, [19], [], 1), (0, [18], [], 1), (30, [17], [], 0), (0, [17], [], 0), (41, [15, 16], [], 0), (0, [16], [], 61), (1199, [15, 1, 14], [1, 2], 0), (90, [15], [], -2147483648), (91, [15], [], 2147483647), (1, [14, 2, 13], [], 0), (0, [13], [], 1), (42, [12, 3], [], 0), (1, [12, 2, 11], [], 0), (0, [11], [], 1), (42, [4, 10], [], 0), (0, [10], [], 48), (42, [4, 9], [], 0), (0, [9], [], 97), (41, [4, 8], [], 0), (0, [8], [], 32), (41, [4, 7], [], 0), (0, [7], [], 13), (41, [4, 6], [], 0), (0, [6], [], 10), (41, [4, 5], [], 0), (0, [5], [], 9), (1199, [4, 1, 2], [0, 1], 0), (90, [4], [], -2147483648), (91, [4], [], 2147483647), (6000, [0, 1, 2, 3], [0], 0), (0, [0], [], 31), (90, [2], [], -2147483648), (91, [2], [], 2147483647), (90, [3], [], -2147483648), (91, [3], [], 2147483647)], (2126, [0, 18, 2, 20], [2], 0)),
  ([(1, [22, 2, 21], [], 0), (0, [21], [], 2), (1126, [0, 18, 2, 20], [2, 3], 0), (0, [20], [], 0), (41, [18, 19], [], 0), (0, [19], [], 1), (0, [18], [], 1), (30, [17], [], 0), (0, [17], [], 0), (41, [15, 16], [], 0), (0, [16], [], 61), (1199, [15, 1, 14], [1, 2], 0), (90, [15], [], -2147483648), (91, [15], [], 2147483647), (1, [14, 2, 13], [], 0), (0, [13], [], 1), (42, [12, 3], [], 0), (1, [12, 2, 11], [], 0), (0, [11], [], 1), (42, [4, 10], [], 0), (0, [10], [], 48), (42, [4, 9], [], 0), (0, [9], [], 97), (41, [4, 8], [], 0), (0, [8], [], 32), (41, [4, 7], [], 0), (0, [7], [], 13), (41, [4, 6], [], 0), (0, [6], [], 10), (41, [4, 5], [], 0), (0, [5], [], 9), (1199, [4, 1, 2], [0, 1], 0), (90, [4], [], -2147483648), (91, [4], [], 2147483647), (6000, [0, 1, 2, 3], [0], 0), (0, [0], [], 31), (90, [2], [], -2147483648), (91, [2], [], 2147483647), (90, [3], [], -2147483648), (91, [3], [], 2147483647)], (3000, [22], [3], 142)),
  ([(0, [21], [], 0), (1132, [20, 4], [3, 4], 0), (90, [20], [], -2147483648), (91, [20], [], 2147483647), (40, [18, 19], [], 0), (0, [19], [], 1), (1131, [18, 4], [2, 3], 0), (90, [18], [], -2147483648), (91, [18], [], 2147483647), (31, [17], [], 0), (0, [17], [], 0), (41, [15, 16], [], 0), (0, [16], [], 61), (1199, [15, 1, 14], [1, 2], 0), (90, [15], [], -2147483648), (91, [15], [], 2147483647), (1, [14, 2, 13], [], 0), (0, [13], [], 1), (42, [12, 3], [], 0), (1, [12, 2, 11], [], 0), (0, [11], [], 1), (42, [4, 10], [], 0), (0, [10], [], 48), (42, [4, 9], [], 0), (0, [9], [], 97), (41, [4, 8], [], 0), (0, [8], [], 32), (41, [4, 7], [], 0), (0, [7], [], 13), (41, [4, 6], [], 0), (0, [6], [], 10), (41, [4, 5], [], 0), (0, [5], [], 9), (1199, [4, 1, 2], [0, 1], 0), (90, [4], [], -2147483648), (91, [4], [], 2147483647), (6000, [0, 1, 2, 3], [0], 0), (0, [0], [], 31), (90, [2], [], -2147483648), (91, [2], [], 2147483647), (90, [3], [], -2147483648), (91, [3], [], 2147483647)], (2126, [0, 20, 2, 21], [4], 0)),
  ([(1, [23, 2, 22], [], 0), (0, [22], [], 1), (1126, [0, 20, 2, 21], [4, 5], 0), (0, [21], [], 0), (1132, [20, 4], [3, 4], 0), (90, [20], [], -2147483648), (91, [20], [], 2147483647), (40, [18, 19], [], 0), (0, [19], [], 1), (1131, [18, 4], [2, 3], 0), (90, [18], [], -2147483648), (91, [18], [], 2147483647), (31, [17], [], 0), (0, [17], [], 0), (41, [15, 16], [], 0), (0, [16], [], 61), (1199, [15, 1, 14], [1, 2], 0), (90, [15], [], -2147483648), (91, [15], [], 2147483647), (1, [14, 2, 13], [], 0), (0, [13], [], 1), (42, [12, 3], [], 0), (1, [12, 2, 11], [], 0), (0, [11], [], 1), (42, [4, 10], [], 0), (0, [10], [], 48), (42, [4, 9], [], 0), (0, [9], [], 97), (41, [4, 8], [], 0), (0, [8], [], 32), (41, [4, 7], [], 0), (0, [7], [], 13), (41, [4, 6], [], 0), (0, [6], [], 10), (41, [4, 5], [], 0), (0, [5], [], 9), (1199, [4, 1, 2], [0, 1], 0), (90, [4], [], -2147483648), (91, [4], [], 2147483647), (6000, [0, 1, 2, 3], [0], 0), (0, [0], [], 31), (90, [2], [], -2147483648), (91, [2], [], 2147483647), (90, [3], [], -2147483648), (91, [3], [], 2147483647)], (3000, [23], [5], 157)),
  ([(0, [20], [], 0), (41, [18, 19], [], 0), (0, [19], [], 1), (1131, [18, 4], [2, 3], 0), (90, [18], [], -2147483648), (91, [18], [], 2147483647), (31, [17], [], 0), (0, [17], [], 0), (41, [15, 16], [], 0), (0, [16], [], 61), (1199, [15, 1, 14], [1, 2], 0), (90, [15], [], -2147483648), (91, [15], [], 2147483647), (1, [14, 2, 13], [], 0), (0, [13], [], 1), (42, [12, 3], [], 0), (1, [12, 2, 11], [], 0), (0, [11], [], 1), (42, [4, 10], [], 0), (0, [10], [], 48), (42, [4, 9], [], 0), (0, [9], [], 97), (41, [4, 8], [], 0), (0, [8], [], 32), (41, [4, 7], [], 0), (0, [7], [], 13), (41, [4, 6], [], 0), (0, [6], [], 10), (41, [4, 5], [], 0), (0, [5], [], 9), (1199, [4, 1, 2], [0, 1], 0), (90, [4], [], -2147483648), (91, [4], [], 2147483647), (6000, [0, 1, 2, 3], [0], 0), (0, [0], [], 31), (90, [2], [], -2147483648), (91, [2], [], 2147483647), (90, [3], [], -2147483648), (91, [3], [], 2147483647)], (2126, [0, 18, 2, 20], [3], 0)),
  ([(1, [22, 2, 21], [], 0), (0, [21], [], 2), (1126, [0, 18, 2, 20], [3, 4], 0), (0, [20], [], 0), (41, [18, 19], [], 0), (0, [19], [], 1), (1131, [18, 4], [2, 3], 0), (90, [18], [], -2147483648), (91, [18], [], 2147483647), (31, [17], [], 0), (0, [17], [], 0), (41, [15, 16], [], 0), (0, [16], [], 61), (1199, [15, 1, 14], [1, 2], 0), (90, [15], [], -2147483648), (91, [15], [], 2147483647), (1, [14, 2, 13], [], 0), (0, [13], [], 1), (42, [12, 3], [], 0), (1, [12, 2, 11], [], 0), (0, [11], [], 1), (42, [4, 10], [], 0), (0, [10], [], 48), (42, [4, 9], [], 0), (0, [9], [], 97), (41, [4, 8], [], 0), (0, [8], [], 32), (41, [4, 7], [], 0), (0, [7], [], 13), (41, [4, 6], [], 0), (0, [6], [], 10), (41, [4, 5], [], 0), (0, [5], [], 9), (1199, [4, 1, 2], [0, 1], 0), (90, [4], [], -2147483648), (91, [4], [], 2147483647), (6000, [0, 1, 2, 3], [0], 0), (0, [0], [], 31), (90, [2], [], -2147483648), (91, [2], [], 2147483647), (90, [3], [], -2147483648), (91, [3], [], 2147483647)], (3000, [22], [4], 142)),
  ([(0, [21], [], 0), (1132, [20, 4], [2, 3], 0), (90, [20], [], -2147483648), (91, [20], [], 2147483647), (40, [18, 19], [], 0), (0, [19], [], 1), (0, [18], [], 1), (30, [17], [], 0), (0, [17], [], 1), (40, [15, 16], [], 0), (0, [16], [], 61), (1199, [15, 1, 14], [1, 2], 0), (90, [15], [], -2147483648), (91, [15], [], 2147483647), (1, [14, 2, 13], [], 0), (0, [13], [], 1), (42, [12, 3], [], 0), (1, [12, 2, 11], [], 0), (0, [11], [], 1), (42, [4, 10], [], 0), (0, [10], [], 48), (42, [4, 9], [], 0), (0, [9], [], 97), (41, [4, 8], [], 0), (0, [8], [], 32), (41, [4, 7], [], 0), (0, [7], [], 13), (41, [4, 6], [], 0), (0, [6], [], 10), (41, [4, 5], [], 0), (0, [5], [], 9), (1199, [4, 1, 2], [0, 1], 0), (90, [4], [], -2147483648), (91, [4], [], 2147483647), (6000, [0, 1, 2, 3], [0], 0), (0, [0], [], 31), (90, [2], [], -2147483648), (91, [2], [], 2147483647), (90, [3], [], -2147483648), (91, [3], [], 2147483647)], (2126, [0, 20, 2, 21], [3], 0)),
  ([(1, [23, 2, 22], [], 0), (0, [22], [], 1), (1126, [0, 20, 2, 21], [3, 4], 0), (0, [21], [], 0), (1132, [20, 4], [2, 3], 0), (90, [20], [], -2147483648), (91, [20], [], 2147483647), (40, [18, 19], [], 0), (0, [19], [], 1), (0, [18], [], 1), (30, [17], [], 0), (0, [17], [], 1), (40, [15, 16], [], 0), (0, [16], [], 61), (1199, [15, 1, 14], [1, 2], 0), (90, [15], [], -2147483648), (91, [15], [], 2147483647), (1, [14, 2, 13], [], 0), (0, [13], [], 1), (42, [12, 3], [], 0), (1, [12, 2, 11], [], 0), (0, [11], [], 1), (42, [4, 10], [], 0), (0, [10], [], 48), (42, [4, 9], [], 0), (0, [9], [], 97), (41, [4, 8], [], 0), (0, [8], [], 32), (41, [4, 7], [], 0), (0, [7], [], 13), (41, [4, 6], [], 0), (0, [6], [], 10), (41, [4, 5], [], 0), (0, [5], [], 9), (1199, [4, 1, 2], [0, 1], 0), (90, [4], [], -2147483648), (91, [4], [], 2147483647), (6000, [0, 1, 2, 3], [0], 0), (0, [0], [], 31), (90, [2], [], -2147483648), (91, [2], [], 2147483647), (90, [3], [], -2147483648), (91, [3], [], 2147483647)], (3000, [23], [4], 157)),
  ([(0, [20], [], 0), (41, [18, 19], [], 0), (0, [19], [], 1), (0, [18], [], 1), (30, [17], [], 0), (0, [17], [], 1), (40, [15, 16], [], 0), (0, [16], [], 61), (1199, [15, 1, 14], [1, 2], 0), (90, [15], [], -2147483648), (91, [15], [], 2147483647), (1, [14, 2, 13], [], 0), (0, [13], [], 1), (42, [12, 3], [], 0), (1, [12, 2, 11], [], 0), (0, [11], [], 1), (42, [4, 10], [], 0), (0, [10], [], 48), (42, [4, 9], [], 0), (0, [9], [], 97), (41, [4, 8], [], 0), (0, [8], [], 32), (41, [4, 7], [], 0), (0, [7], [], 13), (41, [4, 6], [], 0), (0, [6], [], 10), (41, [4, 5], [], 0), (0, [5], [], 9), (1199, [4, 1, 2], [0, 1], 0), (90, [4], [], -2147483648), (91, [4], [], 2147483647), (6000, [0, 1, 2, 3], [0], 0), (0, [0], [], 31), (90, [2], [], -2147483648), (91, [2], [], 2147483647), (90, [3], [], -2147483648), (91, [3], [], 2147483647)], (2126, [0, 18, 2, 20], [2], 0)),
  ([(1, [22, 2, 21], [], 0), (0, [21], [], 2), (1126, [0, 18, 2, 20], [2, 3], 0), (0, [20], [], 0), (41, [18, 19], [], 0), (0, [19], [], 1), (0, [18], [], 1), (30, [17], [], 0), (0, [17], [], 1), (40, [15, 16], [], 0), (0, [16], [], 61), (1199, [15, 1, 14], [1, 2], 0), (90, [15], [], -2147483648), (91, [15], [], 2147483647), (1, [14, 2, 13], [], 0), (0, [13], [], 1), (42, [12, 3], [], 0), (1, [12, 2, 11], [], 0), (0, [11], [], 1), (42, [4, 10], [], 0), (0, [10], [], 48), (42, [4, 9], [], 0), (0, [9], [], 97), (41, [4, 8], [], 0), (0, [8], [], 32), (41, [4, 7], [], 0), (0, [7], [], 13), (41, [4, 6], [], 0), (0, [6], [], 10), (41, [4, 5], [], 0), (0, [5], [], 9), (1199, [4, 1, 2], [0, 1], 0), (90, [4], [], -2147483648), (91, [4], [], 2147483647), (6000, [0, 1, 2, 3], [0], 0), (0, [0], [], 31), (90, [2], [], -2147483648), (91, [2], [], 2147483647), (90, [3], [], -2147483648), (91, [3], [], 2147483647)], (3000, [22], [3], 142)),
  ([(0, [21], [], 0), (1132, [20, 4], [3, 4], 0), (90, [20], [], -2147483648), (91, [20], [], 2147483647), (40, [18, 19], [], 0), (0, [19], [], 1), (1131, [18, 4], [2, 3], 0), (90, [18], [], -2147483648), (91, [18], [], 2147483647), (31, [17], [], 0), (0, [17], [], 1), (40, [15, 16], [], 0), (0, [16], [], 61), (1199, [15, 1, 14], [1, 2], 0), (90, [15], [], -2147483648), (91, [15], [], 2147483647), (1, [14, 2, 13], [], 0), (0, [13], [], 1), (42, [12, 3], [], 0), (1, [12, 2, 11], [], 0), (0, [11], [], 1), (42, [4, 10], [], 0), (0, [10], [], 48), (42, [4, 9], [], 0), (0, [9], [], 97), (41, [4, 8], [], 0), (0, [8], [], 32), (41, [4, 7], [], 0), (0, [7], [], 13), (41, [4, 6], [], 0), (0, [6], [], 10), (41, [4, 5], [], 0), (0, [5], [], 9), (1199, [4, 1, 2], [0, 1], 0), (90, [4], [], -2147483648), (91, [4], [], 2147483647), (6000, [0, 1, 2, 3], [0], 0), (0, [0], [], 31), (90, [2], [], -2147483648), (91, [2], [], 2147483647), (90, [3], [], -2147483648), (91, [3], [], 2147483647)], (2126, [0, 20, 2, 21], [4], 0)),
  ([(1, [23, 2, 22], [], 0), (0, [22], [], 1), (1126, [0, 20, 2, 21], [4, 5], 0), (0, [21], [], 0), (1132, [20, 4], [3, 4], 0), (90, [20], [], -2147483648), (91, [20], [], 2147483647), (40, [18, 19], [], 0), (0, [19], [], 1), (1131, [18, 4], [2, 3], 0), (90, [18], [], -2147483648), (91, [18], [], 2147483647), (31, [17], [], 0), (0, [17], [], 1), (40, [15, 16], [], 0), (0, [16], [], 61), (1199, [15, 1, 14], [1, 2], 0), (90, [15], [], -2147483648), (91, [15], [], 2147483647), (1, [14, 2, 13], [], 0), (0, [13], [], 1), (42, [12, 3], [], 0), (1, [12, 2, 11], [], 0), (0, [11], [], 1), (42, [4, 10], [], 0), (0, [10], [], 48), (42, [4, 9], [], 0), (0, [9], [], 97), (41, [4, 8], [], 0), (0, [8], [], 32), (41, [4, 7], [], 0), (0, [7], [], 13), (41, [4, 6], [], 0), (0, [6], [], 10), (41, [4, 5], [], 0), (0, [5], [], 9), (1199, [4, 1, 2], [0, 1], 0), (90, [4], [], -2147483648), (91, [4], [], 2147483647), (6000, [0, 1, 2, 3], [0], 0), (0, [0], [], 31), (90, [2], [], -2147483648), (91, [2], [], 2147483647), (90, [3], [], -2147483648), (91, [3], [], 2147483647)], (3000, [23], [5], 157)),
  ([(0, [20], [], 0), (41, [18, 19], [], 0), (0, [19], [], 1), (1131, [18, 4], [2, 3], 0), (90, [18], [], -2147483648), (91, [18], [], 2147483647), (31, [17], [], 0), (0, [17], [], 1), (40, [15, 16], [], 0), (0, [16], [], 61), (1199, [15, 1, 14], [1, 2], 0), (90, [15], [], -2147483648), (91, [15], [], 2147483647), (1, [14, 2, 13], [], 0), (0, [13], [], 1), (42, [12, 3], [], 0), (1, [12, 2, 11], [], 0), (0, [11], [], 1), (42, [4, 10], [], 0), (0, [10], [], 48), (42, [4, 9], [], 0), (0, [9], [], 97), (41, [4, 8], [], 0), (0, [8], [], 32), (41, [4, 7], [], 0), (0, [7], [], 13), (41, [4, 6], [], 0), (0, [6], [], 10), (41, [4, 5], [], 0), (0, [5], [], 9), (1199, [4, 1, 2], [0, 1], 0), (90, [4], [], -2147483648), (91, [4], [], 2147483647), (6000, [0, 1, 2, 3], [0], 0), (0, [0], [], 31), (90, [2], [], -2147483648), (91, [2], [], 2147483647), (90, [3], [], -2147483648), (91, [3], [], 2147483647)], (2126, [0, 18, 2, 20], [3], 0)),
  ([(1, [22, 2, 21], [], 0), (0, [21], [], 2), (1126, [0, 18, 2, 20], [3, 4], 0), (0, [20], [], 0), (41, [18, 19], [], 0), (0, [19], [], 1), (1131, [18, 4], [2, 3], 0), (90, [18], [], -2147483648), (91, [18], [], 2147483647), (31, [17], [], 0), (0, [17], [], 1), (40, [15, 16], [], 0), (0, [16], [], 61), (1199, [15, 1, 14], [1, 2], 0), (90, [15], [], -2147483648), (91, [15], [], 2147483647), (1, [14, 2, 13], [], 0), (0, [13], [], 1), (42, [12, 3], [], 0), (1, [12, 2, 11], [], 0), (0, [11], [], 1), (42, [4, 10], [], 0), (0, [10], [], 48), (42, [4, 9], [], 0), (0, [9], [], 97), (41, [4, 8], [], 0), (0, [8], [], 32), (41, [4, 7], [], 0), (0, [7], [], 13), (41, [4, 6], [], 0), (0, [6], [], 10), (41, [4, 5], [], 0), (0, [5], [], 9), (1199, [4, 1, 2], [0, 1], 0), (90, [4], [], -2147483648), (91, [4], [], 2147483647), (6000, [0, 1, 2, 3], [0], 0), (0, [0], [], 31), (90, [2], [], -2147483648), (91, [2], [], 2147483647), (90, [3], [], -2147483648), (91, [3], [], 2147483647)], (3000, [22], [4], 142)),
  ([(0, [18], [], 0), (1132, [17, 4], [1, 2], 0), (90, [17], [], -2147483648), (91, [17], [], 2147483647), (40, [15, 16], [], 0), (0, [16], [], 1), (0, [15], [], 1), (30, [14], [], 0), (0, [14], [], 0), (43, [13, 3], [], 0), (1, [13, 2, 12], [], 0), (0, [12], [], 1), (44, [4, 11], [], 0), (0, [11], [], 57), (43, [4, 10], [], 0), (0, [10], [], 48), (42, [4, 9], [], 0), (0, [9], [], 97), (41, [4, 8], [], 0), (0, [8], [], 32), (41, [4, 7], [], 0), (0, [7], [], 13), (41, [4, 6], [], 0), (0, [6], [], 10), (41, [4, 5], [], 0), (0, [5], [], 9), (1199, [4, 1, 2], [0, 1], 0), (90, [4], [], -2147483648), (91, [4], [], 2147483647), (6000, [0, 1, 2, 3], [0], 0), (0, [0], [], 31), (90, [2], [], -2147483648), (91, [2], [], 2147483647), (90, [3], [], -2147483648), (91, [3], [], 2147483647)], (2126, [0, 17, 2, 18], [2], 0)),
  ([(1, [20, 2, 19], [], 0), (0, [19], [], 1), (1126, [0, 17, 2, 18], [2, 3], 0), (0, [18], [], 0), (1132, [17, 4], [1, 2], 0), (90, [17], [], -2147483648), (91, [17], [], 2147483647), (40, [15, 16], [], 0), (0, [16], [], 1), (0, [15], [], 1), (30, [14], [], 0), (0, [14], [], 0), (43, [13, 3], [], 0), (1, [13, 2, 12], [], 0), (0, [12], [], 1), (44, [4, 11], [], 0), (0, [11], [], 57), (43, [4, 10], [], 0), (0, [10], [], 48), (42, [4, 9], [], 0), (0, [9], [], 97), (41, [4, 8], [], 0), (0, [8], [], 32), (41, [4, 7], [], 0), (0, [7], [], 13), (41, [4, 6], [], 0), (0, [6], [], 10), (41, [4, 5], [], 0), (0, [5], [], 9), (1199, [4, 1, 2], [0, 1], 0), (90, [4], [], -2147483648), (91, [4], [], 2147483647), (6000, [0, 1, 2, 3], [0], 0), (0, [0], [], 31), (90, [2], [], -2147483648), (91, [2], [], 2147483647), (90, [3], [], -2147483648), (91, [3], [], 2147483647)], (3000, [20], [3], 157)),
  ([(0, [17], [], 0), (41, [15, 16], [], 0), (0, [16], [], 1), (0, [15], [], 1), (30, [14], [], 0), (0, [14], [], 0), (43, [13, 3], [], 0), (1, [13, 2, 12], [], 0), (0, [12], [], 1), (44, [4, 11], [], 0), (0, [11], [], 57), (43, [4, 10], [], 0), (0, [10], [], 48), (42, [4, 9], [], 0), (0, [9], [], 97), (41, [4, 8], [], 0), (0, [8], [], 32), (41, [4, 7], [], 0), (0, [7], [], 13), (41, [4, 6], [], 0), (0, [6], [], 10), (41, [4, 5], [], 0), (0, [5], [], 9), (1199, [4, 1, 2], [0, 1], 0), (90, [4], [], -2147483648), (91, [4], [], 2147483647), (6000, [0, 1, 2, 3], [0], 0), (0, [0], [], 31), (90, [2], [], -2147483648), (91, [2], [], 2147483647), (90, [3], [], -2147483648), (91, [3], [], 2147483647)], (2126, [0, 15, 2, 17], [1], 0)),
  ([(1, [19, 2, 18], [], 0), (0, [18], [], 2), (1126, [0, 15, 2, 17], [1, 2], 0), (0, [17], [], 0), (41, [15, 16], [], 0), (0, [16], [], 1), (0, [15], [], 1), (30, [14], [], 0), (0, [14], [], 0), (43, [13, 3], [], 0), (1, [13, 2, 12], [], 0), (0, [12], [], 1), (44, [4, 11], [], 0), (0, [11], [], 57), (43, [4, 10], [], 0), (0, [10], [], 48), (42, [4, 9], [], 0), (0, [9], [], 97), (41, [4, 8], [], 0), (0, [8], [], 32), (41, [4, 7], [], 0), (0, [7], [], 13), (41, [4, 6], [], 0), (0, [6], [], 10), (41, [4, 5], [], 0), (0, [5], [], 9), (1199, [4, 1, 2], [0, 1], 0), (90, [4], [], -2147483648), (91, [4], [], 2147483647), (6000, [0, 1, 2, 3], [0], 0), (0, [0], [], 31), (90, [2], [], -2147483648), (91, [2], [], 2147483647), (90, [3], [], -2147483648), (91, [3], [], 2147483647)], (3000, [19], [2], 142)),
  ([(0, [18], [], 0), (1132, [17, 4], [2, 3], 0), (90, [17], [], -2147483648), (91, [17], [], 2147483647), (40, [15, 16], [], 0), (0, [16], [], 1), (1131, [15, 4], [1, 2], 0), (90, [15], [], -2147483648), (91, [15], [], 2147483647), (31, [14], [], 0), (0, [14], [], 0), (43, [13, 3], [], 0), (1, [13, 2, 12], [], 0), (0, [12], [], 1), (44, [4, 11], [], 0), (0, [11], [], 57), (43, [4, 10], [], 0), (0, [10], [], 48), (42, [4, 9], [], 0), (0, [9], [], 97), (41, [4, 8], [], 0), (0, [8], [], 32), (41, [4, 7], [], 0), (0, [7], [], 13), (41, [4, 6], [], 0), (0, [6], [], 10), (41, [4, 5], [], 0), (0, [5], [], 9), (1199, [4, 1, 2], [0, 1], 0), (90, [4], [], -2147483648), (91, [4], [], 2147483647), (6000, [0, 1, 2, 3], [0], 0), (0, [0], [], 31), (90, [2], [], -2147483648), (91, [2], [], 2147483647), (90, [3], [], -2147483648), (91, [3], [], 2147483647)], (2126, [0, 17, 2, 18], [3], 0)),
  ([(1, [20, 2, 19], [], 0), (0, [19], [], 1), (1126, [0, 17, 2, 18], [3, 4], 0), (0, [18], [], 0), (1132, [17, 4], [2, 3], 0), (90, [17], [], -2147483648), (91, [17], [], 2147483647), (40, [15, 16], [], 0), (0, [16], [], 1), (1131, [15, 4], [1, 2], 0), (90, [15], [], -2147483648), (91, [15], [], 2147483647), (31, [14], [], 0), (0, [14], [], 0), (43, [13, 3], [], 0), (1, [13, 2, 12], [], 0), (0, [12], [], 1), (44, [4, 11], [], 0), (0, [11], [], 57), (43, [4, 10], [], 0), (0, [10], [], 48), (42, [4, 9], [], 0), (0, [9], [], 97), (41, [4, 8], [], 0), (0, [8], [], 32), (41, [4, 7], [], 0), (0, [7], [], 13), (41, [4, 6], [], 0), (0, [6], [], 10), (41, [4, 5], [], 0), (0, [5], [], 9), (1199, [4, 1, 2], [0, 1], 0), (90, [4], [], -2147483648), (91, [4], [], 2147483647), (6000, [0, 1, 2, 3], [0], 0), (0, [0], [], 31), (90, [2], [], -2147483648), (91, [2], [], 2147483647), (90, [3], [], -2147483648), (91, [3], [], 2147483647)], (3000, [20], [4], 157)),
  ([(0, [17], [], 0), (41, [15, 16], [], 0), (0, [16], [], 1), (1131, [15, 4], [1, 2], 0), (90, [15], [], -2147483648), (91, [15], [], 2147483647), (31, [14], [], 0), (0, [14], [], 0), (43, [13, 3], [], 0), (1, [13, 2, 12], [], 0), (0, [12], [], 1), (44, [4, 11], [], 0), (0, [11], [], 57), (43, [4, 10], [], 0), (0, [10], [], 48), (42, [4, 9], [], 0), (0, [9], [], 97), (41, [4, 8], [], 0), (0, [8], [], 32), (41, [4, 7], [], 0), (0, [7], [], 13), (41, [4, 6], [], 0), (0, [6], [], 10), (41, [4, 5], [], 0), (0, [5], [], 9), (1199, [4, 1, 2], [0, 1], 0), (90, [4], [], -2147483648), (91, [4], [], 2147483647), (6000, [0, 1, 2, 3], [0], 0), (0, [0], [], 31), (90, [2], [], -2147483648), (91, [2], [], 2147483647), (90, [3], [], -2147483648), (91, [3], [], 2147483647)], (2126, [0, 15, 2, 17], [2], 0)),
  ([(1, [19, 2, 18], [], 0), (0, [18], [], 2), (1126, [0, 15, 2, 17], [2, 3], 0), (0, [17], [], 0), (41, [15, 16], [], 0), (0, [16], [], 1), (1131, [15, 4], [1, 2], 0), (90, [15], [], -2147483648), (91, [15], [], 2147483647), (31, [14], [], 0), (0, [14], [], 0), (43, [13, 3], [], 0), (1, [13, 2, 12], [], 0), (0, [12], [], 1), (44, [4, 11], [], 0), (0, [11], [], 57), (43, [4, 10], [], 0), (0, [10], [], 48), (42, [4, 9], [], 0), (0, [9], [], 97), (41, [4, 8], [], 0), (0, [8], [], 32), (41, [4, 7], [], 0), (0, [7], [], 13), (41, [4, 6], [], 0), (0, [6], [], 10), (41, [4, 5], [], 0), (0, [5], [], 9), (1199, [4, 1, 2], [0, 1], 0), (90, [4], [], -2147483648), (91, [4], [], 2147483647), (6000, [0, 1, 2, 3], [0], 0), (0, [0], [], 31), (90, [2], [], -2147483648), (91, [2], [], 2147483647), (90, [3], [], -2147483648), (91, [3], [], 2147483647)], (3000, [19], [3], 142)),
  ([(0, [22], [], 0), (1132, [21, 4], [2, 3], 0), (90, [21], [], -2147483648), (91, [21], [], 2147483647), (40, [19, 20], [], 0), (0, [20], [], 1), (0, [19], [], 1), (30, [18], [], 0), (0, [18], [], 0), (41, [16, 17], [], 0), (0, [17], [], 61), (1199, [16, 1, 15], [1, 2], 0), (90, [16], [], -2147483648), (91, [16], [], 2147483647), (1, [15, 2, 14], [], 0), (0, [14], [], 1), (42, [13, 3], [], 0), (1, [13, 2, 12], [], 0), (0, [12], [], 1), (44, [4, 11], [], 0), (0, [11], [], 57), (43, [4, 10], [], 0), (0, [10], [], 48), (42, [4, 9], [], 0), (0, [9], [], 97), (41, [4, 8], [], 0), (0, [8], [], 32), (41, [4, 7], [], 0), (0, [7], [], 13), (41, [4, 6], [], 0), (0, [6], [], 10), (41, [4, 5], [], 0), (0, [5], [], 9), (1199, [4, 1, 2], [0, 1], 0), (90, [4], [], -2147483648), (91, [4], [], 2147483647), (6000, [0, 1, 2, 3], [0], 0), (0, [0], [], 31), (90, [2], [], -2147483648), (91, [2], [], 2147483647), (90, [3], [], -2147483648), (91, [3], [], 2147483647)], (2126, [0, 21, 2, 22], [3], 0)),
  ([(1, [24, 2, 23], [], 0), (0, [23], [], 1), (1126, [0, 21, 2, 22], [3, 4], 0), (0, [22], [], 0), (1132, [21, 4], [2, 3], 0), (90, [21], [], -2147483648), (91, [21], [], 2147483647), (40, [19, 20], [], 0), (0, [20], [], 1), (0, [19], [], 1), (30, [18], [], 0), (0, [18], [], 0), (41, [16, 17], [], 0), (0, [17], [], 61), (1199, [16, 1, 15], [1, 2], 0), (90, [16], [], -2147483648), (91, [16], [], 2147483647), (1, [15, 2, 14], [], 0), (0, [14], [], 1), (42, [13, 3], [], 0), (1, [13, 2, 12], [], 0), (0, [12], [], 1), (44, [4, 11], [], 0), (0, [11], [], 57), (43, [4, 10], [], 0), (0, [10], [], 48), (42, [4, 9], [], 0), (0, [9], [], 97), (41, [4, 8], [], 0), (0, [8], [], 32), (41, [4, 7], [], 0), (0, [7], [], 13), (41, [4, 6], [], 0), (0, [6], [], 10), (41, [4, 5], [], 0), (0, [5], [], 9), (1199, [4, 1, 2], [0, 1], 0), (90, [4], [], -2147483648), (91, [4], [], 2147483647), (6000, [0, 1, 2, 3], [0], 0), (0, [0], [], 31), (90, [2], [], -2147483648), (91, [2], [], 2147483647), (90, [3], [], -2147483648), (91, [3], [], 2147483647)], (3000, [24], [4], 157)),
  ([(0, [21], [], 0), (41, [19, 20], [], 0), (0, [20], [], 1), (0, [19], [], 1), (30, [18], [], 0), (0, [18], [], 0), (41, [16, 17], [], 0), (0, [17], [], 61), (1199, [16, 1, 15], [1, 2], 0), (90, [16], [], -2147483648), (91, [16], [], 2147483647), (1, [15, 2, 14], [], 0), (0, [14], [], 1), (42, [13, 3], [], 0), (1, [13, 2, 12], [], 0), (0, [12], [], 1), (44, [4, 11], [], 0), (0, [11], [], 57), (43, [4, 10], [], 0), (0, [10], [], 48), (42, [4, 9], [], 0), (0, [9], [], 97), (41, [4, 8], [], 0), (0, [8], [], 32), (41, [4, 7], [], 0), (0, [7], [], 13), (41, [4, 6], [], 0), (0, [6], [], 10), (41, [4, 5], [], 0), (0, [5], [], 9), (1199, [4, 1, 2], [0, 1], 0), (90, [4], [], -2147483648), (91, [4], [], 2147483647), (6000, [0, 1, 2, 3], [0], 0), (0, [0], [], 31), (90, [2], [], -2147483648), (91, [2], [], 2147483647), (90, [3], [], -2147483648), (91, [3], [], 2147483647)], (2126, [0, 19, 2, 21], [2], 0)),
  ([(1, [23, 2, 22], [], 0), (0, [22], [], 2), (1126, [0, 19, 2, 21], [2, 3], 0), (0, [21], [], 0), (41, [19, 20], [], 0), (0, [20], [], 1), (0, [19], [], 1), (30, [18], [], 0), (0, [18], [], 0), (41, [16, 17], [], 0), (0, [17], [], 61), (1199, [16, 1, 15], [1, 2], 0), (90, [16], [], -2147483648), (91, [16], [], 2147483647), (1, [15, 2, 14], [], 0), (0, [14], [], 1), (42, [13, 3], [], 0), (1, [13, 2, 12], [], 0), (0, [12], [], 1), (44, [4, 11], [], 0), (0, [11], [], 57), (43, [4, 10], [], 0), (0, [10], [], 48), (42, [4, 9], [], 0), (0, [9], [], 97), (41, [4, 8], [], 0), (0, [8], [], 32), (41, [4, 7], [], 0), (0, [7], [], 13), (41, [4, 6], [], 0), (0, [6], [], 10), (41, [4, 5], [], 0), (0, [5], [], 9), (1199, [4, 1, 2], [0, 1], 0), (90, [4], [], -2147483648), (91, [4], [], 2147483647), (6000, [0, 1, 2, 3], [0], 0), (0, [0], [], 31), (90, [2], [], -2147483648), (91, [2], [], 2147483647), (90, [3], [], -2147483648), (91, [3], [], 2147483647)], (3000, [23], [3], 142)),
  ([(0, [22], [], 0), (1132, [21, 4], [3, 4], 0), (90, [21], [], -2147483648), (91, [21], [], 2147483647), (40, [19, 20], [], 0), (0, [20], [], 1), (1131, [19, 4], [2, 3], 0), (90, [19], [], -2147483648), (91, [19], [], 2147483647), (31, [18], [], 0), (0, [18], [], 0), (41, [16, 17], [], 0), (0, [17], [], 61), (1199, [16, 1, 15], [1, 2], 0), (90, [16], [], -2147483648), (91, [16], [], 2147483647), (1, [15, 2, 14], [], 0), (0, [14], [], 1), (42, [13, 3], [], 0), (1, [13, 2, 12], [], 0), (0, [12], [], 1), (44, [4, 11], [], 0), (0, [11], [], 57), (43, [4, 10], [], 0), (0, [10], [], 48), (42, [4, 9], [], 0), (0, [9], [], 97), (41, [4, 8], [], 0), (0, [8], [], 32), (41, [4, 7], [], 0), (0, [7], [], 13), (41, [4, 6], [], 0), (0, [6], [], 10), (41, [4, 5], [], 0), (0, [5], [], 9), (1199, [4, 1, 2], [0, 1], 0), (90, [4], [], -2147483648), (91, [4], [], 2147483647), (6000, [0, 1, 2, 3], [0], 0), (0, [0], [], 31), (90, [2], [], -2147483648), (91, [2], [], 2147483647), (90, [3], [], -2147483648), (91, [3], [], 2147483647)], (2126, [0, 21, 2, 22], [4], 0)),
  ([(1, [24, 2, 23], [], 0), (0, [23], [], 1), (1126, [0, 21, 2, 22], [4, 5], 0), (0, [22], [], 0), (1132, [21, 4], [3, 4], 0), (90, [21], [], -2147483648), (91, [21], [], 2147483647), (40, [19, 20], [], 0), (0, [20], [], 1), (1131, [19, 4], [2, 3], 0), (90, [19], [], -2147483648), (91, [19], [], 2147483647), (31, [18], [], 0), (0, [18], [], 0), (41, [16, 17], [], 0), (0, [17], [], 61), (1199, [16, 1, 15], [1, 2], 0), (90, [16], [], -2147483648), (91, [16], [], 2147483647), (1, [15, 2, 14], [], 0), (0, [14], [], 1), (42, [13, 3], [], 0), (1, [13, 2, 12], [], 0), (0, [12], [], 1), (44, [4, 11], [], 0), (0, [11], [], 57), (43, [4, 10], [], 0), (0, [10], [], 48), (42, [4, 9], [], 0), (0, [9], [], 97), (41, [4, 8], [], 0), (0, [8], [], 32), (41, [4, 7], [], 0), (0, [7], [], 13), (41, [4, 6], [], 0), (0, [6], [], 10), (41, [4, 5], [], 0), (0, [5], [], 9), (1199, [4, 1, 2], [0, 1], 0), (90, [4], [], -2147483648), (91, [4], [], 2147483647), (6000, [0, 1, 2, 3], [0], 0), (0, [0], [], 31), (90, [2], [], -2147483648), (91, [2], [], 2147483647), (90, [3], [], -2147483648), (91, [3], [], 2147483647)], (3000, [24], [5], 157)),
  ([(0, [21], [], 0), (41, [19, 20], [], 0), (0, [20], [], 1), (1131, [19, 4], [2, 3], 0), (90, [19], [], -2147483648), (91, [19], [], 2147483647), (31, [18], [], 0), (0, [18], [], 0), (41, [16, 17], [], 0), (0, [17], [], 61), (1199, [16, 1, 15], [1, 2], 0), (90, [16], [], -2147483648), (91, [16], [], 2147483647), (1, [15, 2, 14], [], 0), (0, [14], [], 1), (42, [13, 3], [], 0), (1, [13, 2, 12], [], 0), (0, [12], [], 1), (44, [4, 11], [], 0), (0, [11], [], 57), (43, [4, 10], [], 0), (0, [10], [], 48), (42, [4, 9], [], 0), (0, [9], [], 97), (41, [4, 8], [], 0), (0, [8], [], 32), (41, [4, 7], [], 0), (0, [7], [], 13), (41, [4, 6], [], 0), (0, [6], [], 10), (41, [4, 5], [], 0), (0, [5], [], 9), (1199, [4, 1, 2], [0, 1], 0), (90, [4], [], -2147483648), (91, [4], [], 2147483647), (6000, [0, 1, 2, 3], [0], 0), (0, [0], [], 31), (90, [2], [], -2147483648), (91, [2], [], 2147483647), (90, [3], [], -2147483648), (91, [3], [], 2147483647)], (2126, [0, 19, 2, 21], [3], 0)),
  ([(1, [23, 2, 22], [], 0), (0, [22], [], 2), (1126, [0, 19, 2, 21], [3, 4], 0), (0, [21], [], 0), (41, [19, 20], [], 0), (0, [20], [], 1), (1131, [19, 4], [2, 3], 0), (90, [19], [], -2147483648), (91, [19], [], 2147483647), (31, [18], [], 0), (0, [18], [], 0), (41, [16, 17], [], 0), (0, [17], [], 61), (1199, [16, 1, 15], [1, 2], 0), (90, [16], [], -2147483648), (91, [16], [], 2147483647), (1, [15, 2, 14], [], 0), (0, [14], [], 1), (42, [13, 3], [], 0), (1, [13, 2, 12], [], 0), (0, [12], [], 1), (44, [4, 11], [], 0), (0, [11], [], 57), (43, [4, 10], [], 0), (0, [10], [], 48), (42, [4, 9], [], 0), (0, [9], [], 97), (41, [4, 8], [], 0), (0, [8], [], 32), (41, [4, 7], [], 0), (0, [7], [], 13), (41, [4, 6], [], 0), (0, [6], [], 10), (41, [4, 5], [], 0), (0, [5], [], 9), (1199, [4, 1, 2], [0, 1], 0), (90, [4], [], -2147483648), (91, [4], [], 2147483647), (6000, [0, 1, 2, 3], [0], 0), (0, [0], [], 31), (90, [2], [], -2147483648), (91, [2], [], 2147483647), (90, [3], [], -2147483648), (91, [3], [], 2147483647)], (3000, [23], [4], 142)),
  ([(0, [22], [], 0), (1132, [21, 4], [2, 3], 0), (90, [21], [], -2147483648), (91, [21], [], 2147483647), (40, [19, 20], [], 0), (0, [20], [], 1), (0, [19], [], 1), (30, [18], [], 0), (0, [18], [], 1), (40, [16, 17], [], 0), (0, [17], [], 61), (1199, [16, 1, 15], [1, 2], 0), (90, [16], [], -2147483648), (91, [16], [], 2147483647), (1, [15, 2, 14], [], 0), (0, [14], [], 1), (42, [13, 3], [], 0), (1, [13, 2, 12], [], 0), (0, [12], [], 1), (44, [4, 11], [], 0), (0, [11], [], 57), (43, [4, 10], [], 0), (0, [10], [], 48), (42, [4, 9], [], 0), (0, [9], [], 97), (41, [4, 8], [], 0), (0, [8], [], 32), (41, [4, 7], [], 0), (0, [7], [], 13), (41, [4, 6], [], 0), (0, [6], [], 10), (41, [4, 5], [], 0), (0, [5], [], 9), (1199, [4, 1, 2], [0, 1], 0), (90, [4], [], -2147483648), (91, [4], [], 2147483647), (6000, [0, 1, 2, 3], [0], 0), (0, [0], [], 31), (90, [2], [], -2147483648), (91, [2], [], 2147483647), (90, [3], [], -2147483648), (91, [3], [], 2147483647)], (2126, [0, 21, 2, 22], [3], 0)),
  ([(1, [24, 2, 23], [], 0), (0, [23], [], 1), (1126, [0, 21, 2, 22], [3, 4], 0), (0, [22], [], 0), (1132, [21, 4], [2, 3], 0), (90, [21], [], -2147483648), (91, [21], [], 2147483647), (40, [19, 20], [], 0), (0, [20], [], 1), (0, [19], [], 1), (30, [18], [], 0), (0, [18], [], 1), (40, [16, 17], [], 0), (0, [17], [], 61), (1199, [16, 1, 15], [1, 2], 0), (90, [16], [], -2147483648), (91, [16], [], 2147483647), (1, [15, 2, 14], [], 0), (0, [14], [], 1), (42, [13, 3], [], 0), (1, [13, 2, 12], [], 0), (0, [12], [], 1), (44, [4, 11], [], 0), (0, [11], [], 57), (43, [4, 10], [], 0), (0, [10], [], 48), (42, [4, 9], [], 0), (0, [9], [], 97), (41, [4, 8], [], 0), (0, [8], [], 32), (41, [4, 7], [], 0), (0, [7], [], 13), (41, [4, 6], [], 0), (0, [6], [], 10), (41, [4, 5], [], 0), (0, [5], [], 9), (1199, [4, 1, 2], [0, 1], 0), (90, [4], [], -2147483648), (91, [4], [], 2147483647), (6000, [0, 1, 2, 3], [0], 0), (0, [0], [], 31), (90, [2], [], -2147483648), (91, [2], [], 2147483647), (90, [3], [], -2147483648), (91, [3], [], 2147483647)], (3000, [24], [4], 157)),
  ([(0, [21], [], 0), (41, [19, 20], [], 0), (0, [20], [], 1), (0, [19], [], 1), (30, [18], [], 0), (0, [18], [], 1), (40, [16, 17], [], 0), (0, [17], [], 61), (1199, [16, 1, 15], [1, 2], 0), (90, [16], [], -2147483648), (91, [16], [], 2147483647), (1, [15, 2, 14], [], 0), (0, [14], [], 1), (42, [13, 3], [], 0), (1, [13, 2, 12], [], 0), (0, [12], [], 1), (44, [4, 11], [], 0), (0, [11], [], 57), (43, [4, 10], [], 0), (0, [10], [], 48), (42, [4, 9], [], 0), (0, [9], [], 97), (41, [4, 8], [], 0), (0, [8], [], 32), (41, [4, 7], [], 0), (0, [7], [], 13), (41, [4, 6], [], 0), (0, [6], [], 10), (41, [4, 5], [], 0), (0, [5], [], 9), (1199, [4, 1, 2], [0, 1], 0), (90, [4], [], -2147483648), (91, [4], [], 2147483647), (6000, [0, 1, 2, 3], [0], 0), (0, [0], [], 31), (90, [2], [], -2147483648), (91, [2], [], 2147483647), (90, [3], [], -2147483648), (91, [3], [], 2147483647)], (2126, [0, 19, 2, 21], [2], 0)),
  ([(1, [23, 2, 22], [], 0), (0, [22], [], 2), (1126, [0, 19, 2, 21], [2, 3], 0), (0, [21], [], 0), (41, [19, 20], [], 0), (0, [20], [], 1), (0, [19], [], 1), (30, [18], [], 0), (0, [18], [], 1), (40, [16, 17], [], 0), (0, [17], [], 61), (1199, [16, 1, 15], [1, 2], 0), (90, [16], [], -2147483648), (91, [16], [], 2147483647), (1, [15, 2, 14], [], 0), (0, [14], [], 1), (42, [13, 3], [], 0), (1, [13, 2, 12], [], 0), (0, [12], [], 1), (44, [4, 11], [], 0), (0, [11], [], 57), (43, [4, 10], [], 0), (0, [10], [], 48), (42, [4, 9], [], 0), (0, [9], [], 97), (41, [4, 8], [], 0), (0, [8], [], 32), (41, [4, 7], [], 0), (0, [7], [], 13), (41, [4, 6], [], 0), (0, [6], [], 10), (41, [4, 5], [], 0), (0, [5], [], 9), (1199, [4, 1, 2], [0, 1], 0), (90, [4], [], -2147483648), (91, [4], [], 2147483647), (6000, [0, 1, 2, 3], [0], 0), (0, [0], [], 31), (90, [2], [], -2147483648), (91, [2], [], 2147483647), (90, [3], [], -2147483648), (91, [3], [], 2147483647)], (3000, [23], [3], 142)),
  ([(0, [22], [], 0), (1132, [21, 4], [3, 4], 0), (90, [21], [], -2147483648), (91, [21], [], 2147483647), (40, [19, 20], [], 0), (0, [20], [], 1), (1131, [19, 4], [2, 3], 0), (90, [19], [], -2147483648), (91, [19], [], 2147483647), (31, [18], [], 0), (0, [18], [], 1), (40, [16, 17], [], 0), (0, [17], [], 61), (1199, [16, 1, 15], [1, 2], 0), (90, [16], [], -2147483648), (91, [16], [], 2147483647), (1, [15, 2, 14], [], 0), (0, [14], [], 1), (42, [13, 3], [], 0), (1, [13, 2, 12], [], 0), (0, [12], [], 1), (44, [4, 11], [], 0), (0, [11], [], 57), (43, [4, 10], [], 0), (0, [10], [], 48), (42, [4, 9], [], 0), (0, [9], [], 97), (41, [4, 8], [], 0), (0, [8], [], 32), (41, [4, 7], [], 0), (0, [7], [], 13), (41, [4, 6], [], 0), (0, [6], [], 10), (41, [4, 5], [], 0), (0, [5], [], 9), (1199, [4, 1, 2], [0, 1], 0), (90, [4], [], -2147483648), (91, [4], [], 2147483647), (6000, [0, 1, 2, 3], [0], 0), (0, [0], [], 31), (90, [2], [], -2147483648), (91, [2], [], 2147483647), (90, [3], [], -2147483648), (91, [3], [], 2147483647)], (2126, [0, 21, 2, 22], [4], 0)),
  ([(1, [24, 2, 23], [], 0), (0, [23], [], 1), (1126, [0, 21, 2, 22], [4, 5], 0), (0, [22], [], 0), (1132, [21, 4], [3, 4], 0), (90, [21], [], -2147483648), (91, [21], [], 2147483647), (40, [19, 20], [], 0), (0, [20], [], 1), (1131, [19, 4], [2, 3], 0), (90, [19], [], -2147483648), (91, [19], [], 2147483647), (31, [18], [], 0), (0, [18], [], 1), (40, [16, 17], [], 0), (0, [17], [], 61), (1199, [16, 1, 15], [1, 2], 0), (90, [16], [], -2147483648), (91, [16], [], 2147483647), (1, [15, 2, 14], [], 0), (0, [14], [], 1), (42, [13, 3], [], 0), (1, [13, 2, 12], [], 0), (0, [12], [], 1), (44, [4, 11], [], 0), (0, [11], [], 57), (43, [4, 10], [], 0), (0, [10], [], 48), (42, [4, 9], [], 0), (0, [9], [], 97), (41, [4, 8], [], 0), (0, [8], [], 32), (41, [4, 7], [], 0), (0, [7], [], 13), (41, [4, 6], [], 0), (0, [6], [], 10), (41, [4, 5], [], 0), (0, [5], [], 9), (1199, [4, 1, 2], [0, 1], 0), (90, [4], [], -2147483648), (91, [4], [], 2147483647), (6000, [0, 1, 2, 3], [0], 0), (0, [0], [], 31), (90, [2], [], -2147483648), (91, [2], [], 2147483647), (90, [3], [], -2147483648), (91, [3], [], 2147483647)], (3000, [24], [5], 157)),
  ([(0, [21], [], 0), (41, [19, 20], [], 0), (0, [20], [], 1), (1131, [19, 4], [2, 3], 0), (90, [19], [], -2147483648), (91, [19], [], 2147483647), (31, [18], [], 0), (0, [18], [], 1), (40, [16, 17], [], 0), (0, [17], [], 61), (1199, [16, 1, 15], [1, 2], 0), (90, [16], [], -2147483648), (91, [16], [], 2147483647), (1, [15, 2, 14], [], 0), (0, [14], [], 1), (42, [13, 3], [], 0), (1, [13, 2, 12], [], 0), (0, [12], [], 1), (44, [4, 11], [], 0), (0, [11], [], 57), (43, [4, 10], [], 0), (0, [10], [], 48), (42, [4, 9], [], 0), (0, [9], [], 97), (41, [4, 8], [], 0), (0, [8], [], 32), (41, [4, 7], [], 0), (0, [7], [], 13), (41, [4, 6], [], 0), (0, [6], [], 10), (41, [4, 5], [], 0), (0, [5], [], 9), (1199, [4, 1, 2], [0, 1], 0), (90, [4], [], -2147483648), (91, [4], [], 2147483647), (6000, [0, 1, 2, 3], [0], 0), (0, [0], [], 31), (90, [2], [], -2147483648), (91, [2], [], 2147483647), (90, [3], [], -2147483648), (91, [3], [], 2147483647)], (2126, [0, 19, 2, 21], [3], 0)),
  ([(1, [23, 2, 22], [], 0), (0, [22], [], 2), (1126, [0, 19, 2, 21], [3, 4], 0), (0, [21], [], 0), (41, [19, 20], [], 0), (0, [20], [], 1), (1131, [19, 4], [2, 3], 0), (90, [19], [], -2147483648), (91, [19], [], 2147483647), (31, [18], [], 0), (0, [18], [], 1), (40, [16, 17], [], 0), (0, [17], [], 61), (1199, [16, 1, 15], [1, 2], 0), (90, [16], [], -2147483648), (91, [16], [], 2147483647), (1, [15, 2, 14], [], 0), (0, [14], [], 1), (42, [13, 3], [], 0), (1, [13, 2, 12], [], 0), (0, [12], [], 1), (44, [4, 11], [], 0), (0, [11], [], 57), (43, [4, 10], [], 0), (0, [10], [], 48), (42, [4, 9], [], 0), (0, [9], [], 97), (41, [4, 8], [], 0), (0, [8], [], 32), (41, [4, 7], [], 0), (0, [7], [], 13), (41, [4, 6], [], 0), (0, [6], [], 10), (41, [4, 5], [], 0), (0, [5], [], 9), (1199, [4, 1, 2], [0, 1], 0), (90, [4], [], -2147483648), (91, [4], [], 2147483647), (6000, [0, 1, 2, 3], [0], 0), (0, [0], [], 31), (90, [2], [], -2147483648), (91, [2], [], 2147483647), (90, [3], [], -2147483648), (91, [3], [], 2147483647)], (3000, [23], [4], 142)),
  ([(45, [4, 11], [], 0), (0, [11], [], 57), (43, [4, 10], [], 0), (0, [10], [], 48), (42, [4, 9], [], 0), (0, [9], [], 97), (41, [4, 8], [], 0), (0, [8], [], 32), (41, [4, 7], [], 0), (0, [7], [], 13), (41, [4, 6], [], 0), (0, [6], [], 10), (41, [4, 5], [], 0), (0, [5], [], 9), (1199, [4, 1, 2], [0, 1], 0), (90, [4], [], -2147483648), (91, [4], [], 2147483647), (6000, [0, 1, 2, 3], [0], 0), (0, [0], [], 31), (90, [2], [], -2147483648), (91, [2], [], 2147483647), (90, [3], [], -2147483648), (91, [3], [], 2147483647)], (2130, [0, 1, 2, 3], [1], 0)),
  ([(1130, [12, 0, 1, 2, 3], [1, 2], 0), (90, [12], [], -2147483648), (91, [12], [], 2147483647), (45, [4, 11], [], 0), (0, [11], [], 57), (43, [4, 10], [], 0), (0, [10], [], 48), (42, [4, 9], [], 0), (0, [9], [], 97), (41, [4, 8], [], 0), (0, [8], [], 32), (41, [4, 7], [], 0), (0, [7], [], 13), (41, [4, 6], [], 0), (0, [6], [], 10), (41, [4, 5], [], 0), (0, [5], [], 9), (1199, [4, 1, 2], [0, 1], 0), (90, [4], [], -2147483648), (91, [4], [], 2147483647), (6000, [0, 1, 2, 3], [0], 0), (0, [0], [], 31), (90, [2], [], -2147483648), (91, [2], [], 2147483647), (90, [3], [], -2147483648), (91, [3], [], 2147483647)], (3000, [12], [2], 82)),
  ([(0, [18], [], 0), (1132, [17, 4], [1, 2], 0), (90, [17], [], -2147483648), (91, [17], [], 2147483647), (40, [15, 16], [], 0), (0, [16], [], 1), (0, [15], [], 1), (30, [14], [], 0), (0, [14], [], 0), (43, [13, 3], [], 0), (1, [13, 2, 12], [], 0), (0, [12], [], 1), (42, [4, 11], [], 0), (0, [11], [], 48), (44, [4, 10], [], 0), (0, [10], [], 122), (43, [4, 9], [], 0), (0, [9], [], 97), (41, [4, 8], [], 0), (0, [8], [], 32), (41, [4, 7], [], 0), (0, [7], [], 13), (41, [4, 6], [], 0), (0, [6], [], 10), (41, [4, 5], [], 0), (0, [5], [], 9), (1199, [4, 1, 2], [0, 1], 0), (90, [4], [], -2147483648), (91, [4], [], 2147483647), (6000, [0, 1, 2, 3], [0], 0), (0, [0], [], 31), (90, [2], [], -2147483648), (91, [2], [], 2147483647), (90, [3], [], -2147483648), (91, [3], [], 2147483647)], (2126, [0, 17, 2, 18], [2], 0)),
  ([(1, [20, 2, 19], [], 0), (0, [19], [], 1), (1126, [0, 17, 2, 18], [2, 3], 0), (0, [18], [], 0), (1132, [17, 4], [1, 2], 0), (90, [17], [], -2147483648), (91, [17], [], 2147483647), (40, [15, 16], [], 0), (0, [16], [], 1), (0, [15], [], 1), (30, [14], [], 0), (0, [14], [], 0), (43, [13, 3], [], 0), (1, [13, 2, 12], [], 0), (0, [12], [], 1), (42, [4, 11], [], 0), (0, [11], [], 48), (44, [4, 10], [], 0), (0, [10], [], 122), (43, [4, 9], [], 0), (0, [9], [], 97), (41, [4, 8], [], 0), (0, [8], [], 32), (41, [4, 7], [], 0), (0, [7], [], 13), (41, [4, 6], [], 0), (0, [6], [], 10), (41, [4, 5], [], 0), (0, [5], [], 9), (1199, [4, 1, 2], [0, 1], 0), (90, [4], [], -2147483648), (91, [4], [], 2147483647), (6000, [0, 1, 2, 3], [0], 0), (0, [0], [], 31), (90, [2], [], -2147483648), (91, [2], [], 2147483647), (90, [3], [], -2147483648), (91, [3], [], 2147483647)], (3000, [20], [3], 157)),
  ([(0, [17], [], 0), (41, [15, 16], [], 0), (0, [16], [], 1), (0, [15], [], 1), (30, [14], [], 0), (0, [14], [], 0), (43, [13, 3], [], 0), (1, [13, 2, 12], [], 0), (0, [12], [], 1), (42, [4, 11], [], 0), (0, [11], [], 48), (44, [4, 10], [], 0), (0, [10], [], 122), (43, [4, 9], [], 0), (0, [9], [], 97), (41, [4, 8], [], 0), (0, [8], [], 32), (41, [4, 7], [], 0), (0, [7], [], 13), (41, [4, 6], [], 0), (0, [6], [], 10), (41, [4, 5], [], 0), (0, [5], [], 9), (1199, [4, 1, 2], [0, 1], 0), (90, [4], [], -2147483648), (91, [4], [], 2147483647), (6000, [0, 1, 2, 3], [0], 0), (0, [0], [], 31), (90, [2], [], -2147483648), (91, [2], [], 2147483647), (90, [3], [], -2147483648), (91, [3], [], 2147483647)], (2126, [0, 15, 2, 17], [1], 0)),
  ([(1, [19, 2, 18], [], 0), (0, [18], [], 2), (1126, [0, 15, 2, 17], [1, 2], 0), (0, [17], [], 0), (41, [15, 16], [], 0), (0, [16], [], 1), (0, [15], [], 1), (30, [14], [], 0), (0, [14], [], 0), (43, [13, 3], [], 0), (1, [13, 2, 12], [], 0), (0, [12], [], 1), (42, [4, 11], [], 0), (0, [11], [], 48), (44, [4, 10], [], 0), (0, [10], [], 122), (43, [4, 9], [], 0), (0, [9], [], 97), (41, [4, 8], [], 0), (0, [8], [], 32), (41, [4, 7], [], 0), (0, [7], [], 13), (41, [4, 6], [], 0), (0, [6], [], 10), (41, [4, 5], [], 0), (0, [5], [], 9), (1199, [4, 1, 2], [0, 1], 0), (90, [4], [], -2147483648), (91, [4], [], 2147483647), (6000, [0, 1, 2, 3], [0], 0), (0, [0], [], 31), (90, [2], [], -2147483648), (91, [2], [], 2147483647), (90, [3], [], -2147483648), (91, [3], [], 2147483647)], (3000, [19], [2], 142)),
  ([(0, [18], [], 0), (1132, [17, 4], [2, 3], 0), (90, [17], [], -2147483648), (91, [17], [], 2147483647), (40, [15, 16], [], 0), (0, [16], [], 1), (1131, [15, 4], [1, 2], 0), (90, [15], [], -2147483648), (91, [15], [], 2147483647), (31, [14], [], 0), (0, [14], [], 0), (43, [13, 3], [], 0), (1, [13, 2, 12], [], 0), (0, [12], [], 1), (42, [4, 11], [], 0), (0, [11], [], 48), (44, [4, 10], [], 0), (0, [10], [], 122), (43, [4, 9], [], 0), (0, [9], [], 97), (41, [4, 8], [], 0), (0, [8], [], 32), (41, [4, 7], [], 0), (0, [7], [], 13), (41, [4, 6], [], 0), (0, [6], [], 10), (41, [4, 5], [], 0), (0, [5], [], 9), (1199, [4, 1, 2], [0, 1], 0), (90, [4], [], -2147483648), (91, [4], [], 2147483647), (6000, [0, 1, 2, 3], [0], 0), (0, [0], [], 31), (90, [2], [], -2147483648), (91, [2], [], 2147483647), (90, [3], [], -2147483648), (91, [3], [], 2147483647)], (2126, [0, 17, 2, 18], [3], 0)),
  ([(1, [20, 2, 19], [], 0), (0, [19], [], 1), (1126, [0, 17, 2, 18], [3, 4], 0), (0, [18], [], 0), (1132, [17, 4], [2, 3], 0), (90, [17], [], -2147483648), (91, [17], [], 2147483647), (40, [15, 16], [], 0), (0, [16], [], 1), (1131, [15, 4], [1, 2], 0), (90, [15], [], -2147483648), (91, [15], [], 2147483647), (31, [14], [], 0), (0, [14], [], 0), (43, [13, 3], [], 0), (1, [13, 2, 12], [], 0), (0, [12], [], 1), (42, [4, 11], [], 0), (0, [11], [], 48), (44, [4, 10], [], 0), (0, [10], [], 122), (43, [4, 9], [], 0), (0, [9], [], 97), (41, [4, 8], [], 0), (0, [8], [], 32), (41, [4, 7], [], 0), (0, [7], [], 13), (41, [4, 6], [], 0), (0, [6], [], 10), (41, [4, 5], [], 0), (0, [5], [], 9), (1199, [4, 1, 2], [0, 1], 0), (90, [4], [], -2147483648), (91, [4], [], 2147483647), (6000, [0, 1, 2, 3], [0], 0), (0, [0], [], 31), (90, [2], [], -2147483648), (91, [2], [], 2147483647), (90, [3], [], -2147483648), (91, [3], [], 2147483647)], (3000, [20], [4], 157)),
  ([(0, [17], [], 0), (41, [15, 16], [], 0), (0, [16], [], 1), (1131, [15, 4], [1, 2], 0), (90, [15], [], -2147483648), (91, [15], [], 2147483647), (31, [14], [], 0), (0, [14], [], 0), (43, [13, 3], [], 0), (1, [13, 2, 12], [], 0), (0, [12], [], 1), (42, [4, 11], [], 0), (0, [11], [], 48), (44, [4, 10], [], 0), (0, [10], [], 122), (43, [4, 9], [], 0), (0, [9], [], 97), (41, [4, 8], [], 0), (0, [8], [], 32), (41, [4, 7], [], 0), (0, [7], [], 13), (41, [4, 6], [], 0), (0, [6], [], 10), (41, [4, 5], [], 0), (0, [5], [], 9), (1199, [4, 1, 2], [0, 1], 0), (90, [4], [], -2147483648), (91, [4], [], 2147483647), (6000, [0, 1, 2, 3], [0], 0), (0, [0], [], 31), (90, [2], [], -2147483648), (91, [2], [], 2147483647), (90, [3], [], -2147483648), (91, [3], [], 2147483647)], (2126, [0, 15, 2, 17], [2], 0)),
  ([(1, [19, 2, 18], [], 0), (0, [18], [], 2), (1126, [0, 15, 2, 17], [2, 3], 0), (0, [17], [], 0), (41, [15, 16], [], 0), (0, [16], [], 1), (1131, [15, 4], [1, 2], 0), (90, [15], [], -2147483648), (91, [15], [], 2147483647), (31, [14], [], 0), (0, [14], [], 0), (43, [13, 3], [], 0), (1, [13, 2, 12], [], 0), (0, [12], [], 1), (42, [4, 11], [], 0), (0, [11], [], 48), (44, [4, 10], [], 0), (0, [10], [], 122), (43, [4, 9], [], 0), (0, [9], [], 97), (41, [4, 8], [], 0), (0, [8], [], 32), (41, [4, 7], [], 0), (0, [7], [], 13), (41, [4, 6], [], 0), (0, [6], [], 10), (41, [4, 5], [], 0), (0, [5], [], 9), (1199, [4, 1, 2], [0, 1], 0), (90, [4], [], -2147483648), (91, [4], [], 2147483647), (6000, [0, 1, 2, 3], [0], 0), (0, [0], [], 31), (90, [2], [], -2147483648), (91, [2], [], 2147483647), (90, [3], [], -2147483648), (91, [3], [], 2147483647)], (3000, [19], [3], 142)),
  ([(0, [22], [], 0), (1132, [21, 4], [2, 3], 0), (90, [21], [], -2147483648), (91, [21], [], 2147483647), (40, [19, 20], [], 0), (0, [20], [], 1), (0, [19], [], 1), (30, [18], [], 0), (0, [18], [], 0), (41, [16, 17], [], 0), (0, [17], [], 61), (1199, [16, 1, 15], [1, 2], 0), (90, [16], [], -2147483648), (91, [16], [], 2147483647), (1, [15, 2, 14], [], 0), (0, [14], [], 1), (42, [13, 3], [], 0), (1, [13, 2, 12], [], 0), (0, [12], [], 1), (42, [4, 11], [], 0), (0, [11], [], 48), (44, [4, 10], [], 0), (0, [10], [], 122), (43, [4, 9], [], 0), (0, [9], [], 97), (41, [4, 8], [], 0), (0, [8], [], 32), (41, [4, 7], [], 0), (0, [7], [], 13), (41, [4, 6], [], 0), (0, [6], [], 10), (41, [4, 5], [], 0), (0, [5], [], 9), (1199, [4, 1, 2], [0, 1], 0), (90, [4], [], -2147483648), (91, [4], [], 2147483647), (6000, [0, 1, 2, 3], [0], 0), (0, [0], [], 31), (90, [2], [], -2147483648), (91, [2], [], 2147483647), (90, [3], [], -2147483648), (91, [3], [], 2147483647)], (2126, [0, 21, 2, 22], [3], 0)),
  ([(1, [24, 2, 23], [], 0), (0, [23], [], 1), (1126, [0, 21, 2, 22], [3, 4], 0), (0, [22], [], 0), (1132, [21, 4], [2, 3], 0), (90, [21], [], -2147483648), (91, [21], [], 2147483647), (40, [19, 20], [], 0), (0, [20], [], 1), (0, [19], [], 1), (30, [18], [], 0), (0, [18], [], 0), (41, [16, 17], [], 0), (0, [17], [], 61), (1199, [16, 1, 15], [1, 2], 0), (90, [16], [], -2147483648), (91, [16], [], 2147483647), (1, [15, 2, 14], [], 0), (0, [14], [], 1), (42, [13, 3], [], 0), (1, [13, 2, 12], [], 0), (0, [12], [], 1), (42, [4, 11], [], 0), (0, [11], [], 48), (44, [4, 10], [], 0), (0, [10], [], 122), (43, [4, 9], [], 0), (0, [9], [], 97), (41, [4, 8], [], 0), (0, [8], [], 32), (41, [4, 7], [], 0), (0, [7], [], 13), (41, [4, 6], [], 0), (0, [6], [], 10), (41, [4, 5], [], 0), (0, [5], [], 9), (1199, [4, 1, 2], [0, 1], 0), (90, [4], [], -2147483648), (91, [4], [], 2147483647), (6000, [0, 1, 2, 3], [0], 0), (0, [0], [], 31), (90, [2], [], -2147483648), (91, [2], [], 2147483647), (90, [3], [], -2147483648), (91, [3], [], 2147483647)], (3000, [24], [4], 157)),
  ([(0, [21], [], 0), (41, [19, 20], [], 0), (0, [20], [], 1), (0, [19], [], 1), (30, [18], [], 0), (0, [18], [], 0), (41, [16, 17], [], 0), (0, [17], [], 61), (1199, [16, 1, 15], [1, 2], 0), (90, [16], [], -2147483648), (91, [16], [], 2147483647), (1, [15, 2, 14], [], 0), (0, [14], [], 1), (42, [13, 3], [], 0), (1, [13, 2, 12], [], 0), (0, [12], [], 1), (42, [4, 11], [], 0), (0, [11], [], 48), (44, [4, 10], [], 0), (0, [10], [], 122), (43, [4, 9], [], 0), (0, [9], [], 97), (41, [4, 8], [], 0), (0, [8], [], 32), (41, [4, 7], [], 0), (0, [7], [], 13), (41, [4, 6], [], 0), (0, [6], [], 10), (41, [4, 5], [], 0), (0, [5], [], 9), (1199, [4, 1, 2], [0, 1], 0), (90, [4], [], -2147483648), (91, [4], [], 2147483647), (6000, [0, 1, 2, 3], [0], 0), (0, [0], [], 31), (90, [2], [], -2147483648), (91, [2], [], 2147483647), (90, [3], [], -2147483648), (91, [3], [], 2147483647)], (2126, [0, 19, 2, 21], [2], 0)),
  ([(1, [23, 2, 22], [], 0), (0, [22], [], 2), (1126, [0, 19, 2, 21], [2, 3], 0), (0, [21], [], 0), (41, [19, 20], [], 0), (0, [20], [], 1), (0, [19], [], 1), (30, [18], [], 0), (0, [18], [], 0), (41, [16, 17], [], 0), (0, [17], [], 61), (1199, [16, 1, 15], [1, 2], 0), (90, [16], [], -2147483648), (91, [16], [], 2147483647), (1, [15, 2, 14], [], 0), (0, [14], [], 1), (42, [13, 3], [], 0), (1, [13, 2, 12], [], 0), (0, [12], [], 1), (42, [4, 11], [], 0), (0, [11], [], 48), (44, [4, 10], [], 0), (0, [10], [], 122), (43, [4, 9], [], 0), (0, [9], [], 97), (41, [4, 8], [], 0), (0, [8], [], 32), (41, [4, 7], [], 0), (0, [7], [], 13), (41, [4, 6], [], 0), (0, [6], [], 10), (41, [4, 5], [], 0), (0, [5], [], 9), (1199, [4, 1, 2], [0, 1], 0), (90, [4], [], -2147483648), (91, [4], [], 2147483647), (6000, [0, 1, 2, 3], [0], 0), (0, [0], [], 31), (90, [2], [], -2147483648), (91, [2], [], 2147483647), (90, [3], [], -2147483648), (91, [3], [], 2147483647)], (3000, [23], [3], 142)),
  ([(0, [22], [], 0), (1132, [21, 4], [3, 4], 0), (90, [21], [], -2147483648), (91, [21], [], 2147483647), (40, [19, 20], [], 0), (0, [20], [], 1), (1131, [19, 4], [2, 3], 0), (90, [19], [], -2147483648), (91, [19], [], 2147483647), (31, [18], [], 0), (0, [18], [], 0), (41, [16, 17], [], 0), (0, [17], [], 61), (1199, [16, 1, 15], [1, 2], 0), (90, [16], [], -2147483648), (91, [16], [], 2147483647), (1, [15, 2, 14], [], 0), (0, [14], [], 1), (42, [13, 3], [], 0), (1, [13, 2, 12], [], 0), (0, [12], [], 1), (42, [4, 11], [], 0), (0, [11], [], 48), (44, [4, 10], [], 0), (0, [10], [], 122), (43, [4, 9], [], 0), (0, [9], [], 97), (41, [4, 8], [], 0), (0, [8], [], 32), (41, [4, 7], [], 0), (0, [7], [], 13), (41, [4, 6], [], 0), (0, [6], [], 10), (41, [4, 5], [], 0), (0, [5], [], 9), (1199, [4, 1, 2], [0, 1], 0), (90, [4], [], -2147483648), (91, [4], [], 2147483647), (6000, [0, 1, 2, 3], [0], 0), (0, [0], [], 31), (90, [2], [], -2147483648), (91, [2], [], 2147483647), (90, [3], [], -2147483648), (91, [3], [], 2147483647)], (2126, [0, 21, 2, 22], [4], 0)),
  ([(1, [24, 2, 23], [], 0), (0, [23], [], 1), (1126, [0, 21, 2, 22], [4, 5], 0), (0, [22], [], 0), (1132, [21, 4], [3, 4], 0), (90, [21], [], -2147483648), (91, [21], [], 2147483647), (40, [19, 20], [], 0), (0, [20], [], 1), (1131, [19, 4], [2, 3], 0), (90, [19], [], -2147483648), (91, [19], [], 2147483647), (31, [18], [], 0), (0, [18], [], 0), (41, [16, 17], [], 0), (0, [17], [], 61), (1199, [16, 1, 15], [1, 2], 0), (90, [16], [], -2147483648), (91, [16], [], 2147483647), (1, [15, 2, 14], [], 0), (0, [14], [], 1), (42, [13, 3], [], 0), (1, [13, 2, 12], [], 0), (0, [12], [], 1), (42, [4, 11], [], 0), (0, [11], [], 48), (44, [4, 10], [], 0), (0, [10], [], 122), (43, [4, 9], [], 0), (0, [9], [], 97), (41, [4, 8], [], 0), (0, [8], [], 32), (41, [4, 7], [], 0), (0, [7], [], 13), (41, [4, 6], [], 0), (0, [6], [], 10), (41, [4, 5], [], 0), (0, [5], [], 9), (1199, [4, 1, 2], [0, 1], 0), (90, [4], [], -2147483648), (91, [4], [], 2147483647), (6000, [0, 1, 2, 3], [0], 0), (0, [0], [], 31), (90, [2], [], -2147483648), (91, [2], [], 2147483647), (90, [3], [], -2147483648), (91, [3], [], 2147483647)], (3000, [24], [5], 157)),
  ([(0, [21], [], 0), (41, [19, 20], [], 0), (0, [20], [], 1), (1131, [19, 4], [2, 3], 0), (90, [19], [], -2147483648), (91, [19], [], 2147483647), (31, [18], [], 0), (0, [18], [], 0), (41, [16, 17], [], 0), (0, [17], [], 61), (1199, [16, 1, 15], [1, 2], 0), (90, [16], [], -2147483648), (91, [16], [], 2147483647), (1, [15, 2, 14], [], 0), (0, [14], [], 1), (42, [13, 3], [], 0), (1, [13, 2, 12], [], 0), (0, [12], [], 1), (42, [4, 11], [], 0), (0, [11], [], 48), (44, [4, 10], [], 0), (0, [10], [], 122), (43, [4, 9], [], 0), (0, [9], [], 97), (41, [4, 8], [], 0), (0, [8], [], 32), (41, [4, 7], [], 0), (0, [7], [], 13), (41, [4, 6], [], 0), (0, [6], [], 10), (41, [4, 5], [], 0), (0, [5], [], 9), (1199, [4, 1, 2], [0, 1], 0), (90, [4], [], -2147483648), (91, [4], [], 2147483647), (6000, [0, 1, 2, 3], [0], 0), (0, [0], [], 31), (90, [2], [], -2147483648), (91, [2], [], 2147483647), (90, [3], [], -2147483648), (91, [3], [], 2147483647)], (2126, [0, 19, 2, 21], [3], 0)),
  ([(1, [23, 2, 22], [], 0), (0, [22], [], 2), (1126, [0, 19, 2, 21], [3, 4], 0), (0, [21], [], 0), (41, [19, 20], [], 0), (0, [20], [], 1), (1131, [19, 4], [2, 3], 0), (90, [19], [], -2147483648), (91, [19], [], 2147483647), (31, [18], [], 0), (0, [18], [], 0), (41, [16, 17], [], 0), (0, [17], [], 61), (1199, [16, 1, 15], [1, 2], 0), (90, [16], [], -2147483648), (91, [16], [], 2147483647), (1, [15, 2, 14], [], 0), (0, [14], [], 1), (42, [13, 3], [], 0), (1, [13, 2, 12], [], 0), (0, [12], [], 1), (42, [4, 11], [], 0), (0, [11], [], 48), (44, [4, 10], [], 0), (0, [10], [], 122), (43, [4, 9], [], 0), (0, [9], [], 97), (41, [4, 8], [], 0), (0, [8], [], 32), (41, [4, 7], [], 0), (0, [7], [], 13), (41, [4, 6], [], 0), (0, [6], [], 10), (41, [4, 5], [], 0), (0, [5], [], 9), (1199, [4, 1, 2], [0, 1], 0), (90, [4], [], -2147483648), (91, [4], [], 2147483647), (6000, [0, 1, 2, 3], [0], 0), (0, [0], [], 31), (90, [2], [], -2147483648), (91, [2], [], 2147483647), (90, [3], [], -2147483648), (91, [3], [], 2147483647)], (3000, [23], [4], 142)),
  ([(0, [22], [], 0), (1132, [21, 4], [2, 3], 0), (90, [21], [], -2147483648), (91, [21], [], 2147483647), (40, [19, 20], [], 0), (0, [20], [], 1), (0, [19], [], 1), (30, [18], [], 0), (0, [18], [], 1), (40, [16, 17], [], 0), (0, [17], [], 61), (1199, [16, 1, 15], [1, 2], 0), (90, [16], [], -2147483648), (91, [16], [], 2147483647), (1, [15, 2, 14], [], 0), (0, [14], [], 1), (42, [13, 3], [], 0), (1, [13, 2, 12], [], 0), (0, [12], [], 1), (42, [4, 11], [], 0), (0, [11], [], 48), (44, [4, 10], [], 0), (0, [10], [], 122), (43, [4, 9], [], 0), (0, [9], [], 97), (41, [4, 8], [], 0), (0, [8], [], 32), (41, [4, 7], [], 0), (0, [7], [], 13), (41, [4, 6], [], 0), (0, [6], [], 10), (41, [4, 5], [], 0), (0, [5], [], 9), (1199, [4, 1, 2], [0, 1], 0), (90, [4], [], -2147483648), (91, [4], [], 2147483647), (6000, [0, 1, 2, 3], [0], 0), (0, [0], [], 31), (90, [2], [], -2147483648), (91, [2], [], 2147483647), (90, [3], [], -2147483648), (91, [3], [], 2147483647)], (2126, [0, 21, 2, 22], [3], 0)),
  ([(1, [24, 2, 23], [], 0), (0, [23], [], 1), (1126, [0, 21, 2, 22], [3, 4], 0), (0, [22], [], 0), (1132, [21, 4], [2, 3], 0), (90, [21], [], -2147483648), (91, [21], [], 2147483647), (40, [19, 20], [], 0), (0, [20], [], 1), (0, [19], [], 1), (30, [18], [], 0), (0, [18], [], 1), (40, [16, 17], [], 0), (0, [17], [], 61), (1199, [16, 1, 15], [1, 2], 0), (90, [16], [], -2147483648), (91, [16], [], 2147483647), (1, [15, 2, 14], [], 0), (0, [14], [], 1), (42, [13, 3], [], 0), (1, [13, 2, 12], [], 0), (0, [12], [], 1), (42, [4, 11], [], 0), (0, [11], [], 48), (44, [4, 10], [], 0), (0, [10], [], 122), (43, [4, 9], [], 0), (0, [9], [], 97), (41, [4, 8], [], 0), (0, [8], [], 32), (41, [4, 7], [], 0), (0, [7], [], 13), (41, [4, 6], [], 0), (0, [6], [], 10), (41, [4, 5], [], 0), (0, [5], [], 9), (1199, [4, 1, 2], [0, 1], 0), (90, [4], [], -2147483648), (91, [4], [], 2147483647), (6000, [0, 1, 2, 3], [0], 0), (0, [0], [], 31), (90, [2], [], -2147483648), (91, [2], [], 2147483647), (90, [3], [], -2147483648), (91, [3], [], 2147483647)], (3000, [24], [4], 157)),
  ([(0, [21], [], 0), (41, [19, 20], [], 0), (0, [20], [], 1), (0, [19], [], 1), (30, [18], [], 0), (0, [18], [], 1), (40, [16, 17], [], 0), (0, [17], [], 61), (1199, [16, 1, 15], [1, 2], 0), (90, [16], [], -2147483648), (91, [16], [], 2147483647), (1, [15, 2, 14], [], 0), (0, [14], [], 1), (42, [13, 3], [], 0), (1, [13, 2, 12], [], 0), (0, [12], [], 1), (42, [4, 11], [], 0), (0, [11], [], 48), (44, [4, 10], [], 0), (0, [10], [], 122), (43, [4, 9], [], 0), (0, [9], [], 97), (41, [4, 8], [], 0), (0, [8], [], 32), (41, [4, 7], [], 0), (0, [7], [], 13), (41, [4, 6], [], 0), (0, [6], [], 10), (41, [4, 5], [], 0), (0, [5], [], 9), (1199, [4, 1, 2], [0, 1], 0), (90, [4], [], -2147483648), (91, [4], [], 2147483647), (6000, [0, 1, 2, 3], [0], 0), (0, [0], [], 31), (90, [2], [], -2147483648), (91, [2], [], 2147483647), (90, [3], [], -2147483648), (91, [3], [], 2147483647)], (2126, [0, 19, 2, 21], [2], 0)),
  ([(1, [23, 2, 22], [], 0), (0, [22], [], 2), (1126, [0, 19, 2, 21], [2, 3], 0), (0, [21], [], 0), (41, [19, 20], [], 0), (0, [20], [], 1), (0, [19], [], 1), (30, [18], [], 0), (0, [18], [], 1), (40, [16, 17], [], 0), (0, [17], [], 61), (1199, [16, 1, 15], [1, 2], 0), (90, [16], [], -2147483648), (91, [16], [], 2147483647), (1, [15, 2, 14], [], 0), (0, [14], [], 1), (42, [13, 3], [], 0), (1, [13, 2, 12], [], 0), (0, [12], [], 1), (42, [4, 11], [], 0), (0, [11], [], 48), (44, [4, 10], [], 0), (0, [10], [], 122), (43, [4, 9], [], 0), (0, [9], [], 97), (41, [4, 8], [], 0), (0, [8], [], 32), (41, [4, 7], [], 0), (0, [7], [], 13), (41, [4, 6], [], 0), (0, [6], [], 10), (41, [4, 5], [], 0), (0, [5], [], 9), (1199, [4, 1, 2], [0, 1], 0), (90, [4], [], -2147483648), (91, [4], [], 2147483647), (6000, [0, 1, 2, 3], [0], 0), (0, [0], [], 31), (90, [2], [], -2147483648), (91, [2], [], 2147483647), (90, [3], [], -2147483648), (91, [3], [], 2147483647)], (3000, [23], [3], 142)),
  ([(0, [22], [], 0), (1132, [21, 4], [3, 4], 0), (90, [21], [], -2147483648), (91, [21], [], 2147483647), (40, [19, 20], [], 0), (0, [20], [], 1), (1131, [19, 4], [2, 3], 0), (90, [19], [], -2147483648), (91, [19], [], 2147483647), (31, [18], [], 0), (0, [18], [], 1), (40, [16, 17], [], 0), (0, [17], [], 61), (1199, [16, 1, 15], [1, 2], 0), (90, [16], [], -2147483648), (91, [16], [], 2147483647), (1, [15, 2, 14], [], 0), (0, [14], [], 1), (42, [13, 3], [], 0), (1, [13, 2, 12], [], 0), (0, [12], [], 1), (42, [4, 11], [], 0), (0, [11], [], 48), (44, [4, 10], [], 0), (0, [10], [], 122), (43, [4, 9], [], 0), (0, [9], [], 97), (41, [4, 8], [], 0), (0, [8], [], 32), (41, [4, 7], [], 0), (0, [7], [], 13), (41, [4, 6], [], 0), (0, [6], [], 10), (41, [4, 5], [], 0), (0, [5], [], 9), (1199, [4, 1, 2], [0, 1], 0), (90, [4], [], -2147483648), (91, [4], [], 2147483647), (6000, [0, 1, 2, 3], [0], 0), (0, [0], [], 31), (90, [2], [], -2147483648), (91, [2], [], 2147483647), (90, [3], [], -2147483648), (91, [3], [], 2147483647)], (2126, [0, 21, 2, 22], [4], 0)),
  ([(1, [24, 2, 23], [], 0), (0, [23], [], 1), (1126, [0, 21, 2, 22], [4, 5], 0), (0, [22], [], 0), (1132, [21, 4], [3, 4], 0), (90, [21], [], -2147483648), (91, [21], [], 2147483647), (40, [19, 20], [], 0), (0, [20], [], 1), (1131, [19, 4], [2, 3], 0), (90, [19], [], -2147483648), (91, [19], [], 2147483647), (31, [18], [], 0), (0, [18], [], 1), (40, [16, 17], [], 0), (0, [17], [], 61), (1199, [16, 1, 15], [1, 2], 0), (90, [16], [], -2147483648), (91, [16], [], 2147483647), (1, [15, 2, 14], [], 0), (0, [14], [], 1), (42, [13, 3], [], 0), (1, [13, 2, 12], [], 0), (0, [12], [], 1), (42, [4, 11], [], 0), (0, [11], [], 48), (44, [4, 10], [], 0), (0, [10], [], 122), (43, [4, 9], [], 0), (0, [9], [], 97), (41, [4, 8], [], 0), (0, [8], [], 32), (41, [4, 7], [], 0), (0, [7], [], 13), (41, [4, 6], [], 0), (0, [6], [], 10), (41, [4, 5], [], 0), (0, [5], [], 9), (1199, [4, 1, 2], [0, 1], 0), (90, [4], [], -2147483648), (91, [4], [], 2147483647), (6000, [0, 1, 2, 3], [0], 0), (0, [0], [], 31), (90, [2], [], -2147483648), (91, [2], [], 2147483647), (90, [3], [], -2147483648), (91, [3], [], 2147483647)], (3000, [24], [5], 157)),
  ([(0, [21], [], 0), (41, [19, 20], [], 0), (0, [20], [], 1), (1131, [19, 4], [2, 3], 0), (90, [19], [], -2147483648), (91, [19], [], 2147483647), (31, [18], [], 0), (0, [18], [], 1), (40, [16, 17], [], 0), (0, [17], [], 61), (1199, [16, 1, 15], [1, 2], 0), (90, [16], [], -2147483648), (91, [16], [], 2147483647), (1, [15, 2, 14], [], 0), (0, [14], [], 1), (42, [13, 3], [], 0), (1, [13, 2, 12], [], 0), (0, [12], [], 1), (42, [4, 11], [], 0), (0, [11], [], 48), (44, [4, 10], [], 0), (0, [10], [], 122), (43, [4, 9], [], 0), (0, [9], [], 97), (41, [4, 8], [], 0), (0, [8], [], 32), (41, [4, 7], [], 0), (0, [7], [], 13), (41, [4, 6], [], 0), (0, [6], [], 10), (41, [4, 5], [], 0), (0, [5], [], 9), (1199, [4, 1, 2], [0, 1], 0), (90, [4], [], -2147483648), (91, [4], [], 2147483647), (6000, [0, 1, 2, 3], [0], 0), (0, [0], [], 31), (90, [2], [], -2147483648), (91, [2], [], 2147483647), (90, [3], [], -2147483648), (91, [3], [], 2147483647)], (2126, [0, 19, 2, 21], [3], 0)),
  ([(1, [23, 2, 22], [], 0), (0, [22], [], 2), (1126, [0, 19, 2, 21], [3, 4], 0), (0, [21], [], 0), (41, [19, 20], [], 0), (0, [20], [], 1), (1131, [19, 4], [2, 3], 0), (90, [19], [], -2147483648), (91, [19], [], 2147483647), (31, [18], [], 0), (0, [18], [], 1), (40, [16, 17], [], 0), (0, [17], [], 61), (1199, [16, 1, 15], [1, 2], 0), (90, [16], [], -2147483648), (91, [16], [], 2147483647), (1, [15, 2, 14], [], 0), (0, [14], [], 1), (42, [13, 3], [], 0), (1, [13, 2, 12], [], 0), (0, [12], [], 1), (42, [4, 11], [], 0), (0, [11], [], 48), (44, [4, 10], [], 0), (0, [10], [], 122), (43, [4, 9], [], 0), (0, [9], [], 97), (41, [4, 8], [], 0), (0, [8], [], 32), (41, [4, 7], [], 0), (0, [7], [], 13), (41, [4, 6], [], 0), (0, [6], [], 10), (41, [4, 5], [], 0), (0, [5], [], 9), (1199, [4, 1, 2], [0, 1], 0), (90, [4], [], -2147483648), (91, [4], [], 2147483647), (6000, [0, 1, 2, 3], [0], 0), (0, [0], [], 31), (90, [2], [], -2147483648), (91, [2], [], 2147483647), (90, [3], [], -2147483648), (91, [3], [], 2147483647)], (3000, [23], [4], 142)),
  ([(0, [19], [], 0), (1132, [18, 4], [1, 2], 0), (90, [18], [], -2147483648), (91, [18], [], 2147483647), (40, [16, 17], [], 0), (0, [17], [], 1), (0, [16], [], 1), (30, [15], [], 0), (0, [15], [], 0), (43, [14, 3], [], 0), (1, [14, 2, 13], [], 0), (0, [13], [], 1), (44, [4, 12], [], 0), (0, [12], [], 57), (43, [4, 11], [], 0), (0, [11], [], 48), (44, [4, 10], [], 0), (0, [10], [], 122), (43, [4, 9], [], 0), (0, [9], [], 97), (41, [4, 8], [], 0), (0, [8], [], 32), (41, [4, 7], [], 0), (0, [7], [], 13), (41, [4, 6], [], 0), (0, [6], [], 10), (41, [4, 5], [], 0), (0, [5], [], 9), (1199, [4, 1, 2], [0, 1], 0), (90, [4], [], -2147483648), (91, [4], [], 2147483647), (6000, [0, 1, 2, 3], [0], 0), (0, [0], [], 31), (90, [2], [], -2147483648), (91, [2], [], 2147483647), (90, [3], [], -2147483648), (91, [3], [], 2147483647)], (2126, [0, 18, 2, 19], [2], 0)),
  ([(1, [21, 2, 20], [], 0), (0, [20], [], 1), (1126, [0, 18, 2, 19], [2, 3], 0), (0, [19], [], 0), (1132, [18, 4], [1, 2], 0), (90, [18], [], -2147483648), (91, [18], [], 2147483647), (40, [16, 17], [], 0), (0, [17], [], 1), (0, [16], [], 1), (30, [15], [], 0), (0, [15], [], 0), (43, [14, 3], [], 0), (1, [14, 2, 13], [], 0), (0, [13], [], 1), (44, [4, 12], [], 0), (0, [12], [], 57), (43, [4, 11], [], 0), (0, [11], [], 48), (44, [4, 10], [], 0), (0, [10], [], 122), (43, [4, 9], [], 0), (0, [9], [], 97), (41, [4, 8], [], 0), (0, [8], [], 32), (41, [4, 7], [], 0), (0, [7], [], 13), (41, [4, 6], [], 0), (0, [6], [], 10), (41, [4, 5], [], 0), (0, [5], [], 9), (1199, [4, 1, 2], [0, 1], 0), (90, [4], [], -2147483648), (91, [4], [], 2147483647), (6000, [0, 1, 2, 3], [0], 0), (0, [0], [], 31), (90, [2], [], -2147483648), (91, [2], [], 2147483647), (90, [3], [], -2147483648), (91, [3], [], 2147483647)], (3000, [21], [3], 157)),
  ([(0, [18], [], 0), (41, [16, 17], [], 0), (0, [17], [], 1), (0, [16], [], 1), (30, [15], [], 0), (0, [15], [], 0), (43, [14, 3], [], 0), (1, [14, 2, 13], [], 0), (0, [13], [], 1), (44, [4, 12], [], 0), (0, [12], [], 57), (43, [4, 11], [], 0), (0, [11], [], 48), (44, [4, 10], [], 0), (0, [10], [], 122), (43, [4, 9], [], 0), (0, [9], [], 97), (41, [4, 8], [], 0), (0, [8], [], 32), (41, [4, 7], [], 0), (0, [7], [], 13), (41, [4, 6], [], 0), (0, [6], [], 10), (41, [4, 5], [], 0), (0, [5], [], 9), (1199, [4, 1, 2], [0, 1], 0), (90, [4], [], -2147483648), (91, [4], [], 2147483647), (6000, [0, 1, 2, 3], [0], 0), (0, [0], [], 31), (90, [2], [], -2147483648), (91, [2], [], 2147483647), (90, [3], [], -2147483648), (91, [3], [], 2147483647)], (2126, [0, 16, 2, 18], [1], 0)),
  ([(1, [20, 2, 19], [], 0), (0, [19], [], 2), (1126, [0, 16, 2, 18], [1, 2], 0), (0, [18], [], 0), (41, [16, 17], [], 0), (0, [17], [], 1), (0, [16], [], 1), (30, [15], [], 0), (0, [15], [], 0), (43, [14, 3], [], 0), (1, [14, 2, 13], [], 0), (0, [13], [], 1), (44, [4, 12], [], 0), (0, [12], [], 57), (43, [4, 11], [], 0), (0, [11], [], 48), (44, [4, 10], [], 0), (0, [10], [], 122), (43, [4, 9], [], 0), (0, [9], [], 97), (41, [4, 8], [], 0), (0, [8], [], 32), (41, [4, 7], [], 0), (0, [7], [], 13), (41, [4, 6], [], 0), (0, [6], [], 10), (41, [4, 5], [], 0), (0, [5], [], 9), (1199, [4, 1, 2], [0, 1], 0), (90, [4], [], -2147483648), (91, [4], [], 2147483647), (6000, [0, 1, 2, 3], [0], 0), (0, [0], [], 31), (90, [2], [], -2147483648), (91, [2], [], 2147483647), (90, [3], [], -2147483648), (91, [3], [], 2147483647)], (3000, [20], [2], 142)),
  ([(0, [19], [], 0), (1132, [18, 4], [2, 3], 0), (90, [18], [], -2147483648), (91, [18], [], 2147483647), (40, [16, 17], [], 0), (0, [17], [], 1), (1131, [16, 4], [1, 2], 0), (90, [16], [], -2147483648), (91, [16], [], 2147483647), (31, [15], [], 0), (0, [15], [], 0), (43, [14, 3], [], 0), (1, [14, 2, 13], [], 0), (0, [13], [], 1), (44, [4, 12], [], 0), (0, [12], [], 57), (43, [4, 11], [], 0), (0, [11], [], 48), (44, [4, 10], [], 0), (0, [10], [], 122), (43, [4, 9], [], 0), (0, [9], [], 97), (41, [4, 8], [], 0), (0, [8], [], 32), (41, [4, 7], [], 0), (0, [7], [], 13), (41, [4, 6], [], 0), (0, [6], [], 10), (41, [4, 5], [], 0), (0, [5], [], 9), (1199, [4, 1, 2], [0, 1], 0), (90, [4], [], -2147483648), (91, [4], [], 2147483647), (6000, [0, 1, 2, 3], [0], 0), (0, [0], [], 31), (90, [2], [], -2147483648), (91, [2], [], 2147483647), (90, [3], [], -2147483648), (91, [3], [], 2147483647)], (2126, [0, 18, 2, 19], [3], 0)),
  ([(1, [21, 2, 20], [], 0), (0, [20], [], 1), (1126, [0, 18, 2, 19], [3, 4], 0), (0, [19], [], 0), (1132, [18, 4], [2, 3], 0), (90, [18], [], -2147483648), (91, [18], [], 2147483647), (40, [16, 17], [], 0), (0, [17], [], 1), (1131, [16, 4], [1, 2], 0), (90, [16], [], -2147483648), (91, [16], [], 2147483647), (31, [15], [], 0), (0, [15], [], 0), (43, [14, 3], [], 0), (1, [14, 2, 13], [], 0), (0, [13], [], 1), (44, [4, 12], [], 0), (0, [12], [], 57), (43, [4, 11], [], 0), (0, [11], [], 48), (44, [4, 10], [], 0), (0, [10], [], 122), (43, [4, 9], [], 0), (0, [9], [], 97), (41, [4, 8], [], 0), (0, [8], [], 32), (41, [4, 7], [], 0), (0, [7], [], 13), (41, [4, 6], [], 0), (0, [6], [], 10), (41, [4, 5], [], 0), (0, [5], [], 9), (1199, [4, 1, 2], [0, 1], 0), (90, [4], [], -2147483648), (91, [4], [], 2147483647), (6000, [0, 1, 2, 3], [0], 0), (0, [0], [], 31), (90, [2], [], -2147483648), (91, [2], [], 2147483647), (90, [3], [], -2147483648), (91, [3], [], 2147483647)], (3000, [21], [4], 157)),
  ([(0, [18], [], 0), (41, [16, 17], [], 0), (0, [17], [], 1), (1131, [16, 4], [1, 2], 0), (90, [16], [], -2147483648), (91, [16], [], 2147483647), (31, [15], [], 0), (0, [15], [], 0), (43, [14, 3], [], 0), (1, [14, 2, 13], [], 0), (0, [13], [], 1), (44, [4, 12], [], 0), (0, [12], [], 57), (43, [4, 11], [], 0), (0, [11], [], 48), (44, [4, 10], [], 0), (0, [10], [], 122), (43, [4, 9], [], 0), (0, [9], [], 97), (41, [4, 8], [], 0), (0, [8], [], 32), (41, [4, 7], [], 0), (0, [7], [], 13), (41, [4, 6], [], 0), (0, [6], [], 10), (41, [4, 5], [], 0), (0, [5], [], 9), (1199, [4, 1, 2], [0, 1], 0), (90, [4], [], -2147483648), (91, [4], [], 2147483647), (6000, [0, 1, 2, 3], [0], 0), (0, [0], [], 31), (90, [2], [], -2147483648), (91, [2], [], 2147483647), (90, [3], [], -2147483648), (91, [3], [], 2147483647)], (2126, [0, 16, 2, 18], [2], 0)),
  ([(1, [20, 2, 19], [], 0), (0, [19], [], 2), (1126, [0, 16, 2, 18], [2, 3], 0), (0, [18], [], 0), (41, [16, 17], [], 0), (0, [17], [], 1), (1131, [16, 4], [1, 2], 0), (90, [16], [], -2147483648), (91, [16], [], 2147483647), (31, [15], [], 0), (0, [15], [], 0), (43, [14, 3], [], 0), (1, [14, 2, 13], [], 0), (0, [13], [], 1), (44, [4, 12], [], 0), (0, [12], [], 57), (43, [4, 11], [], 0), (0, [11], [], 48), (44, [4, 10], [], 0), (0, [10], [], 122), (43, [4, 9], [], 0), (0, [9], [], 97), (41, [4, 8], [], 0), (0, [8], [], 32), (41, [4, 7], [], 0), (0, [7], [], 13), (41, [4, 6], [], 0), (0, [6], [], 10), (41, [4, 5], [], 0), (0, [5], [], 9), (1199, [4, 1, 2], [0, 1], 0), (90, [4], [], -2147483648), (91, [4], [], 2147483647), (6000, [0, 1, 2, 3], [0], 0), (0, [0], [], 31), (90, [2], [], -2147483648), (91, [2], [], 2147483647), (90, [3], [], -2147483648), (91, [3], [], 2147483647)], (3000, [20], [3], 142)),
  ([(0, [23], [], 0), (1132, [22, 4], [2, 3], 0), (90, [22], [], -2147483648), (91, [22], [], 2147483647), (40, [20, 21], [], 0), (0, [21], [], 1), (0, [20], [], 1), (30, [19], [], 0), (0, [19], [], 0), (41, [17, 18], [], 0), (0, [18], [], 61), (1199, [17, 1, 16], [1, 2], 0), (90, [17], [], -2147483648), (91, [17], [], 2147483647), (1, [16, 2, 15], [], 0), (0, [15], [], 1), (42, [14, 3], [], 0), (1, [14, 2, 13], [], 0), (0, [13], [], 1), (44, [4, 12], [], 0), (0, [12], [], 57), (43, [4, 11], [], 0), (0, [11], [], 48), (44, [4, 10], [], 0), (0, [10], [], 122), (43, [4, 9], [], 0), (0, [9], [], 97), (41, [4, 8], [], 0), (0, [8], [], 32), (41, [4, 7], [], 0), (0, [7], [], 13), (41, [4, 6], [], 0), (0, [6], [], 10), (41, [4, 5], [], 0), (0, [5], [], 9), (1199, [4, 1, 2], [0, 1], 0), (90, [4], [], -2147483648), (91, [4], [], 2147483647), (6000, [0, 1, 2, 3], [0], 0), (0, [0], [], 31), (90, [2], [], -2147483648), (91, [2], [], 2147483647), (90, [3], [], -2147483648), (91, [3], [], 2147483647)], (2126, [0, 22, 2, 23], [3], 0)),
  ([(1, [25, 2, 24], [], 0), (0, [24], [], 1), (1126, [0, 22, 2, 23], [3, 4], 0), (0, [23], [], 0), (1132, [22, 4], [2, 3], 0), (90, [22], [], -2147483648), (91, [22], [], 2147483647), (40, [20, 21], [], 0), (0, [21], [], 1), (0, [20], [], 1), (30, [19], [], 0), (0, [19], [], 0), (41, [17, 18], [], 0), (0, [18], [], 61), (1199, [17, 1, 16], [1, 2], 0), (90, [17], [], -2147483648), (91, [17], [], 2147483647), (1, [16, 2, 15], [], 0), (0, [15], [], 1), (42, [14, 3], [], 0), (1, [14, 2, 13], [], 0), (0, [13], [], 1), (44, [4, 12], [], 0), (0, [12], [], 57), (43, [4, 11], [], 0), (0, [11], [], 48), (44, [4, 10], [], 0), (0, [10], [], 122), (43, [4, 9], [], 0), (0, [9], [], 97), (41, [4, 8], [], 0), (0, [8], [], 32), (41, [4, 7], [], 0), (0, [7], [], 13), (41, [4, 6], [], 0), (0, [6], [], 10), (41, [4, 5], [], 0), (0, [5], [], 9), (1199, [4, 1, 2], [0, 1], 0), (90, [4], [], -2147483648), (91, [4], [], 2147483647), (6000, [0, 1, 2, 3], [0], 0), (0, [0], [], 31), (90, [2], [], -2147483648), (91, [2], [], 2147483647), (90, [3], [], -2147483648), (91, [3], [], 2147483647)], (3000, [25], [4], 157)),
  ([(0, [22], [], 0), (41, [20, 21], [], 0), (0, [21], [], 1), (0, [20], [], 1), (30, [19], [], 0), (0, [19], [], 0), (41, [17, 18], [], 0), (0, [18], [], 61), (1199, [17, 1, 16], [1, 2], 0), (90, [17], [], -2147483648), (91, [17], [], 2147483647), (1, [16, 2, 15], [], 0), (0, [15], [], 1), (42, [14, 3], [], 0), (1, [14, 2, 13], [], 0), (0, [13], [], 1), (44, [4, 12], [], 0), (0, [12], [], 57), (43, [4, 11], [], 0), (0, [11], [], 48), (44, [4, 10], [], 0), (0, [10], [], 122), (43, [4, 9], [], 0), (0, [9], [], 97), (41, [4, 8], [], 0), (0, [8], [], 32), (41, [4, 7], [], 0), (0, [7], [], 13), (41, [4, 6], [], 0), (0, [6], [], 10), (41, [4, 5], [], 0), (0, [5], [], 9), (1199, [4, 1, 2], [0, 1], 0), (90, [4], [], -2147483648), (91, [4], [], 2147483647), (6000, [0, 1, 2, 3], [0], 0), (0, [0], [], 31), (90, [2], [], -2147483648), (91, [2], [], 2147483647), (90, [3], [], -2147483648), (91, [3], [], 2147483647)], (2126, [0, 20, 2, 22], [2], 0)),
  ([(1, [24, 2, 23], [], 0), (0, [23], [], 2), (1126, [0, 20, 2, 22], [2, 3], 0), (0, [22], [], 0), (41, [20, 21], [], 0), (0, [21], [], 1), (0, [20], [], 1), (30, [19], [], 0), (0, [19], [], 0), (41, [17, 18], [], 0), (0, [18], [], 61), (1199, [17, 1, 16], [1, 2], 0), (90, [17], [], -2147483648), (91, [17], [], 2147483647), (1, [16, 2, 15], [], 0), (0, [15], [], 1), (42, [14, 3], [], 0), (1, [14, 2, 13], [], 0), (0, [13], [], 1), (44, [4, 12], [], 0), (0, [12], [], 57), (43, [4, 11], [], 0), (0, [11], [], 48), (44, [4, 10], [], 0), (0, [10], [], 122), (43, [4, 9], [], 0), (0, [9], [], 97), (41, [4, 8], [], 0), (0, [8], [], 32), (41, [4, 7], [], 0), (0, [7], [], 13), (41, [4, 6], [], 0), (0, [6], [], 10), (41, [4, 5], [], 0), (0, [5], [], 9), (1199, [4, 1, 2], [0, 1], 0), (90, [4], [], -2147483648), (91, [4], [], 2147483647), (6000, [0, 1, 2, 3], [0], 0), (0, [0], [], 31), (90, [2], [], -2147483648), (91, [2], [], 2147483647), (90, [3], [], -2147483648), (91, [3], [], 2147483647)], (3000, [24], [3], 142)),
  ([(0, [23], [], 0), (1132, [22, 4], [3, 4], 0), (90, [22], [], -2147483648), (91, [22], [], 2147483647), (40, [20, 21], [], 0), (0, [21], [], 1), (1131, [20, 4], [2, 3], 0), (90, [20], [], -2147483648), (91, [20], [], 2147483647), (31, [19], [], 0), (0, [19], [], 0), (41, [17, 18], [], 0), (0, [18], [], 61), (1199, [17, 1, 16], [1, 2], 0), (90, [17], [], -2147483648), (91, [17], [], 2147483647), (1, [16, 2, 15], [], 0), (0, [15], [], 1), (42, [14, 3], [], 0), (1, [14, 2, 13], [], 0), (0, [13], [], 1), (44, [4, 12], [], 0), (0, [12], [], 57), (43, [4, 11], [], 0), (0, [11], [], 48), (44, [4, 10], [], 0), (0, [10], [], 122), (43, [4, 9], [], 0), (0, [9], [], 97), (41, [4, 8], [], 0), (0, [8], [], 32), (41, [4, 7], [], 0), (0, [7], [], 13), (41, [4, 6], [], 0), (0, [6], [], 10), (41, [4, 5], [], 0), (0, [5], [], 9), (1199, [4, 1, 2], [0, 1], 0), (90, [4], [], -2147483648), (91, [4], [], 2147483647), (6000, [0, 1, 2, 3], [0], 0), (0, [0], [], 31), (90, [2], [], -2147483648), (91, [2], [], 2147483647), (90, [3], [], -2147483648), (91, [3], [], 2147483647)], (2126, [0, 22, 2, 23], [4], 0)),
  ([(1, [25, 2, 24], [], 0), (0, [24], [], 1), (1126, [0, 22, 2, 23], [4, 5], 0), (0, [23], [], 0), (1132, [22, 4], [3, 4], 0), (90, [22], [], -2147483648), (91, [22], [], 2147483647), (40, [20, 21], [], 0), (0, [21], [], 1), (1131, [20, 4], [2, 3], 0), (90, [20], [], -2147483648), (91, [20], [], 2147483647), (31, [19], [], 0), (0, [19], [], 0), (41, [17, 18], [], 0), (0, [18], [], 61), (1199, [17, 1, 16], [1, 2], 0), (90, [17], [], -2147483648), (91, [17], [], 2147483647), (1, [16, 2, 15], [], 0), (0, [15], [], 1), (42, [14, 3], [], 0), (1, [14, 2, 13], [], 0), (0, [13], [], 1), (44, [4, 12], [], 0), (0, [12], [], 57), (43, [4, 11], [], 0), (0, [11], [], 48), (44, [4, 10], [], 0), (0, [10], [], 122), (43, [4, 9], [], 0), (0, [9], [], 97), (41, [4, 8], [], 0), (0, [8], [], 32), (41, [4, 7], [], 0), (0, [7], [], 13), (41, [4, 6], [], 0), (0, [6], [], 10), (41, [4, 5], [], 0), (0, [5], [], 9), (1199, [4, 1, 2], [0, 1], 0), (90, [4], [], -2147483648), (91, [4], [], 2147483647), (6000, [0, 1, 2, 3], [0], 0), (0, [0], [], 31), (90, [2], [], -2147483648), (91, [2], [], 2147483647), (90, [3], [], -2147483648), (91, [3], [], 2147483647)], (3000, [25], [5], 157)),
  ([(0, [22], [], 0), (41, [20, 21], [], 0), (0, [21], [], 1), (1131, [20, 4], [2, 3], 0), (90, [20], [], -2147483648), (91, [20], [], 2147483647), (31, [19], [], 0), (0, [19], [], 0), (41, [17, 18], [], 0), (0, [18], [], 61), (1199, [17, 1, 16], [1, 2], 0), (90, [17], [], -2147483648), (91, [17], [], 2147483647), (1, [16, 2, 15], [], 0), (0, [15], [], 1), (42, [14, 3], [], 0), (1, [14, 2, 13], [], 0), (0, [13], [], 1), (44, [4, 12], [], 0), (0, [12], [], 57), (43, [4, 11], [], 0), (0, [11], [], 48), (44, [4, 10], [], 0), (0, [10], [], 122), (43, [4, 9], [], 0), (0, [9], [], 97), (41, [4, 8], [], 0), (0, [8], [], 32), (41, [4, 7], [], 0), (0, [7], [], 13), (41, [4, 6], [], 0), (0, [6], [], 10), (41, [4, 5], [], 0), (0, [5], [], 9), (1199, [4, 1, 2], [0, 1], 0), (90, [4], [], -2147483648), (91, [4], [], 2147483647), (6000, [0, 1, 2, 3], [0], 0), (0, [0], [], 31), (90, [2], [], -2147483648), (91, [2], [], 2147483647), (90, [3], [], -2147483648), (91, [3], [], 2147483647)], (2126, [0, 20, 2, 22], [3], 0)),
  ([(1, [24, 2, 23], [], 0), (0, [23], [], 2), (1126, [0, 20, 2, 22], [3, 4], 0), (0, [22], [], 0), (41, [20, 21], [], 0), (0, [21], [], 1), (1131, [20, 4], [2, 3], 0), (90, [20], [], -2147483648), (91, [20], [], 2147483647), (31, [19], [], 0), (0, [19], [], 0), (41, [17, 18], [], 0), (0, [18], [], 61), (1199, [17, 1, 16], [1, 2], 0), (90, [17], [], -2147483648), (91, [17], [], 2147483647), (1, [16, 2, 15], [], 0), (0, [15], [], 1), (42, [14, 3], [], 0), (1, [14, 2, 13], [], 0), (0, [13], [], 1), (44, [4, 12], [], 0), (0, [12], [], 57), (43, [4, 11], [], 0), (0, [11], [], 48), (44, [4, 10], [], 0), (0, [10], [], 122), (43, [4, 9], [], 0), (0, [9], [], 97), (41, [4, 8], [], 0), (0, [8], [], 32), (41, [4, 7], [], 0), (0, [7], [], 13), (41, [4, 6], [], 0), (0, [6], [], 10), (41, [4, 5], [], 0), (0, [5], [], 9), (1199, [4, 1, 2], [0, 1], 0), (90, [4], [], -2147483648), (91, [4], [], 2147483647), (6000, [0, 1, 2, 3], [0], 0), (0, [0], [], 31), (90, [2], [], -2147483648), (91, [2], [], 2147483647), (90, [3], [], -2147483648), (91, [3], [], 2147483647)], (3000, [24], [4], 142)),
  ([(0, [23], [], 0), (1132, [22, 4], [2, 3], 0), (90, [22], [], -2147483648), (91, [22], [], 2147483647), (40, [20, 21], [], 0), (0, [21], [], 1), (0, [20], [], 1), (30, [19], [], 0), (0, [19], [], 1), (40, [17, 18], [], 0), (0, [18], [], 61), (1199, [17, 1, 16], [1, 2], 0), (90, [17], [], -2147483648), (91, [17], [], 2147483647), (1, [16, 2, 15], [], 0), (0, [15], [], 1), (42, [14, 3], [], 0), (1, [14, 2, 13], [], 0), (0, [13], [], 1), (44, [4, 12], [], 0), (0, [12], [], 57), (43, [4, 11], [], 0), (0, [11], [], 48), (44, [4, 10], [], 0), (0, [10], [], 122), (43, [4, 9], [], 0), (0, [9], [], 97), (41, [4, 8], [], 0), (0, [8], [], 32), (41, [4, 7], [], 0), (0, [7], [], 13), (41, [4, 6], [], 0), (0, [6], [], 10), (41, [4, 5], [], 0), (0, [5], [], 9), (1199, [4, 1, 2], [0, 1], 0), (90, [4], [], -2147483648), (91, [4], [], 2147483647), (6000, [0, 1, 2, 3], [0], 0), (0, [0], [], 31), (90, [2], [], -2147483648), (91, [2], [], 2147483647), (90, [3], [], -2147483648), (91, [3], [], 2147483647)], (2126, [0, 22, 2, 23], [3], 0)),
  ([(1, [25, 2, 24], [], 0), (0, [24], [], 1), (1126, [0, 22, 2, 23], [3, 4], 0), (0, [23], [], 0), (1132, [22, 4], [2, 3], 0), (90, [22], [], -2147483648), (91, [22], [], 2147483647), (40, [20, 21], [], 0), (0, [21], [], 1), (0, [20], [], 1), (30, [19], [], 0), (0, [19], [], 1), (40, [17, 18], [], 0), (0, [18], [], 61), (1199, [17, 1, 16], [1, 2], 0), (90, [17], [], -2147483648), (91, [17], [], 2147483647), (1, [16, 2, 15], [], 0), (0, [15], [], 1), (42, [14, 3], [], 0), (1, [14, 2, 13], [], 0), (0, [13], [], 1), (44, [4, 12], [], 0), (0, [12], [], 57), (43, [4, 11], [], 0), (0, [11], [], 48), (44, [4, 10], [], 0), (0, [10], [], 122), (43, [4, 9], [], 0), (0, [9], [], 97), (41, [4, 8], [], 0), (0, [8], [], 32), (41, [4, 7], [], 0), (0, [7], [], 13), (41, [4, 6], [], 0), (0, [6], [], 10), (41, [4, 5], [], 0), (0, [5], [], 9), (1199, [4, 1, 2], [0, 1], 0), (90, [4], [], -2147483648), (91, [4], [], 2147483647), (6000, [0, 1, 2, 3], [0], 0), (0, [0], [], 31), (90, [2], [], -2147483648), (91, [2], [], 2147483647), (90, [3], [], -2147483648), (91, [3], [], 2147483647)], (3000, [25], [4], 157)),
  ([(0, [22], [], 0), (41, [20, 21], [], 0), (0, [21], [], 1), (0, [20], [], 1), (30, [19], [], 0), (0, [19], [], 1), (40, [17, 18], [], 0), (0, [18], [], 61), (1199, [17, 1, 16], [1, 2], 0), (90, [17], [], -2147483648), (91, [17], [], 2147483647), (1, [16, 2, 15], [], 0), (0, [15], [], 1), (42, [14, 3], [], 0), (1, [14, 2, 13], [], 0), (0, [13], [], 1), (44, [4, 12], [], 0), (0, [12], [], 57), (43, [4, 11], [], 0), (0, [11], [], 48), (44, [4, 10], [], 0), (0, [10], [], 122), (43, [4, 9], [], 0), (0, [9], [], 97), (41, [4, 8], [], 0), (0, [8], [], 32), (41, [4, 7], [], 0), (0, [7], [], 13), (41, [4, 6], [], 0), (0, [6], [], 10), (41, [4, 5], [], 0), (0, [5], [], 9), (1199, [4, 1, 2], [0, 1], 0), (90, [4], [], -2147483648), (91, [4], [], 2147483647), (6000, [0, 1, 2, 3], [0], 0), (0, [0], [], 31), (90, [2], [], -2147483648), (91, [2], [], 2147483647), (90, [3], [], -2147483648), (91, [3], [], 2147483647)], (2126, [0, 20, 2, 22], [2], 0)),
  ([(1, [24, 2, 23], [], 0), (0, [23], [], 2), (1126, [0, 20, 2, 22], [2, 3], 0), (0, [22], [], 0), (41, [20, 21], [], 0), (0, [21], [], 1), (0, [20], [], 1), (30, [19], [], 0), (0, [19], [], 1), (40, [17, 18], [], 0), (0, [18], [], 61), (1199, [17, 1, 16], [1, 2], 0), (90, [17], [], -2147483648), (91, [17], [], 2147483647), (1, [16, 2, 15], [], 0), (0, [15], [], 1), (42, [14, 3], [], 0), (1, [14, 2, 13], [], 0), (0, [13], [], 1), (44, [4, 12], [], 0), (0, [12], [], 57), (43, [4, 11], [], 0), (0, [11], [], 48), (44, [4, 10], [], 0), (0, [10], [], 122), (43, [4, 9], [], 0), (0, [9], [], 97), (41, [4, 8], [], 0), (0, [8], [], 32), (41, [4, 7], [], 0), (0, [7], [], 13), (41, [4, 6], [], 0), (0, [6], [], 10), (41, [4, 5], [], 0), (0, [5], [], 9), (1199, [4, 1, 2], [0, 1], 0), (90, [4], [], -2147483648), (91, [4], [], 2147483647), (6000, [0, 1, 2, 3], [0], 0), (0, [0], [], 31), (90, [2], [], -2147483648), (91, [2], [], 2147483647), (90, [3], [], -2147483648), (91, [3], [], 2147483647)], (3000, [24], [3], 142)),
  ([(0, [23], [], 0), (1132, [22, 4], [3, 4], 0), (90, [22], [], -2147483648), (91, [22], [], 2147483647), (40, [20, 21], [], 0), (0, [21], [], 1), (1131, [20, 4], [2, 3], 0), (90, [20], [], -2147483648), (91, [20], [], 2147483647), (31, [19], [], 0), (0, [19], [], 1), (40, [17, 18], [], 0), (0, [18], [], 61), (1199, [17, 1, 16], [1, 2], 0), (90, [17], [], -2147483648), (91, [17], [], 2147483647), (1, [16, 2, 15], [], 0), (0, [15], [], 1), (42, [14, 3], [], 0), (1, [14, 2, 13], [], 0), (0, [13], [], 1), (44, [4, 12], [], 0), (0, [12], [], 57), (43, [4, 11], [], 0), (0, [11], [], 48), (44, [4, 10], [], 0), (0, [10], [], 122), (43, [4, 9], [], 0), (0, [9], [], 97), (41, [4, 8], [], 0), (0, [8], [], 32), (41, [4, 7], [], 0), (0, [7], [], 13), (41, [4, 6], [], 0), (0, [6], [], 10), (41, [4, 5], [], 0), (0, [5], [], 9), (1199, [4, 1, 2], [0, 1], 0), (90, [4], [], -2147483648), (91, [4], [], 2147483647), (6000, [0, 1, 2, 3], [0], 0), (0, [0], [], 31), (90, [2], [], -2147483648), (91, [2], [], 2147483647), (90, [3], [], -2147483648), (91, [3], [], 2147483647)], (2126, [0, 22, 2, 23], [4], 0)),
  ([(1, [25, 2, 24], [], 0), (0, [24], [], 1), (1126, [0, 22, 2, 23], [4, 5], 0), (0, [23], [], 0), (1132, [22, 4], [3, 4], 0), (90, [22], [], -2147483648), (91, [22], [], 2147483647), (40, [20, 21], [], 0), (0, [21], [], 1), (1131, [20, 4], [2, 3], 0), (90, [20], [], -2147483648), (91, [20], [], 2147483647), (31, [19], [], 0), (0, [19], [], 1), (40, [17, 18], [], 0), (0, [18], [], 61), (1199, [17, 1, 16], [1, 2], 0), (90, [17], [], -2147483648), (91, [17], [], 2147483647), (1, [16, 2, 15], [], 0), (0, [15], [], 1), (42, [14, 3], [], 0), (1, [14, 2, 13], [], 0), (0, [13], [], 1), (44, [4, 12], [], 0), (0, [12], [], 57), (43, [4, 11], [], 0), (0, [11], [], 48), (44, [4, 10], [], 0), (0, [10], [], 122), (43, [4, 9], [], 0), (0, [9], [], 97), (41, [4, 8], [], 0), (0, [8], [], 32), (41, [4, 7], [], 0), (0, [7], [], 13), (41, [4, 6], [], 0), (0, [6], [], 10), (41, [4, 5], [], 0), (0, [5], [], 9), (1199, [4, 1, 2], [0, 1], 0), (90, [4], [], -2147483648), (91, [4], [], 2147483647), (6000, [0, 1, 2, 3], [0], 0), (0, [0], [], 31), (90, [2], [], -2147483648), (91, [2], [], 2147483647), (90, [3], [], -2147483648), (91, [3], [], 2147483647)], (3000, [25], [5], 157)),
  ([(0, [22], [], 0), (41, [20, 21], [], 0), (0, [21], [], 1), (1131, [20, 4], [2, 3], 0), (90, [20], [], -2147483648), (91, [20], [], 2147483647), (31, [19], [], 0), (0, [19], [], 1), (40, [17, 18], [], 0), (0, [18], [], 61), (1199, [17, 1, 16], [1, 2], 0), (90, [17], [], -2147483648), (91, [17], [], 2147483647), (1, [16, 2, 15], [], 0), (0, [15], [], 1), (42, [14, 3], [], 0), (1, [14, 2, 13], [], 0), (0, [13], [], 1), (44, [4, 12], [], 0), (0, [12], [], 57), (43, [4, 11], [], 0), (0, [11], [], 48), (44, [4, 10], [], 0), (0, [10], [], 122), (43, [4, 9], [], 0), (0, [9], [], 97), (41, [4, 8], [], 0), (0, [8], [], 32), (41, [4, 7], [], 0), (0, [7], [], 13), (41, [4, 6], [], 0), (0, [6], [], 10), (41, [4, 5], [], 0), (0, [5], [], 9), (1199, [4, 1, 2], [0, 1], 0), (90, [4], [], -2147483648), (91, [4], [], 2147483647), (6000, [0, 1, 2, 3], [0], 0), (0, [0], [], 31), (90, [2], [], -2147483648), (91, [2], [], 2147483647), (90, [3], [], -2147483648), (91, [3], [], 2147483647)], (2126, [0, 20, 2, 22], [3], 0)),
  ([(1, [24, 2, 23], [], 0), (0, [23], [], 2), (1126, [0, 20, 2, 22], [3, 4], 0), (0, [22], [], 0), (41, [20, 21], [], 0), (0, [21], [], 1), (1131, [20, 4], [2, 3], 0), (90, [20], [], -2147483648), (91, [20], [], 2147483647), (31, [19], [], 0), (0, [19], [], 1), (40, [17, 18], [], 0), (0, [18], [], 61), (1199, [17, 1, 16], [1, 2], 0), (90, [17], [], -2147483648), (91, [17], [], 2147483647), (1, [16, 2, 15], [], 0), (0, [15], [], 1), (42, [14, 3], [], 0), (1, [14, 2, 13], [], 0), (0, [13], [], 1), (44, [4, 12], [], 0), (0, [12], [], 57), (43, [4, 11], [], 0), (0, [11], [], 48), (44, [4, 10], [], 0), (0, [10], [], 122), (43, [4, 9], [], 0), (0, [9], [], 97), (41, [4, 8], [], 0), (0, [8], [], 32), (41, [4, 7], [], 0), (0, [7], [], 13), (41, [4, 6], [], 0), (0, [6], [], 10), (41, [4, 5], [], 0), (0, [5], [], 9), (1199, [4, 1, 2], [0, 1], 0), (90, [4], [], -2147483648), (91, [4], [], 2147483647), (6000, [0, 1, 2, 3], [0], 0), (0, [0], [], 31), (90, [2], [], -2147483648), (91, [2], [], 2147483647), (90, [3], [], -2147483648), (91, [3], [], 2147483647)], (3000, [24], [4], 142)),
  ([(45, [4, 12], [], 0), (0, [12], [], 57), (43, [4, 11], [], 0), (0, [11], [], 48), (44, [4, 10], [], 0), (0, [10], [], 122), (43, [4, 9], [], 0), (0, [9], [], 97), (41, [4, 8], [], 0), (0, [8], [], 32), (41, [4, 7], [], 0), (0, [7], [], 13), (41, [4, 6], [], 0), (0, [6], [], 10), (41, [4, 5], [], 0), (0, [5], [], 9), (1199, [4, 1, 2], [0, 1], 0), (90, [4], [], -2147483648), (91, [4], [], 2147483647), (6000, [0, 1, 2, 3], [0], 0), (0, [0], [], 31), (90, [2], [], -2147483648), (91, [2], [], 2147483647), (90, [3], [], -2147483648), (91, [3], [], 2147483647)], (2130, [0, 1, 2, 3], [1], 0)),
  ([(1130, [13, 0, 1, 2, 3], [1, 2], 0), (90, [13], [], -2147483648), (91, [13], [], 2147483647), (45, [4, 12], [], 0), (0, [12], [], 57), (43, [4, 11], [], 0), (0, [11], [], 48), (44, [4, 10], [], 0), (0, [10], [], 122), (43, [4, 9], [], 0), (0, [9], [], 97), (41, [4, 8], [], 0), (0, [8], [], 32), (41, [4, 7], [], 0), (0, [7], [], 13), (41, [4, 6], [], 0), (0, [6], [], 10), (41, [4, 5], [], 0), (0, [5], [], 9), (1199, [4, 1, 2], [0, 1], 0), (90, [4], [], -2147483648), (91, [4], [], 2147483647), (6000, [0, 1, 2, 3], [0], 0), (0, [0], [], 31), (90, [2], [], -2147483648), (91, [2], [], 2147483647), (90, [3], [], -2147483648), (91, [3], [], 2147483647)], (3000, [13], [2], 82)),
  ([(45, [4, 10], [], 0), (0, [10], [], 122), (43, [4, 9], [], 0), (0, [9], [], 97), (41, [4, 8], [], 0), (0, [8], [], 32), (41, [4, 7], [], 0), (0, [7], [], 13), (41, [4, 6], [], 0), (0, [6], [], 10), (41, [4, 5], [], 0), (0, [5], [], 9), (1199, [4, 1, 2], [0, 1], 0), (90, [4], [], -2147483648), (91, [4], [], 2147483647), (6000, [0, 1, 2, 3], [0], 0), (0, [0], [], 31), (90, [2], [], -2147483648), (91, [2], [], 2147483647), (90, [3], [], -2147483648), (91, [3], [], 2147483647)], (2128, [0, 1, 2, 3], [1], 0)),
  ([(1128, [11, 0, 1, 2, 3], [1, 2], 0), (90, [11], [], -2147483648), (91, [11], [], 2147483647), (45, [4, 10], [], 0), (0, [10], [], 122), (43, [4, 9], [], 0), (0, [9], [], 97), (41, [4, 8], [], 0), (0, [8], [], 32), (41, [4, 7], [], 0), (0, [7], [], 13), (41, [4, 6], [], 0), (0, [6], [], 10), (41, [4, 5], [], 0), (0, [5], [], 9), (1199, [4, 1, 2], [0, 1], 0), (90, [4], [], -2147483648), (91, [4], [], 2147483647), (6000, [0, 1, 2, 3], [0], 0), (0, [0], [], 31), (90, [2], [], -2147483648), (91, [2], [], 2147483647), (90, [3], [], -2147483648), (91, [3], [], 2147483647)], (3000, [11], [2], 60)),
  ([(1, [10, 2, 9], [], 0), (0, [9], [], 1), (40, [4, 8], [], 0), (0, [8], [], 32), (41, [4, 7], [], 0), (0, [7], [], 13), (41, [4, 6], [], 0), (0, [6], [], 10), (41, [4, 5], [], 0), (0, [5], [], 9), (1199, [4, 1, 2], [0, 1], 0), (90, [4], [], -2147483648), (91, [4], [], 2147483647), (6000, [0, 1, 2, 3], [0], 0), (0, [0], [], 31), (90, [2], [], -2147483648), (91, [2], [], 2147483647), (90, [3], [], -2147483648), (91, [3], [], 2147483647)], (3000, [10], [1], 38))]
theorem r_127v_s : vCovO false (eR0 e_127v L_127v cs_127v 2000) p_127v_s = true := by decide +kernel
theorem m_127v (d : Nat) : eC e_127v (d + 4) := eC_ok (e := e_127v) (L := L_127v) (cs := cs_127v) (n := 2000) (d := d + 3) (A := A_127v) (μ := mu_127v) (tp := false) (p0 := p_127v_s) rfl ⟨m_126v (d + 1), ⟨m_128v d, ⟨m_130v d, ⟨m_131v (d + 2), ⟨m_132v (d + 2), ⟨m_199vk692 (d + 2), trivial⟩⟩⟩⟩⟩⟩ rfl (.inl rfl) (by decide +kernel) (fun z => nomatch z) r_127v_s (allC c_127v_s_0 (allC c_127v_s_1 (allC c_127v_s_2 (allC c_127v_s_3 (allC c_127v_s_4 (allC c_127v_s_5 (allC c_127v_s_6 (allC c_127v_s_7 (allC c_127v_s_8 (allC c_127v_s_9 (allC c_127v_s_10 (allC c_127v_s_11 (allC c_127v_s_12 (allC c_127v_s_13 (allC c_127v_s_14 (allC c_127v_s_15 (allC c_127v_s_16 (allC c_127v_s_17 (allC c_127v_s_18 (allC c_127v_s_19 (allC c_127v_s_20 (allC c_127v_s_21 (allC c_127v_s_22 (allC c_127v_s_23 (allC c_127v_s_24 (allC c_127v_s_25 (allC c_127v_s_26 (allC c_127v_s_27 (allC c_127v_s_28 (allC c_127v_s_29 (allC c_127v_s_30 (allC c_127v_s_31 (allC c_127v_s_32 (allC c_127v_s_33 (allC c_127v_s_34 (allC c_127v_s_35 (allC c_127v_s_36 (allC c_127v_s_37 (allC c_127v_s_38 (allC c_127v_s_39 (allC c_127v_s_40 (allC c_127v_s_41 (allC c_127v_s_42 (allC c_127v_s_43 (allC c_127v_s_44 (allC c_127v_s_45 (allC c_127v_s_46 (allC c_127v_s_47 (allC c_127v_s_48 (allC c_127v_s_49 (allC c_127v_s_50 (allC c_127v_s_51 (allC c_127v_s_52 (allC c_127v_s_53 (allC c_127v_s_54 (allC c_127v_s_55 (allC c_127v_s_56 (allC c_127v_s_57 (allC c_127v_s_58 (allC c_127v_s_59 (allC c_127v_s_60 (allC c_127v_s_61 (allC c_127v_s_62 (allC c_127v_s_63 (allC c_127v_s_64 (allC c_127v_s_65 (allC c_127v_s_66 (allC c_127v_s_67 (allC c_127v_s_68 (allC c_127v_s_69 (allC c_127v_s_70 (allC c_127v_s_71 (allC c_127v_s_72 (allC c_127v_s_73 (allC c_127v_s_74 (allC c_127v_s_75 (allC c_127v_s_76 (allC c_127v_s_77 (allC c_127v_s_78 (allC c_127v_s_79 (allC c_127v_s_80 (allC c_127v_s_81 (allC c_127v_s_82 (allC c_127v_s_83 (allC c_127v_s_84 (allC c_127v_s_85 (allC c_127v_s_86 (allC c_127v_s_87 (allC c_127v_s_88 (allC c_127v_s_89 (allC c_127v_s_90 (allC c_127v_s_91 (allC c_127v_s_92 (allC c_127v_s_93 (allC c_127v_s_94 (allC c_127v_s_95 (allC c_127v_s_96 (allC c_127v_s_97 (allC c_127v_s_98 (allC c_127v_s_99 (allC c_127v_s_100 (allC c_127v_s_101 (allC c_127v_s_102 (allC c_127v_s_103 (allC c_127v_s_104 (allC c_127v_s_105 allN)))))))))))))))))))))))))))))))))))))))))))))))))))))))))))))))))))))))))))))))))))))))))))))))))))))))))) allN
