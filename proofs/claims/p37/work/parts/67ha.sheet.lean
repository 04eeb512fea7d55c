/-! CONTRACTS of methods told more fully. -/
/-! ROWS OF SAMPLES: contracts of the class, more fully (printed by wip/gen/fam34.py). -/
/- MixStage.sample (III)Z, more fully -/
def nb_170 (r a0 a1 a2 a3 : Int) (h0 h : gH) : Prop := (r = 1 ∧ PUs h0 h (RW h0 a1) a2 a3) ∨ (r = 0 ∧ SRs h0 h)
def n_170 : List Int → gH → gH → Prop := fun xs h0 h => match xs with
  | [r, a0, a1, a2, a3] => nb_170 r a0 a1 a2 a3 h0 h
  | _ => True
noncomputable def e_170vw : vE := eV e_170v n_170
noncomputable def L_170vw : List vE := [e_2v, e_5, e_198v, e_201vk780]
def B_170 : Int → List Int → gH → gH → Prop := fun c xs h0 h => True
theorem q_170vw_0 {n0 n1 n2 n3 n4 n5 n6 : Int} {H0 H1 : gH} (f0 : n0 ≤ 2147483647) (f1 : (-2147483648) ≤ n0) (f2 : n1 ≤ 2147483647) (f3 : (-2147483648) ≤ n1) (f4 : n2 ≤ 2147483647) (f5 : (-2147483648) ≤ n2) (f6 : n3 = 7) (f7 : hWt T0 H0 ∧ True) (f8 : n4 = 23) (f9 : hK H0 (n3).toNat = 11) (f10 : n4 = hV H0 (n3).toNat 7) (f11 : (hLe T0 H0 H1 ∧ hFr s_2v.2.2.2.2 H0 H1 ∧ ((0 : Int) = 0 → H1.length = H0.length) ∧ hWt T0 H1) ∧ postb_2v n5 n4 n2 H0 H1) (f12 : n5 = -1) (f13 : n6 = 0) : nb_170 n6 n3 n2 n1 n0 H0 H1 := by
  unfold nb_170
  exact .inr ⟨by omega, (SRs_fr f11.1.1 f11.1.2.1 (by decide +kernel))⟩
def g_170vw_s_0 : vG := ([(0, [6], [], 0), (50, [5], [], 0), (1002, [5, 4, 1], [0, 1], 0), (20, [4, 0], [0], 7), (23, [0], [0], 11), (0, [4], [], 23), (6000, [0, 1, 2, 3], [0], 0), (0, [0], [], 7), (90, [1], [], -2147483648), (91, [1], [], 2147483647), (90, [2], [], -2147483648), (91, [2], [], 2147483647), (90, [3], [], -2147483648), (91, [3], [], 2147483647)], (3000, [6], [1], 46))
theorem c_170vw_s_0 : vOkm T0 (eN e_170v L_170vw A_170v mu_170v n_170 B_170 none) 4 g_170vw_s_0 := vOk_inI fun ρ η f0 f1 f2 f3 f4 f5 f6 f7 f8 f9 f10 f11 f12 f13 => q_170vw_0 (n0 := ρ 3) (n1 := ρ 2) (n2 := ρ 1) (n3 := ρ 0) (n4 := ρ 4) (n5 := ρ 5) (n6 := ρ 6) (H0 := η 0) (H1 := η 1) f13 f12 f11 f10 f9 f8 f7 f6 f5 f4 f3 f2 f1 f0
theorem q_170vw_1 {n0 n1 n2 n3 n4 n5 n6 n7 n8 : Int} {H0 H1 : gH} (f0 : n0 ≤ 2147483647) (f1 : (-2147483648) ≤ n0) (f2 : n1 ≤ 2147483647) (f3 : (-2147483648) ≤ n1) (f4 : n2 ≤ 2147483647) (f5 : (-2147483648) ≤ n2) (f6 : n3 = 7) (f7 : hWt T0 H0 ∧ True) (f8 : n4 = 23) (f9 : hK H0 (n3).toNat = 11) (f10 : n4 = hV H0 (n3).toNat 7) (f11 : (hLe T0 H0 H1 ∧ hFr s_2v.2.2.2.2 H0 H1 ∧ ((0 : Int) = 0 → H1.length = H0.length) ∧ hWt T0 H1) ∧ postb_2v n5 n4 n2 H0 H1) (f12 : 0 ≤ n5) (f13 : n6 ≤ 2147483647) (f14 : (-2147483648) ≤ n6) (f15 : hK H1 (n5).toNat = 7) (f16 : n6 = hV H1 (n5).toNat 0) (f17 : n7 = 3) (f18 : n7 < n6) (f19 : n8 = 0) : nb_170 n8 n3 n2 n1 n0 H0 H1 := by
  unfold nb_170
  exact .inr ⟨by omega, (SRs_fr f11.1.1 f11.1.2.1 (by decide +kernel))⟩
def g_170vw_s_1 : vG := ([(0, [8], [], 0), (44, [6, 7], [], 0), (0, [7], [], 3), (20, [6, 5], [1], 0), (23, [5], [1], 7), (90, [6], [], -2147483648), (91, [6], [], 2147483647), (51, [5], [], 0), (1002, [5, 4, 1], [0, 1], 0), (20, [4, 0], [0], 7), (23, [0], [0], 11), (0, [4], [], 23), (6000, [0, 1, 2, 3], [0], 0), (0, [0], [], 7), (90, [1], [], -2147483648), (91, [1], [], 2147483647), (90, [2], [], -2147483648), (91, [2], [], 2147483647), (90, [3], [], -2147483648), (91, [3], [], 2147483647)], (3000, [8], [1], 46))
theorem c_170vw_s_1 : vOkm T0 (eN e_170v L_170vw A_170v mu_170v n_170 B_170 none) 4 g_170vw_s_1 := vOk_inI fun ρ η f0 f1 f2 f3 f4 f5 f6 f7 f8 f9 f10 f11 f12 f13 f14 f15 f16 f17 f18 f19 => q_170vw_1 (n0 := ρ 3) (n1 := ρ 2) (n2 := ρ 1) (n3 := ρ 0) (n4 := ρ 4) (n5 := ρ 5) (n6 := ρ 6) (n7 := ρ 7) (n8 := ρ 8) (H0 := η 0) (H1 := η 1) f19 f18 f17 f16 f15 f14 f13 f12 f11 f10 f9 f8 f7 f6 f5 f4 f3 f2 f1 f0
theorem q_170vw_2 {n0 n1 n2 n3 n4 n5 n6 n7 n8 : Int} {H0 H1 : gH} (f0 : n0 ≤ 2147483647) (f1 : (-2147483648) ≤ n0) (f2 : n1 ≤ 2147483647) (f3 : (-2147483648) ≤ n1) (f4 : n2 ≤ 2147483647) (f5 : (-2147483648) ≤ n2) (f6 : n3 = 7) (f7 : hWt T0 H0 ∧ True) (f8 : n4 = 23) (f9 : hK H0 (n3).toNat = 11) (f10 : n4 = hV H0 (n3).toNat 7) (f11 : (hLe T0 H0 H1 ∧ hFr s_2v.2.2.2.2 H0 H1 ∧ ((0 : Int) = 0 → H1.length = H0.length) ∧ hWt T0 H1) ∧ postb_2v n5 n4 n2 H0 H1) (f12 : 0 ≤ n5) (f13 : n6 ≤ 2147483647) (f14 : (-2147483648) ≤ n6) (f15 : hK H1 (n5).toNat = 7) (f16 : n6 = hV H1 (n5).toNat 0) (f17 : n7 = 3) (f18 : n6 ≤ n7) (f19 : n1 < 0) (f20 : n8 = 0) : nb_170 n8 n3 n2 n1 n0 H0 H1 := by
  unfold nb_170
  exact .inr ⟨by omega, (SRs_fr f11.1.1 f11.1.2.1 (by decide +kernel))⟩
def g_170vw_s_2 : vG := ([(0, [8], [], 0), (32, [2], [], 0), (45, [6, 7], [], 0), (0, [7], [], 3), (20, [6, 5], [1], 0), (23, [5], [1], 7), (90, [6], [], -2147483648), (91, [6], [], 2147483647), (51, [5], [], 0), (1002, [5, 4, 1], [0, 1], 0), (20, [4, 0], [0], 7), (23, [0], [0], 11), (0, [4], [], 23), (6000, [0, 1, 2, 3], [0], 0), (0, [0], [], 7), (90, [1], [], -2147483648), (91, [1], [], 2147483647), (90, [2], [], -2147483648), (91, [2], [], 2147483647), (90, [3], [], -2147483648), (91, [3], [], 2147483647)], (3000, [8], [1], 46))
theorem c_170vw_s_2 : vOkm T0 (eN e_170v L_170vw A_170v mu_170v n_170 B_170 none) 4 g_170vw_s_2 := vOk_inI fun ρ η f0 f1 f2 f3 f4 f5 f6 f7 f8 f9 f10 f11 f12 f13 f14 f15 f16 f17 f18 f19 f20 => q_170vw_2 (n0 := ρ 3) (n1 := ρ 2) (n2 := ρ 1) (n3 := ρ 0) (n4 := ρ 4) (n5 := ρ 5) (n6 := ρ 6) (n7 := ρ 7) (n8 := ρ 8) (H0 := η 0) (H1 := η 1) f20 f19 f18 f17 f16 f15 f14 f13 f12 f11 f10 f9 f8 f7 f6 f5 f4 f3 f2 f1 f0
theorem q_170vw_3 {n0 n1 n2 n3 n4 n5 n6 n7 n8 n9 : Int} {H0 H1 : gH} (f0 : n0 ≤ 2147483647) (f1 : (-2147483648) ≤ n0) (f2 : n1 ≤ 2147483647) (f3 : (-2147483648) ≤ n1) (f4 : n2 ≤ 2147483647) (f5 : (-2147483648) ≤ n2) (f6 : n3 = 7) (f7 : hWt T0 H0 ∧ True) (f8 : n4 = 23) (f9 : hK H0 (n3).toNat = 11) (f10 : n4 = hV H0 (n3).toNat 7) (f11 : (hLe T0 H0 H1 ∧ hFr s_2v.2.2.2.2 H0 H1 ∧ ((0 : Int) = 0 → H1.length = H0.length) ∧ hWt T0 H1) ∧ postb_2v n5 n4 n2 H0 H1) (f12 : 0 ≤ n5) (f13 : n6 ≤ 2147483647) (f14 : (-2147483648) ≤ n6) (f15 : hK H1 (n5).toNat = 7) (f16 : n6 = hV H1 (n5).toNat 0) (f17 : n7 = 3) (f18 : n6 ≤ n7) (f19 : 0 ≤ n1) (f20 : n8 ≤ 2147483647) (f21 : (-2147483648) ≤ n8) (f22 : hK H1 (n5).toNat = 7) (f23 : n8 = hV H1 (n5).toNat 6) (f24 : n8 ≤ n1) (f25 : n9 = 0) : nb_170 n9 n3 n2 n1 n0 H0 H1 := by
  unfold nb_170
  exact .inr ⟨by omega, (SRs_fr f11.1.1 f11.1.2.1 (by decide +kernel))⟩
def g_170vw_s_3 : vG := ([(0, [9], [], 0), (43, [2, 8], [], 0), (20, [8, 5], [1], 6), (23, [5], [1], 7), (90, [8], [], -2147483648), (91, [8], [], 2147483647), (33, [2], [], 0), (45, [6, 7], [], 0), (0, [7], [], 3), (20, [6, 5], [1], 0), (23, [5], [1], 7), (90, [6], [], -2147483648), (91, [6], [], 2147483647), (51, [5], [], 0), (1002, [5, 4, 1], [0, 1], 0), (20, [4, 0], [0], 7), (23, [0], [0], 11), (0, [4], [], 23), (6000, [0, 1, 2, 3], [0], 0), (0, [0], [], 7), (90, [1], [], -2147483648), (91, [1], [], 2147483647), (90, [2], [], -2147483648), (91, [2], [], 2147483647), (90, [3], [], -2147483648), (91, [3], [], 2147483647)], (3000, [9], [1], 46))
theorem c_170vw_s_3 : vOkm T0 (eN e_170v L_170vw A_170v mu_170v n_170 B_170 none) 4 g_170vw_s_3 := vOk_inI fun ρ η f0 f1 f2 f3 f4 f5 f6 f7 f8 f9 f10 f11 f12 f13 f14 f15 f16 f17 f18 f19 f20 f21 f22 f23 f24 f25 => q_170vw_3 (n0 := ρ 3) (n1 := ρ 2) (n2 := ρ 1) (n3 := ρ 0) (n4 := ρ 4) (n5 := ρ 5) (n6 := ρ 6) (n7 := ρ 7) (n8 := ρ 8) (n9 := ρ 9) (H0 := η 0) (H1 := η 1) f25 f24 f23 f22 f21 f20 f19 f18 f17 f16 f15 f14 f13 f12 f11 f10 f9 f8 f7 f6 f5 f4 f3 f2 f1 f0
theorem q_170vw_4 {n0 n1 n2 n3 n4 n5 n6 n7 n8 n9 n10 n11 n12 n13 n14 n15 : Int} {H0 H1 H2 H3 H4 H5 : gH} (f0 : n0 ≤ 2147483647) (f1 : (-2147483648) ≤ n0) (f2 : n1 ≤ 2147483647) (f3 : (-2147483648) ≤ n1) (f4 : n2 ≤ 2147483647) (f5 : (-2147483648) ≤ n2) (f6 : n3 = 7) (f7 : hWt T0 H0 ∧ True) (f8 : n4 = 23) (f9 : hK H0 (n3).toNat = 11) (f10 : n4 = hV H0 (n3).toNat 7) (f11 : (hLe T0 H0 H1 ∧ hFr s_2v.2.2.2.2 H0 H1 ∧ ((0 : Int) = 0 → H1.length = H0.length) ∧ hWt T0 H1) ∧ postb_2v n5 n4 n2 H0 H1) (f12 : 0 ≤ n5) (f13 : n6 ≤ 2147483647) (f14 : (-2147483648) ≤ n6) (f15 : hK H1 (n5).toNat = 7) (f16 : n6 = hV H1 (n5).toNat 0) (f17 : n7 = 3) (f18 : n6 ≤ n7) (f19 : 0 ≤ n1) (f20 : n8 ≤ 2147483647) (f21 : (-2147483648) ≤ n8) (f22 : hK H1 (n5).toNat = 7) (f23 : n8 = hV H1 (n5).toNat 6) (f24 : n1 < n8) (f25 : n9 = n0) (f26 : n10 ≤ 1) (f27 : 0 ≤ n10) (f28 : (hLe T0 H1 H2 ∧ hFr s_198v.2.2.2.2 H1 H2 ∧ ((0 : Int) = 0 → H2.length = H1.length) ∧ hWt T0 H2) ∧ postb_198v n10 n9 H1 H2) (f29 : n10 ≠ 0) (f30 : 0 ≤ n11) (f31 : hK H2 (n5).toNat = 7) (f32 : n11 = hV H2 (n5).toNat 4) (f33 : (hLe T0 H2 H3 ∧ hFr s_201vk780.2.2.2.2 H2 H3 ∧ ((0 : Int) = 0 → H3.length = H2.length) ∧ hWt T0 H3) ∧ postb_201vk780 n11 n1 n0 H2 H3) (f34 : n12 = 23) (f35 : hK H3 (n3).toNat = 11) (f36 : n12 = hV H3 (n3).toNat 7) (f37 : n13 ≤ 2147483647) (f38 : (-2147483648) ≤ n13) (f39 : (hLe T0 H3 H4 ∧ hFr s_5.2.2.2.2 H3 H4 ∧ ((0 : Int) = 0 → H4.length = H3.length) ∧ hWt T0 H4) ∧ True) (f40 : hK H4 (n5).toNat = 7) (f41 : n14 = 8) (f42 : hUpd H5 H4 n5 n14 n13) (f43 : n15 = 1) : nb_170 n15 n3 n2 n1 n0 H0 H5 := by
  unfold nb_170
  have gp := f11.2
  unfold postb_2v at gp
  have hg : 0 ≤ n2 ∧ n2 < hV H0 23 1 ∧ n5 = hV H0 24 (n2).toNat := by omega
  have k0 : hK H0 (n5).toNat = 7 := kBack f11.1.1 (f11.1.2.2.1 rfl) f15 (by decide)
  have zk0 : hK H1 (n5).toNat = 7 := kLe f11.1.1 k0 rfl
  have z0_4 : hV H1 (n5).toNat 4 = hV H0 (n5).toNat 4 := f11.1.2.1.2.2 _ 7 k0 rfl 4 (by decide +kernel)
  have zk1 : hK H2 (n5).toNat = 7 := kLe f28.1.1 zk0 rfl
  have z1_4 : hV H2 (n5).toNat 4 = hV H0 (n5).toNat 4 := (f28.1.2.1.2.2 _ 7 zk0 rfl 4 (by decide +kernel)).trans z0_4
  have e4 : n11 = RW H0 n2 := by
    unfold RW
    rw [← hg.2.2]
    exact f32.trans z1_4
  have x2 : PUs H2 H3 n11 n1 n0 := PUs_put f33.1.1 (by
    have p := f33.2
    unfold postb_201vk780 at p
    exact p)
  rw [e4] at x2
  exact .inl ⟨by omega, PUs_post (PUs_pre (SRs_tr (SRs_fr f11.1.1 f11.1.2.1 (by decide +kernel)) (SRs_fr f28.1.1 f28.1.2.1 (by decide +kernel))) x2) (SRs_tr (SRs_fr f39.1.1 f39.1.2.1 (by decide +kernel)) (SRs_up f42 f40 (by decide)))⟩
def g_170vw_s_4 : vG := ([(0, [15], [], 1), (80, [5, 14, 13], [5, 4], 0), (0, [14], [], 8), (23, [5], [4], 7), (1005, [13, 12], [3, 4], 0), (90, [13], [], -2147483648), (91, [13], [], 2147483647), (20, [12, 0], [3], 7), (23, [0], [3], 11), (0, [12], [], 23), (1201, [11, 2, 3], [2, 3], 0), (20, [11, 5], [2], 4), (23, [5], [2], 7), (51, [11], [], 0), (31, [10], [], 0), (1198, [10, 9], [1, 2], 0), (90, [10], [], 0), (91, [10], [], 1), (17, [9, 3], [], 0), (42, [2, 8], [], 0), (20, [8, 5], [1], 6), (23, [5], [1], 7), (90, [8], [], -2147483648), (91, [8], [], 2147483647), (33, [2], [], 0), (45, [6, 7], [], 0), (0, [7], [], 3), (20, [6, 5], [1], 0), (23, [5], [1], 7), (90, [6], [], -2147483648), (91, [6], [], 2147483647), (51, [5], [], 0), (1002, [5, 4, 1], [0, 1], 0), (20, [4, 0], [0], 7), (23, [0], [0], 11), (0, [4], [], 23), (6000, [0, 1, 2, 3], [0], 0), (0, [0], [], 7), (90, [1], [], -2147483648), (91, [1], [], 2147483647), (90, [2], [], -2147483648), (91, [2], [], 2147483647), (90, [3], [], -2147483648), (91, [3], [], 2147483647)], (3000, [15], [5], 70))
theorem c_170vw_s_4 : vOkm T0 (eN e_170v L_170vw A_170v mu_170v n_170 B_170 none) 4 g_170vw_s_4 := vOk_inI fun ρ η f0 f1 f2 f3 f4 f5 f6 f7 f8 f9 f10 f11 f12 f13 f14 f15 f16 f17 f18 f19 f20 f21 f22 f23 f24 f25 f26 f27 f28 f29 f30 f31 f32 f33 f34 f35 f36 f37 f38 f39 f40 f41 f42 f43 => q_170vw_4 (n0 := ρ 3) (n1 := ρ 2) (n2 := ρ 1) (n3 := ρ 0) (n4 := ρ 4) (n5 := ρ 5) (n6 := ρ 6) (n7 := ρ 7) (n8 := ρ 8) (n9 := ρ 9) (n10 := ρ 10) (n11 := ρ 11) (n12 := ρ 12) (n13 := ρ 13) (n14 := ρ 14) (n15 := ρ 15) (H0 := η 0) (H1 := η 1) (H2 := η 2) (H3 := η 3) (H4 := η 4) (H5 := η 5) f43 f42 f41 f40 f39 f38 f37 f36 f35 f34 f33 f32 f31 f30 f29 f28 f27 f26 f25 f24 f23 f22 f21 f20 f19 f18 f17 f16 f15 f14 f13 f12 f11 f10 f9 f8 f7 f6 f5 f4 f3 f2 f1 f0
theorem q_170vw_5 {n0 n1 n2 n3 n4 n5 n6 n7 n8 n9 n10 n11 : Int} {H0 H1 H2 : gH} (f0 : n0 ≤ 2147483647) (f1 : (-2147483648) ≤ n0) (f2 : n1 ≤ 2147483647) (f3 : (-2147483648) ≤ n1) (f4 : n2 ≤ 2147483647) (f5 : (-2147483648) ≤ n2) (f6 : n3 = 7) (f7 : hWt T0 H0 ∧ True) (f8 : n4 = 23) (f9 : hK H0 (n3).toNat = 11) (f10 : n4 = hV H0 (n3).toNat 7) (f11 : (hLe T0 H0 H1 ∧ hFr s_2v.2.2.2.2 H0 H1 ∧ ((0 : Int) = 0 → H1.length = H0.length) ∧ hWt T0 H1) ∧ postb_2v n5 n4 n2 H0 H1) (f12 : 0 ≤ n5) (f13 : n6 ≤ 2147483647) (f14 : (-2147483648) ≤ n6) (f15 : hK H1 (n5).toNat = 7) (f16 : n6 = hV H1 (n5).toNat 0) (f17 : n7 = 3) (f18 : n6 ≤ n7) (f19 : 0 ≤ n1) (f20 : n8 ≤ 2147483647) (f21 : (-2147483648) ≤ n8) (f22 : hK H1 (n5).toNat = 7) (f23 : n8 = hV H1 (n5).toNat 6) (f24 : n1 < n8) (f25 : n9 = n0) (f26 : n10 ≤ 1) (f27 : 0 ≤ n10) (f28 : (hLe T0 H1 H2 ∧ hFr s_198v.2.2.2.2 H1 H2 ∧ ((0 : Int) = 0 → H2.length = H1.length) ∧ hWt T0 H2) ∧ postb_198v n10 n9 H1 H2) (f29 : n10 = 0) (f30 : n11 = 0) : nb_170 n11 n3 n2 n1 n0 H0 H2 := by
  unfold nb_170
  exact .inr ⟨by omega, (SRs_tr (SRs_fr f11.1.1 f11.1.2.1 (by decide +kernel)) (SRs_fr f28.1.1 f28.1.2.1 (by decide +kernel)))⟩
def g_170vw_s_5 : vG := ([(0, [11], [], 0), (30, [10], [], 0), (1198, [10, 9], [1, 2], 0), (90, [10], [], 0), (91, [10], [], 1), (17, [9, 3], [], 0), (42, [2, 8], [], 0), (20, [8, 5], [1], 6), (23, [5], [1], 7), (90, [8], [], -2147483648), (91, [8], [], 2147483647), (33, [2], [], 0), (45, [6, 7], [], 0), (0, [7], [], 3), (20, [6, 5], [1], 0), (23, [5], [1], 7), (90, [6], [], -2147483648), (91, [6], [], 2147483647), (51, [5], [], 0), (1002, [5, 4, 1], [0, 1], 0), (20, [4, 0], [0], 7), (23, [0], [0], 11), (0, [4], [], 23), (6000, [0, 1, 2, 3], [0], 0), (0, [0], [], 7), (90, [1], [], -2147483648), (91, [1], [], 2147483647), (90, [2], [], -2147483648), (91, [2], [], 2147483647), (90, [3], [], -2147483648), (91, [3], [], 2147483647)], (3000, [11], [2], 46))
theorem c_170vw_s_5 : vOkm T0 (eN e_170v L_170vw A_170v mu_170v n_170 B_170 none) 4 g_170vw_s_5 := vOk_inI fun ρ η f0 f1 f2 f3 f4 f5 f6 f7 f8 f9 f10 f11 f12 f13 f14 f15 f16 f17 f18 f19 f20 f21 f22 f23 f24 f25 f26 f27 f28 f29 f30 => q_170vw_5 (n0 := ρ 3) (n1 := ρ 2) (n2 := ρ 1) (n3 := ρ 0) (n4 := ρ 4) (n5 := ρ 5) (n6 := ρ 6) (n7 := ρ 7) (n8 := ρ 8) (n9 := ρ 9) (n10 := ρ 10) (n11 := ρ 11) (H0 := η 0) (H1 := η 1) (H2 := η 2) f30 f29 f28 f27 f26 f25 f24 f23 f22 f21 f20 f19 f18 f17 f16 f15 f14 f13 f12 f11 f10 f9 f8 f7 f6 f5 f4 f3 f2 f1 f0
def p_170vw_s : List vG := [g_170vw_s_0,
  g_170vw_s_1,
  g_170vw_s_2,
  g_170vw_s_3,
  g_170vw_s_4,
  g_170vw_s_5]
theorem r_170vw_s : vCovBO (eR0 e_170v L_170v cs_170v 2000) p_170vw_s = true := by decide +kernel
theorem m_170vw (d : Nat) : eC e_170vw (d + 2) := eC_ref (e := e_170v) (L := L_170v) (L' := L_170vw) (cs := cs_170v) (n := 2000) (d := d + 1) (A := A_170v) (μ := mu_170v) (tp := false) (p0 := p_170v_s) (p1 := p_170vw_s) (N := n_170) (B := B_170) rfl ⟨m_2v d, ⟨m_5 d, ⟨m_198v d, ⟨m_201vk780 d, trivial⟩⟩⟩⟩ rfl (.inr pre0_ok) (by decide +kernel) (fun z => nomatch z) r_170v_s (allC c_170v_s_0 (allC c_170v_s_1 (allC c_170v_s_2 (allC c_170v_s_3 (allC c_170v_s_4 (allC c_170v_s_5 (allC c_170v_s_6 allN))))))) allN (sub0 (sub0 (sub0 (sub0 trivial)))) r_170vw_s (allC c_170vw_s_0 (allC c_170vw_s_1 (allC c_170vw_s_2 (allC c_170vw_s_3 (allC c_170vw_s_4 (allC c_170vw_s_5 allN)))))) allN
/- MixStage.wave (IIIII)Z, more fully -/
def nb_169 (r a0 a1 a2 a3 a4 a5 : Int) (h0 h : gH) : Prop := (WVc h0 a1 a2 a3 a4 a5 ∧ ∃ t : Int, WRsz h0 h (RW h0 a1) a2 t a4 a5 ∧ (t = a3 ∨ (240 ≤ t ∧ t ≤ a3))) ∨ (¬ WVc h0 a1 a2 a3 a4 a5 ∧ SRs h0 h)
def n_169 : List Int → gH → gH → Prop := fun xs h0 h => match xs with
  | [r, a0, a1, a2, a3, a4, a5] => nb_169 r a0 a1 a2 a3 a4 a5 h0 h
  | _ => True
noncomputable def e_169vw : vE := eV e_169v n_169
noncomputable def L_169vw : List vE := [e_2v, e_5, e_118v, e_201vk780]
def Bb_169_34 (a0 a1 a2 a3 a4 a5 x0 x1 x2 x3 x4 x5 x6 x7 : Int) (h0 h : gH) : Prop := 0 ≤ a1 ∧ a1 < hV h0 23 1 ∧ x6 = hV h0 24 (a1).toNat ∧ 0 ≤ x6 ∧ hK h0 (x6).toNat = 7 ∧ x1 = a1 ∧ x2 = a2 ∧ x3 = a3 ∧ x4 = a4 ∧ x5 = a5 ∧ CWc (hV h0 (x6).toNat 0) (hV h0 (x6).toNat 6) a2 a3 a4 a5 ∧ a2 ≤ x7 ∧ (x7 ≤ a3 ∨ x7 = a2) ∧ WRsz h0 h (hV h0 (x6).toNat 4) a2 x7 a4 a5
def B_169 : Int → List Int → gH → gH → Prop := fun c xs h0 h => match c.toNat with
  | 34 => (match xs with
    | [a0, a1, a2, a3, a4, a5, x0, x1, x2, x3, x4, x5, x6, x7] => Bb_169_34 a0 a1 a2 a3 a4 a5 x0 x1 x2 x3 x4 x5 x6 x7 h0 h
    | _ => False)
  | _ => True
theorem q_169vw_0 {n0 n1 n2 n3 n4 n5 n6 n7 n8 : Int} {H0 H1 : gH} (f0 : n0 ≤ 2147483647) (f1 : (-2147483648) ≤ n0) (f2 : n1 ≤ 2147483647) (f3 : (-2147483648) ≤ n1) (f4 : n2 ≤ 2147483647) (f5 : (-2147483648) ≤ n2) (f6 : n3 ≤ 2147483647) (f7 : (-2147483648) ≤ n3) (f8 : n4 ≤ 2147483647) (f9 : (-2147483648) ≤ n4) (f10 : n5 = 7) (f11 : hWt T0 H0 ∧ True) (f12 : n6 = 23) (f13 : hK H0 (n5).toNat = 11) (f14 : n6 = hV H0 (n5).toNat 7) (f15 : (hLe T0 H0 H1 ∧ hFr s_2v.2.2.2.2 H0 H1 ∧ ((0 : Int) = 0 → H1.length = H0.length) ∧ hWt T0 H1) ∧ postb_2v n7 n6 n4 H0 H1) (f16 : n7 = -1) (f17 : n8 = 0) : nb_169 n8 n5 n4 n3 n2 n1 n0 H0 H1 := by
  unfold nb_169
  have gp := f15.2
  unfold postb_2v at gp
  exact .inr ⟨fun w => by
    unfold WVc at w
    omega, (SRs_fr f15.1.1 f15.1.2.1 (by decide +kernel))⟩
def g_169vw_s_0 : vG := ([(0, [8], [], 0), (50, [7], [], 0), (1002, [7, 6, 1], [0, 1], 0), (20, [6, 0], [0], 7), (23, [0], [0], 11), (0, [6], [], 23), (6000, [0, 1, 2, 3, 4, 5], [0], 0), (0, [0], [], 7), (90, [1], [], -2147483648), (91, [1], [], 2147483647), (90, [2], [], -2147483648), (91, [2], [], 2147483647), (90, [3], [], -2147483648), (91, [3], [], 2147483647), (90, [4], [], -2147483648), (91, [4], [], 2147483647), (90, [5], [], -2147483648), (91, [5], [], 2147483647)], (3000, [8], [1], 30))
theorem c_169vw_s_0 : vOkm T0 (eN e_169v L_169vw A_169v mu_169v n_169 B_169 none) 6 g_169vw_s_0 := vOk_inI fun ρ η f0 f1 f2 f3 f4 f5 f6 f7 f8 f9 f10 f11 f12 f13 f14 f15 f16 f17 => q_169vw_0 (n0 := ρ 5) (n1 := ρ 4) (n2 := ρ 3) (n3 := ρ 2) (n4 := ρ 1) (n5 := ρ 0) (n6 := ρ 6) (n7 := ρ 7) (n8 := ρ 8) (H0 := η 0) (H1 := η 1) f17 f16 f15 f14 f13 f12 f11 f10 f9 f8 f7 f6 f5 f4 f3 f2 f1 f0
theorem q_169vw_1 {n0 n1 n2 n3 n4 n5 n6 n7 n8 : Int} {H0 H1 H2 : gH} (f0 : n0 ≤ 2147483647) (f1 : (-2147483648) ≤ n0) (f2 : n1 ≤ 2147483647) (f3 : (-2147483648) ≤ n1) (f4 : n2 ≤ 2147483647) (f5 : (-2147483648) ≤ n2) (f6 : n3 ≤ 2147483647) (f7 : (-2147483648) ≤ n3) (f8 : n4 ≤ 2147483647) (f9 : (-2147483648) ≤ n4) (f10 : n5 = 7) (f11 : hWt T0 H0 ∧ True) (f12 : n6 = 23) (f13 : hK H0 (n5).toNat = 11) (f14 : n6 = hV H0 (n5).toNat 7) (f15 : (hLe T0 H0 H1 ∧ hFr s_2v.2.2.2.2 H0 H1 ∧ ((0 : Int) = 0 → H1.length = H0.length) ∧ hWt T0 H1) ∧ postb_2v n7 n6 n4 H0 H1) (f16 : 0 ≤ n7) (f17 : n8 ≤ 1) (f18 : 0 ≤ n8) (f19 : (hLe T0 H1 H2 ∧ hFr s_118v.2.2.2.2 H1 H2 ∧ ((0 : Int) = 0 → H2.length = H1.length) ∧ hWt T0 H2) ∧ postb_118v n8 n7 n3 n2 n1 n0 H1 H2) (f20 : n8 ≠ 0) : Bb_169_34 n5 n4 n3 n2 n1 n0 n5 n4 n3 n2 n1 n0 n7 n3 H0 H2 := by
  unfold Bb_169_34
  have gp := f15.2
  unfold postb_2v at gp
  have hg : 0 ≤ n4 ∧ n4 < hV H0 23 1 ∧ n7 = hV H0 24 (n4).toNat := by omega
  have cw := f19.2
  unfold postb_118v at cw
  have k0 : hK H0 (n7).toNat = 7 := kBack f15.1.1 (f15.1.2.2.1 rfl) cw.1 (by decide)
  have cw := cw.2
  have s0 : hV H1 (n7).toNat 0 = hV H0 (n7).toNat 0 := f15.1.2.1.2.2 _ 7 k0 rfl 0 (by decide +kernel)
  have s6 : hV H1 (n7).toNat 6 = hV H0 (n7).toNat 6 := f15.1.2.1.2.2 _ 7 k0 rfl 6 (by decide +kernel)
  rw [s0, s6] at cw
  have cy := cw.resolve_right (fun w => by omega)
  exact ⟨hg.1, hg.2.1, hg.2.2, by omega, k0, rfl, rfl, rfl, rfl, rfl, cy.2, by omega, .inr rfl, WRs_0 (Int.le_refl _) (SRs_tr (SRs_fr f15.1.1 f15.1.2.1 (by decide +kernel)) (SRs_fr f19.1.1 f19.1.2.1 (by decide +kernel)))⟩
def g_169vw_s_1 : vG := ([(31, [8], [], 0), (1118, [8, 7, 2, 3, 4, 5], [1, 2], 0), (90, [8], [], 0), (91, [8], [], 1), (51, [7], [], 0), (1002, [7, 6, 1], [0, 1], 0), (20, [6, 0], [0], 7), (23, [0], [0], 11), (0, [6], [], 23), (6000, [0, 1, 2, 3, 4, 5], [0], 0), (0, [0], [], 7), (90, [1], [], -2147483648), (91, [1], [], 2147483647), (90, [2], [], -2147483648), (91, [2], [], 2147483647), (90, [3], [], -2147483648), (91, [3], [], 2147483647), (90, [4], [], -2147483648), (91, [4], [], 2147483647), (90, [5], [], -2147483648), (91, [5], [], 2147483647)], (4000, [0, 1, 2, 3, 4, 5, 7, 2], [2], 34))
theorem c_169vw_s_1 : vOkm T0 (eN e_169v L_169vw A_169v mu_169v n_169 B_169 none) 6 g_169vw_s_1 := vOk_inI fun ρ η f0 f1 f2 f3 f4 f5 f6 f7 f8 f9 f10 f11 f12 f13 f14 f15 f16 f17 f18 f19 f20 => q_169vw_1 (n0 := ρ 5) (n1 := ρ 4) (n2 := ρ 3) (n3 := ρ 2) (n4 := ρ 1) (n5 := ρ 0) (n6 := ρ 6) (n7 := ρ 7) (n8 := ρ 8) (H0 := η 0) (H1 := η 1) (H2 := η 2) f20 f19 f18 f17 f16 f15 f14 f13 f12 f11 f10 f9 f8 f7 f6 f5 f4 f3 f2 f1 f0
theorem q_169vw_2 {n0 n1 n2 n3 n4 n5 n6 n7 n8 n9 : Int} {H0 H1 H2 : gH} (f0 : n0 ≤ 2147483647) (f1 : (-2147483648) ≤ n0) (f2 : n1 ≤ 2147483647) (f3 : (-2147483648) ≤ n1) (f4 : n2 ≤ 2147483647) (f5 : (-2147483648) ≤ n2) (f6 : n3 ≤ 2147483647) (f7 : (-2147483648) ≤ n3) (f8 : n4 ≤ 2147483647) (f9 : (-2147483648) ≤ n4) (f10 : n5 = 7) (f11 : hWt T0 H0 ∧ True) (f12 : n6 = 23) (f13 : hK H0 (n5).toNat = 11) (f14 : n6 = hV H0 (n5).toNat 7) (f15 : (hLe T0 H0 H1 ∧ hFr s_2v.2.2.2.2 H0 H1 ∧ ((0 : Int) = 0 → H1.length = H0.length) ∧ hWt T0 H1) ∧ postb_2v n7 n6 n4 H0 H1) (f16 : 0 ≤ n7) (f17 : n8 ≤ 1) (f18 : 0 ≤ n8) (f19 : (hLe T0 H1 H2 ∧ hFr s_118v.2.2.2.2 H1 H2 ∧ ((0 : Int) = 0 → H2.length = H1.length) ∧ hWt T0 H2) ∧ postb_118v n8 n7 n3 n2 n1 n0 H1 H2) (f20 : n8 = 0) (f21 : n9 = 0) : nb_169 n9 n5 n4 n3 n2 n1 n0 H0 H2 := by
  unfold nb_169
  have gp := f15.2
  unfold postb_2v at gp
  have hg : 0 ≤ n4 ∧ n4 < hV H0 23 1 ∧ n7 = hV H0 24 (n4).toNat := by omega
  have cw := f19.2
  unfold postb_118v at cw
  have k0 : hK H0 (n7).toNat = 7 := kBack f15.1.1 (f15.1.2.2.1 rfl) cw.1 (by decide)
  have cw := cw.2
  have s0 : hV H1 (n7).toNat 0 = hV H0 (n7).toNat 0 := f15.1.2.1.2.2 _ 7 k0 rfl 0 (by decide +kernel)
  have s6 : hV H1 (n7).toNat 6 = hV H0 (n7).toNat 6 := f15.1.2.1.2.2 _ 7 k0 rfl 6 (by decide +kernel)
  rw [s0, s6] at cw
  have cn := cw.resolve_left (fun w => by omega)
  exact .inr ⟨fun w => cn.2 (by
    unfold WVc KV SV at w
    rw [← hg.2.2] at w
    unfold CWc
    omega), (SRs_tr (SRs_fr f15.1.1 f15.1.2.1 (by decide +kernel)) (SRs_fr f19.1.1 f19.1.2.1 (by decide +kernel)))⟩
def g_169vw_s_2 : vG := ([(0, [9], [], 0), (30, [8], [], 0), (1118, [8, 7, 2, 3, 4, 5], [1, 2], 0), (90, [8], [], 0), (91, [8], [], 1), (51, [7], [], 0), (1002, [7, 6, 1], [0, 1], 0), (20, [6, 0], [0], 7), (23, [0], [0], 11), (0, [6], [], 23), (6000, [0, 1, 2, 3, 4, 5], [0], 0), (0, [0], [], 7), (90, [1], [], -2147483648), (91, [1], [], 2147483647), (90, [2], [], -2147483648), (91, [2], [], 2147483647), (90, [3], [], -2147483648), (91, [3], [], 2147483647), (90, [4], [], -2147483648), (91, [4], [], 2147483647), (90, [5], [], -2147483648), (91, [5], [], 2147483647)], (3000, [9], [2], 30))
theorem c_169vw_s_2 : vOkm T0 (eN e_169v L_169vw A_169v mu_169v n_169 B_169 none) 6 g_169vw_s_2 := vOk_inI fun ρ η f0 f1 f2 f3 f4 f5 f6 f7 f8 f9 f10 f11 f12 f13 f14 f15 f16 f17 f18 f19 f20 f21 => q_169vw_2 (n0 := ρ 5) (n1 := ρ 4) (n2 := ρ 3) (n3 := ρ 2) (n4 := ρ 1) (n5 := ρ 0) (n6 := ρ 6) (n7 := ρ 7) (n8 := ρ 8) (n9 := ρ 9) (H0 := η 0) (H1 := η 1) (H2 := η 2) f21 f20 f19 f18 f17 f16 f15 f14 f13 f12 f11 f10 f9 f8 f7 f6 f5 f4 f3 f2 f1 f0
def p_169vw_s : List vG := [g_169vw_s_0,
  g_169vw_s_1,
  g_169vw_s_2]
theorem r_169vw_s : vCovBO (eR0 e_169v L_169v cs_169v 2000) p_169vw_s = true := by decide +kernel
theorem q_169vw_3 {q0 : Nat} {n0 n1 n2 n3 n4 n5 n6 n7 n8 n9 n10 n11 n12 n13 n14 n15 n16 n17 : Int} {H0 H1 H2 H3 : gH} (f0 : n0 ≤ 2147483647) (f1 : (-2147483648) ≤ n0) (f2 : 0 ≤ n1) (f3 : n2 ≤ 2147483647) (f4 : (-2147483648) ≤ n2) (f5 : n3 ≤ 2147483647) (f6 : (-2147483648) ≤ n3) (f7 : n4 ≤ 2147483647) (f8 : (-2147483648) ≤ n4) (f9 : n5 ≤ 2147483647) (f10 : (-2147483648) ≤ n5) (f11 : n6 ≤ 2147483647) (f12 : (-2147483648) ≤ n6) (f13 : n7 = 7) (f14 : n8 ≤ 2147483647) (f15 : (-2147483648) ≤ n8) (f16 : n9 ≤ 2147483647) (f17 : (-2147483648) ≤ n9) (f18 : n10 ≤ 2147483647) (f19 : (-2147483648) ≤ n10) (f20 : n11 ≤ 2147483647) (f21 : (-2147483648) ≤ n11) (f22 : n12 ≤ 2147483647) (f23 : (-2147483648) ≤ n12) (f24 : n13 = 7) (f25 : (hLe T0 H0 H1 ∧ hFr s_169v.2.2.2.2 H0 H1 ∧ hWt T0 H1) ∧ ((True ∧ Bb_169_34 n13 n12 n11 n10 n9 n8 n7 n6 n5 n4 n3 n2 n1 n0 H0 H1) ∧ True) ∧ some q0 = some (mub_169v_34 n13 n12 n11 n10 n9 n8 n7 n6 n5 n4 n3 n2 n1 n0 H0 H1)) (f26 : n4 ≤ n0) (f27 : n14 = 23) (f28 : hK H1 (n7).toNat = 11) (f29 : n14 = hV H1 (n7).toNat 7) (f30 : n15 ≤ 2147483647) (f31 : (-2147483648) ≤ n15) (f32 : (hLe T0 H1 H2 ∧ hFr s_5.2.2.2.2 H1 H2 ∧ ((0 : Int) = 0 → H2.length = H1.length) ∧ hWt T0 H2) ∧ True) (f33 : hK H2 (n1).toNat = 7) (f34 : n16 = 8) (f35 : hUpd H3 H2 n1 n16 n15) (f36 : n17 = 1) : nb_169 n17 n13 n12 n11 n10 n9 n8 H0 H3 := by
  have gb := f25.2.1.1.2
  unfold Bb_169_34 at gb
  obtain ⟨g0, g1, g2, g3, gk, k1, k2, k3, k4, k5, gc, g4, g5, gw⟩ := gb
  unfold nb_169
  have w2 := WRs_post gw (SRs_tr (SRs_fr f32.1.1 f32.1.2.1 (by decide +kernel)) (SRs_up f35 f33 (by decide)))
  by_cases c : n10 ≤ n11
  · exact .inr ⟨fun w => by
      unfold WVc at w
      omega, WRs_end (by omega) w2⟩
  · refine .inl ⟨?_, n0, ?_, by omega⟩
    · unfold CWc at gc
      have gc2 := gc.2.resolve_left c
      unfold WVc KV SV
      rw [← g2]
      omega
    · unfold RW
      rw [← g2]
      exact w2
def g_169vw_34_0 : vG := ([(0, [17], [], 1), (80, [12, 16, 15], [3, 2], 0), (0, [16], [], 8), (23, [12], [2], 7), (1005, [15, 14], [1, 2], 0), (90, [15], [], -2147483648), (91, [15], [], 2147483647), (20, [14, 6], [1], 7), (23, [6], [1], 11), (0, [14], [], 23), (43, [13, 9], [], 0), (5000, [0, 1, 2, 3, 4, 5, 6, 7, 8, 9, 10, 11, 12, 13], [0, 1], 34), (0, [0], [], 7), (90, [1], [], -2147483648), (91, [1], [], 2147483647), (90, [2], [], -2147483648), (91, [2], [], 2147483647), (90, [3], [], -2147483648), (91, [3], [], 2147483647), (90, [4], [], -2147483648), (91, [4], [], 2147483647), (90, [5], [], -2147483648), (91, [5], [], 2147483647), (0, [6], [], 7), (90, [7], [], -2147483648), (91, [7], [], 2147483647), (90, [8], [], -2147483648), (91, [8], [], 2147483647), (90, [9], [], -2147483648), (91, [9], [], 2147483647), (90, [10], [], -2147483648), (91, [10], [], 2147483647), (90, [11], [], -2147483648), (91, [11], [], 2147483647), (51, [12], [], 0), (90, [13], [], -2147483648), (91, [13], [], 2147483647)], (3000, [17], [3], 87))
theorem c_169vw_34_0 {q0 : Nat} : vOkm T0 (eN e_169v L_169vw A_169v mu_169v n_169 B_169 (some q0)) 6 g_169vw_34_0 := vOk_inI fun ρ η f0 f1 f2 f3 f4 f5 f6 f7 f8 f9 f10 f11 f12 f13 f14 f15 f16 f17 f18 f19 f20 f21 f22 f23 f24 f25 f26 f27 f28 f29 f30 f31 f32 f33 f34 f35 f36 => q_169vw_3 (q0 := q0) (n0 := ρ 13) (n1 := ρ 12) (n2 := ρ 11) (n3 := ρ 10) (n4 := ρ 9) (n5 := ρ 8) (n6 := ρ 7) (n7 := ρ 6) (n8 := ρ 5) (n9 := ρ 4) (n10 := ρ 3) (n11 := ρ 2) (n12 := ρ 1) (n13 := ρ 0) (n14 := ρ 14) (n15 := ρ 15) (n16 := ρ 16) (n17 := ρ 17) (H0 := η 0) (H1 := η 1) (H2 := η 2) (H3 := η 3) f36 f35 f34 f33 f32 f31 f30 f29 f28 f27 f26 f25 f24 f23 f22 f21 f20 f19 f18 f17 f16 f15 f14 f13 f12 f11 f10 f9 f8 f7 f6 f5 f4 f3 f2 f1 f0
theorem q_169vw_4 {q0 : Nat} {n0 n1 n2 n3 n4 n5 n6 n7 n8 n9 n10 n11 n12 n13 n14 n15 n16 n17 n18 : Int} {H0 H1 H2 H3 : gH} (f0 : n0 ≤ 2147483647) (f1 : (-2147483648) ≤ n0) (f2 : 0 ≤ n1) (f3 : n2 ≤ 2147483647) (f4 : (-2147483648) ≤ n2) (f5 : n3 ≤ 2147483647) (f6 : (-2147483648) ≤ n3) (f7 : n4 ≤ 2147483647) (f8 : (-2147483648) ≤ n4) (f9 : n5 ≤ 2147483647) (f10 : (-2147483648) ≤ n5) (f11 : n6 ≤ 2147483647) (f12 : (-2147483648) ≤ n6) (f13 : n7 = 7) (f14 : n8 ≤ 2147483647) (f15 : (-2147483648) ≤ n8) (f16 : n9 ≤ 2147483647) (f17 : (-2147483648) ≤ n9) (f18 : n10 ≤ 2147483647) (f19 : (-2147483648) ≤ n10) (f20 : n11 ≤ 2147483647) (f21 : (-2147483648) ≤ n11) (f22 : n12 ≤ 2147483647) (f23 : (-2147483648) ≤ n12) (f24 : n13 = 7) (f25 : (hLe T0 H0 H1 ∧ hFr s_169v.2.2.2.2 H0 H1 ∧ hWt T0 H1) ∧ ((True ∧ Bb_169_34 n13 n12 n11 n10 n9 n8 n7 n6 n5 n4 n3 n2 n1 n0 H0 H1) ∧ True) ∧ some q0 = some (mub_169v_34 n13 n12 n11 n10 n9 n8 n7 n6 n5 n4 n3 n2 n1 n0 H0 H1)) (f26 : n0 < n4) (f27 : n14 = 240) (f28 : n14 ≤ n0) (f29 : n15 = 23) (f30 : hK H1 (n7).toNat = 11) (f31 : n15 = hV H1 (n7).toNat 7) (f32 : n16 ≤ 2147483647) (f33 : (-2147483648) ≤ n16) (f34 : (hLe T0 H1 H2 ∧ hFr s_5.2.2.2.2 H1 H2 ∧ ((0 : Int) = 0 → H2.length = H1.length) ∧ hWt T0 H2) ∧ True) (f35 : hK H2 (n1).toNat = 7) (f36 : n17 = 8) (f37 : hUpd H3 H2 n1 n17 n16) (f38 : n18 = 1) : nb_169 n18 n13 n12 n11 n10 n9 n8 H0 H3 := by
  have gb := f25.2.1.1.2
  unfold Bb_169_34 at gb
  obtain ⟨g0, g1, g2, g3, gk, k1, k2, k3, k4, k5, gc, g4, g5, gw⟩ := gb
  unfold nb_169
  have w2 := WRs_post gw (SRs_tr (SRs_fr f34.1.1 f34.1.2.1 (by decide +kernel)) (SRs_up f37 f35 (by decide)))
  by_cases c : n10 ≤ n11
  · exact .inr ⟨fun w => by
      unfold WVc at w
      omega, WRs_end (by omega) w2⟩
  · refine .inl ⟨?_, n0, ?_, by omega⟩
    · unfold CWc at gc
      have gc2 := gc.2.resolve_left c
      unfold WVc KV SV
      rw [← g2]
      omega
    · unfold RW
      rw [← g2]
      exact w2
def g_169vw_34_1 : vG := ([(0, [18], [], 1), (80, [12, 17, 16], [3, 2], 0), (0, [17], [], 8), (23, [12], [2], 7), (1005, [16, 15], [1, 2], 0), (90, [16], [], -2147483648), (91, [16], [], 2147483647), (20, [15, 6], [1], 7), (23, [6], [1], 11), (0, [15], [], 23), (43, [13, 14], [], 0), (0, [14], [], 240), (42, [13, 9], [], 0), (5000, [0, 1, 2, 3, 4, 5, 6, 7, 8, 9, 10, 11, 12, 13], [0, 1], 34), (0, [0], [], 7), (90, [1], [], -2147483648), (91, [1], [], 2147483647), (90, [2], [], -2147483648), (91, [2], [], 2147483647), (90, [3], [], -2147483648), (91, [3], [], 2147483647), (90, [4], [], -2147483648), (91, [4], [], 2147483647), (90, [5], [], -2147483648), (91, [5], [], 2147483647), (0, [6], [], 7), (90, [7], [], -2147483648), (91, [7], [], 2147483647), (90, [8], [], -2147483648), (91, [8], [], 2147483647), (90, [9], [], -2147483648), (91, [9], [], 2147483647), (90, [10], [], -2147483648), (91, [10], [], 2147483647), (90, [11], [], -2147483648), (91, [11], [], 2147483647), (51, [12], [], 0), (90, [13], [], -2147483648), (91, [13], [], 2147483647)], (3000, [18], [3], 87))
theorem c_169vw_34_1 {q0 : Nat} : vOkm T0 (eN e_169v L_169vw A_169v mu_169v n_169 B_169 (some q0)) 6 g_169vw_34_1 := vOk_inI fun ρ η f0 f1 f2 f3 f4 f5 f6 f7 f8 f9 f10 f11 f12 f13 f14 f15 f16 f17 f18 f19 f20 f21 f22 f23 f24 f25 f26 f27 f28 f29 f30 f31 f32 f33 f34 f35 f36 f37 f38 => q_169vw_4 (q0 := q0) (n0 := ρ 13) (n1 := ρ 12) (n2 := ρ 11) (n3 := ρ 10) (n4 := ρ 9) (n5 := ρ 8) (n6 := ρ 7) (n7 := ρ 6) (n8 := ρ 5) (n9 := ρ 4) (n10 := ρ 3) (n11 := ρ 2) (n12 := ρ 1) (n13 := ρ 0) (n14 := ρ 14) (n15 := ρ 15) (n16 := ρ 16) (n17 := ρ 17) (n18 := ρ 18) (H0 := η 0) (H1 := η 1) (H2 := η 2) (H3 := η 3) f38 f37 f36 f35 f34 f33 f32 f31 f30 f29 f28 f27 f26 f25 f24 f23 f22 f21 f20 f19 f18 f17 f16 f15 f14 f13 f12 f11 f10 f9 f8 f7 f6 f5 f4 f3 f2 f1 f0
theorem q_169vw_5 {q0 : Nat} {n0 n1 n2 n3 n4 n5 n6 n7 n8 n9 n10 n11 n12 n13 n14 n15 n16 n17 n18 n19 : Int} {H0 H1 H2 : gH} (f0 : n0 ≤ 2147483647) (f1 : (-2147483648) ≤ n0) (f2 : 0 ≤ n1) (f3 : n2 ≤ 2147483647) (f4 : (-2147483648) ≤ n2) (f5 : n3 ≤ 2147483647) (f6 : (-2147483648) ≤ n3) (f7 : n4 ≤ 2147483647) (f8 : (-2147483648) ≤ n4) (f9 : n5 ≤ 2147483647) (f10 : (-2147483648) ≤ n5) (f11 : n6 ≤ 2147483647) (f12 : (-2147483648) ≤ n6) (f13 : n7 = 7) (f14 : n8 ≤ 2147483647) (f15 : (-2147483648) ≤ n8) (f16 : n9 ≤ 2147483647) (f17 : (-2147483648) ≤ n9) (f18 : n10 ≤ 2147483647) (f19 : (-2147483648) ≤ n10) (f20 : n11 ≤ 2147483647) (f21 : (-2147483648) ≤ n11) (f22 : n12 ≤ 2147483647) (f23 : (-2147483648) ≤ n12) (f24 : n13 = 7) (f25 : (hLe T0 H0 H1 ∧ hFr s_169v.2.2.2.2 H0 H1 ∧ hWt T0 H1) ∧ ((True ∧ Bb_169_34 n13 n12 n11 n10 n9 n8 n7 n6 n5 n4 n3 n2 n1 n0 H0 H1) ∧ True) ∧ some q0 = some (mub_169v_34 n13 n12 n11 n10 n9 n8 n7 n6 n5 n4 n3 n2 n1 n0 H0 H1)) (f26 : n0 < n4) (f27 : n14 = 240) (f28 : n0 < n14) (f29 : 0 ≤ n15) (f30 : hK H1 (n1).toNat = 7) (f31 : n15 = hV H1 (n1).toNat 4) (f32 : n16 = w32 (n0 - n5)) (f33 : n17 = w32 (n2 * n16)) (f34 : n18 = w32 (n3 + n17)) (f35 : (hLe T0 H1 H2 ∧ hFr s_201vk780.2.2.2.2 H1 H2 ∧ ((0 : Int) = 0 → H2.length = H1.length) ∧ hWt T0 H2) ∧ postb_201vk780 n15 n0 n18 H1 H2) (f36 : n19 = w32 (n0 + 1)) : Bb_169_34 n13 n12 n11 n10 n9 n8 n7 n6 n5 n4 n3 n2 n1 n19 H0 H2 := by
  have gb := f25.2.1.1.2
  unfold Bb_169_34 at gb
  obtain ⟨g0, g1, g2, g3, gk, k1, k2, k3, k4, k5, gc, g4, g5, gw⟩ := gb
  have e4 : n15 = hV H0 (n1).toNat 4 := f31.trans (f25.1.2.1.2.2 _ 7 gk rfl 4 (by decide +kernel))
  unfold CWc at gc
  have gc2 := gc.2.resolve_left (by omega)
  have wi := wave_in (v := n9) (s := n8) (k := (n0 - n11)) (n := n10 - 1 - n11) (by omega) (by omega) (by omega) (by omega) (by omega) (by omega)
  have ud : n16 = (n0 - n11) := by
    have u := f32
    rw [w32_id (by omega) (by omega)] at u
    omega
  have um : n17 = n8 * (n0 - n11) := by
    have u := f33
    rw [ud, show n2 = n8 from k5] at u
    rw [w32_id (by omega) (by omega)] at u
    exact u
  have us : n18 = n9 + n8 * (n0 - n11) := by
    have u := f34
    rw [um, show n3 = n9 from k4] at u
    rw [w32_id (by omega) (by omega)] at u
    exact u
  have un := f36
  rw [w32_id (by omega) (by omega)] at un
  have x2 : PUs H1 H2 n15 n0 n18 := PUs_put f35.1.1 (by
    have p := f35.2
    unfold postb_201vk780 at p
    exact p)
  rw [e4] at x2
  have w2 := WRs_put g4 (WRs_post gw (SRs_rfl _)) x2 us
  unfold Bb_169_34
  exact ⟨g0, g1, g2, g3, gk, k1, k2, k3, k4, k5, by unfold CWc; exact gc, by omega, by omega, by
    rw [show n19 = n0 + 1 by omega]
    exact w2⟩
def g_169vw_34_2 : vG := ([(10, [19, 13], [], 1), (1201, [15, 13, 18], [1, 2], 0), (1, [18, 10, 17], [], 0), (3, [17, 11, 16], [], 0), (2, [16, 13, 8], [], 0), (20, [15, 12], [1], 4), (23, [12], [1], 7), (51, [15], [], 0), (42, [13, 14], [], 0), (0, [14], [], 240), (42, [13, 9], [], 0), (5000, [0, 1, 2, 3, 4, 5, 6, 7, 8, 9, 10, 11, 12, 13], [0, 1], 34), (0, [0], [], 7), (90, [1], [], -2147483648), (91, [1], [], 2147483647), (90, [2], [], -2147483648), (91, [2], [], 2147483647), (90, [3], [], -2147483648), (91, [3], [], 2147483647), (90, [4], [], -2147483648), (91, [4], [], 2147483647), (90, [5], [], -2147483648), (91, [5], [], 2147483647), (0, [6], [], 7), (90, [7], [], -2147483648), (91, [7], [], 2147483647), (90, [8], [], -2147483648), (91, [8], [], 2147483647), (90, [9], [], -2147483648), (91, [9], [], 2147483647), (90, [10], [], -2147483648), (91, [10], [], 2147483647), (90, [11], [], -2147483648), (91, [11], [], 2147483647), (51, [12], [], 0), (90, [13], [], -2147483648), (91, [13], [], 2147483647)], (4000, [6, 7, 8, 9, 10, 11, 12, 19], [2], 34))
theorem c_169vw_34_2 {q0 : Nat} : vOkm T0 (eN e_169v L_169vw A_169v mu_169v n_169 B_169 (some q0)) 6 g_169vw_34_2 := vOk_inI fun ρ η f0 f1 f2 f3 f4 f5 f6 f7 f8 f9 f10 f11 f12 f13 f14 f15 f16 f17 f18 f19 f20 f21 f22 f23 f24 f25 f26 f27 f28 f29 f30 f31 f32 f33 f34 f35 f36 => q_169vw_5 (q0 := q0) (n0 := ρ 13) (n1 := ρ 12) (n2 := ρ 11) (n3 := ρ 10) (n4 := ρ 9) (n5 := ρ 8) (n6 := ρ 7) (n7 := ρ 6) (n8 := ρ 5) (n9 := ρ 4) (n10 := ρ 3) (n11 := ρ 2) (n12 := ρ 1) (n13 := ρ 0) (n14 := ρ 14) (n15 := ρ 15) (n16 := ρ 16) (n17 := ρ 17) (n18 := ρ 18) (n19 := ρ 19) (H0 := η 0) (H1 := η 1) (H2 := η 2) f36 f35 f34 f33 f32 f31 f30 f29 f28 f27 f26 f25 f24 f23 f22 f21 f20 f19 f18 f17 f16 f15 f14 f13 f12 f11 f10 f9 f8 f7 f6 f5 f4 f3 f2 f1 f0
def p_169vw_34 : List vG := [g_169vw_34_0,
  g_169vw_34_1,
  g_169vw_34_2]
theorem r_169vw_34 : vCovBO (eRc e_169v L_169v cs_169v 2000 (34, [(0, (3, 11, 7, 0)), (1, (0, -2147483648, 2147483647, 0)), (2, (0, -2147483648, 2147483647, 0)), (3, (0, -2147483648, 2147483647, 0)), (4, (0, -2147483648, 2147483647, 0)), (5, (0, -2147483648, 2147483647, 0)), (6, (3, 7, -1, 0)), (7, (0, -2147483648, 2147483647, 0))])) p_169vw_34 = true := by decide +kernel
theorem m_169vw (d : Nat) : eC e_169vw (d + 3) := eC_ref (e := e_169v) (L := L_169v) (L' := L_169vw) (cs := cs_169v) (n := 2000) (d := d + 2) (A := A_169v) (μ := mu_169v) (tp := true) (p0 := p_169v_s) (p1 := p_169vw_s) (N := n_169) (B := B_169) rfl ⟨m_2v (d + 1), ⟨m_5 (d + 1), ⟨m_118v d, ⟨m_201vk780 (d + 1), trivial⟩⟩⟩⟩ rfl (.inr pre0_ok) (by decide +kernel) (fun _ => post0_ok) r_169v_s (allC c_169v_s_0 allN) (allC (.inl ⟨p_169v_34, r_169v_34, fun q0 => (allC c_169v_34_0 allN)⟩) allN) (sub0 (sub0 (sub0 (sub0 trivial)))) r_169vw_s (allC c_169vw_s_0 (allC c_169vw_s_1 (allC c_169vw_s_2 allN))) (allC ⟨p_169vw_34, r_169vw_34, fun q0 => (allC c_169vw_34_0 (allC c_169vw_34_1 (allC c_169vw_34_2 allN)))⟩ allN)
/- Mixer.mixInto ([ILMixStage$Sheet;I)I, more fully -/
def nb_28 (r a0 a1 a2 a3 : Int) (h0 h : gH) : Prop := XRs h0 h a1
def n_28 : List Int → gH → gH → Prop := fun xs h0 h => match xs with
  | [r, a0, a1, a2, a3] => nb_28 r a0 a1 a2 a3 h0 h
  | _ => True
noncomputable def e_28vw : vE := eV e_28v n_28
noncomputable def L_28vw : List vE := [e_35, e_43, e_53, e_58, e_199k748, e_201vk780]
def Bb_28_26 (a0 a1 a2 a3 x0 x1 x2 x3 x4 x5 : Int) (h0 h : gH) : Prop := x1 = a1 ∧ XRs h0 h a1
def B_28 : Int → List Int → gH → gH → Prop := fun c xs h0 h => match c.toNat with
  | 26 => (match xs with
    | [a0, a1, a2, a3, x0, x1, x2, x3, x4, x5] => Bb_28_26 a0 a1 a2 a3 x0 x1 x2 x3 x4 x5 h0 h
    | _ => False)
  | _ => True
theorem q_28vw_0 {n0 n1 n2 n3 n4 n5 n6 n7 n8 n9 : Int} {H0 H1 H2 H3 : gH} (f0 : n0 ≤ 2147483647) (f1 : (-2147483648) ≤ n0) (f2 : 0 ≤ n1) (f3 : n2 = 274) (f4 : hWt T0 H0 ∧ True) (f5 : (hLe T0 H0 H1 ∧ hFr s_35.2.2.2.2 H0 H1 ∧ ((0 : Int) = 0 → H1.length = H0.length) ∧ hWt T0 H1) ∧ True) (f6 : n4 = 0) (f7 : (hLe T0 H1 H2 ∧ hFr s_43.2.2.2.2 H1 H2 ∧ ((0 : Int) = 0 → H2.length = H1.length) ∧ hWt T0 H2) ∧ True) (f8 : n5 = 4) (f9 : n6 = 19) (f10 : hK H2 (n2).toNat = 2) (f11 : n6 = hV H2 (n2).toNat 1) (f12 : n7 ≤ 2147483647) (f13 : (-2147483648) ≤ n7) (f14 : (hLe T0 H2 H3 ∧ hFr s_53.2.2.2.2 H2 H3 ∧ ((0 : Int) = 0 → H3.length = H2.length) ∧ hWt T0 H3) ∧ True) (f15 : n8 = w32 (n5 * n7)) (f16 : n9 = 0) : Bb_28_26 n2 n3 n1 n0 n2 n3 n1 n0 n8 n9 H0 H3 := by
  unfold Bb_28_26
  exact ⟨rfl, XRs_of (SRs_tr (SRs_fr f5.1.1 f5.1.2.1 (by decide +kernel)) (SRs_tr (SRs_fr f7.1.1 f7.1.2.1 (by decide +kernel)) (SRs_fr f14.1.1 f14.1.2.1 (by decide +kernel))))⟩
def g_28vw_s_0 : vG := ([(0, [9], [], 0), (3, [8, 5, 7], [], 0), (1053, [7, 6, 3], [2, 3], 0), (90, [7], [], -2147483648), (91, [7], [], 2147483647), (20, [6, 0], [2], 1), (23, [0], [2], 2), (0, [6], [], 19), (0, [5], [], 4), (1043, [0, 2, 4], [1, 2], 0), (0, [4], [], 0), (1035, [0, 2], [0, 1], 0), (6000, [0, 1, 2, 3], [0], 0), (0, [0], [], 274), (51, [2], [], 0), (90, [3], [], -2147483648), (91, [3], [], 2147483647)], (4000, [0, 1, 2, 3, 8, 9], [3], 26))
theorem c_28vw_s_0 : vOkm T0 (eN e_28v L_28vw A_28v mu_28v n_28 B_28 none) 4 g_28vw_s_0 := vOk_inI fun ρ η f0 f1 f2 f3 f4 f5 f6 f7 f8 f9 f10 f11 f12 f13 f14 f15 f16 => q_28vw_0 (n0 := ρ 3) (n1 := ρ 2) (n2 := ρ 0) (n3 := ρ 1) (n4 := ρ 4) (n5 := ρ 5) (n6 := ρ 6) (n7 := ρ 7) (n8 := ρ 8) (n9 := ρ 9) (H0 := η 0) (H1 := η 1) (H2 := η 2) (H3 := η 3) f16 f15 f14 f13 f12 f11 f10 f9 f8 f7 f6 f5 f4 f3 f2 f1 f0
def p_28vw_s : List vG := [g_28vw_s_0]
theorem r_28vw_s : vCovBO (eR0 e_28v L_28v cs_28v 2000) p_28vw_s = true := by decide +kernel
theorem q_28vw_1 {q0 : Nat} {n0 n1 n2 n3 n4 n5 n6 n7 n8 n9 : Int} {H0 H1 : gH} (f0 : n0 ≤ 2147483647) (f1 : (-2147483648) ≤ n0) (f2 : n1 ≤ 2147483647) (f3 : (-2147483648) ≤ n1) (f4 : n2 ≤ 2147483647) (f5 : (-2147483648) ≤ n2) (f6 : 0 ≤ n3) (f7 : n4 = 274) (f8 : n5 ≤ 2147483647) (f9 : (-2147483648) ≤ n5) (f10 : 0 ≤ n6) (f11 : n7 = 274) (f12 : (hLe T0 H0 H1 ∧ hFr s_28v.2.2.2.2 H0 H1 ∧ hWt T0 H1) ∧ ((True ∧ Bb_28_26 n7 n8 n6 n5 n4 n9 n3 n2 n1 n0 H0 H1) ∧ True) ∧ some q0 = some (mub_28v_26 n7 n8 n6 n5 n4 n9 n3 n2 n1 n0 H0 H1)) (f13 : n1 ≤ n0) : nb_28 n1 n7 n8 n6 n5 H0 H1 := by
  have gb := f12.2.1.1.2
  unfold Bb_28_26 at gb
  unfold nb_28
  exact XRs_tr gb.2 (XRs_of (SRs_rfl _))
def g_28vw_26_0 : vG := ([(43, [9, 8], [], 0), (5000, [0, 1, 2, 3, 4, 5, 6, 7, 8, 9], [0, 1], 26), (0, [0], [], 274), (51, [2], [], 0), (90, [3], [], -2147483648), (91, [3], [], 2147483647), (0, [4], [], 274), (51, [6], [], 0), (90, [7], [], -2147483648), (91, [7], [], 2147483647), (90, [8], [], -2147483648), (91, [8], [], 2147483647), (90, [9], [], -2147483648), (91, [9], [], 2147483647)], (3000, [8], [1], 91))
theorem c_28vw_26_0 {q0 : Nat} : vOkm T0 (eN e_28v L_28vw A_28v mu_28v n_28 B_28 (some q0)) 4 g_28vw_26_0 := vOk_inI fun ρ η f0 f1 f2 f3 f4 f5 f6 f7 f8 f9 f10 f11 f12 f13 => q_28vw_1 (q0 := q0) (n0 := ρ 9) (n1 := ρ 8) (n2 := ρ 7) (n3 := ρ 6) (n4 := ρ 4) (n5 := ρ 3) (n6 := ρ 2) (n7 := ρ 0) (n8 := ρ 1) (n9 := ρ 5) (H0 := η 0) (H1 := η 1) f13 f12 f11 f10 f9 f8 f7 f6 f5 f4 f3 f2 f1 f0
theorem q_28vw_2 {q0 : Nat} {n0 n1 n2 n3 n4 n5 n6 n7 n8 n9 n10 n11 n12 n13 n14 n15 n16 n17 n18 n19 n20 n21 n22 n23 : Int} {H0 H1 H2 H3 H4 : gH} (f0 : n0 ≤ 2147483647) (f1 : (-2147483648) ≤ n0) (f2 : n1 ≤ 2147483647) (f3 : (-2147483648) ≤ n1) (f4 : n2 ≤ 2147483647) (f5 : (-2147483648) ≤ n2) (f6 : 0 ≤ n3) (f7 : n4 = 274) (f8 : n5 ≤ 2147483647) (f9 : (-2147483648) ≤ n5) (f10 : 0 ≤ n6) (f11 : n7 = 274) (f12 : (hLe T0 H0 H1 ∧ hFr s_28v.2.2.2.2 H0 H1 ∧ hWt T0 H1) ∧ ((True ∧ Bb_28_26 n7 n8 n6 n5 n4 n9 n3 n2 n1 n0 H0 H1) ∧ True) ∧ some q0 = some (mub_28v_26 n7 n8 n6 n5 n4 n9 n3 n2 n1 n0 H0 H1)) (f13 : n0 < n1) (f14 : n10 = 19) (f15 : hK H1 (n4).toNat = 2) (f16 : n10 = hV H1 (n4).toNat 1) (f17 : n11 = 4) (f18 : n12 = o32 (fun x y => x / y) n0 n11) (f19 : n13 ≤ 2147483647) (f20 : (-2147483648) ≤ n13) (f21 : hK H1 (n3).toNat = 6) (f22 : n13 = hV H1 (n3).toNat 0) (f23 : n14 ≤ 2147483647) (f24 : (-2147483648) ≤ n14) (f25 : (hLe T0 H1 H2 ∧ hFr s_58.2.2.2.2 H1 H2 ∧ ((0 : Int) = 0 → H2.length = H1.length) ∧ hWt T0 H2) ∧ True) (f26 : n15 = (-1)) (f27 : n14 ≠ n15) (f28 : n16 = 280) (f29 : hK H2 (n4).toNat = 2) (f30 : n16 = hV H2 (n4).toNat 7) (f31 : n17 = 4) (f32 : n18 = w32 (n17 * n14)) (f33 : n19 = 4) (f34 : n20 = o32 (fun x y => x - x / y * y) n0 n19) (f35 : n21 = w32 (n18 + n20)) (f36 : n22 ≤ 2147483647) (f37 : (-2147483648) ≤ n22) (f38 : (hLe T0 H2 H3 ∧ hFr s_199k748.2.2.2.2 H2 H3 ∧ ((0 : Int) = 0 → H3.length = H2.length) ∧ hWt T0 H3) ∧ True) (f39 : (hLe T0 H3 H4 ∧ hFr s_201vk780.2.2.2.2 H3 H4 ∧ ((0 : Int) = 0 → H4.length = H3.length) ∧ hWt T0 H4) ∧ postb_201vk780 n9 n0 n22 H3 H4) (f40 : n23 = w32 (n0 + 1)) : Bb_28_26 n7 n8 n6 n5 n4 n9 n3 n2 n1 n23 H0 H4 := by
  have gb := f12.2.1.1.2
  unfold Bb_28_26 at gb
  have x2 : PUs H3 H4 n9 n0 n22 := PUs_put f39.1.1 (by
    have p := f39.2
    unfold postb_201vk780 at p
    exact p)
  rw [show n9 = n8 from gb.1] at x2
  unfold Bb_28_26
  exact ⟨gb.1, XRs_tr gb.2 (XRs_tr (XRs_of (SRs_tr (SRs_fr f25.1.1 f25.1.2.1 (by decide +kernel)) (SRs_fr f38.1.1 f38.1.2.1 (by decide +kernel)))) (XRs_tr (XRs_put x2) (XRs_of (SRs_rfl _))))⟩
def g_28vw_26_1 : vG := ([(10, [23, 9], [], 1), (1201, [5, 9, 22], [3, 4], 0), (1199, [22, 16, 21], [2, 3], 0), (90, [22], [], -2147483648), (91, [22], [], 2147483647), (1, [21, 18, 20], [], 0), (12, [20, 9, 19], [], 0), (0, [19], [], 4), (3, [18, 17, 14], [], 0), (0, [17], [], 4), (20, [16, 4], [2], 7), (23, [4], [2], 2), (0, [16], [], 280), (41, [14, 15], [], 0), (0, [15], [], -1), (1058, [14, 10, 7, 12, 13], [1, 2], 0), (90, [14], [], -2147483648), (91, [14], [], 2147483647), (20, [13, 6], [1], 0), (23, [6], [1], 6), (90, [13], [], -2147483648), (91, [13], [], 2147483647), (11, [12, 9, 11], [], 0), (0, [11], [], 4), (20, [10, 4], [1], 1), (23, [4], [1], 2), (0, [10], [], 19), (42, [9, 8], [], 0), (5000, [0, 1, 2, 3, 4, 5, 6, 7, 8, 9], [0, 1], 26), (0, [0], [], 274), (51, [2], [], 0), (90, [3], [], -2147483648), (91, [3], [], 2147483647), (0, [4], [], 274), (51, [6], [], 0), (90, [7], [], -2147483648), (91, [7], [], 2147483647), (90, [8], [], -2147483648), (91, [8], [], 2147483647), (90, [9], [], -2147483648), (91, [9], [], 2147483647)], (4000, [4, 5, 6, 7, 8, 23], [4], 26))
theorem c_28vw_26_1 {q0 : Nat} : vOkm T0 (eN e_28v L_28vw A_28v mu_28v n_28 B_28 (some q0)) 4 g_28vw_26_1 := vOk_inI fun ρ η f0 f1 f2 f3 f4 f5 f6 f7 f8 f9 f10 f11 f12 f13 f14 f15 f16 f17 f18 f19 f20 f21 f22 f23 f24 f25 f26 f27 f28 f29 f30 f31 f32 f33 f34 f35 f36 f37 f38 f39 f40 => q_28vw_2 (q0 := q0) (n0 := ρ 9) (n1 := ρ 8) (n2 := ρ 7) (n3 := ρ 6) (n4 := ρ 4) (n5 := ρ 3) (n6 := ρ 2) (n7 := ρ 0) (n8 := ρ 1) (n9 := ρ 5) (n10 := ρ 10) (n11 := ρ 11) (n12 := ρ 12) (n13 := ρ 13) (n14 := ρ 14) (n15 := ρ 15) (n16 := ρ 16) (n17 := ρ 17) (n18 := ρ 18) (n19 := ρ 19) (n20 := ρ 20) (n21 := ρ 21) (n22 := ρ 22) (n23 := ρ 23) (H0 := η 0) (H1 := η 1) (H2 := η 2) (H3 := η 3) (H4 := η 4) f40 f39 f38 f37 f36 f35 f34 f33 f32 f31 f30 f29 f28 f27 f26 f25 f24 f23 f22 f21 f20 f19 f18 f17 f16 f15 f14 f13 f12 f11 f10 f9 f8 f7 f6 f5 f4 f3 f2 f1 f0
theorem q_28vw_3 {q0 : Nat} {n0 n1 n2 n3 n4 n5 n6 n7 n8 n9 n10 n11 n12 n13 n14 n15 n16 n17 : Int} {H0 H1 H2 H3 : gH} (f0 : n0 ≤ 2147483647) (f1 : (-2147483648) ≤ n0) (f2 : n1 ≤ 2147483647) (f3 : (-2147483648) ≤ n1) (f4 : n2 ≤ 2147483647) (f5 : (-2147483648) ≤ n2) (f6 : 0 ≤ n3) (f7 : n4 = 274) (f8 : n5 ≤ 2147483647) (f9 : (-2147483648) ≤ n5) (f10 : 0 ≤ n6) (f11 : n7 = 274) (f12 : (hLe T0 H0 H1 ∧ hFr s_28v.2.2.2.2 H0 H1 ∧ hWt T0 H1) ∧ ((True ∧ Bb_28_26 n7 n8 n6 n5 n4 n9 n3 n2 n1 n0 H0 H1) ∧ True) ∧ some q0 = some (mub_28v_26 n7 n8 n6 n5 n4 n9 n3 n2 n1 n0 H0 H1)) (f13 : n0 < n1) (f14 : n10 = 19) (f15 : hK H1 (n4).toNat = 2) (f16 : n10 = hV H1 (n4).toNat 1) (f17 : n11 = 4) (f18 : n12 = o32 (fun x y => x / y) n0 n11) (f19 : n13 ≤ 2147483647) (f20 : (-2147483648) ≤ n13) (f21 : hK H1 (n3).toNat = 6) (f22 : n13 = hV H1 (n3).toNat 0) (f23 : n14 ≤ 2147483647) (f24 : (-2147483648) ≤ n14) (f25 : (hLe T0 H1 H2 ∧ hFr s_58.2.2.2.2 H1 H2 ∧ ((0 : Int) = 0 → H2.length = H1.length) ∧ hWt T0 H2) ∧ True) (f26 : n15 = (-1)) (f27 : n14 = n15) (f28 : n16 = 0) (f29 : (hLe T0 H2 H3 ∧ hFr s_201vk780.2.2.2.2 H2 H3 ∧ ((0 : Int) = 0 → H3.length = H2.length) ∧ hWt T0 H3) ∧ postb_201vk780 n9 n0 n16 H2 H3) (f30 : n17 = w32 (n0 + 1)) : Bb_28_26 n7 n8 n6 n5 n4 n9 n3 n2 n1 n17 H0 H3 := by
  have gb := f12.2.1.1.2
  unfold Bb_28_26 at gb
  have x2 : PUs H2 H3 n9 n0 n16 := PUs_put f29.1.1 (by
    have p := f29.2
    unfold postb_201vk780 at p
    exact p)
  rw [show n9 = n8 from gb.1] at x2
  unfold Bb_28_26
  exact ⟨gb.1, XRs_tr gb.2 (XRs_tr (XRs_of (SRs_fr f25.1.1 f25.1.2.1 (by decide +kernel))) (XRs_tr (XRs_put x2) (XRs_of (SRs_rfl _))))⟩
def g_28vw_26_2 : vG := ([(10, [17, 9], [], 1), (1201, [5, 9, 16], [2, 3], 0), (0, [16], [], 0), (40, [14, 15], [], 0), (0, [15], [], -1), (1058, [14, 10, 7, 12, 13], [1, 2], 0), (90, [14], [], -2147483648), (91, [14], [], 2147483647), (20, [13, 6], [1], 0), (23, [6], [1], 6), (90, [13], [], -2147483648), (91, [13], [], 2147483647), (11, [12, 9, 11], [], 0), (0, [11], [], 4), (20, [10, 4], [1], 1), (23, [4], [1], 2), (0, [10], [], 19), (42, [9, 8], [], 0), (5000, [0, 1, 2, 3, 4, 5, 6, 7, 8, 9], [0, 1], 26), (0, [0], [], 274), (51, [2], [], 0), (90, [3], [], -2147483648), (91, [3], [], 2147483647), (0, [4], [], 274), (51, [6], [], 0), (90, [7], [], -2147483648), (91, [7], [], 2147483647), (90, [8], [], -2147483648), (91, [8], [], 2147483647), (90, [9], [], -2147483648), (91, [9], [], 2147483647)], (4000, [4, 5, 6, 7, 8, 17], [3], 26))
theorem c_28vw_26_2 {q0 : Nat} : vOkm T0 (eN e_28v L_28vw A_28v mu_28v n_28 B_28 (some q0)) 4 g_28vw_26_2 := vOk_inI fun ρ η f0 f1 f2 f3 f4 f5 f6 f7 f8 f9 f10 f11 f12 f13 f14 f15 f16 f17 f18 f19 f20 f21 f22 f23 f24 f25 f26 f27 f28 f29 f30 => q_28vw_3 (q0 := q0) (n0 := ρ 9) (n1 := ρ 8) (n2 := ρ 7) (n3 := ρ 6) (n4 := ρ 4) (n5 := ρ 3) (n6 := ρ 2) (n7 := ρ 0) (n8 := ρ 1) (n9 := ρ 5) (n10 := ρ 10) (n11 := ρ 11) (n12 := ρ 12) (n13 := ρ 13) (n14 := ρ 14) (n15 := ρ 15) (n16 := ρ 16) (n17 := ρ 17) (H0 := η 0) (H1 := η 1) (H2 := η 2) (H3 := η 3) f30 f29 f28 f27 f26 f25 f24 f23 f22 f21 f20 f19 f18 f17 f16 f15 f14 f13 f12 f11 f10 f9 f8 f7 f6 f5 f4 f3 f2 f1 f0
def p_28vw_26 : List vG := [g_28vw_26_0,
  g_28vw_26_1,
  g_28vw_26_2]
theorem r_28vw_26 : vCovBO (eRc e_28v L_28v cs_28v 2000 (26, [(0, (3, 2, 274, 0)), (1, (2, 780, -1, 0)), (2, (3, 6, -1, 0)), (3, (0, -2147483648, 2147483647, 0)), (4, (0, -2147483648, 2147483647, 0)), (5, (0, -2147483648, 2147483647, 0))])) p_28vw_26 = true := by decide +kernel
theorem m_28vw (d : Nat) : eC e_28vw (d + 6) := eC_ref (e := e_28v) (L := L_28v) (L' := L_28vw) (cs := cs_28v) (n := 2000) (d := d + 5) (A := A_28v) (μ := mu_28v) (tp := true) (p0 := p_28v_s) (p1 := p_28vw_s) (N := n_28) (B := B_28) rfl ⟨m_35 d, ⟨m_43 d, ⟨m_53 (d + 3), ⟨m_58 (d + 3), ⟨m_199k748 (d + 4), ⟨m_201vk780 (d + 4), trivial⟩⟩⟩⟩⟩⟩ rfl (.inr pre0_ok) (by decide +kernel) (fun _ => post0_ok) r_28v_s (allC c_28v_s_0 allN) (allC (.inl ⟨p_28v_26, r_28v_26, fun q0 => (allC c_28v_26_0 (allC c_28v_26_1 allN))⟩) allN) (sub0 (sub0 (sub0 (sub0 (sub0 (sub0 trivial)))))) r_28vw_s (allC c_28vw_s_0 allN) (allC ⟨p_28vw_26, r_28vw_26, fun q0 => (allC c_28vw_26_0 (allC c_28vw_26_1 (allC c_28vw_26_2 allN)))⟩ allN)
/- MixStage.remake (LMixStage$Sound;)V, more fully -/
def nb_197 (a0 a1 : Int) (h0 h : gH) : Prop := RMs h0 h a1
def n_197 : List Int → gH → gH → Prop := fun xs h0 h => match xs with
  | [a0, a1] => nb_197 a0 a1 h0 h
  | _ => True
noncomputable def e_197vw : vE := eV e_197v n_197
noncomputable def L_197vw : List vE := [e_5, e_19, e_28vw]
def B_197 : Int → List Int → gH → gH → Prop := fun c xs h0 h => True
theorem q_197vw_0 {n0 n1 n2 : Int} {H0 : gH} (f0 : 0 ≤ n0) (f1 : n1 = 7) (f2 : hWt T0 H0 ∧ True) (f3 : hK H0 (n0).toNat = 7) (f4 : n2 = hV H0 (n0).toNat 10) (f5 : n2 = -1) : nb_197 n1 n0 H0 H0 := by
  unfold nb_197 RMs
  exact .inl ⟨by omega, (SRs_rfl _)⟩
def g_197vw_s_0 : vG := ([(50, [2], [], 0), (20, [2, 1], [0], 10), (23, [1], [0], 7), (6000, [0, 1], [0], 0), (0, [0], [], 7), (51, [1], [], 0)], (3000, [], [0], 9))
theorem c_197vw_s_0 : vOkm T0 (eN e_197v L_197vw A_197v mu_197v n_197 B_197 none) 2 g_197vw_s_0 := vOk_inI fun ρ η f0 f1 f2 f3 f4 f5 => q_197vw_0 (n0 := ρ 1) (n1 := ρ 0) (n2 := ρ 2) (H0 := η 0) f5 f4 f3 f2 f1 f0
theorem q_197vw_1 {n0 n1 n2 n3 n4 n5 n6 n7 n8 n9 n10 n11 n12 n13 : Int} {H0 H1 H2 H3 H4 H5 H6 : gH} (f0 : 0 ≤ n0) (f1 : n1 = 7) (f2 : hWt T0 H0 ∧ True) (f3 : hK H0 (n0).toNat = 7) (f4 : n2 = hV H0 (n0).toNat 10) (f5 : 0 ≤ n2) (f6 : n3 = 23) (f7 : hK H0 (n1).toNat = 11) (f8 : n3 = hV H0 (n1).toNat 7) (f9 : n4 ≤ 2147483647) (f10 : (-2147483648) ≤ n4) (f11 : (hLe T0 H0 H1 ∧ hFr s_19.2.2.2.2 H0 H1 ∧ ((0 : Int) = 0 → H1.length = H0.length) ∧ hWt T0 H1) ∧ True) (f12 : n5 = 274) (f13 : hK H1 (n1).toNat = 11) (f14 : n5 = hV H1 (n1).toNat 9) (f15 : 0 ≤ n6) (f16 : hK H1 (n0).toNat = 7) (f17 : n6 = hV H1 (n0).toNat 4) (f18 : n7 ≤ 2147483647) (f19 : (-2147483648) ≤ n7) (f20 : hK H1 (n0).toNat = 7) (f21 : n7 = hV H1 (n0).toNat 12) (f22 : n8 ≤ 2147483647) (f23 : (-2147483648) ≤ n8) (f24 : (hLe T0 H1 H2 ∧ hFr s_28v.2.2.2.2 H1 H2 ∧ ((0 : Int) = 0 → H2.length = H1.length) ∧ hWt T0 H2) ∧ (True ∧ nb_28 n8 n5 n6 n2 n7 H1 H2)) (f25 : hK H2 (n0).toNat = 7) (f26 : n9 = 6) (f27 : hUpd H3 H2 n0 n9 n8) (f28 : hK H3 (n0).toNat = 7) (f29 : n10 = 9) (f30 : hUpd H4 H3 n0 n10 n4) (f31 : n11 = 23) (f32 : hK H4 (n1).toNat = 11) (f33 : n11 = hV H4 (n1).toNat 7) (f34 : n12 ≤ 2147483647) (f35 : (-2147483648) ≤ n12) (f36 : (hLe T0 H4 H5 ∧ hFr s_5.2.2.2.2 H4 H5 ∧ ((0 : Int) = 0 → H5.length = H4.length) ∧ hWt T0 H5) ∧ True) (f37 : hK H5 (n0).toNat = 7) (f38 : n13 = 8) (f39 : hUpd H6 H5 n0 n13 n12) : nb_197 n1 n0 H0 H6 := by
  unfold nb_197 RMs
  have zk0 : hK H1 (n0).toNat = 7 := kLe f11.1.1 f3 rfl
  have z0_4 : hV H1 (n0).toNat 4 = hV H0 (n0).toNat 4 := f11.1.2.1.2.2 _ 7 f3 rfl 4 (by decide +kernel)
  have e4 : n6 = hV H0 (n0).toNat 4 := f17.trans z0_4
  have q := f24.2.2
  unfold nb_28 at q
  rw [e4] at q
  exact .inr ⟨by omega, XRs_tr (XRs_of (SRs_fr f11.1.1 f11.1.2.1 (by decide +kernel))) (XRs_tr q (XRs_of (SRs_tr (SRs_up f27 f25 (by decide)) (SRs_tr (SRs_up f30 f28 (by decide)) (SRs_tr (SRs_fr f36.1.1 f36.1.2.1 (by decide +kernel)) (SRs_up f39 f37 (by decide)))))))⟩
def g_197vw_s_1 : vG := ([(80, [1, 13, 12], [6, 5], 0), (0, [13], [], 8), (23, [1], [5], 7), (1005, [12, 11], [4, 5], 0), (90, [12], [], -2147483648), (91, [12], [], 2147483647), (20, [11, 0], [4], 7), (23, [0], [4], 11), (0, [11], [], 23), (80, [1, 10, 4], [4, 3], 0), (0, [10], [], 9), (23, [1], [3], 7), (80, [1, 9, 8], [3, 2], 0), (0, [9], [], 6), (23, [1], [2], 7), (1028, [8, 5, 6, 2, 7], [1, 2], 0), (90, [8], [], -2147483648), (91, [8], [], 2147483647), (20, [7, 1], [1], 12), (23, [1], [1], 7), (90, [7], [], -2147483648), (91, [7], [], 2147483647), (20, [6, 1], [1], 4), (23, [1], [1], 7), (51, [6], [], 0), (20, [5, 0], [1], 9), (23, [0], [1], 11), (0, [5], [], 274), (1019, [4, 3, 2], [0, 1], 0), (90, [4], [], -2147483648), (91, [4], [], 2147483647), (20, [3, 0], [0], 7), (23, [0], [0], 11), (0, [3], [], 23), (51, [2], [], 0), (20, [2, 1], [0], 10), (23, [1], [0], 7), (6000, [0, 1], [0], 0), (0, [0], [], 7), (51, [1], [], 0)], (3000, [], [6], 55))
theorem c_197vw_s_1 : vOkm T0 (eN e_197v L_197vw A_197v mu_197v n_197 B_197 none) 2 g_197vw_s_1 := vOk_inI fun ρ η f0 f1 f2 f3 f4 f5 f6 f7 f8 f9 f10 f11 f12 f13 f14 f15 f16 f17 f18 f19 f20 f21 f22 f23 f24 f25 f26 f27 f28 f29 f30 f31 f32 f33 f34 f35 f36 f37 f38 f39 => q_197vw_1 (n0 := ρ 1) (n1 := ρ 0) (n2 := ρ 2) (n3 := ρ 3) (n4 := ρ 4) (n5 := ρ 5) (n6 := ρ 6) (n7 := ρ 7) (n8 := ρ 8) (n9 := ρ 9) (n10 := ρ 10) (n11 := ρ 11) (n12 := ρ 12) (n13 := ρ 13) (H0 := η 0) (H1 := η 1) (H2 := η 2) (H3 := η 3) (H4 := η 4) (H5 := η 5) (H6 := η 6) f39 f38 f37 f36 f35 f34 f33 f32 f31 f30 f29 f28 f27 f26 f25 f24 f23 f22 f21 f20 f19 f18 f17 f16 f15 f14 f13 f12 f11 f10 f9 f8 f7 f6 f5 f4 f3 f2 f1 f0
def p_197vw_s : List vG := [g_197vw_s_0,
  g_197vw_s_1]
theorem r_197vw_s : vCovBO (eR0 e_197v L_197v cs_197v 2000) p_197vw_s = true := by decide +kernel
theorem m_197vw (d : Nat) : eC e_197vw (d + 7) := eC_ref (e := e_197v) (L := L_197v) (L' := L_197vw) (cs := cs_197v) (n := 2000) (d := d + 6) (A := A_197v) (μ := mu_197v) (tp := false) (p0 := p_197v_s) (p1 := p_197vw_s) (N := n_197) (B := B_197) rfl ⟨m_5 (d + 5), ⟨m_19 (d + 4), ⟨m_28vw d, trivial⟩⟩⟩ rfl (.inr pre0_ok) (by decide +kernel) (fun z => nomatch z) r_197v_s (allC c_197v_s_0 (allC c_197v_s_1 allN)) allN (sub0 (sub0 (sub1 trivial))) r_197vw_s (allC c_197vw_s_0 (allC c_197vw_s_1 allN)) allN
/- MixStage.make (III)I, more fully -/
def nb_174 (r a0 a1 a2 a3 : Int) (h0 h : gH) : Prop := KQ h0 h
def n_174 : List Int → gH → gH → Prop := fun xs h0 h => match xs with
  | [r, a0, a1, a2, a3] => nb_174 r a0 a1 a2 a3 h0 h
  | _ => True
noncomputable def e_174vw : vE := eV e_174v n_174
noncomputable def L_174vw : List vE := [e_3v, e_14, e_194, e_196, e_197vw]
def B_174 : Int → List Int → gH → gH → Prop := fun c xs h0 h => True
theorem q_174vw_0 {n0 n1 n2 n3 n4 n5 n6 n8 : Int} {H0 H1 H2 : gH} (f0 : n0 ≤ 2147483647) (f1 : (-2147483648) ≤ n0) (f2 : n1 ≤ 2147483647) (f3 : (-2147483648) ≤ n1) (f4 : n2 ≤ 2147483647) (f5 : (-2147483648) ≤ n2) (f6 : n3 = 7) (f7 : hWt T0 H0 ∧ True) (f8 : n4 = 23) (f9 : hK H0 (n3).toNat = 11) (f10 : n4 = hV H0 (n3).toNat 7) (f11 : n5 = 6) (f12 : (hLe T0 H0 H1 ∧ hFr s_3v.2.2.2.2 H0 H1 ∧ ((0 : Int) = 0 → H1.length = H0.length) ∧ hWt T0 H1) ∧ postb_3v n6 n4 n2 n5 H0 H1) (f13 : (hLe T0 H1 H2 ∧ hFr s_194.2.2.2.2 H1 H2 ∧ ((0 : Int) = 0 → H2.length = H1.length) ∧ hWt T0 H2) ∧ True) (f14 : n6 = -1) (f15 : n8 = (-1)) : nb_174 n8 n3 n2 n1 n0 H0 H2 := by
  unfold nb_174
  exact KQ_of (SRs_tr (SRs_fr f12.1.1 f12.1.2.1 (by decide +kernel)) (SRs_fr f13.1.1 f13.1.2.1 (by decide +kernel)))
def g_174vw_s_0 : vG := ([(0, [8], [], -1), (50, [6], [], 0), (1194, [7, 0, 2], [1, 2], 0), (1003, [6, 4, 1, 5], [0, 1], 0), (0, [5], [], 6), (20, [4, 0], [0], 7), (23, [0], [0], 11), (0, [4], [], 23), (6000, [0, 1, 2, 3], [0], 0), (0, [0], [], 7), (90, [1], [], -2147483648), (91, [1], [], 2147483647), (90, [2], [], -2147483648), (91, [2], [], 2147483647), (90, [3], [], -2147483648), (91, [3], [], 2147483647)], (3000, [8], [2], 35))
theorem c_174vw_s_0 : vOkm T0 (eN e_174v L_174vw A_174v mu_174v n_174 B_174 none) 4 g_174vw_s_0 := vOk_inI fun ρ η f0 f1 f2 f3 f4 f5 f6 f7 f8 f9 f10 f11 f12 f13 f14 f15 => q_174vw_0 (n0 := ρ 3) (n1 := ρ 2) (n2 := ρ 1) (n3 := ρ 0) (n4 := ρ 4) (n5 := ρ 5) (n6 := ρ 6) (n8 := ρ 8) (H0 := η 0) (H1 := η 1) (H2 := η 2) f15 f14 f13 f12 f11 f10 f9 f8 f7 f6 f5 f4 f3 f2 f1 f0
theorem q_174vw_1 {n0 n1 n2 n3 n4 n5 n6 n7 n8 n9 n10 n11 n12 n13 n14 : Int} {H0 H1 H2 H3 H4 H5 H6 H7 H8 : gH} (f0 : n0 ≤ 2147483647) (f1 : (-2147483648) ≤ n0) (f2 : n1 ≤ 2147483647) (f3 : (-2147483648) ≤ n1) (f4 : n2 ≤ 2147483647) (f5 : (-2147483648) ≤ n2) (f6 : n3 = 7) (f7 : hWt T0 H0 ∧ True) (f8 : n4 = 23) (f9 : hK H0 (n3).toNat = 11) (f10 : n4 = hV H0 (n3).toNat 7) (f11 : n5 = 6) (f12 : (hLe T0 H0 H1 ∧ hFr s_3v.2.2.2.2 H0 H1 ∧ ((0 : Int) = 0 → H1.length = H0.length) ∧ hWt T0 H1) ∧ postb_3v n6 n4 n2 n5 H0 H1) (f13 : (hLe T0 H1 H2 ∧ hFr s_194.2.2.2.2 H1 H2 ∧ ((0 : Int) = 0 → H2.length = H1.length) ∧ hWt T0 H2) ∧ True) (f14 : 0 ≤ n6) (f15 : n8 ≤ 1) (f16 : 0 ≤ n8) (f17 : (hLe T0 H2 H3 ∧ hFr s_196.2.2.2.2 H2 H3 ∧ ((0 : Int) = 0 → H3.length = H2.length) ∧ hWt T0 H3) ∧ postb_196 n8 n3 n7 n0 H2 H3) (f18 : n8 ≠ 0) (f19 : n9 = 23) (f20 : hK H3 (n3).toNat = 11) (f21 : n9 = hV H3 (n3).toNat 7) (f22 : n10 ≤ 1) (f23 : 0 ≤ n10) (f24 : (hLe T0 H3 H4 ∧ hFr s_14.2.2.2.2 H3 H4 ∧ ((0 : Int) = 0 → H4.length = H3.length) ∧ hWt T0 H4) ∧ True) (f25 : n10 ≠ 0) (f26 : hK H4 (n6).toNat = 7) (f27 : n11 = 10) (f28 : hUpd H5 H4 n6 n11 n7) (f29 : hK H5 (n6).toNat = 7) (f30 : n12 = 11) (f31 : hUpd H6 H5 n6 n12 n1) (f32 : hK H6 (n6).toNat = 7) (f33 : n13 = 12) (f34 : hUpd H7 H6 n6 n13 n0) (f35 : (hLe T0 H7 H8 ∧ hFr s_197v.2.2.2.2 H7 H8 ∧ ((0 : Int) = 0 → H8.length = H7.length) ∧ hWt T0 H8) ∧ (postb_197v n3 n6 H7 H8 ∧ nb_197 n3 n6 H7 H8)) (f36 : n14 ≤ 2147483647) (f37 : (-2147483648) ≤ n14) (f38 : hK H8 (n6).toNat = 7) (f39 : n14 = hV H8 (n6).toNat 8) : nb_174 n14 n3 n2 n1 n0 H0 H8 := by
  unfold nb_174
  have gp := f12.2
  unfold postb_3v at gp
  rw [f11] at gp
  have hg := gp.resolve_right (fun w => by omega)
  have zk0 : hK H1 (n6).toNat = 7 := kLe f12.1.1 hg.2.2.2.2.2 rfl
  have z0_4 : hV H1 (n6).toNat 4 = hV H0 (n6).toNat 4 := f12.1.2.1.2.2 _ 7 hg.2.2.2.2.2 rfl 4 (by decide +kernel)
  have zk1 : hK H2 (n6).toNat = 7 := kLe f13.1.1 zk0 rfl
  have z1_4 : hV H2 (n6).toNat 4 = hV H0 (n6).toNat 4 := (f13.1.2.1.2.2 _ 7 zk0 rfl 4 (by decide +kernel)).trans z0_4
  have zk2 : hK H3 (n6).toNat = 7 := kLe f17.1.1 zk1 rfl
  have z2_4 : hV H3 (n6).toNat 4 = hV H0 (n6).toNat 4 := (f17.1.2.1.2.2 _ 7 zk1 rfl 4 (by decide +kernel)).trans z1_4
  have zk3 : hK H4 (n6).toNat = 7 := kLe f24.1.1 zk2 rfl
  have z3_4 : hV H4 (n6).toNat 4 = hV H0 (n6).toNat 4 := (f24.1.2.1.2.2 _ 7 zk2 rfl 4 (by decide +kernel)).trans z2_4
  have zk4 : hK H5 (n6).toNat = 7 := kUp f28 zk3
  have z4_4 : hV H5 (n6).toNat 4 = hV H0 (n6).toNat 4 := (uSlot f28 _ 4 (by rw [f27]; decide)).trans z3_4
  have zk5 : hK H6 (n6).toNat = 7 := kUp f31 zk4
  have z5_4 : hV H6 (n6).toNat 4 = hV H0 (n6).toNat 4 := (uSlot f31 _ 4 (by rw [f30]; decide)).trans z4_4
  have zk6 : hK H7 (n6).toNat = 7 := kUp f34 zk5
  have z6_4 : hV H7 (n6).toNat 4 = hV H0 (n6).toNat 4 := (uSlot f34 _ 4 (by rw [f33]; decide)).trans z5_4
  have q := f35.2.2
  unfold nb_197 at q
  exact KQ_make (SRs_tr (SRs_fr f12.1.1 f12.1.2.1 (by decide +kernel)) (SRs_tr (SRs_fr f13.1.1 f13.1.2.1 (by decide +kernel)) (SRs_tr (SRs_fr f17.1.1 f17.1.2.1 (by decide +kernel)) (SRs_tr (SRs_fr f24.1.1 f24.1.2.1 (by decide +kernel)) (SRs_tr (SRs_up f28 f26 (by decide)) (SRs_tr (SRs_up f31 f29 (by decide)) (SRs_up f34 f32 (by decide)))))))) z6_4 q hg.1 hg.2.1 hg.2.2.2.1 hg.2.2.2.2.1
def g_174vw_s_1 : vG := ([(20, [14, 6], [8], 8), (23, [6], [8], 7), (90, [14], [], -2147483648), (91, [14], [], 2147483647), (1197, [0, 6], [7, 8], 0), (80, [6, 13, 3], [7, 6], 0), (0, [13], [], 12), (23, [6], [6], 7), (80, [6, 12, 2], [6, 5], 0), (0, [12], [], 11), (23, [6], [5], 7), (80, [6, 11, 7], [5, 4], 2), (0, [11], [], 10), (23, [6], [4], 7), (31, [10], [], 0), (1014, [10, 9, 7, 1], [3, 4], 0), (90, [10], [], 0), (91, [10], [], 1), (20, [9, 0], [3], 7), (23, [0], [3], 11), (0, [9], [], 23), (31, [8], [], 0), (1196, [8, 0, 7, 3], [2, 3], 0), (90, [8], [], 0), (91, [8], [], 1), (51, [6], [], 0), (1194, [7, 0, 2], [1, 2], 0), (1003, [6, 4, 1, 5], [0, 1], 0), (0, [5], [], 6), (20, [4, 0], [0], 7), (23, [0], [0], 11), (0, [4], [], 23), (6000, [0, 1, 2, 3], [0], 0), (0, [0], [], 7), (90, [1], [], -2147483648), (91, [1], [], 2147483647), (90, [2], [], -2147483648), (91, [2], [], 2147483647), (90, [3], [], -2147483648), (91, [3], [], 2147483647)], (3000, [14], [8], 82))
theorem c_174vw_s_1 : vOkm T0 (eN e_174v L_174vw A_174v mu_174v n_174 B_174 none) 4 g_174vw_s_1 := vOk_inI fun ρ η f0 f1 f2 f3 f4 f5 f6 f7 f8 f9 f10 f11 f12 f13 f14 f15 f16 f17 f18 f19 f20 f21 f22 f23 f24 f25 f26 f27 f28 f29 f30 f31 f32 f33 f34 f35 f36 f37 f38 f39 => q_174vw_1 (n0 := ρ 3) (n1 := ρ 2) (n2 := ρ 1) (n3 := ρ 0) (n4 := ρ 4) (n5 := ρ 5) (n6 := ρ 6) (n7 := ρ 7) (n8 := ρ 8) (n9 := ρ 9) (n10 := ρ 10) (n11 := ρ 11) (n12 := ρ 12) (n13 := ρ 13) (n14 := ρ 14) (H0 := η 0) (H1 := η 1) (H2 := η 2) (H3 := η 3) (H4 := η 4) (H5 := η 5) (H6 := η 6) (H7 := η 7) (H8 := η 8) f39 f38 f37 f36 f35 f34 f33 f32 f31 f30 f29 f28 f27 f26 f25 f24 f23 f22 f21 f20 f19 f18 f17 f16 f15 f14 f13 f12 f11 f10 f9 f8 f7 f6 f5 f4 f3 f2 f1 f0
theorem q_174vw_2 {n0 n1 n2 n3 n4 n5 n6 n7 n8 n9 n10 n11 : Int} {H0 H1 H2 H3 H4 : gH} (f0 : n0 ≤ 2147483647) (f1 : (-2147483648) ≤ n0) (f2 : n1 ≤ 2147483647) (f3 : (-2147483648) ≤ n1) (f4 : n2 ≤ 2147483647) (f5 : (-2147483648) ≤ n2) (f6 : n3 = 7) (f7 : hWt T0 H0 ∧ True) (f8 : n4 = 23) (f9 : hK H0 (n3).toNat = 11) (f10 : n4 = hV H0 (n3).toNat 7) (f11 : n5 = 6) (f12 : (hLe T0 H0 H1 ∧ hFr s_3v.2.2.2.2 H0 H1 ∧ ((0 : Int) = 0 → H1.length = H0.length) ∧ hWt T0 H1) ∧ postb_3v n6 n4 n2 n5 H0 H1) (f13 : (hLe T0 H1 H2 ∧ hFr s_194.2.2.2.2 H1 H2 ∧ ((0 : Int) = 0 → H2.length = H1.length) ∧ hWt T0 H2) ∧ True) (f14 : 0 ≤ n6) (f15 : n8 ≤ 1) (f16 : 0 ≤ n8) (f17 : (hLe T0 H2 H3 ∧ hFr s_196.2.2.2.2 H2 H3 ∧ ((0 : Int) = 0 → H3.length = H2.length) ∧ hWt T0 H3) ∧ postb_196 n8 n3 n7 n0 H2 H3) (f18 : n8 ≠ 0) (f19 : n9 = 23) (f20 : hK H3 (n3).toNat = 11) (f21 : n9 = hV H3 (n3).toNat 7) (f22 : n10 ≤ 1) (f23 : 0 ≤ n10) (f24 : (hLe T0 H3 H4 ∧ hFr s_14.2.2.2.2 H3 H4 ∧ ((0 : Int) = 0 → H4.length = H3.length) ∧ hWt T0 H4) ∧ True) (f25 : n10 = 0) (f26 : n11 = (-2)) : nb_174 n11 n3 n2 n1 n0 H0 H4 := by
  unfold nb_174
  exact KQ_of (SRs_tr (SRs_fr f12.1.1 f12.1.2.1 (by decide +kernel)) (SRs_tr (SRs_fr f13.1.1 f13.1.2.1 (by decide +kernel)) (SRs_tr (SRs_fr f17.1.1 f17.1.2.1 (by decide +kernel)) (SRs_fr f24.1.1 f24.1.2.1 (by decide +kernel)))))
def g_174vw_s_2 : vG := ([(0, [11], [], -2), (30, [10], [], 0), (1014, [10, 9, 7, 1], [3, 4], 0), (90, [10], [], 0), (91, [10], [], 1), (20, [9, 0], [3], 7), (23, [0], [3], 11), (0, [9], [], 23), (31, [8], [], 0), (1196, [8, 0, 7, 3], [2, 3], 0), (90, [8], [], 0), (91, [8], [], 1), (51, [6], [], 0), (1194, [7, 0, 2], [1, 2], 0), (1003, [6, 4, 1, 5], [0, 1], 0), (0, [5], [], 6), (20, [4, 0], [0], 7), (23, [0], [0], 11), (0, [4], [], 23), (6000, [0, 1, 2, 3], [0], 0), (0, [0], [], 7), (90, [1], [], -2147483648), (91, [1], [], 2147483647), (90, [2], [], -2147483648), (91, [2], [], 2147483647), (90, [3], [], -2147483648), (91, [3], [], 2147483647)], (3000, [11], [4], 51))
theorem c_174vw_s_2 : vOkm T0 (eN e_174v L_174vw A_174v mu_174v n_174 B_174 none) 4 g_174vw_s_2 := vOk_inI fun ρ η f0 f1 f2 f3 f4 f5 f6 f7 f8 f9 f10 f11 f12 f13 f14 f15 f16 f17 f18 f19 f20 f21 f22 f23 f24 f25 f26 => q_174vw_2 (n0 := ρ 3) (n1 := ρ 2) (n2 := ρ 1) (n3 := ρ 0) (n4 := ρ 4) (n5 := ρ 5) (n6 := ρ 6) (n7 := ρ 7) (n8 := ρ 8) (n9 := ρ 9) (n10 := ρ 10) (n11 := ρ 11) (H0 := η 0) (H1 := η 1) (H2 := η 2) (H3 := η 3) (H4 := η 4) f26 f25 f24 f23 f22 f21 f20 f19 f18 f17 f16 f15 f14 f13 f12 f11 f10 f9 f8 f7 f6 f5 f4 f3 f2 f1 f0
theorem q_174vw_3 {n0 n1 n2 n3 n4 n5 n6 n7 n8 n9 : Int} {H0 H1 H2 H3 : gH} (f0 : n0 ≤ 2147483647) (f1 : (-2147483648) ≤ n0) (f2 : n1 ≤ 2147483647) (f3 : (-2147483648) ≤ n1) (f4 : n2 ≤ 2147483647) (f5 : (-2147483648) ≤ n2) (f6 : n3 = 7) (f7 : hWt T0 H0 ∧ True) (f8 : n4 = 23) (f9 : hK H0 (n3).toNat = 11) (f10 : n4 = hV H0 (n3).toNat 7) (f11 : n5 = 6) (f12 : (hLe T0 H0 H1 ∧ hFr s_3v.2.2.2.2 H0 H1 ∧ ((0 : Int) = 0 → H1.length = H0.length) ∧ hWt T0 H1) ∧ postb_3v n6 n4 n2 n5 H0 H1) (f13 : (hLe T0 H1 H2 ∧ hFr s_194.2.2.2.2 H1 H2 ∧ ((0 : Int) = 0 → H2.length = H1.length) ∧ hWt T0 H2) ∧ True) (f14 : 0 ≤ n6) (f15 : n8 ≤ 1) (f16 : 0 ≤ n8) (f17 : (hLe T0 H2 H3 ∧ hFr s_196.2.2.2.2 H2 H3 ∧ ((0 : Int) = 0 → H3.length = H2.length) ∧ hWt T0 H3) ∧ postb_196 n8 n3 n7 n0 H2 H3) (f18 : n8 = 0) (f19 : n9 = (-1)) : nb_174 n9 n3 n2 n1 n0 H0 H3 := by
  unfold nb_174
  exact KQ_of (SRs_tr (SRs_fr f12.1.1 f12.1.2.1 (by decide +kernel)) (SRs_tr (SRs_fr f13.1.1 f13.1.2.1 (by decide +kernel)) (SRs_fr f17.1.1 f17.1.2.1 (by decide +kernel))))
def g_174vw_s_3 : vG := ([(0, [9], [], -1), (30, [8], [], 0), (1196, [8, 0, 7, 3], [2, 3], 0), (90, [8], [], 0), (91, [8], [], 1), (51, [6], [], 0), (1194, [7, 0, 2], [1, 2], 0), (1003, [6, 4, 1, 5], [0, 1], 0), (0, [5], [], 6), (20, [4, 0], [0], 7), (23, [0], [0], 11), (0, [4], [], 23), (6000, [0, 1, 2, 3], [0], 0), (0, [0], [], 7), (90, [1], [], -2147483648), (91, [1], [], 2147483647), (90, [2], [], -2147483648), (91, [2], [], 2147483647), (90, [3], [], -2147483648), (91, [3], [], 2147483647)], (3000, [9], [3], 35))
theorem c_174vw_s_3 : vOkm T0 (eN e_174v L_174vw A_174v mu_174v n_174 B_174 none) 4 g_174vw_s_3 := vOk_inI fun ρ η f0 f1 f2 f3 f4 f5 f6 f7 f8 f9 f10 f11 f12 f13 f14 f15 f16 f17 f18 f19 => q_174vw_3 (n0 := ρ 3) (n1 := ρ 2) (n2 := ρ 1) (n3 := ρ 0) (n4 := ρ 4) (n5 := ρ 5) (n6 := ρ 6) (n7 := ρ 7) (n8 := ρ 8) (n9 := ρ 9) (H0 := η 0) (H1 := η 1) (H2 := η 2) (H3 := η 3) f19 f18 f17 f16 f15 f14 f13 f12 f11 f10 f9 f8 f7 f6 f5 f4 f3 f2 f1 f0
def p_174vw_s : List vG := [g_174vw_s_0,
  g_174vw_s_1,
  g_174vw_s_2,
  g_174vw_s_3]
theorem r_174vw_s : vCovBO (eR0 e_174v L_174v cs_174v 2000) p_174vw_s = true := by decide +kernel
theorem m_174vw (d : Nat) : eC e_174vw (d + 8) := eC_ref (e := e_174v) (L := L_174v) (L' := L_174vw) (cs := cs_174v) (n := 2000) (d := d + 7) (A := A_174v) (μ := mu_174v) (tp := false) (p0 := p_174v_s) (p1 := p_174vw_s) (N := n_174) (B := B_174) rfl ⟨m_3v (d + 5), ⟨m_14 (d + 3), ⟨m_194 (d + 6), ⟨m_196 (d + 5), ⟨m_197vw d, trivial⟩⟩⟩⟩⟩ rfl (.inr pre0_ok) (by decide +kernel) (fun z => nomatch z) r_174v_s (allC c_174v_s_0 (allC c_174v_s_1 (allC c_174v_s_2 (allC c_174v_s_3 (allC c_174v_s_4 allN))))) allN (sub0 (sub0 (sub0 (sub0 (sub1 trivial))))) r_174vw_s (allC c_174vw_s_0 (allC c_174vw_s_1 (allC c_174vw_s_2 (allC c_174vw_s_3 allN)))) allN
/- MixStage.again ()I, more fully -/
def nb_175 (r a0 : Int) (h0 h : gH) : Prop := K7 h0 → KQ h0 h
def n_175 : List Int → gH → gH → Prop := fun xs h0 h => match xs with
  | [r, a0] => nb_175 r a0 h0 h
  | _ => True
noncomputable def e_175vw : vE := eV e_175v n_175
noncomputable def L_175vw : List vE := [e_2v, e_17, e_18, e_197vw]
def Bb_175_12 (a0 x0 x1 x2 x3 : Int) (h0 h : gH) : Prop := K7 h0 → KQ h0 h
def B_175 : Int → List Int → gH → gH → Prop := fun c xs h0 h => match c.toNat with
  | 12 => (match xs with
    | [a0, x0, x1, x2, x3] => Bb_175_12 a0 x0 x1 x2 x3 h0 h
    | _ => False)
  | _ => True
theorem q_175vw_0 {n0 n1 n2 n3 n4 : Int} {H0 H1 : gH} (f0 : n0 = 7) (f1 : hWt T0 H0 ∧ True) (f2 : n1 = 23) (f3 : hK H0 (n0).toNat = 11) (f4 : n1 = hV H0 (n0).toNat 7) (f5 : n2 ≤ 2147483647) (f6 : (-2147483648) ≤ n2) (f7 : (hLe T0 H0 H1 ∧ hFr s_17.2.2.2.2 H0 H1 ∧ ((0 : Int) = 0 → H1.length = H0.length) ∧ hWt T0 H1) ∧ True) (f8 : n3 = 0) (f9 : n4 = 0) : Bb_175_12 n0 n0 n2 n3 n4 H0 H1 := by
  unfold Bb_175_12
  exact fun _ => KQ_of (SRs_fr f7.1.1 f7.1.2.1 (by decide +kernel))
def g_175vw_s_0 : vG := ([(0, [4], [], 0), (0, [3], [], 0), (1017, [2, 1], [0, 1], 0), (90, [2], [], -2147483648), (91, [2], [], 2147483647), (20, [1, 0], [0], 7), (23, [0], [0], 11), (0, [1], [], 23), (6000, [0], [0], 0), (0, [0], [], 7)], (4000, [0, 2, 3, 4], [1], 12))
theorem c_175vw_s_0 : vOkm T0 (eN e_175v L_175vw A_175v mu_175v n_175 B_175 none) 1 g_175vw_s_0 := vOk_inI fun ρ η f0 f1 f2 f3 f4 f5 f6 f7 f8 f9 => q_175vw_0 (n0 := ρ 0) (n1 := ρ 1) (n2 := ρ 2) (n3 := ρ 3) (n4 := ρ 4) (H0 := η 0) (H1 := η 1) f9 f8 f7 f6 f5 f4 f3 f2 f1 f0
def p_175vw_s : List vG := [g_175vw_s_0]
theorem r_175vw_s : vCovBO (eR0 e_175v L_175v cs_175v 2000) p_175vw_s = true := by decide +kernel
theorem q_175vw_1 {q0 : Nat} {n0 n1 n2 n3 n4 n5 : Int} {H0 H1 : gH} (f0 : n0 ≤ 2147483647) (f1 : (-2147483648) ≤ n0) (f2 : n1 ≤ 2147483647) (f3 : (-2147483648) ≤ n1) (f4 : n2 ≤ 2147483647) (f5 : (-2147483648) ≤ n2) (f6 : n3 = 7) (f7 : n4 = 7) (f8 : (hLe T0 H0 H1 ∧ hFr s_175v.2.2.2.2 H0 H1 ∧ hWt T0 H1) ∧ ((Ab_175v_12 n4 n3 n2 n1 n0 H0 H1 ∧ Bb_175_12 n4 n3 n2 n1 n0 H0 H1) ∧ True) ∧ some q0 = some (mub_175v_12 n4 n3 n2 n1 n0 H0 H1)) (f9 : n5 = 20) (f10 : n5 ≤ n0) : nb_175 n1 n4 H0 H1 := by
  have gb := f8.2.1.1.2
  unfold Bb_175_12 at gb
  unfold nb_175
  exact fun k7 => KQ_post (gb k7) (SRs_rfl _)
def g_175vw_12_0 : vG := ([(43, [4, 5], [], 0), (0, [5], [], 20), (5000, [0, 1, 2, 3, 4], [0, 1], 12), (0, [0], [], 7), (0, [1], [], 7), (90, [2], [], -2147483648), (91, [2], [], 2147483647), (90, [3], [], -2147483648), (91, [3], [], 2147483647), (90, [4], [], -2147483648), (91, [4], [], 2147483647)], (3000, [3], [1], 75))
theorem c_175vw_12_0 {q0 : Nat} : vOkm T0 (eN e_175v L_175vw A_175v mu_175v n_175 B_175 (some q0)) 1 g_175vw_12_0 := vOk_inI fun ρ η f0 f1 f2 f3 f4 f5 f6 f7 f8 f9 f10 => q_175vw_1 (q0 := q0) (n0 := ρ 4) (n1 := ρ 3) (n2 := ρ 2) (n3 := ρ 1) (n4 := ρ 0) (n5 := ρ 5) (H0 := η 0) (H1 := η 1) f10 f9 f8 f7 f6 f5 f4 f3 f2 f1 f0
theorem q_175vw_2 {q0 : Nat} {n0 n1 n2 n3 n4 n5 : Int} {H0 H1 : gH} (f0 : n0 ≤ 2147483647) (f1 : (-2147483648) ≤ n0) (f2 : n1 ≤ 2147483647) (f3 : (-2147483648) ≤ n1) (f4 : n2 ≤ 2147483647) (f5 : (-2147483648) ≤ n2) (f6 : n3 = 7) (f7 : n4 = 7) (f8 : (hLe T0 H0 H1 ∧ hFr s_175v.2.2.2.2 H0 H1 ∧ hWt T0 H1) ∧ ((Ab_175v_12 n4 n3 n2 n1 n0 H0 H1 ∧ Bb_175_12 n4 n3 n2 n1 n0 H0 H1) ∧ True) ∧ some q0 = some (mub_175v_12 n4 n3 n2 n1 n0 H0 H1)) (f9 : n5 = 20) (f10 : n0 < n5) (f11 : n2 = 0) : nb_175 n1 n4 H0 H1 := by
  have gb := f8.2.1.1.2
  unfold Bb_175_12 at gb
  unfold nb_175
  exact fun k7 => KQ_post (gb k7) (SRs_rfl _)
def g_175vw_12_1 : vG := ([(30, [2], [], 0), (42, [4, 5], [], 0), (0, [5], [], 20), (5000, [0, 1, 2, 3, 4], [0, 1], 12), (0, [0], [], 7), (0, [1], [], 7), (90, [2], [], -2147483648), (91, [2], [], 2147483647), (90, [3], [], -2147483648), (91, [3], [], 2147483647), (90, [4], [], -2147483648), (91, [4], [], 2147483647)], (3000, [3], [1], 75))
theorem c_175vw_12_1 {q0 : Nat} : vOkm T0 (eN e_175v L_175vw A_175v mu_175v n_175 B_175 (some q0)) 1 g_175vw_12_1 := vOk_inI fun ρ η f0 f1 f2 f3 f4 f5 f6 f7 f8 f9 f10 f11 => q_175vw_2 (q0 := q0) (n0 := ρ 4) (n1 := ρ 3) (n2 := ρ 2) (n3 := ρ 1) (n4 := ρ 0) (n5 := ρ 5) (H0 := η 0) (H1 := η 1) f11 f10 f9 f8 f7 f6 f5 f4 f3 f2 f1 f0
theorem q_175vw_3 {q0 : Nat} {n0 n1 n2 n3 n4 n5 n6 n7 n8 n9 : Int} {H0 H1 H2 H3 : gH} (f0 : n0 ≤ 2147483647) (f1 : (-2147483648) ≤ n0) (f2 : n1 ≤ 2147483647) (f3 : (-2147483648) ≤ n1) (f4 : n2 ≤ 2147483647) (f5 : (-2147483648) ≤ n2) (f6 : n3 = 7) (f7 : n4 = 7) (f8 : (hLe T0 H0 H1 ∧ hFr s_175v.2.2.2.2 H0 H1 ∧ hWt T0 H1) ∧ ((Ab_175v_12 n4 n3 n2 n1 n0 H0 H1 ∧ Bb_175_12 n4 n3 n2 n1 n0 H0 H1) ∧ True) ∧ some q0 = some (mub_175v_12 n4 n3 n2 n1 n0 H0 H1)) (f9 : n5 = 20) (f10 : n0 < n5) (f11 : n2 ≠ 0) (f12 : n6 = 23) (f13 : hK H1 (n3).toNat = 11) (f14 : n6 = hV H1 (n3).toNat 7) (f15 : n7 ≤ 2147483647) (f16 : (-2147483648) ≤ n7) (f17 : (hLe T0 H1 H2 ∧ hFr s_18.2.2.2.2 H1 H2 ∧ ((0 : Int) = 0 → H2.length = H1.length) ∧ hWt T0 H2) ∧ True) (f18 : n8 = 23) (f19 : hK H2 (n3).toNat = 11) (f20 : n8 = hV H2 (n3).toNat 7) (f21 : (hLe T0 H2 H3 ∧ hFr s_2v.2.2.2.2 H2 H3 ∧ ((0 : Int) = 0 → H3.length = H2.length) ∧ hWt T0 H3) ∧ postb_2v n9 n8 n7 H2 H3) (f22 : n9 = -1) : nb_175 n1 n4 H0 H3 := by
  have gb := f8.2.1.1.2
  unfold Bb_175_12 at gb
  unfold nb_175
  exact fun k7 => KQ_post (gb k7) (SRs_tr (SRs_fr f17.1.1 f17.1.2.1 (by decide +kernel)) (SRs_fr f21.1.1 f21.1.2.1 (by decide +kernel)))
def g_175vw_12_2 : vG := ([(50, [9], [], 0), (1002, [9, 8, 7], [2, 3], 0), (20, [8, 1], [2], 7), (23, [1], [2], 11), (0, [8], [], 23), (1018, [7, 6, 2], [1, 2], 0), (90, [7], [], -2147483648), (91, [7], [], 2147483647), (20, [6, 1], [1], 7), (23, [1], [1], 11), (0, [6], [], 23), (31, [2], [], 0), (42, [4, 5], [], 0), (0, [5], [], 20), (5000, [0, 1, 2, 3, 4], [0, 1], 12), (0, [0], [], 7), (0, [1], [], 7), (90, [2], [], -2147483648), (91, [2], [], 2147483647), (90, [3], [], -2147483648), (91, [3], [], 2147483647), (90, [4], [], -2147483648), (91, [4], [], 2147483647)], (3000, [3], [3], 49))
theorem c_175vw_12_2 {q0 : Nat} : vOkm T0 (eN e_175v L_175vw A_175v mu_175v n_175 B_175 (some q0)) 1 g_175vw_12_2 := vOk_inI fun ρ η f0 f1 f2 f3 f4 f5 f6 f7 f8 f9 f10 f11 f12 f13 f14 f15 f16 f17 f18 f19 f20 f21 f22 => q_175vw_3 (q0 := q0) (n0 := ρ 4) (n1 := ρ 3) (n2 := ρ 2) (n3 := ρ 1) (n4 := ρ 0) (n5 := ρ 5) (n6 := ρ 6) (n7 := ρ 7) (n8 := ρ 8) (n9 := ρ 9) (H0 := η 0) (H1 := η 1) (H2 := η 2) (H3 := η 3) f22 f21 f20 f19 f18 f17 f16 f15 f14 f13 f12 f11 f10 f9 f8 f7 f6 f5 f4 f3 f2 f1 f0
theorem q_175vw_4 {q0 : Nat} {n0 n1 n2 n3 n4 n5 n6 n7 n8 n9 n10 n11 n12 n13 n14 n15 n16 : Int} {H0 H1 H2 H3 H4 : gH} (f0 : n0 ≤ 2147483647) (f1 : (-2147483648) ≤ n0) (f2 : n1 ≤ 2147483647) (f3 : (-2147483648) ≤ n1) (f4 : n2 ≤ 2147483647) (f5 : (-2147483648) ≤ n2) (f6 : n3 = 7) (f7 : n4 = 7) (f8 : (hLe T0 H0 H1 ∧ hFr s_175v.2.2.2.2 H0 H1 ∧ hWt T0 H1) ∧ ((Ab_175v_12 n4 n3 n2 n1 n0 H0 H1 ∧ Bb_175_12 n4 n3 n2 n1 n0 H0 H1) ∧ True) ∧ some q0 = some (mub_175v_12 n4 n3 n2 n1 n0 H0 H1)) (f9 : n5 = 20) (f10 : n0 < n5) (f11 : n2 ≠ 0) (f12 : n6 = 23) (f13 : hK H1 (n3).toNat = 11) (f14 : n6 = hV H1 (n3).toNat 7) (f15 : n7 ≤ 2147483647) (f16 : (-2147483648) ≤ n7) (f17 : (hLe T0 H1 H2 ∧ hFr s_18.2.2.2.2 H1 H2 ∧ ((0 : Int) = 0 → H2.length = H1.length) ∧ hWt T0 H2) ∧ True) (f18 : n8 = 23) (f19 : hK H2 (n3).toNat = 11) (f20 : n8 = hV H2 (n3).toNat 7) (f21 : (hLe T0 H2 H3 ∧ hFr s_2v.2.2.2.2 H2 H3 ∧ ((0 : Int) = 0 → H3.length = H2.length) ∧ hWt T0 H3) ∧ postb_2v n9 n8 n7 H2 H3) (f22 : 0 ≤ n9) (f23 : (hLe T0 H3 H4 ∧ hFr s_197v.2.2.2.2 H3 H4 ∧ ((0 : Int) = 0 → H4.length = H3.length) ∧ hWt T0 H4) ∧ (postb_197v n3 n9 H3 H4 ∧ nb_197 n3 n9 H3 H4)) (f24 : n10 = 1) (f25 : n11 = o32 (fun x y => x <<< (y &&& 31)) n10 n7) (f26 : n12 = (-1)) (f27 : n13 = o32 (fun x y => x ^^^ y) n11 n12) (f28 : n14 = o32 (fun x y => x &&& y) n2 n13) (f29 : n15 = w32 (n1 + 1)) (f30 : n16 = w32 (n0 + 1)) : Bb_175_12 n4 n3 n14 n15 n16 H0 H4 := by
  have gb := f8.2.1.1.2
  unfold Bb_175_12 at gb
  unfold Bb_175_12
  intro k7
  have gp := f21.2
  unfold postb_2v at gp
  have hg : 0 ≤ n7 ∧ n7 < hV H2 23 1 ∧ n9 = hV H2 24 (n7).toNat := by omega
  rw [show hV H2 23 1 = hV H0 23 1 from (f17.1.2.1.1 23 1 (by decide +kernel)).trans (f8.1.2.1.1 23 1 (by decide +kernel)), show hV H2 24 = hV H0 24 from (fRow f17.1.2.1 24 (by decide +kernel)).trans (fRow f8.1.2.1 24 (by decide +kernel))] at hg
  have k0 : hK H0 (n9).toNat = 7 := by
    have z := k7 (n7).toNat (by omega)
    rw [← hg.2.2] at z
    exact z
  have zk0 : hK H1 (n9).toNat = 7 := kLe f8.1.1 k0 rfl
  have z0_4 : hV H1 (n9).toNat 4 = hV H0 (n9).toNat 4 := f8.1.2.1.2.2 _ 7 k0 rfl 4 (by decide +kernel)
  have z0_10 : hV H1 (n9).toNat 10 = hV H0 (n9).toNat 10 := f8.1.2.1.2.2 _ 7 k0 rfl 10 (by decide +kernel)
  have zk1 : hK H2 (n9).toNat = 7 := kLe f17.1.1 zk0 rfl
  have z1_4 : hV H2 (n9).toNat 4 = hV H0 (n9).toNat 4 := (f17.1.2.1.2.2 _ 7 zk0 rfl 4 (by decide +kernel)).trans z0_4
  have z1_10 : hV H2 (n9).toNat 10 = hV H0 (n9).toNat 10 := (f17.1.2.1.2.2 _ 7 zk0 rfl 10 (by decide +kernel)).trans z0_10
  have zk2 : hK H3 (n9).toNat = 7 := kLe f21.1.1 zk1 rfl
  have z2_4 : hV H3 (n9).toNat 4 = hV H0 (n9).toNat 4 := (f21.1.2.1.2.2 _ 7 zk1 rfl 4 (by decide +kernel)).trans z1_4
  have z2_10 : hV H3 (n9).toNat 10 = hV H0 (n9).toNat 10 := (f21.1.2.1.2.2 _ 7 zk1 rfl 10 (by decide +kernel)).trans z1_10
  have qq := f23.2.2
  unfold nb_197 at qq
  exact KQ_step (KQ_post (gb k7) (SRs_tr (SRs_fr f17.1.1 f17.1.2.1 (by decide +kernel)) (SRs_fr f21.1.1 f21.1.2.1 (by decide +kernel)))) z2_4 z2_10 qq hg.1 hg.2.1 hg.2.2
def g_175vw_12_3 : vG := ([(10, [16, 4], [], 1), (10, [15, 3], [], 1), (4, [14, 2, 13], [], 0), (6, [13, 11, 12], [], 0), (0, [12], [], -1), (7, [11, 10, 7], [], 0), (0, [10], [], 1), (1197, [1, 9], [3, 4], 0), (51, [9], [], 0), (1002, [9, 8, 7], [2, 3], 0), (20, [8, 1], [2], 7), (23, [1], [2], 11), (0, [8], [], 23), (1018, [7, 6, 2], [1, 2], 0), (90, [7], [], -2147483648), (91, [7], [], 2147483647), (20, [6, 1], [1], 7), (23, [1], [1], 11), (0, [6], [], 23), (31, [2], [], 0), (42, [4, 5], [], 0), (0, [5], [], 20), (5000, [0, 1, 2, 3, 4], [0, 1], 12), (0, [0], [], 7), (0, [1], [], 7), (90, [2], [], -2147483648), (91, [2], [], 2147483647), (90, [3], [], -2147483648), (91, [3], [], 2147483647), (90, [4], [], -2147483648), (91, [4], [], 2147483647)], (4000, [1, 14, 15, 16], [4], 12))
theorem c_175vw_12_3 {q0 : Nat} : vOkm T0 (eN e_175v L_175vw A_175v mu_175v n_175 B_175 (some q0)) 1 g_175vw_12_3 := vOk_inI fun ρ η f0 f1 f2 f3 f4 f5 f6 f7 f8 f9 f10 f11 f12 f13 f14 f15 f16 f17 f18 f19 f20 f21 f22 f23 f24 f25 f26 f27 f28 f29 f30 => q_175vw_4 (q0 := q0) (n0 := ρ 4) (n1 := ρ 3) (n2 := ρ 2) (n3 := ρ 1) (n4 := ρ 0) (n5 := ρ 5) (n6 := ρ 6) (n7 := ρ 7) (n8 := ρ 8) (n9 := ρ 9) (n10 := ρ 10) (n11 := ρ 11) (n12 := ρ 12) (n13 := ρ 13) (n14 := ρ 14) (n15 := ρ 15) (n16 := ρ 16) (H0 := η 0) (H1 := η 1) (H2 := η 2) (H3 := η 3) (H4 := η 4) f30 f29 f28 f27 f26 f25 f24 f23 f22 f21 f20 f19 f18 f17 f16 f15 f14 f13 f12 f11 f10 f9 f8 f7 f6 f5 f4 f3 f2 f1 f0
def p_175vw_12 : List vG := [g_175vw_12_0,
  g_175vw_12_1,
  g_175vw_12_2,
  g_175vw_12_3]
theorem r_175vw_12 : vCovBO (eRc e_175v L_175v cs_175v 2000 (12, [(0, (3, 11, 7, 0)), (1, (0, -2147483648, 2147483647, 0)), (2, (0, -2147483648, 2147483647, 0)), (3, (0, -2147483648, 2147483647, 0))])) p_175vw_12 = true := by decide +kernel
theorem m_175vw (d : Nat) : eC e_175vw (d + 8) := eC_ref (e := e_175v) (L := L_175v) (L' := L_175vw) (cs := cs_175v) (n := 2000) (d := d + 7) (A := A_175v) (μ := mu_175v) (tp := false) (p0 := p_175v_s) (p1 := p_175vw_s) (N := n_175) (B := B_175) rfl ⟨m_2v (d + 6), ⟨m_17 (d + 3), ⟨m_18 (d + 5), ⟨m_197vw d, trivial⟩⟩⟩⟩ rfl (.inr pre0_ok) (by decide +kernel) (fun z => nomatch z) r_175v_s (allC c_175v_s_0 allN) (allC (.inl ⟨p_175v_12, r_175v_12, fun q0 => (allC c_175v_12_0 (allC c_175v_12_1 (allC c_175v_12_2 (allC c_175v_12_3 allN))))⟩) allN) (sub0 (sub0 (sub0 (sub1 trivial)))) r_175vw_s (allC c_175vw_s_0 allN) (allC ⟨p_175vw_12, r_175vw_12, fun q0 => (allC c_175vw_12_0 (allC c_175vw_12_1 (allC c_175vw_12_2 (allC c_175vw_12_3 allN))))⟩ allN)
