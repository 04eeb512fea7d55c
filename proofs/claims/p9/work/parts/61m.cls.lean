/- Reader.start ()V -/
noncomputable def s_61v : vM := ([(3, 4, 30, 0)], (9, 0, 0, 0), 1, 0, [(4, 1), (4, 2), (4, 3), (4, 5), (4, 7), (4, 13)])
def preb_61v (a0 : Int) (h : gH) : Prop := KS5 h ∧ TKI h ∧ KB h
def pre_61v : List Int → gH → Prop := fun xs h => match xs with
  | [a0] => preb_61v a0 h
  | _ => False
def postb_61v (a0 : Int) (h0 h : gH) : Prop := KI h ∧ absC h = (0, 0) ∧ BI h ∧ BLc h = [] ∧ hV h 30 13 = 0 ∧ ((hV h 30 7 = 1 ∧ kC h0 0 = 19) ∨ (hV h 30 7 = 0 ∧ ¬ kC h0 0 = 19)) ∧ vwC h = vwC h0
def post_61v : List Int → gH → gH → Prop := fun xs h0 h => match xs with
  | [a0] => postb_61v a0 h0 h
  | _ => True
noncomputable def e_61v : vE := (61, s_61v, pre_61v, post_61v)
noncomputable def L_61v : List vE := [e_122v]
def cs_61v : List vC := []
def A_61v : Int → List Int → gH → gH → Prop := fun c xs h0 h => True
def mu_61v : Int → List Int → gH → gH → Nat := fun c xs h0 h => 0
theorem q_61v_0 {n0 n1 n2 n3 n4 : Int} {H0 H1 : gH} (f0 : n0 = 30) (f1 : hWt T0 H0 ∧ preb_61v n0 H0) (f2 : n1 = 0) (f3 : n2 = 1) (f4 : hUpd H1 H0 n0 n2 n1) (f5 : n3 = 31) (f6 : n3 = hV H1 (n0).toNat 0) (f7 : n4 = 0) : preb_122v n3 n4 H1 := by
  have pz := f1.2
  unfold preb_61v at pz
  unfold preb_122v
  exact (KS5_up f4 pz.1)
theorem c_61v_s_0 : vOkm T0 (eP e_61v L_61v A_61v mu_61v none) 1 ([(0, [4], [], 0), (20, [3, 0], [1], 0), (0, [3], [], 31), (80, [0, 2, 1], [1, 0], 0), (0, [2], [], 1), (0, [1], [], 0), (6000, [0], [0], 0), (0, [0], [], 30)], (2122, [3, 4], [1], 0)) := vOk_in fun ρ η h => by
  obtain ⟨f0, f1, f2, f3, f4, f5, f6, f7, _⟩ := h
  exact q_61v_0 (n0 := ρ 0) (n1 := ρ 1) (n2 := ρ 2) (n3 := ρ 3) (n4 := ρ 4) (H0 := η 0) (H1 := η 1) f7 f6 f5 f4 f3 f2 f1 f0
theorem q_61v_1 {n0 n1 n2 n3 n4 n5 n6 n7 n8 n9 n10 n11 n12 n13 n14 n15 n16 : Int} {H0 H1 H2 H3 H4 H5 H6 H7 : gH} (f0 : n0 = 30) (f1 : hWt T0 H0 ∧ preb_61v n0 H0) (f2 : n1 = 0) (f3 : n2 = 1) (f4 : hUpd H1 H0 n0 n2 n1) (f5 : n3 = 31) (f6 : n3 = hV H1 (n0).toNat 0) (f7 : n4 = 0) (f8 : n5 ≤ 2147483647) (f9 : (-2147483648) ≤ n5) (f10 : (hLe T0 H1 H2 ∧ hFr s_122v.2.2.2.2 H1 H2 ∧ ((0 : Int) = 0 → H2.length = H1.length) ∧ hWt T0 H2) ∧ postb_122v n5 n3 n4 H1 H2) (f11 : n6 = 2) (f12 : hUpd H3 H2 n0 n6 n5) (f13 : n7 = 0) (f14 : n8 = 3) (f15 : hUpd H4 H3 n0 n8 n7) (f16 : n9 = 0) (f17 : n10 = 5) (f18 : hUpd H5 H4 n0 n10 n9) (f19 : n11 = 0) (f20 : n12 = 13) (f21 : hUpd H6 H5 n0 n12 n11) (f22 : n13 ≤ 2147483647) (f23 : (-2147483648) ≤ n13) (f24 : n13 = hV H6 (n0).toNat 2) (f25 : n14 = 19) (f26 : n13 ≠ n14) (f27 : n15 = 0) (f28 : n16 = 7) (f29 : hUpd H7 H6 n0 n16 n15) : postb_61v n0 H0 H7 := by
  have pz := f1.2
  unfold preb_61v at pz
  have w1 : hV H7 30 1 = n1 := (uSlot f29 30 1 (by rw [f28]; decide)).trans ((uSlot f21 30 1 (by rw [f20]; decide)).trans ((uSlot f18 30 1 (by rw [f17]; decide)).trans ((uSlot f15 30 1 (by rw [f14]; decide)).trans ((uSlot f12 30 1 (by rw [f11]; decide)).trans ((f10.1.2.1.1 30 1 (by decide +kernel)).trans (uSame f4 30 1 (by rw [f0]; rfl) (by rw [f3]; rfl)))))))
  have w2 : hV H7 30 2 = n5 := (uSlot f29 30 2 (by rw [f28]; decide)).trans ((uSlot f21 30 2 (by rw [f20]; decide)).trans ((uSlot f18 30 2 (by rw [f17]; decide)).trans ((uSlot f15 30 2 (by rw [f14]; decide)).trans (uSame f12 30 2 (by rw [f0]; rfl) (by rw [f11]; rfl)))))
  have w3 : hV H7 30 3 = n7 := (uSlot f29 30 3 (by rw [f28]; decide)).trans ((uSlot f21 30 3 (by rw [f20]; decide)).trans ((uSlot f18 30 3 (by rw [f17]; decide)).trans (uSame f15 30 3 (by rw [f0]; rfl) (by rw [f14]; rfl))))
  have w5 : hV H7 30 5 = n9 := (uSlot f29 30 5 (by rw [f28]; decide)).trans ((uSlot f21 30 5 (by rw [f20]; decide)).trans (uSame f18 30 5 (by rw [f0]; rfl) (by rw [f17]; rfl)))
  have w7 : hV H7 30 7 = n15 := uSame f29 30 7 (by rw [f0]; rfl) (by rw [f28]; rfl)
  have w13 : hV H7 30 13 = n11 := (uSlot f29 30 13 (by rw [f28]; decide)).trans (uSame f21 30 13 (by rw [f0]; rfl) (by rw [f20]; rfl))
  have wt : TKs H0 H7 := (((((((TKs_up f4 f0).trans (TKs_fr f10.1.2.1 (by decide +kernel))).trans (TKs_up f12 f0)).trans (TKs_up f15 f0)).trans (TKs_up f18 f0)).trans (TKs_up f21 f0)).trans (TKs_up f29 f0))
  have xt : TKs H0 H1 := (TKs_up f4 f0)
  have pk := f10.2
  unfold postb_122v at pk
  rw [(TKs_v xt).2.1, show n4 = 0 by omega] at pk
  have st := start_st pz.2.1 (w1.trans (by omega)) (w2.trans pk) (w3.trans (by omega)) (w5.trans (by omega)) wt (KS5_up f29 (KS5_up f21 (KS5_up f18 (KS5_up f15 (KS5_up f12 (KS5_le f10.1.1 (KS5_up f4 pz.1)))))))
  have bz := BI_zero (KB_up f29 (KB_up f21 (KB_up f18 (KB_up f15 (KB_up f12 (KB_le f10.1.1 (KB_up f4 pz.2.2))))))) (w13.trans (by omega))
  have r2 := f24
  rw [f0] at r2
  rw [show ((30 : Int)).toNat = 30 from rfl] at r2
  have x2 : hV H6 30 2 = n5 := (uSlot f21 30 2 (by rw [f20]; decide)).trans ((uSlot f18 30 2 (by rw [f17]; decide)).trans ((uSlot f15 30 2 (by rw [f14]; decide)).trans (uSame f12 30 2 (by rw [f0]; rfl) (by rw [f11]; rfl))))
  have yt : TKs H0 H6 := ((((((TKs_up f4 f0).trans (TKs_fr f10.1.2.1 (by decide +kernel))).trans (TKs_up f12 f0)).trans (TKs_up f15 f0)).trans (TKs_up f18 f0)).trans (TKs_up f21 f0))
  have v := (TKs_v wt).1
  unfold postb_61v
  exact ⟨st.1, st.2, bz.1, bz.2, w13.trans (by omega), by omega, v⟩
theorem c_61v_s_1 : vOkm T0 (eP e_61v L_61v A_61v mu_61v none) 1 ([(80, [0, 16, 15], [7, 6], 0), (0, [16], [], 7), (0, [15], [], 0), (41, [13, 14], [], 0), (0, [14], [], 19), (20, [13, 0], [6], 2), (90, [13], [], -2147483648), (91, [13], [], 2147483647), (80, [0, 12, 11], [6, 5], 0), (0, [12], [], 13), (0, [11], [], 0), (80, [0, 10, 9], [5, 4], 0), (0, [10], [], 5), (0, [9], [], 0), (80, [0, 8, 7], [4, 3], 0), (0, [8], [], 3), (0, [7], [], 0), (80, [0, 6, 5], [3, 2], 0), (0, [6], [], 2), (1122, [5, 3, 4], [1, 2], 0), (90, [5], [], -2147483648), (91, [5], [], 2147483647), (0, [4], [], 0), (20, [3, 0], [1], 0), (0, [3], [], 31), (80, [0, 2, 1], [1, 0], 0), (0, [2], [], 1), (0, [1], [], 0), (6000, [0], [0], 0), (0, [0], [], 30)], (3000, [], [7], 50)) := vOk_in fun ρ η h => by
  obtain ⟨f0, f1, f2, f3, f4, f5, f6, f7, f8, f9, f10, f11, f12, f13, f14, f15, f16, f17, f18, f19, f20, f21, f22, f23, f24, f25, f26, f27, f28, f29, _⟩ := h
  exact q_61v_1 (n0 := ρ 0) (n1 := ρ 1) (n2 := ρ 2) (n3 := ρ 3) (n4 := ρ 4) (n5 := ρ 5) (n6 := ρ 6) (n7 := ρ 7) (n8 := ρ 8) (n9 := ρ 9) (n10 := ρ 10) (n11 := ρ 11) (n12 := ρ 12) (n13 := ρ 13) (n14 := ρ 14) (n15 := ρ 15) (n16 := ρ 16) (H0 := η 0) (H1 := η 1) (H2 := η 2) (H3 := η 3) (H4 := η 4) (H5 := η 5) (H6 := η 6) (H7 := η 7) f29 f28 f27 f26 f25 f24 f23 f22 f21 f20 f19 f18 f17 f16 f15 f14 f13 f12 f11 f10 f9 f8 f7 f6 f5 f4 f3 f2 f1 f0
theorem q_61v_2 {n0 n1 n2 n3 n4 n5 n6 n7 n8 n9 n10 n11 n12 n13 n14 n15 n16 : Int} {H0 H1 H2 H3 H4 H5 H6 H7 : gH} (f0 : n0 = 30) (f1 : hWt T0 H0 ∧ preb_61v n0 H0) (f2 : n1 = 0) (f3 : n2 = 1) (f4 : hUpd H1 H0 n0 n2 n1) (f5 : n3 = 31) (f6 : n3 = hV H1 (n0).toNat 0) (f7 : n4 = 0) (f8 : n5 ≤ 2147483647) (f9 : (-2147483648) ≤ n5) (f10 : (hLe T0 H1 H2 ∧ hFr s_122v.2.2.2.2 H1 H2 ∧ ((0 : Int) = 0 → H2.length = H1.length) ∧ hWt T0 H2) ∧ postb_122v n5 n3 n4 H1 H2) (f11 : n6 = 2) (f12 : hUpd H3 H2 n0 n6 n5) (f13 : n7 = 0) (f14 : n8 = 3) (f15 : hUpd H4 H3 n0 n8 n7) (f16 : n9 = 0) (f17 : n10 = 5) (f18 : hUpd H5 H4 n0 n10 n9) (f19 : n11 = 0) (f20 : n12 = 13) (f21 : hUpd H6 H5 n0 n12 n11) (f22 : n13 ≤ 2147483647) (f23 : (-2147483648) ≤ n13) (f24 : n13 = hV H6 (n0).toNat 2) (f25 : n14 = 19) (f26 : n13 = n14) (f27 : n15 = 1) (f28 : n16 = 7) (f29 : hUpd H7 H6 n0 n16 n15) : postb_61v n0 H0 H7 := by
  have pz := f1.2
  unfold preb_61v at pz
  have w1 : hV H7 30 1 = n1 := (uSlot f29 30 1 (by rw [f28]; decide)).trans ((uSlot f21 30 1 (by rw [f20]; decide)).trans ((uSlot f18 30 1 (by rw [f17]; decide)).trans ((uSlot f15 30 1 (by rw [f14]; decide)).trans ((uSlot f12 30 1 (by rw [f11]; decide)).trans ((f10.1.2.1.1 30 1 (by decide +kernel)).trans (uSame f4 30 1 (by rw [f0]; rfl) (by rw [f3]; rfl)))))))
  have w2 : hV H7 30 2 = n5 := (uSlot f29 30 2 (by rw [f28]; decide)).trans ((uSlot f21 30 2 (by rw [f20]; decide)).trans ((uSlot f18 30 2 (by rw [f17]; decide)).trans ((uSlot f15 30 2 (by rw [f14]; decide)).trans (uSame f12 30 2 (by rw [f0]; rfl) (by rw [f11]; rfl)))))
  have w3 : hV H7 30 3 = n7 := (uSlot f29 30 3 (by rw [f28]; decide)).trans ((uSlot f21 30 3 (by rw [f20]; decide)).trans ((uSlot f18 30 3 (by rw [f17]; decide)).trans (uSame f15 30 3 (by rw [f0]; rfl) (by rw [f14]; rfl))))
  have w5 : hV H7 30 5 = n9 := (uSlot f29 30 5 (by rw [f28]; decide)).trans ((uSlot f21 30 5 (by rw [f20]; decide)).trans (uSame f18 30 5 (by rw [f0]; rfl) (by rw [f17]; rfl)))
  have w7 : hV H7 30 7 = n15 := uSame f29 30 7 (by rw [f0]; rfl) (by rw [f28]; rfl)
  have w13 : hV H7 30 13 = n11 := (uSlot f29 30 13 (by rw [f28]; decide)).trans (uSame f21 30 13 (by rw [f0]; rfl) (by rw [f20]; rfl))
  have wt : TKs H0 H7 := (((((((TKs_up f4 f0).trans (TKs_fr f10.1.2.1 (by decide +kernel))).trans (TKs_up f12 f0)).trans (TKs_up f15 f0)).trans (TKs_up f18 f0)).trans (TKs_up f21 f0)).trans (TKs_up f29 f0))
  have xt : TKs H0 H1 := (TKs_up f4 f0)
  have pk := f10.2
  unfold postb_122v at pk
  rw [(TKs_v xt).2.1, show n4 = 0 by omega] at pk
  have st := start_st pz.2.1 (w1.trans (by omega)) (w2.trans pk) (w3.trans (by omega)) (w5.trans (by omega)) wt (KS5_up f29 (KS5_up f21 (KS5_up f18 (KS5_up f15 (KS5_up f12 (KS5_le f10.1.1 (KS5_up f4 pz.1)))))))
  have bz := BI_zero (KB_up f29 (KB_up f21 (KB_up f18 (KB_up f15 (KB_up f12 (KB_le f10.1.1 (KB_up f4 pz.2.2))))))) (w13.trans (by omega))
  have r2 := f24
  rw [f0] at r2
  rw [show ((30 : Int)).toNat = 30 from rfl] at r2
  have x2 : hV H6 30 2 = n5 := (uSlot f21 30 2 (by rw [f20]; decide)).trans ((uSlot f18 30 2 (by rw [f17]; decide)).trans ((uSlot f15 30 2 (by rw [f14]; decide)).trans (uSame f12 30 2 (by rw [f0]; rfl) (by rw [f11]; rfl))))
  have yt : TKs H0 H6 := ((((((TKs_up f4 f0).trans (TKs_fr f10.1.2.1 (by decide +kernel))).trans (TKs_up f12 f0)).trans (TKs_up f15 f0)).trans (TKs_up f18 f0)).trans (TKs_up f21 f0))
  have v := (TKs_v wt).1
  unfold postb_61v
  exact ⟨st.1, st.2, bz.1, bz.2, w13.trans (by omega), by omega, v⟩
theorem c_61v_s_2 : vOkm T0 (eP e_61v L_61v A_61v mu_61v none) 1 ([(80, [0, 16, 15], [7, 6], 0), (0, [16], [], 7), (0, [15], [], 1), (40, [13, 14], [], 0), (0, [14], [], 19), (20, [13, 0], [6], 2), (90, [13], [], -2147483648), (91, [13], [], 2147483647), (80, [0, 12, 11], [6, 5], 0), (0, [12], [], 13), (0, [11], [], 0), (80, [0, 10, 9], [5, 4], 0), (0, [10], [], 5), (0, [9], [], 0), (80, [0, 8, 7], [4, 3], 0), (0, [8], [], 3), (0, [7], [], 0), (80, [0, 6, 5], [3, 2], 0), (0, [6], [], 2), (1122, [5, 3, 4], [1, 2], 0), (90, [5], [], -2147483648), (91, [5], [], 2147483647), (0, [4], [], 0), (20, [3, 0], [1], 0), (0, [3], [], 31), (80, [0, 2, 1], [1, 0], 0), (0, [2], [], 1), (0, [1], [], 0), (6000, [0], [0], 0), (0, [0], [], 30)], (3000, [], [7], 50)) := vOk_in fun ρ η h => by
  obtain ⟨f0, f1, f2, f3, f4, f5, f6, f7, f8, f9, f10, f11, f12, f13, f14, f15, f16, f17, f18, f19, f20, f21, f22, f23, f24, f25, f26, f27, f28, f29, _⟩ := h
  exact q_61v_2 (n0 := ρ 0) (n1 := ρ 1) (n2 := ρ 2) (n3 := ρ 3) (n4 := ρ 4) (n5 := ρ 5) (n6 := ρ 6) (n7 := ρ 7) (n8 := ρ 8) (n9 := ρ 9) (n10 := ρ 10) (n11 := ρ 11) (n12 := ρ 12) (n13 := ρ 13) (n14 := ρ 14) (n15 := ρ 15) (n16 := ρ 16) (H0 := η 0) (H1 := η 1) (H2 := η 2) (H3 := η 3) (H4 := η 4) (H5 := η 5) (H6 := η 6) (H7 := η 7) f29 f28 f27 f26 f25 f24 f23 f22 f21 f20 f19 f18 f17 f16 f15 f14 f13 f12 f11 f10 f9 f8 f7 f6 f5 f4 f3 f2 f1 f0
def p_61v_s : List vG := [([(0, [4], [], 0), (20, [3, 0], [1], 0), (0, [3], [], 31), (80, [0, 2, 1], [1, 0], 0), (0, [2], [], 1), (0, [1], [], 0), (6000, [0], [0], 0), (0, [0], [], 30)], (2122, [3, 4], [1], 0)),
  ([(80, [0, 16, 15], [7, 6], 0), (0, [16], [], 7), (0, [15], [], 0), (41, [13, 14], [], 0), (0, [14], [], 19), (20, [13, 0], [6], 2), (90, [13], [], -2147483648), (91, [13], [], 2147483647), (80, [0, 12, 11], [6, 5], 0), (0, [12], [], 13), (0, [11], [], 0), (80, [0, 10, 9], [5, 4], 0), (0, [10], [], 5), (0, [9], [], 0), (80, [0, 8, 7], [4, 3], 0), (0, [8], [], 3), (0, [7], [], 0), (80, [0, 6, 5], [3, 2], 0), (0, [6], [], 2), (1122, [5, 3, 4], [1, 2], 0), (90, [5], [], -2147483648), (91, [5], [], 2147483647), (0, [4], [], 0), (20, [3, 0], [1], 0), (0, [3], [], 31), (80, [0, 2, 1], [1, 0], 0), (0, [2], [], 1), (0, [1], [], 0), (6000, [0], [0], 0), (0, [0], [], 30)], (3000, [], [7], 50)),
  ([(80, [0, 16, 15], [7, 6], 0), (0, [16], [], 7), (0, [15], [], 1), (40, [13, 14], [], 0), (0, [14], [], 19), (20, [13, 0], [6], 2), (90, [13], [], -2147483648), (91, [13], [], 2147483647), (80, [0, 12, 11], [6, 5], 0), (0, [12], [], 13), (0, [11], [], 0), (80, [0, 10, 9], [5, 4], 0), (0, [10], [], 5), (0, [9], [], 0), (80, [0, 8, 7], [4, 3], 0), (0, [8], [], 3), (0, [7], [], 0), (80, [0, 6, 5], [3, 2], 0), (0, [6], [], 2), (1122, [5, 3, 4], [1, 2], 0), (90, [5], [], -2147483648), (91, [5], [], 2147483647), (0, [4], [], 0), (20, [3, 0], [1], 0), (0, [3], [], 31), (80, [0, 2, 1], [1, 0], 0), (0, [2], [], 1), (0, [1], [], 0), (6000, [0], [0], 0), (0, [0], [], 30)], (3000, [], [7], 50))]
theorem r_61v_s : vCovO false (eR0 e_61v L_61v cs_61v 2000) p_61v_s = true := by decide +kernel
theorem m_61v (d : Nat) : eC e_61v (d + 2) := eC_ok (e := e_61v) (L := L_61v) (cs := cs_61v) (n := 2000) (d := d + 1) (A := A_61v) (μ := mu_61v) (tp := false) (p0 := p_61v_s) rfl ⟨m_122v d, trivial⟩ rfl (.inl rfl) (by decide +kernel) (fun z => nomatch z) r_61v_s (allC c_61v_s_0 (allC c_61v_s_1 (allC c_61v_s_2 allN))) allN
