/- Reader.readFade (LMixStage$Cue;)V -/
noncomputable def s_76v : vM := ([(3, 4, 30, 0), (3, 1, -1, 0)], (9, 0, 0, 0), 1, 0, [(1, 3), (1, 4), (1, 5), (1, 6), (1, 7), (1, 10), (1, 11), (4, 1), (4, 2), (4, 3), (4, 4), (4, 5), (4, 6)])
def preb_76v (a0 a1 : Int) (h : gH) : Prop := KI h
def pre_76v : List Int → gH → Prop := fun xs h => match xs with
  | [a0, a1] => preb_76v a0 a1 h
  | _ => False
def postb_76v (a0 a1 : Int) (h0 h : gH) : Prop := KI h ∧ absC h = pFade (vwC h0) (absC h0)
def post_76v : List Int → gH → gH → Prop := fun xs h0 h => match xs with
  | [a0, a1] => postb_76v a0 a1 h0 h
  | _ => True
noncomputable def e_76v : vE := (76, s_76v, pre_76v, post_76v)
noncomputable def L_76v : List vE := [e_66v, e_67v, e_81v]
def cs_76v : List vC := []
def A_76v : Int → List Int → gH → gH → Prop := fun c xs h0 h => True
def mu_76v : Int → List Int → gH → gH → Nat := fun c xs h0 h => 0
theorem q_76v_0 {n0 n1 n2 n3 : Int} {H0 : gH} (f0 : 0 ≤ n0) (f1 : n1 = 30) (f2 : hWt T0 H0 ∧ preb_76v n1 n0 H0) (f3 : n2 = 0) (f4 : n3 = 2) : preb_67v n1 n2 n3 H0 := by
  have pz := f2.2
  unfold preb_76v at pz
  unfold preb_67v
  exact pz
theorem c_76v_s_0 : vOkm T0 (eP e_76v L_76v A_76v mu_76v none) 2 ([(0, [3], [], 2), (0, [2], [], 0), (6000, [0, 1], [0], 0), (0, [0], [], 30), (51, [1], [], 0)], (2067, [0, 2, 3], [0], 0)) := vOk_in fun ρ η h => by
  obtain ⟨f0, f1, f2, f3, f4, _⟩ := h
  exact q_76v_0 (n0 := ρ 1) (n1 := ρ 0) (n2 := ρ 2) (n3 := ρ 3) (H0 := η 0) f4 f3 f2 f1 f0
theorem q_76v_1 {n0 n1 n2 n3 n4 n5 n6 : Int} {H0 H1 H2 : gH} (f0 : 0 ≤ n0) (f1 : n1 = 30) (f2 : hWt T0 H0 ∧ preb_76v n1 n0 H0) (f3 : n2 = 0) (f4 : n3 = 2) (f5 : n4 ≤ 2147483647) (f6 : (-2147483648) ≤ n4) (f7 : (hLe T0 H0 H1 ∧ hFr s_67v.2.2.2.2 H0 H1 ∧ ((0 : Int) = 0 → H1.length = H0.length) ∧ hWt T0 H1) ∧ postb_67v n4 n1 n2 n3 H0 H1) (f8 : hK H1 (n0).toNat = 1) (f9 : n5 = 3) (f10 : hUpd H2 H1 n0 n5 n4) (f11 : n6 = 27) : preb_66v n1 n6 H2 := by
  have pz := f2.2
  unfold preb_76v at pz
  have c0 := f7.2
  unfold postb_67v at c0
  try rw [f3] at c0
  try rw [f4] at c0
  have a0 : absC H1 = (pnm (vwC H0) 0 2 (absC H0)) := c0.2
  have v0 : vwC H1 = vwC H0 := (vwC_fr f7.1.2.1 (by decide +kernel))
  have s1 := PF_up f10 c0.1 f8
  have a1 : absC H2 = (pnm (vwC H0) 0 2 (absC H0)) := s1.1.trans a0
  have v1 : vwC H2 = vwC H0 := s1.2.1.trans v0
  unfold preb_66v
  exact ⟨s1.2.2, by omega⟩
theorem c_76v_s_1 : vOkm T0 (eP e_76v L_76v A_76v mu_76v none) 2 ([(0, [6], [], 27), (80, [1, 5, 4], [2, 1], 0), (0, [5], [], 3), (23, [1], [1], 1), (1067, [4, 0, 2, 3], [0, 1], 0), (90, [4], [], -2147483648), (91, [4], [], 2147483647), (0, [3], [], 2), (0, [2], [], 0), (6000, [0, 1], [0], 0), (0, [0], [], 30), (51, [1], [], 0)], (2066, [0, 6], [2], 0)) := vOk_in fun ρ η h => by
  obtain ⟨f0, f1, f2, f3, f4, f5, f6, f7, f8, f9, f10, f11, _⟩ := h
  exact q_76v_1 (n0 := ρ 1) (n1 := ρ 0) (n2 := ρ 2) (n3 := ρ 3) (n4 := ρ 4) (n5 := ρ 5) (n6 := ρ 6) (H0 := η 0) (H1 := η 1) (H2 := η 2) f11 f10 f9 f8 f7 f6 f5 f4 f3 f2 f1 f0
theorem q_76v_2 {n0 n1 n2 n3 n4 n5 n6 n7 : Int} {H0 H1 H2 H3 : gH} (f0 : 0 ≤ n0) (f1 : n1 = 30) (f2 : hWt T0 H0 ∧ preb_76v n1 n0 H0) (f3 : n2 = 0) (f4 : n3 = 2) (f5 : n4 ≤ 2147483647) (f6 : (-2147483648) ≤ n4) (f7 : (hLe T0 H0 H1 ∧ hFr s_67v.2.2.2.2 H0 H1 ∧ ((0 : Int) = 0 → H1.length = H0.length) ∧ hWt T0 H1) ∧ postb_67v n4 n1 n2 n3 H0 H1) (f8 : hK H1 (n0).toNat = 1) (f9 : n5 = 3) (f10 : hUpd H2 H1 n0 n5 n4) (f11 : n6 = 27) (f12 : (hLe T0 H2 H3 ∧ hFr s_66v.2.2.2.2 H2 H3 ∧ ((0 : Int) = 0 → H3.length = H2.length) ∧ hWt T0 H3) ∧ postb_66v n1 n6 H2 H3) (f13 : n7 = 0) : preb_81v n1 n0 n7 H3 := by
  have pz := f2.2
  unfold preb_76v at pz
  have c0 := f7.2
  unfold postb_67v at c0
  try rw [f3] at c0
  try rw [f4] at c0
  have a0 : absC H1 = (pnm (vwC H0) 0 2 (absC H0)) := c0.2
  have v0 : vwC H1 = vwC H0 := (vwC_fr f7.1.2.1 (by decide +kernel))
  have s1 := PF_up f10 c0.1 f8
  have a1 : absC H2 = (pnm (vwC H0) 0 2 (absC H0)) := s1.1.trans a0
  have v1 : vwC H2 = vwC H0 := s1.2.1.trans v0
  have c2 := f12.2
  unfold postb_66v at c2
  try rw [f11] at c2
  rw [v1] at c2
  rw [a1] at c2
  have a2 : absC H3 = (ptk (vwC H0) 27 (pnm (vwC H0) 0 2 (absC H0))) := c2.2
  have v2 : vwC H3 = vwC H0 := (vwC_fr f12.1.2.1 (by decide +kernel)).trans v1
  unfold preb_81v
  exact c2.1
theorem c_76v_s_2 : vOkm T0 (eP e_76v L_76v A_76v mu_76v none) 2 ([(0, [7], [], 0), (1066, [0, 6], [2, 3], 0), (0, [6], [], 27), (80, [1, 5, 4], [2, 1], 0), (0, [5], [], 3), (23, [1], [1], 1), (1067, [4, 0, 2, 3], [0, 1], 0), (90, [4], [], -2147483648), (91, [4], [], 2147483647), (0, [3], [], 2), (0, [2], [], 0), (6000, [0, 1], [0], 0), (0, [0], [], 30), (51, [1], [], 0)], (2081, [0, 1, 7], [3], 0)) := vOk_in fun ρ η h => by
  obtain ⟨f0, f1, f2, f3, f4, f5, f6, f7, f8, f9, f10, f11, f12, f13, _⟩ := h
  exact q_76v_2 (n0 := ρ 1) (n1 := ρ 0) (n2 := ρ 2) (n3 := ρ 3) (n4 := ρ 4) (n5 := ρ 5) (n6 := ρ 6) (n7 := ρ 7) (H0 := η 0) (H1 := η 1) (H2 := η 2) (H3 := η 3) f13 f12 f11 f10 f9 f8 f7 f6 f5 f4 f3 f2 f1 f0
theorem q_76v_3 {n0 n1 n2 n3 n4 n5 n6 n7 n8 : Int} {H0 H1 H2 H3 H4 : gH} (f0 : 0 ≤ n0) (f1 : n1 = 30) (f2 : hWt T0 H0 ∧ preb_76v n1 n0 H0) (f3 : n2 = 0) (f4 : n3 = 2) (f5 : n4 ≤ 2147483647) (f6 : (-2147483648) ≤ n4) (f7 : (hLe T0 H0 H1 ∧ hFr s_67v.2.2.2.2 H0 H1 ∧ ((0 : Int) = 0 → H1.length = H0.length) ∧ hWt T0 H1) ∧ postb_67v n4 n1 n2 n3 H0 H1) (f8 : hK H1 (n0).toNat = 1) (f9 : n5 = 3) (f10 : hUpd H2 H1 n0 n5 n4) (f11 : n6 = 27) (f12 : (hLe T0 H2 H3 ∧ hFr s_66v.2.2.2.2 H2 H3 ∧ ((0 : Int) = 0 → H3.length = H2.length) ∧ hWt T0 H3) ∧ postb_66v n1 n6 H2 H3) (f13 : n7 = 0) (f14 : (hLe T0 H3 H4 ∧ hFr s_81v.2.2.2.2 H3 H4 ∧ ((0 : Int) = 0 → H4.length = H3.length) ∧ hWt T0 H4) ∧ postb_81v n1 n0 n7 H3 H4) (f15 : n8 = 32) : preb_66v n1 n8 H4 := by
  have pz := f2.2
  unfold preb_76v at pz
  have c0 := f7.2
  unfold postb_67v at c0
  try rw [f3] at c0
  try rw [f4] at c0
  have a0 : absC H1 = (pnm (vwC H0) 0 2 (absC H0)) := c0.2
  have v0 : vwC H1 = vwC H0 := (vwC_fr f7.1.2.1 (by decide +kernel))
  have s1 := PF_up f10 c0.1 f8
  have a1 : absC H2 = (pnm (vwC H0) 0 2 (absC H0)) := s1.1.trans a0
  have v1 : vwC H2 = vwC H0 := s1.2.1.trans v0
  have c2 := f12.2
  unfold postb_66v at c2
  try rw [f11] at c2
  rw [v1] at c2
  rw [a1] at c2
  have a2 : absC H3 = (ptk (vwC H0) 27 (pnm (vwC H0) 0 2 (absC H0))) := c2.2
  have v2 : vwC H3 = vwC H0 := (vwC_fr f12.1.2.1 (by decide +kernel)).trans v1
  have c3 := f14.2
  unfold postb_81v at c3
  try rw [f13] at c3
  rw [v2] at c3
  rw [a2] at c3
  have a3 : absC H4 = (pTime (vwC H0) (ptk (vwC H0) 27 (pnm (vwC H0) 0 2 (absC H0)))) := c3.2
  have v3 : vwC H4 = vwC H0 := (vwC_fr f14.1.2.1 (by decide +kernel)).trans v2
  unfold preb_66v
  exact ⟨c3.1, by omega⟩
theorem c_76v_s_3 : vOkm T0 (eP e_76v L_76v A_76v mu_76v none) 2 ([(0, [8], [], 32), (1081, [0, 1, 7], [3, 4], 0), (0, [7], [], 0), (1066, [0, 6], [2, 3], 0), (0, [6], [], 27), (80, [1, 5, 4], [2, 1], 0), (0, [5], [], 3), (23, [1], [1], 1), (1067, [4, 0, 2, 3], [0, 1], 0), (90, [4], [], -2147483648), (91, [4], [], 2147483647), (0, [3], [], 2), (0, [2], [], 0), (6000, [0, 1], [0], 0), (0, [0], [], 30), (51, [1], [], 0)], (2066, [0, 8], [4], 0)) := vOk_in fun ρ η h => by
  obtain ⟨f0, f1, f2, f3, f4, f5, f6, f7, f8, f9, f10, f11, f12, f13, f14, f15, _⟩ := h
  exact q_76v_3 (n0 := ρ 1) (n1 := ρ 0) (n2 := ρ 2) (n3 := ρ 3) (n4 := ρ 4) (n5 := ρ 5) (n6 := ρ 6) (n7 := ρ 7) (n8 := ρ 8) (H0 := η 0) (H1 := η 1) (H2 := η 2) (H3 := η 3) (H4 := η 4) f15 f14 f13 f12 f11 f10 f9 f8 f7 f6 f5 f4 f3 f2 f1 f0
theorem q_76v_4 {n0 n1 n2 n3 n4 n5 n6 n7 n8 n9 : Int} {H0 H1 H2 H3 H4 H5 : gH} (f0 : 0 ≤ n0) (f1 : n1 = 30) (f2 : hWt T0 H0 ∧ preb_76v n1 n0 H0) (f3 : n2 = 0) (f4 : n3 = 2) (f5 : n4 ≤ 2147483647) (f6 : (-2147483648) ≤ n4) (f7 : (hLe T0 H0 H1 ∧ hFr s_67v.2.2.2.2 H0 H1 ∧ ((0 : Int) = 0 → H1.length = H0.length) ∧ hWt T0 H1) ∧ postb_67v n4 n1 n2 n3 H0 H1) (f8 : hK H1 (n0).toNat = 1) (f9 : n5 = 3) (f10 : hUpd H2 H1 n0 n5 n4) (f11 : n6 = 27) (f12 : (hLe T0 H2 H3 ∧ hFr s_66v.2.2.2.2 H2 H3 ∧ ((0 : Int) = 0 → H3.length = H2.length) ∧ hWt T0 H3) ∧ postb_66v n1 n6 H2 H3) (f13 : n7 = 0) (f14 : (hLe T0 H3 H4 ∧ hFr s_81v.2.2.2.2 H3 H4 ∧ ((0 : Int) = 0 → H4.length = H3.length) ∧ hWt T0 H4) ∧ postb_81v n1 n0 n7 H3 H4) (f15 : n8 = 32) (f16 : (hLe T0 H4 H5 ∧ hFr s_66v.2.2.2.2 H4 H5 ∧ ((0 : Int) = 0 → H5.length = H4.length) ∧ hWt T0 H5) ∧ postb_66v n1 n8 H4 H5) (f17 : n9 = 1) : preb_81v n1 n0 n9 H5 := by
  have pz := f2.2
  unfold preb_76v at pz
  have c0 := f7.2
  unfold postb_67v at c0
  try rw [f3] at c0
  try rw [f4] at c0
  have a0 : absC H1 = (pnm (vwC H0) 0 2 (absC H0)) := c0.2
  have v0 : vwC H1 = vwC H0 := (vwC_fr f7.1.2.1 (by decide +kernel))
  have s1 := PF_up f10 c0.1 f8
  have a1 : absC H2 = (pnm (vwC H0) 0 2 (absC H0)) := s1.1.trans a0
  have v1 : vwC H2 = vwC H0 := s1.2.1.trans v0
  have c2 := f12.2
  unfold postb_66v at c2
  try rw [f11] at c2
  rw [v1] at c2
  rw [a1] at c2
  have a2 : absC H3 = (ptk (vwC H0) 27 (pnm (vwC H0) 0 2 (absC H0))) := c2.2
  have v2 : vwC H3 = vwC H0 := (vwC_fr f12.1.2.1 (by decide +kernel)).trans v1
  have c3 := f14.2
  unfold postb_81v at c3
  try rw [f13] at c3
  rw [v2] at c3
  rw [a2] at c3
  have a3 : absC H4 = (pTime (vwC H0) (ptk (vwC H0) 27 (pnm (vwC H0) 0 2 (absC H0)))) := c3.2
  have v3 : vwC H4 = vwC H0 := (vwC_fr f14.1.2.1 (by decide +kernel)).trans v2
  have c4 := f16.2
  unfold postb_66v at c4
  try rw [f15] at c4
  rw [v3] at c4
  rw [a3] at c4
  have a4 : absC H5 = (ptk (vwC H0) 32 (pTime (vwC H0) (ptk (vwC H0) 27 (pnm (vwC H0) 0 2 (absC H0))))) := c4.2
  have v4 : vwC H5 = vwC H0 := (vwC_fr f16.1.2.1 (by decide +kernel)).trans v3
  unfold preb_81v
  exact c4.1
theorem c_76v_s_4 : vOkm T0 (eP e_76v L_76v A_76v mu_76v none) 2 ([(0, [9], [], 1), (1066, [0, 8], [4, 5], 0), (0, [8], [], 32), (1081, [0, 1, 7], [3, 4], 0), (0, [7], [], 0), (1066, [0, 6], [2, 3], 0), (0, [6], [], 27), (80, [1, 5, 4], [2, 1], 0), (0, [5], [], 3), (23, [1], [1], 1), (1067, [4, 0, 2, 3], [0, 1], 0), (90, [4], [], -2147483648), (91, [4], [], 2147483647), (0, [3], [], 2), (0, [2], [], 0), (6000, [0, 1], [0], 0), (0, [0], [], 30), (51, [1], [], 0)], (2081, [0, 1, 9], [5], 0)) := vOk_in fun ρ η h => by
  obtain ⟨f0, f1, f2, f3, f4, f5, f6, f7, f8, f9, f10, f11, f12, f13, f14, f15, f16, f17, _⟩ := h
  exact q_76v_4 (n0 := ρ 1) (n1 := ρ 0) (n2 := ρ 2) (n3 := ρ 3) (n4 := ρ 4) (n5 := ρ 5) (n6 := ρ 6) (n7 := ρ 7) (n8 := ρ 8) (n9 := ρ 9) (H0 := η 0) (H1 := η 1) (H2 := η 2) (H3 := η 3) (H4 := η 4) (H5 := η 5) f17 f16 f15 f14 f13 f12 f11 f10 f9 f8 f7 f6 f5 f4 f3 f2 f1 f0
theorem q_76v_5 {n0 n1 n2 n3 n4 n5 n6 n7 n8 n9 n10 : Int} {H0 H1 H2 H3 H4 H5 H6 : gH} (f0 : 0 ≤ n0) (f1 : n1 = 30) (f2 : hWt T0 H0 ∧ preb_76v n1 n0 H0) (f3 : n2 = 0) (f4 : n3 = 2) (f5 : n4 ≤ 2147483647) (f6 : (-2147483648) ≤ n4) (f7 : (hLe T0 H0 H1 ∧ hFr s_67v.2.2.2.2 H0 H1 ∧ ((0 : Int) = 0 → H1.length = H0.length) ∧ hWt T0 H1) ∧ postb_67v n4 n1 n2 n3 H0 H1) (f8 : hK H1 (n0).toNat = 1) (f9 : n5 = 3) (f10 : hUpd H2 H1 n0 n5 n4) (f11 : n6 = 27) (f12 : (hLe T0 H2 H3 ∧ hFr s_66v.2.2.2.2 H2 H3 ∧ ((0 : Int) = 0 → H3.length = H2.length) ∧ hWt T0 H3) ∧ postb_66v n1 n6 H2 H3) (f13 : n7 = 0) (f14 : (hLe T0 H3 H4 ∧ hFr s_81v.2.2.2.2 H3 H4 ∧ ((0 : Int) = 0 → H4.length = H3.length) ∧ hWt T0 H4) ∧ postb_81v n1 n0 n7 H3 H4) (f15 : n8 = 32) (f16 : (hLe T0 H4 H5 ∧ hFr s_66v.2.2.2.2 H4 H5 ∧ ((0 : Int) = 0 → H5.length = H4.length) ∧ hWt T0 H5) ∧ postb_66v n1 n8 H4 H5) (f17 : n9 = 1) (f18 : (hLe T0 H5 H6 ∧ hFr s_81v.2.2.2.2 H5 H6 ∧ ((0 : Int) = 0 → H6.length = H5.length) ∧ hWt T0 H6) ∧ postb_81v n1 n0 n9 H5 H6) (f19 : n10 = 29) : preb_66v n1 n10 H6 := by
  have pz := f2.2
  unfold preb_76v at pz
  have c0 := f7.2
  unfold postb_67v at c0
  try rw [f3] at c0
  try rw [f4] at c0
  have a0 : absC H1 = (pnm (vwC H0) 0 2 (absC H0)) := c0.2
  have v0 : vwC H1 = vwC H0 := (vwC_fr f7.1.2.1 (by decide +kernel))
  have s1 := PF_up f10 c0.1 f8
  have a1 : absC H2 = (pnm (vwC H0) 0 2 (absC H0)) := s1.1.trans a0
  have v1 : vwC H2 = vwC H0 := s1.2.1.trans v0
  have c2 := f12.2
  unfold postb_66v at c2
  try rw [f11] at c2
  rw [v1] at c2
  rw [a1] at c2
  have a2 : absC H3 = (ptk (vwC H0) 27 (pnm (vwC H0) 0 2 (absC H0))) := c2.2
  have v2 : vwC H3 = vwC H0 := (vwC_fr f12.1.2.1 (by decide +kernel)).trans v1
  have c3 := f14.2
  unfold postb_81v at c3
  try rw [f13] at c3
  rw [v2] at c3
  rw [a2] at c3
  have a3 : absC H4 = (pTime (vwC H0) (ptk (vwC H0) 27 (pnm (vwC H0) 0 2 (absC H0)))) := c3.2
  have v3 : vwC H4 = vwC H0 := (vwC_fr f14.1.2.1 (by decide +kernel)).trans v2
  have c4 := f16.2
  unfold postb_66v at c4
  try rw [f15] at c4
  rw [v3] at c4
  rw [a3] at c4
  have a4 : absC H5 = (ptk (vwC H0) 32 (pTime (vwC H0) (ptk (vwC H0) 27 (pnm (vwC H0) 0 2 (absC H0))))) := c4.2
  have v4 : vwC H5 = vwC H0 := (vwC_fr f16.1.2.1 (by decide +kernel)).trans v3
  have c5 := f18.2
  unfold postb_81v at c5
  try rw [f17] at c5
  rw [v4] at c5
  rw [a4] at c5
  have a5 : absC H6 = (pTime (vwC H0) (ptk (vwC H0) 32 (pTime (vwC H0) (ptk (vwC H0) 27 (pnm (vwC H0) 0 2 (absC H0)))))) := c5.2
  have v5 : vwC H6 = vwC H0 := (vwC_fr f18.1.2.1 (by decide +kernel)).trans v4
  unfold preb_66v
  exact ⟨c5.1, by omega⟩
theorem c_76v_s_5 : vOkm T0 (eP e_76v L_76v A_76v mu_76v none) 2 ([(0, [10], [], 29), (1081, [0, 1, 9], [5, 6], 0), (0, [9], [], 1), (1066, [0, 8], [4, 5], 0), (0, [8], [], 32), (1081, [0, 1, 7], [3, 4], 0), (0, [7], [], 0), (1066, [0, 6], [2, 3], 0), (0, [6], [], 27), (80, [1, 5, 4], [2, 1], 0), (0, [5], [], 3), (23, [1], [1], 1), (1067, [4, 0, 2, 3], [0, 1], 0), (90, [4], [], -2147483648), (91, [4], [], 2147483647), (0, [3], [], 2), (0, [2], [], 0), (6000, [0, 1], [0], 0), (0, [0], [], 30), (51, [1], [], 0)], (2066, [0, 10], [6], 0)) := vOk_in fun ρ η h => by
  obtain ⟨f0, f1, f2, f3, f4, f5, f6, f7, f8, f9, f10, f11, f12, f13, f14, f15, f16, f17, f18, f19, _⟩ := h
  exact q_76v_5 (n0 := ρ 1) (n1 := ρ 0) (n2 := ρ 2) (n3 := ρ 3) (n4 := ρ 4) (n5 := ρ 5) (n6 := ρ 6) (n7 := ρ 7) (n8 := ρ 8) (n9 := ρ 9) (n10 := ρ 10) (H0 := η 0) (H1 := η 1) (H2 := η 2) (H3 := η 3) (H4 := η 4) (H5 := η 5) (H6 := η 6) f19 f18 f17 f16 f15 f14 f13 f12 f11 f10 f9 f8 f7 f6 f5 f4 f3 f2 f1 f0
theorem q_76v_6 {n0 n1 n2 n3 n4 n5 n6 n7 n8 n9 n10 n11 n12 : Int} {H0 H1 H2 H3 H4 H5 H6 H7 : gH} (f0 : 0 ≤ n0) (f1 : n1 = 30) (f2 : hWt T0 H0 ∧ preb_76v n1 n0 H0) (f3 : n2 = 0) (f4 : n3 = 2) (f5 : n4 ≤ 2147483647) (f6 : (-2147483648) ≤ n4) (f7 : (hLe T0 H0 H1 ∧ hFr s_67v.2.2.2.2 H0 H1 ∧ ((0 : Int) = 0 → H1.length = H0.length) ∧ hWt T0 H1) ∧ postb_67v n4 n1 n2 n3 H0 H1) (f8 : hK H1 (n0).toNat = 1) (f9 : n5 = 3) (f10 : hUpd H2 H1 n0 n5 n4) (f11 : n6 = 27) (f12 : (hLe T0 H2 H3 ∧ hFr s_66v.2.2.2.2 H2 H3 ∧ ((0 : Int) = 0 → H3.length = H2.length) ∧ hWt T0 H3) ∧ postb_66v n1 n6 H2 H3) (f13 : n7 = 0) (f14 : (hLe T0 H3 H4 ∧ hFr s_81v.2.2.2.2 H3 H4 ∧ ((0 : Int) = 0 → H4.length = H3.length) ∧ hWt T0 H4) ∧ postb_81v n1 n0 n7 H3 H4) (f15 : n8 = 32) (f16 : (hLe T0 H4 H5 ∧ hFr s_66v.2.2.2.2 H4 H5 ∧ ((0 : Int) = 0 → H5.length = H4.length) ∧ hWt T0 H5) ∧ postb_66v n1 n8 H4 H5) (f17 : n9 = 1) (f18 : (hLe T0 H5 H6 ∧ hFr s_81v.2.2.2.2 H5 H6 ∧ ((0 : Int) = 0 → H6.length = H5.length) ∧ hWt T0 H6) ∧ postb_81v n1 n0 n9 H5 H6) (f19 : n10 = 29) (f20 : (hLe T0 H6 H7 ∧ hFr s_66v.2.2.2.2 H6 H7 ∧ ((0 : Int) = 0 → H7.length = H6.length) ∧ hWt T0 H7) ∧ postb_66v n1 n10 H6 H7) (f21 : n11 = 0) (f22 : n12 = 400) : preb_67v n1 n11 n12 H7 := by
  have pz := f2.2
  unfold preb_76v at pz
  have c0 := f7.2
  unfold postb_67v at c0
  try rw [f3] at c0
  try rw [f4] at c0
  have a0 : absC H1 = (pnm (vwC H0) 0 2 (absC H0)) := c0.2
  have v0 : vwC H1 = vwC H0 := (vwC_fr f7.1.2.1 (by decide +kernel))
  have s1 := PF_up f10 c0.1 f8
  have a1 : absC H2 = (pnm (vwC H0) 0 2 (absC H0)) := s1.1.trans a0
  have v1 : vwC H2 = vwC H0 := s1.2.1.trans v0
  have c2 := f12.2
  unfold postb_66v at c2
  try rw [f11] at c2
  rw [v1] at c2
  rw [a1] at c2
  have a2 : absC H3 = (ptk (vwC H0) 27 (pnm (vwC H0) 0 2 (absC H0))) := c2.2
  have v2 : vwC H3 = vwC H0 := (vwC_fr f12.1.2.1 (by decide +kernel)).trans v1
  have c3 := f14.2
  unfold postb_81v at c3
  try rw [f13] at c3
  rw [v2] at c3
  rw [a2] at c3
  have a3 : absC H4 = (pTime (vwC H0) (ptk (vwC H0) 27 (pnm (vwC H0) 0 2 (absC H0)))) := c3.2
  have v3 : vwC H4 = vwC H0 := (vwC_fr f14.1.2.1 (by decide +kernel)).trans v2
  have c4 := f16.2
  unfold postb_66v at c4
  try rw [f15] at c4
  rw [v3] at c4
  rw [a3] at c4
  have a4 : absC H5 = (ptk (vwC H0) 32 (pTime (vwC H0) (ptk (vwC H0) 27 (pnm (vwC H0) 0 2 (absC H0))))) := c4.2
  have v4 : vwC H5 = vwC H0 := (vwC_fr f16.1.2.1 (by decide +kernel)).trans v3
  have c5 := f18.2
  unfold postb_81v at c5
  try rw [f17] at c5
  rw [v4] at c5
  rw [a4] at c5
  have a5 : absC H6 = (pTime (vwC H0) (ptk (vwC H0) 32 (pTime (vwC H0) (ptk (vwC H0) 27 (pnm (vwC H0) 0 2 (absC H0)))))) := c5.2
  have v5 : vwC H6 = vwC H0 := (vwC_fr f18.1.2.1 (by decide +kernel)).trans v4
  have c6 := f20.2
  unfold postb_66v at c6
  try rw [f19] at c6
  rw [v5] at c6
  rw [a5] at c6
  have a6 : absC H7 = (ptk (vwC H0) 29 (pTime (vwC H0) (ptk (vwC H0) 32 (pTime (vwC H0) (ptk (vwC H0) 27 (pnm (vwC H0) 0 2 (absC H0))))))) := c6.2
  have v6 : vwC H7 = vwC H0 := (vwC_fr f20.1.2.1 (by decide +kernel)).trans v5
  unfold preb_67v
  exact c6.1
theorem c_76v_s_6 : vOkm T0 (eP e_76v L_76v A_76v mu_76v none) 2 ([(0, [12], [], 400), (0, [11], [], 0), (1066, [0, 10], [6, 7], 0), (0, [10], [], 29), (1081, [0, 1, 9], [5, 6], 0), (0, [9], [], 1), (1066, [0, 8], [4, 5], 0), (0, [8], [], 32), (1081, [0, 1, 7], [3, 4], 0), (0, [7], [], 0), (1066, [0, 6], [2, 3], 0), (0, [6], [], 27), (80, [1, 5, 4], [2, 1], 0), (0, [5], [], 3), (23, [1], [1], 1), (1067, [4, 0, 2, 3], [0, 1], 0), (90, [4], [], -2147483648), (91, [4], [], 2147483647), (0, [3], [], 2), (0, [2], [], 0), (6000, [0, 1], [0], 0), (0, [0], [], 30), (51, [1], [], 0)], (2067, [0, 11, 12], [7], 0)) := vOk_in fun ρ η h => by
  obtain ⟨f0, f1, f2, f3, f4, f5, f6, f7, f8, f9, f10, f11, f12, f13, f14, f15, f16, f17, f18, f19, f20, f21, f22, _⟩ := h
  exact q_76v_6 (n0 := ρ 1) (n1 := ρ 0) (n2 := ρ 2) (n3 := ρ 3) (n4 := ρ 4) (n5 := ρ 5) (n6 := ρ 6) (n7 := ρ 7) (n8 := ρ 8) (n9 := ρ 9) (n10 := ρ 10) (n11 := ρ 11) (n12 := ρ 12) (H0 := η 0) (H1 := η 1) (H2 := η 2) (H3 := η 3) (H4 := η 4) (H5 := η 5) (H6 := η 6) (H7 := η 7) f22 f21 f20 f19 f18 f17 f16 f15 f14 f13 f12 f11 f10 f9 f8 f7 f6 f5 f4 f3 f2 f1 f0
theorem q_76v_7 {n0 n1 n2 n3 n4 n5 n6 n7 n8 n9 n10 n11 n12 n13 n14 n15 : Int} {H0 H1 H2 H3 H4 H5 H6 H7 H8 H9 : gH} (f0 : 0 ≤ n0) (f1 : n1 = 30) (f2 : hWt T0 H0 ∧ preb_76v n1 n0 H0) (f3 : n2 = 0) (f4 : n3 = 2) (f5 : n4 ≤ 2147483647) (f6 : (-2147483648) ≤ n4) (f7 : (hLe T0 H0 H1 ∧ hFr s_67v.2.2.2.2 H0 H1 ∧ ((0 : Int) = 0 → H1.length = H0.length) ∧ hWt T0 H1) ∧ postb_67v n4 n1 n2 n3 H0 H1) (f8 : hK H1 (n0).toNat = 1) (f9 : n5 = 3) (f10 : hUpd H2 H1 n0 n5 n4) (f11 : n6 = 27) (f12 : (hLe T0 H2 H3 ∧ hFr s_66v.2.2.2.2 H2 H3 ∧ ((0 : Int) = 0 → H3.length = H2.length) ∧ hWt T0 H3) ∧ postb_66v n1 n6 H2 H3) (f13 : n7 = 0) (f14 : (hLe T0 H3 H4 ∧ hFr s_81v.2.2.2.2 H3 H4 ∧ ((0 : Int) = 0 → H4.length = H3.length) ∧ hWt T0 H4) ∧ postb_81v n1 n0 n7 H3 H4) (f15 : n8 = 32) (f16 : (hLe T0 H4 H5 ∧ hFr s_66v.2.2.2.2 H4 H5 ∧ ((0 : Int) = 0 → H5.length = H4.length) ∧ hWt T0 H5) ∧ postb_66v n1 n8 H4 H5) (f17 : n9 = 1) (f18 : (hLe T0 H5 H6 ∧ hFr s_81v.2.2.2.2 H5 H6 ∧ ((0 : Int) = 0 → H6.length = H5.length) ∧ hWt T0 H6) ∧ postb_81v n1 n0 n9 H5 H6) (f19 : n10 = 29) (f20 : (hLe T0 H6 H7 ∧ hFr s_66v.2.2.2.2 H6 H7 ∧ ((0 : Int) = 0 → H7.length = H6.length) ∧ hWt T0 H7) ∧ postb_66v n1 n10 H6 H7) (f21 : n11 = 0) (f22 : n12 = 400) (f23 : n13 ≤ 2147483647) (f24 : (-2147483648) ≤ n13) (f25 : (hLe T0 H7 H8 ∧ hFr s_67v.2.2.2.2 H7 H8 ∧ ((0 : Int) = 0 → H8.length = H7.length) ∧ hWt T0 H8) ∧ postb_67v n13 n1 n11 n12 H7 H8) (f26 : hK H8 (n0).toNat = 1) (f27 : n14 = 10) (f28 : hUpd H9 H8 n0 n14 n13) (f29 : n15 = 5) : preb_66v n1 n15 H9 := by
  have pz := f2.2
  unfold preb_76v at pz
  have c0 := f7.2
  unfold postb_67v at c0
  try rw [f3] at c0
  try rw [f4] at c0
  have a0 : absC H1 = (pnm (vwC H0) 0 2 (absC H0)) := c0.2
  have v0 : vwC H1 = vwC H0 := (vwC_fr f7.1.2.1 (by decide +kernel))
  have s1 := PF_up f10 c0.1 f8
  have a1 : absC H2 = (pnm (vwC H0) 0 2 (absC H0)) := s1.1.trans a0
  have v1 : vwC H2 = vwC H0 := s1.2.1.trans v0
  have c2 := f12.2
  unfold postb_66v at c2
  try rw [f11] at c2
  rw [v1] at c2
  rw [a1] at c2
  have a2 : absC H3 = (ptk (vwC H0) 27 (pnm (vwC H0) 0 2 (absC H0))) := c2.2
  have v2 : vwC H3 = vwC H0 := (vwC_fr f12.1.2.1 (by decide +kernel)).trans v1
  have c3 := f14.2
  unfold postb_81v at c3
  try rw [f13] at c3
  rw [v2] at c3
  rw [a2] at c3
  have a3 : absC H4 = (pTime (vwC H0) (ptk (vwC H0) 27 (pnm (vwC H0) 0 2 (absC H0)))) := c3.2
  have v3 : vwC H4 = vwC H0 := (vwC_fr f14.1.2.1 (by decide +kernel)).trans v2
  have c4 := f16.2
  unfold postb_66v at c4
  try rw [f15] at c4
  rw [v3] at c4
  rw [a3] at c4
  have a4 : absC H5 = (ptk (vwC H0) 32 (pTime (vwC H0) (ptk (vwC H0) 27 (pnm (vwC H0) 0 2 (absC H0))))) := c4.2
  have v4 : vwC H5 = vwC H0 := (vwC_fr f16.1.2.1 (by decide +kernel)).trans v3
  have c5 := f18.2
  unfold postb_81v at c5
  try rw [f17] at c5
  rw [v4] at c5
  rw [a4] at c5
  have a5 : absC H6 = (pTime (vwC H0) (ptk (vwC H0) 32 (pTime (vwC H0) (ptk (vwC H0) 27 (pnm (vwC H0) 0 2 (absC H0)))))) := c5.2
  have v5 : vwC H6 = vwC H0 := (vwC_fr f18.1.2.1 (by decide +kernel)).trans v4
  have c6 := f20.2
  unfold postb_66v at c6
  try rw [f19] at c6
  rw [v5] at c6
  rw [a5] at c6
  have a6 : absC H7 = (ptk (vwC H0) 29 (pTime (vwC H0) (ptk (vwC H0) 32 (pTime (vwC H0) (ptk (vwC H0) 27 (pnm (vwC H0) 0 2 (absC H0))))))) := c6.2
  have v6 : vwC H7 = vwC H0 := (vwC_fr f20.1.2.1 (by decide +kernel)).trans v5
  have c7 := f25.2
  unfold postb_67v at c7
  try rw [f21] at c7
  try rw [f22] at c7
  rw [v6] at c7
  rw [a6] at c7
  have a7 : absC H8 = (pnm (vwC H0) 0 400 (ptk (vwC H0) 29 (pTime (vwC H0) (ptk (vwC H0) 32 (pTime (vwC H0) (ptk (vwC H0) 27 (pnm (vwC H0) 0 2 (absC H0)))))))) := c7.2
  have v7 : vwC H8 = vwC H0 := (vwC_fr f25.1.2.1 (by decide +kernel)).trans v6
  have s8 := PF_up f28 c7.1 f26
  have a8 : absC H9 = (pnm (vwC H0) 0 400 (ptk (vwC H0) 29 (pTime (vwC H0) (ptk (vwC H0) 32 (pTime (vwC H0) (ptk (vwC H0) 27 (pnm (vwC H0) 0 2 (absC H0)))))))) := s8.1.trans a7
  have v8 : vwC H9 = vwC H0 := s8.2.1.trans v7
  unfold preb_66v
  exact ⟨s8.2.2, by omega⟩
theorem c_76v_s_7 : vOkm T0 (eP e_76v L_76v A_76v mu_76v none) 2 ([(0, [15], [], 5), (80, [1, 14, 13], [9, 8], 0), (0, [14], [], 10), (23, [1], [8], 1), (1067, [13, 0, 11, 12], [7, 8], 0), (90, [13], [], -2147483648), (91, [13], [], 2147483647), (0, [12], [], 400), (0, [11], [], 0), (1066, [0, 10], [6, 7], 0), (0, [10], [], 29), (1081, [0, 1, 9], [5, 6], 0), (0, [9], [], 1), (1066, [0, 8], [4, 5], 0), (0, [8], [], 32), (1081, [0, 1, 7], [3, 4], 0), (0, [7], [], 0), (1066, [0, 6], [2, 3], 0), (0, [6], [], 27), (80, [1, 5, 4], [2, 1], 0), (0, [5], [], 3), (23, [1], [1], 1), (1067, [4, 0, 2, 3], [0, 1], 0), (90, [4], [], -2147483648), (91, [4], [], 2147483647), (0, [3], [], 2), (0, [2], [], 0), (6000, [0, 1], [0], 0), (0, [0], [], 30), (51, [1], [], 0)], (2066, [0, 15], [9], 0)) := vOk_in fun ρ η h => by
  obtain ⟨f0, f1, f2, f3, f4, f5, f6, f7, f8, f9, f10, f11, f12, f13, f14, f15, f16, f17, f18, f19, f20, f21, f22, f23, f24, f25, f26, f27, f28, f29, _⟩ := h
  exact q_76v_7 (n0 := ρ 1) (n1 := ρ 0) (n2 := ρ 2) (n3 := ρ 3) (n4 := ρ 4) (n5 := ρ 5) (n6 := ρ 6) (n7 := ρ 7) (n8 := ρ 8) (n9 := ρ 9) (n10 := ρ 10) (n11 := ρ 11) (n12 := ρ 12) (n13 := ρ 13) (n14 := ρ 14) (n15 := ρ 15) (H0 := η 0) (H1 := η 1) (H2 := η 2) (H3 := η 3) (H4 := η 4) (H5 := η 5) (H6 := η 6) (H7 := η 7) (H8 := η 8) (H9 := η 9) f29 f28 f27 f26 f25 f24 f23 f22 f21 f20 f19 f18 f17 f16 f15 f14 f13 f12 f11 f10 f9 f8 f7 f6 f5 f4 f3 f2 f1 f0
theorem q_76v_8 {n0 n1 n2 n3 n4 n5 n6 n7 n8 n9 n10 n11 n12 n13 n14 n15 n16 n17 : Int} {H0 H1 H2 H3 H4 H5 H6 H7 H8 H9 H10 : gH} (f0 : 0 ≤ n0) (f1 : n1 = 30) (f2 : hWt T0 H0 ∧ preb_76v n1 n0 H0) (f3 : n2 = 0) (f4 : n3 = 2) (f5 : n4 ≤ 2147483647) (f6 : (-2147483648) ≤ n4) (f7 : (hLe T0 H0 H1 ∧ hFr s_67v.2.2.2.2 H0 H1 ∧ ((0 : Int) = 0 → H1.length = H0.length) ∧ hWt T0 H1) ∧ postb_67v n4 n1 n2 n3 H0 H1) (f8 : hK H1 (n0).toNat = 1) (f9 : n5 = 3) (f10 : hUpd H2 H1 n0 n5 n4) (f11 : n6 = 27) (f12 : (hLe T0 H2 H3 ∧ hFr s_66v.2.2.2.2 H2 H3 ∧ ((0 : Int) = 0 → H3.length = H2.length) ∧ hWt T0 H3) ∧ postb_66v n1 n6 H2 H3) (f13 : n7 = 0) (f14 : (hLe T0 H3 H4 ∧ hFr s_81v.2.2.2.2 H3 H4 ∧ ((0 : Int) = 0 → H4.length = H3.length) ∧ hWt T0 H4) ∧ postb_81v n1 n0 n7 H3 H4) (f15 : n8 = 32) (f16 : (hLe T0 H4 H5 ∧ hFr s_66v.2.2.2.2 H4 H5 ∧ ((0 : Int) = 0 → H5.length = H4.length) ∧ hWt T0 H5) ∧ postb_66v n1 n8 H4 H5) (f17 : n9 = 1) (f18 : (hLe T0 H5 H6 ∧ hFr s_81v.2.2.2.2 H5 H6 ∧ ((0 : Int) = 0 → H6.length = H5.length) ∧ hWt T0 H6) ∧ postb_81v n1 n0 n9 H5 H6) (f19 : n10 = 29) (f20 : (hLe T0 H6 H7 ∧ hFr s_66v.2.2.2.2 H6 H7 ∧ ((0 : Int) = 0 → H7.length = H6.length) ∧ hWt T0 H7) ∧ postb_66v n1 n10 H6 H7) (f21 : n11 = 0) (f22 : n12 = 400) (f23 : n13 ≤ 2147483647) (f24 : (-2147483648) ≤ n13) (f25 : (hLe T0 H7 H8 ∧ hFr s_67v.2.2.2.2 H7 H8 ∧ ((0 : Int) = 0 → H8.length = H7.length) ∧ hWt T0 H8) ∧ postb_67v n13 n1 n11 n12 H7 H8) (f26 : hK H8 (n0).toNat = 1) (f27 : n14 = 10) (f28 : hUpd H9 H8 n0 n14 n13) (f29 : n15 = 5) (f30 : (hLe T0 H9 H10 ∧ hFr s_66v.2.2.2.2 H9 H10 ∧ ((0 : Int) = 0 → H10.length = H9.length) ∧ hWt T0 H10) ∧ postb_66v n1 n15 H9 H10) (f31 : n16 = 0) (f32 : n17 = 400) : preb_67v n1 n16 n17 H10 := by
  have pz := f2.2
  unfold preb_76v at pz
  have c0 := f7.2
  unfold postb_67v at c0
  try rw [f3] at c0
  try rw [f4] at c0
  have a0 : absC H1 = (pnm (vwC H0) 0 2 (absC H0)) := c0.2
  have v0 : vwC H1 = vwC H0 := (vwC_fr f7.1.2.1 (by decide +kernel))
  have s1 := PF_up f10 c0.1 f8
  have a1 : absC H2 = (pnm (vwC H0) 0 2 (absC H0)) := s1.1.trans a0
  have v1 : vwC H2 = vwC H0 := s1.2.1.trans v0
  have c2 := f12.2
  unfold postb_66v at c2
  try rw [f11] at c2
  rw [v1] at c2
  rw [a1] at c2
  have a2 : absC H3 = (ptk (vwC H0) 27 (pnm (vwC H0) 0 2 (absC H0))) := c2.2
  have v2 : vwC H3 = vwC H0 := (vwC_fr f12.1.2.1 (by decide +kernel)).trans v1
  have c3 := f14.2
  unfold postb_81v at c3
  try rw [f13] at c3
  rw [v2] at c3
  rw [a2] at c3
  have a3 : absC H4 = (pTime (vwC H0) (ptk (vwC H0) 27 (pnm (vwC H0) 0 2 (absC H0)))) := c3.2
  have v3 : vwC H4 = vwC H0 := (vwC_fr f14.1.2.1 (by decide +kernel)).trans v2
  have c4 := f16.2
  unfold postb_66v at c4
  try rw [f15] at c4
  rw [v3] at c4
  rw [a3] at c4
  have a4 : absC H5 = (ptk (vwC H0) 32 (pTime (vwC H0) (ptk (vwC H0) 27 (pnm (vwC H0) 0 2 (absC H0))))) := c4.2
  have v4 : vwC H5 = vwC H0 := (vwC_fr f16.1.2.1 (by decide +kernel)).trans v3
  have c5 := f18.2
  unfold postb_81v at c5
  try rw [f17] at c5
  rw [v4] at c5
  rw [a4] at c5
  have a5 : absC H6 = (pTime (vwC H0) (ptk (vwC H0) 32 (pTime (vwC H0) (ptk (vwC H0) 27 (pnm (vwC H0) 0 2 (absC H0)))))) := c5.2
  have v5 : vwC H6 = vwC H0 := (vwC_fr f18.1.2.1 (by decide +kernel)).trans v4
  have c6 := f20.2
  unfold postb_66v at c6
  try rw [f19] at c6
  rw [v5] at c6
  rw [a5] at c6
  have a6 : absC H7 = (ptk (vwC H0) 29 (pTime (vwC H0) (ptk (vwC H0) 32 (pTime (vwC H0) (ptk (vwC H0) 27 (pnm (vwC H0) 0 2 (absC H0))))))) := c6.2
  have v6 : vwC H7 = vwC H0 := (vwC_fr f20.1.2.1 (by decide +kernel)).trans v5
  have c7 := f25.2
  unfold postb_67v at c7
  try rw [f21] at c7
  try rw [f22] at c7
  rw [v6] at c7
  rw [a6] at c7
  have a7 : absC H8 = (pnm (vwC H0) 0 400 (ptk (vwC H0) 29 (pTime (vwC H0) (ptk (vwC H0) 32 (pTime (vwC H0) (ptk (vwC H0) 27 (pnm (vwC H0) 0 2 (absC H0)))))))) := c7.2
  have v7 : vwC H8 = vwC H0 := (vwC_fr f25.1.2.1 (by decide +kernel)).trans v6
  have s8 := PF_up f28 c7.1 f26
  have a8 : absC H9 = (pnm (vwC H0) 0 400 (ptk (vwC H0) 29 (pTime (vwC H0) (ptk (vwC H0) 32 (pTime (vwC H0) (ptk (vwC H0) 27 (pnm (vwC H0) 0 2 (absC H0)))))))) := s8.1.trans a7
  have v8 : vwC H9 = vwC H0 := s8.2.1.trans v7
  have c9 := f30.2
  unfold postb_66v at c9
  try rw [f29] at c9
  rw [v8] at c9
  rw [a8] at c9
  have a9 : absC H10 = (ptk (vwC H0) 5 (pnm (vwC H0) 0 400 (ptk (vwC H0) 29 (pTime (vwC H0) (ptk (vwC H0) 32 (pTime (vwC H0) (ptk (vwC H0) 27 (pnm (vwC H0) 0 2 (absC H0))))))))) := c9.2
  have v9 : vwC H10 = vwC H0 := (vwC_fr f30.1.2.1 (by decide +kernel)).trans v8
  unfold preb_67v
  exact c9.1
theorem c_76v_s_8 : vOkm T0 (eP e_76v L_76v A_76v mu_76v none) 2 ([(0, [17], [], 400), (0, [16], [], 0), (1066, [0, 15], [9, 10], 0), (0, [15], [], 5), (80, [1, 14, 13], [9, 8], 0), (0, [14], [], 10), (23, [1], [8], 1), (1067, [13, 0, 11, 12], [7, 8], 0), (90, [13], [], -2147483648), (91, [13], [], 2147483647), (0, [12], [], 400), (0, [11], [], 0), (1066, [0, 10], [6, 7], 0), (0, [10], [], 29), (1081, [0, 1, 9], [5, 6], 0), (0, [9], [], 1), (1066, [0, 8], [4, 5], 0), (0, [8], [], 32), (1081, [0, 1, 7], [3, 4], 0), (0, [7], [], 0), (1066, [0, 6], [2, 3], 0), (0, [6], [], 27), (80, [1, 5, 4], [2, 1], 0), (0, [5], [], 3), (23, [1], [1], 1), (1067, [4, 0, 2, 3], [0, 1], 0), (90, [4], [], -2147483648), (91, [4], [], 2147483647), (0, [3], [], 2), (0, [2], [], 0), (6000, [0, 1], [0], 0), (0, [0], [], 30), (51, [1], [], 0)], (2067, [0, 16, 17], [10], 0)) := vOk_in fun ρ η h => by
  obtain ⟨f0, f1, f2, f3, f4, f5, f6, f7, f8, f9, f10, f11, f12, f13, f14, f15, f16, f17, f18, f19, f20, f21, f22, f23, f24, f25, f26, f27, f28, f29, f30, f31, f32, _⟩ := h
  exact q_76v_8 (n0 := ρ 1) (n1 := ρ 0) (n2 := ρ 2) (n3 := ρ 3) (n4 := ρ 4) (n5 := ρ 5) (n6 := ρ 6) (n7 := ρ 7) (n8 := ρ 8) (n9 := ρ 9) (n10 := ρ 10) (n11 := ρ 11) (n12 := ρ 12) (n13 := ρ 13) (n14 := ρ 14) (n15 := ρ 15) (n16 := ρ 16) (n17 := ρ 17) (H0 := η 0) (H1 := η 1) (H2 := η 2) (H3 := η 3) (H4 := η 4) (H5 := η 5) (H6 := η 6) (H7 := η 7) (H8 := η 8) (H9 := η 9) (H10 := η 10) f32 f31 f30 f29 f28 f27 f26 f25 f24 f23 f22 f21 f20 f19 f18 f17 f16 f15 f14 f13 f12 f11 f10 f9 f8 f7 f6 f5 f4 f3 f2 f1 f0
theorem q_76v_9 {n0 n1 n2 n3 n4 n5 n6 n7 n8 n9 n10 n11 n12 n13 n14 n15 n16 n17 n18 n19 : Int} {H0 H1 H2 H3 H4 H5 H6 H7 H8 H9 H10 H11 H12 : gH} (f0 : 0 ≤ n0) (f1 : n1 = 30) (f2 : hWt T0 H0 ∧ preb_76v n1 n0 H0) (f3 : n2 = 0) (f4 : n3 = 2) (f5 : n4 ≤ 2147483647) (f6 : (-2147483648) ≤ n4) (f7 : (hLe T0 H0 H1 ∧ hFr s_67v.2.2.2.2 H0 H1 ∧ ((0 : Int) = 0 → H1.length = H0.length) ∧ hWt T0 H1) ∧ postb_67v n4 n1 n2 n3 H0 H1) (f8 : hK H1 (n0).toNat = 1) (f9 : n5 = 3) (f10 : hUpd H2 H1 n0 n5 n4) (f11 : n6 = 27) (f12 : (hLe T0 H2 H3 ∧ hFr s_66v.2.2.2.2 H2 H3 ∧ ((0 : Int) = 0 → H3.length = H2.length) ∧ hWt T0 H3) ∧ postb_66v n1 n6 H2 H3) (f13 : n7 = 0) (f14 : (hLe T0 H3 H4 ∧ hFr s_81v.2.2.2.2 H3 H4 ∧ ((0 : Int) = 0 → H4.length = H3.length) ∧ hWt T0 H4) ∧ postb_81v n1 n0 n7 H3 H4) (f15 : n8 = 32) (f16 : (hLe T0 H4 H5 ∧ hFr s_66v.2.2.2.2 H4 H5 ∧ ((0 : Int) = 0 → H5.length = H4.length) ∧ hWt T0 H5) ∧ postb_66v n1 n8 H4 H5) (f17 : n9 = 1) (f18 : (hLe T0 H5 H6 ∧ hFr s_81v.2.2.2.2 H5 H6 ∧ ((0 : Int) = 0 → H6.length = H5.length) ∧ hWt T0 H6) ∧ postb_81v n1 n0 n9 H5 H6) (f19 : n10 = 29) (f20 : (hLe T0 H6 H7 ∧ hFr s_66v.2.2.2.2 H6 H7 ∧ ((0 : Int) = 0 → H7.length = H6.length) ∧ hWt T0 H7) ∧ postb_66v n1 n10 H6 H7) (f21 : n11 = 0) (f22 : n12 = 400) (f23 : n13 ≤ 2147483647) (f24 : (-2147483648) ≤ n13) (f25 : (hLe T0 H7 H8 ∧ hFr s_67v.2.2.2.2 H7 H8 ∧ ((0 : Int) = 0 → H8.length = H7.length) ∧ hWt T0 H8) ∧ postb_67v n13 n1 n11 n12 H7 H8) (f26 : hK H8 (n0).toNat = 1) (f27 : n14 = 10) (f28 : hUpd H9 H8 n0 n14 n13) (f29 : n15 = 5) (f30 : (hLe T0 H9 H10 ∧ hFr s_66v.2.2.2.2 H9 H10 ∧ ((0 : Int) = 0 → H10.length = H9.length) ∧ hWt T0 H10) ∧ postb_66v n1 n15 H9 H10) (f31 : n16 = 0) (f32 : n17 = 400) (f33 : n18 ≤ 2147483647) (f34 : (-2147483648) ≤ n18) (f35 : (hLe T0 H10 H11 ∧ hFr s_67v.2.2.2.2 H10 H11 ∧ ((0 : Int) = 0 → H11.length = H10.length) ∧ hWt T0 H11) ∧ postb_67v n18 n1 n16 n17 H10 H11) (f36 : hK H11 (n0).toNat = 1) (f37 : n19 = 11) (f38 : hUpd H12 H11 n0 n19 n18) : postb_76v n1 n0 H0 H12 := by
  have pz := f2.2
  unfold preb_76v at pz
  have c0 := f7.2
  unfold postb_67v at c0
  try rw [f3] at c0
  try rw [f4] at c0
  have a0 : absC H1 = (pnm (vwC H0) 0 2 (absC H0)) := c0.2
  have v0 : vwC H1 = vwC H0 := (vwC_fr f7.1.2.1 (by decide +kernel))
  have s1 := PF_up f10 c0.1 f8
  have a1 : absC H2 = (pnm (vwC H0) 0 2 (absC H0)) := s1.1.trans a0
  have v1 : vwC H2 = vwC H0 := s1.2.1.trans v0
  have c2 := f12.2
  unfold postb_66v at c2
  try rw [f11] at c2
  rw [v1] at c2
  rw [a1] at c2
  have a2 : absC H3 = (ptk (vwC H0) 27 (pnm (vwC H0) 0 2 (absC H0))) := c2.2
  have v2 : vwC H3 = vwC H0 := (vwC_fr f12.1.2.1 (by decide +kernel)).trans v1
  have c3 := f14.2
  unfold postb_81v at c3
  try rw [f13] at c3
  rw [v2] at c3
  rw [a2] at c3
  have a3 : absC H4 = (pTime (vwC H0) (ptk (vwC H0) 27 (pnm (vwC H0) 0 2 (absC H0)))) := c3.2
  have v3 : vwC H4 = vwC H0 := (vwC_fr f14.1.2.1 (by decide +kernel)).trans v2
  have c4 := f16.2
  unfold postb_66v at c4
  try rw [f15] at c4
  rw [v3] at c4
  rw [a3] at c4
  have a4 : absC H5 = (ptk (vwC H0) 32 (pTime (vwC H0) (ptk (vwC H0) 27 (pnm (vwC H0) 0 2 (absC H0))))) := c4.2
  have v4 : vwC H5 = vwC H0 := (vwC_fr f16.1.2.1 (by decide +kernel)).trans v3
  have c5 := f18.2
  unfold postb_81v at c5
  try rw [f17] at c5
  rw [v4] at c5
  rw [a4] at c5
  have a5 : absC H6 = (pTime (vwC H0) (ptk (vwC H0) 32 (pTime (vwC H0) (ptk (vwC H0) 27 (pnm (vwC H0) 0 2 (absC H0)))))) := c5.2
  have v5 : vwC H6 = vwC H0 := (vwC_fr f18.1.2.1 (by decide +kernel)).trans v4
  have c6 := f20.2
  unfold postb_66v at c6
  try rw [f19] at c6
  rw [v5] at c6
  rw [a5] at c6
  have a6 : absC H7 = (ptk (vwC H0) 29 (pTime (vwC H0) (ptk (vwC H0) 32 (pTime (vwC H0) (ptk (vwC H0) 27 (pnm (vwC H0) 0 2 (absC H0))))))) := c6.2
  have v6 : vwC H7 = vwC H0 := (vwC_fr f20.1.2.1 (by decide +kernel)).trans v5
  have c7 := f25.2
  unfold postb_67v at c7
  try rw [f21] at c7
  try rw [f22] at c7
  rw [v6] at c7
  rw [a6] at c7
  have a7 : absC H8 = (pnm (vwC H0) 0 400 (ptk (vwC H0) 29 (pTime (vwC H0) (ptk (vwC H0) 32 (pTime (vwC H0) (ptk (vwC H0) 27 (pnm (vwC H0) 0 2 (absC H0)))))))) := c7.2
  have v7 : vwC H8 = vwC H0 := (vwC_fr f25.1.2.1 (by decide +kernel)).trans v6
  have s8 := PF_up f28 c7.1 f26
  have a8 : absC H9 = (pnm (vwC H0) 0 400 (ptk (vwC H0) 29 (pTime (vwC H0) (ptk (vwC H0) 32 (pTime (vwC H0) (ptk (vwC H0) 27 (pnm (vwC H0) 0 2 (absC H0)))))))) := s8.1.trans a7
  have v8 : vwC H9 = vwC H0 := s8.2.1.trans v7
  have c9 := f30.2
  unfold postb_66v at c9
  try rw [f29] at c9
  rw [v8] at c9
  rw [a8] at c9
  have a9 : absC H10 = (ptk (vwC H0) 5 (pnm (vwC H0) 0 400 (ptk (vwC H0) 29 (pTime (vwC H0) (ptk (vwC H0) 32 (pTime (vwC H0) (ptk (vwC H0) 27 (pnm (vwC H0) 0 2 (absC H0))))))))) := c9.2
  have v9 : vwC H10 = vwC H0 := (vwC_fr f30.1.2.1 (by decide +kernel)).trans v8
  have c10 := f35.2
  unfold postb_67v at c10
  try rw [f31] at c10
  try rw [f32] at c10
  rw [v9] at c10
  rw [a9] at c10
  have a10 : absC H11 = (pnm (vwC H0) 0 400 (ptk (vwC H0) 5 (pnm (vwC H0) 0 400 (ptk (vwC H0) 29 (pTime (vwC H0) (ptk (vwC H0) 32 (pTime (vwC H0) (ptk (vwC H0) 27 (pnm (vwC H0) 0 2 (absC H0)))))))))) := c10.2
  have v10 : vwC H11 = vwC H0 := (vwC_fr f35.1.2.1 (by decide +kernel)).trans v9
  have s11 := PF_up f38 c10.1 f36
  have a11 : absC H12 = (pnm (vwC H0) 0 400 (ptk (vwC H0) 5 (pnm (vwC H0) 0 400 (ptk (vwC H0) 29 (pTime (vwC H0) (ptk (vwC H0) 32 (pTime (vwC H0) (ptk (vwC H0) 27 (pnm (vwC H0) 0 2 (absC H0)))))))))) := s11.1.trans a10
  have v11 : vwC H12 = vwC H0 := s11.2.1.trans v10
  unfold postb_76v
  refine ⟨s11.2.2, ?_⟩
  rw [a11]
  rfl
theorem c_76v_s_9 : vOkm T0 (eP e_76v L_76v A_76v mu_76v none) 2 ([(80, [1, 19, 18], [12, 11], 0), (0, [19], [], 11), (23, [1], [11], 1), (1067, [18, 0, 16, 17], [10, 11], 0), (90, [18], [], -2147483648), (91, [18], [], 2147483647), (0, [17], [], 400), (0, [16], [], 0), (1066, [0, 15], [9, 10], 0), (0, [15], [], 5), (80, [1, 14, 13], [9, 8], 0), (0, [14], [], 10), (23, [1], [8], 1), (1067, [13, 0, 11, 12], [7, 8], 0), (90, [13], [], -2147483648), (91, [13], [], 2147483647), (0, [12], [], 400), (0, [11], [], 0), (1066, [0, 10], [6, 7], 0), (0, [10], [], 29), (1081, [0, 1, 9], [5, 6], 0), (0, [9], [], 1), (1066, [0, 8], [4, 5], 0), (0, [8], [], 32), (1081, [0, 1, 7], [3, 4], 0), (0, [7], [], 0), (1066, [0, 6], [2, 3], 0), (0, [6], [], 27), (80, [1, 5, 4], [2, 1], 0), (0, [5], [], 3), (23, [1], [1], 1), (1067, [4, 0, 2, 3], [0, 1], 0), (90, [4], [], -2147483648), (91, [4], [], 2147483647), (0, [3], [], 2), (0, [2], [], 0), (6000, [0, 1], [0], 0), (0, [0], [], 30), (51, [1], [], 0)], (3000, [], [12], 69)) := vOk_in fun ρ η h => by
  obtain ⟨f0, f1, f2, f3, f4, f5, f6, f7, f8, f9, f10, f11, f12, f13, f14, f15, f16, f17, f18, f19, f20, f21, f22, f23, f24, f25, f26, f27, f28, f29, f30, f31, f32, f33, f34, f35, f36, f37, f38, _⟩ := h
  exact q_76v_9 (n0 := ρ 1) (n1 := ρ 0) (n2 := ρ 2) (n3 := ρ 3) (n4 := ρ 4) (n5 := ρ 5) (n6 := ρ 6) (n7 := ρ 7) (n8 := ρ 8) (n9 := ρ 9) (n10 := ρ 10) (n11 := ρ 11) (n12 := ρ 12) (n13 := ρ 13) (n14 := ρ 14) (n15 := ρ 15) (n16 := ρ 16) (n17 := ρ 17) (n18 := ρ 18) (n19 := ρ 19) (H0 := η 0) (H1 := η 1) (H2 := η 2) (H3 := η 3) (H4 := η 4) (H5 := η 5) (H6 := η 6) (H7 := η 7) (H8 := η 8) (H9 := η 9) (H10 := η 10) (H11 := η 11) (H12 := η 12) f38 f37 f36 f35 f34 f33 f32 f31 f30 f29 f28 f27 f26 f25 f24 f23 f22 f21 f20 f19 f18 f17 f16 f15 f14 f13 f12 f11 f10 f9 f8 f7 f6 f5 f4 f3 f2 f1 f0
def p_76v_s : List vG := [([(0, [3], [], 2), (0, [2], [], 0), (6000, [0, 1], [0], 0), (0, [0], [], 30), (51, [1], [], 0)], (2067, [0, 2, 3], [0], 0)),
  ([(0, [6], [], 27), (80, [1, 5, 4], [2, 1], 0), (0, [5], [], 3), (23, [1], [1], 1), (1067, [4, 0, 2, 3], [0, 1], 0), (90, [4], [], -2147483648), (91, [4], [], 2147483647), (0, [3], [], 2), (0, [2], [], 0), (6000, [0, 1], [0], 0), (0, [0], [], 30), (51, [1], [], 0)], (2066, [0, 6], [2], 0)),
  ([(0, [7], [], 0), (1066, [0, 6], [2, 3], 0), (0, [6], [], 27), (80, [1, 5, 4], [2, 1], 0), (0, [5], [], 3), (23, [1], [1], 1), (1067, [4, 0, 2, 3], [0, 1], 0), (90, [4], [], -2147483648), (91, [4], [], 2147483647), (0, [3], [], 2), (0, [2], [], 0), (6000, [0, 1], [0], 0), (0, [0], [], 30), (51, [1], [], 0)], (2081, [0, 1, 7], [3], 0)),
  ([(0, [8], [], 32), (1081, [0, 1, 7], [3, 4], 0), (0, [7], [], 0), (1066, [0, 6], [2, 3], 0), (0, [6], [], 27), (80, [1, 5, 4], [2, 1], 0), (0, [5], [], 3), (23, [1], [1], 1), (1067, [4, 0, 2, 3], [0, 1], 0), (90, [4], [], -2147483648), (91, [4], [], 2147483647), (0, [3], [], 2), (0, [2], [], 0), (6000, [0, 1], [0], 0), (0, [0], [], 30), (51, [1], [], 0)], (2066, [0, 8], [4], 0)),
  ([(0, [9], [], 1), (1066, [0, 8], [4, 5], 0), (0, [8], [], 32), (1081, [0, 1, 7], [3, 4], 0), (0, [7], [], 0), (1066, [0, 6], [2, 3], 0), (0, [6], [], 27), (80, [1, 5, 4], [2, 1], 0), (0, [5], [], 3), (23, [1], [1], 1), (1067, [4, 0, 2, 3], [0, 1], 0), (90, [4], [], -2147483648), (91, [4], [], 2147483647), (0, [3], [], 2), (0, [2], [], 0), (6000, [0, 1], [0], 0), (0, [0], [], 30), (51, [1], [], 0)], (2081, [0, 1, 9], [5], 0)),
  ([(0, [10], [], 29), (1081, [0, 1, 9], [5, 6], 0), (0, [9], [], 1), (1066, [0, 8], [4, 5], 0), (0, [8], [], 32), (1081, [0, 1, 7], [3, 4], 0), (0, [7], [], 0), (1066, [0, 6], [2, 3], 0), (0, [6], [], 27), (80, [1, 5, 4], [2, 1], 0), (0, [5], [], 3), (23, [1], [1], 1), (1067, [4, 0, 2, 3], [0, 1], 0), (90, [4], [], -2147483648), (91, [4], [], 2147483647), (0, [3], [], 2), (0, [2], [], 0), (6000, [0, 1], [0], 0), (0, [0], [], 30), (51, [1], [], 0)], (2066, [0, 10], [6], 0)),
  ([(0, [12], [], 400), (0, [11], [], 0), (1066, [0, 10], [6, 7], 0), (0, [10], [], 29), (1081, [0, 1, 9], [5, 6], 0), (0, [9], [], 1), (1066, [0, 8], [4, 5], 0), (0, [8], [], 32), (1081, [0, 1, 7], [3, 4], 0), (0, [7], [], 0), (1066, [0, 6], [2, 3], 0), (0, [6], [], 27), (80, [1, 5, 4], [2, 1], 0), (0, [5], [], 3), (23, [1], [1], 1), (1067, [4, 0, 2, 3], [0, 1], 0), (90, [4], [], -2147483648), (91, [4], [], 2147483647), (0, [3], [], 2), (0, [2], [], 0), (6000, [0, 1], [0], 0), (0, [0], [], 30), (51, [1], [], 0)], (2067, [0, 11, 12], [7], 0)),
  ([(0, [15], [], 5), (80, [1, 14, 13], [9, 8], 0), (0, [14], [], 10), (23, [1], [8], 1), (1067, [13, 0, 11, 12], [7, 8], 0), (90, [13], [], -2147483648), (91, [13], [], 2147483647), (0, [12], [], 400), (0, [11], [], 0), (1066, [0, 10], [6, 7], 0), (0, [10], [], 29), (1081, [0, 1, 9], [5, 6], 0), (0, [9], [], 1), (1066, [0, 8], [4, 5], 0), (0, [8], [], 32), (1081, [0, 1, 7], [3, 4], 0), (0, [7], [], 0), (1066, [0, 6], [2, 3], 0), (0, [6], [], 27), (80, [1, 5, 4], [2, 1], 0), (0, [5], [], 3), (23, [1], [1], 1), (1067, [4, 0, 2, 3], [0, 1], 0), (90, [4], [], -2147483648), (91, [4], [], 2147483647), (0, [3], [], 2), (0, [2], [], 0), (6000, [0, 1], [0], 0), (0, [0], [], 30), (51, [1], [], 0)], (2066, [0, 15], [9], 0)),
  ([(0, [17], [], 400), (0, [16], [], 0), (1066, [0, 15], [9, 10], 0), (0, [15], [], 5), (80, [1, 14, 13], [9, 8], 0), (0, [14], [], 10), (23, [1], [8], 1), (1067, [13, 0, 11, 12], [7, 8], 0), (90, [13], [], -2147483648), (91, [13], [], 2147483647), (0, [12], [], 400), (0, [11], [], 0), (1066, [0, 10], [6, 7], 0), (0, [10], [], 29), (1081, [0, 1, 9], [5, 6], 0), (0, [9], [], 1), (1066, [0, 8], [4, 5], 0), (0, [8], [], 32), (1081, [0, 1, 7], [3, 4], 0), (0, [7], [], 0), (1066, [0, 6], [2, 3], 0), (0, [6], [], 27), (80, [1, 5, 4], [2, 1], 0), (0, [5], [], 3), (23, [1], [1], 1), (1067, [4, 0, 2, 3], [0, 1], 0), (90, [4], [], -2147483648), (91, [4], [], 2147483647), (0, [3], [], 2), (0, [2], [], 0), (6000, [0, 1], [0], 0), (0, [0], [], 30), (51, [1], [], 0)], (2067, [0, 16, 17], [10], 0)),
  ([(80, [1, 19, 18], [12, 11], 0), (0, [19], [], 11), (23, [1], [11], 1), (1067, [18, 0, 16, 17], [10, 11], 0), (90, [18], [], -2147483648), (91, [18], [], 2147483647), (0, [17], [], 400), (0, [16], [], 0), (1066, [0, 15], [9, 10], 0), (0, [15], [], 5), (80, [1, 14, 13], [9, 8], 0), (0, [14], [], 10), (23, [1], [8], 1), (1067, [13, 0, 11, 12], [7, 8], 0), (90, [13], [], -2147483648), (91, [13], [], 2147483647), (0, [12], [], 400), (0, [11], [], 0), (1066, [0, 10], [6, 7], 0), (0, [10], [], 29), (1081, [0, 1, 9], [5, 6], 0), (0, [9], [], 1), (1066, [0, 8], [4, 5], 0), (0, [8], [], 32), (1081, [0, 1, 7], [3, 4], 0), (0, [7], [], 0), (1066, [0, 6], [2, 3], 0), (0, [6], [], 27), (80, [1, 5, 4], [2, 1], 0), (0, [5], [], 3), (23, [1], [1], 1), (1067, [4, 0, 2, 3], [0, 1], 0), (90, [4], [], -2147483648), (91, [4], [], 2147483647), (0, [3], [], 2), (0, [2], [], 0), (6000, [0, 1], [0], 0), (0, [0], [], 30), (51, [1], [], 0)], (3000, [], [12], 69))]
theorem r_76v_s : vCovO false (eR0 e_76v L_76v cs_76v 2000) p_76v_s = true := by decide +kernel
theorem m_76v (d : Nat) : eC e_76v (d + 5) := eC_ok (e := e_76v) (L := L_76v) (cs := cs_76v) (n := 2000) (d := d + 4) (A := A_76v) (μ := mu_76v) (tp := false) (p0 := p_76v_s) rfl ⟨m_66v (d + 2), ⟨m_67v (d + 1), ⟨m_81v d, trivial⟩⟩⟩ rfl (.inl rfl) (by decide +kernel) (fun z => nomatch z) r_76v_s (allC c_76v_s_0 (allC c_76v_s_1 (allC c_76v_s_2 (allC c_76v_s_3 (allC c_76v_s_4 (allC c_76v_s_5 (allC c_76v_s_6 (allC c_76v_s_7 (allC c_76v_s_8 (allC c_76v_s_9 allN)))))))))) allN
/- Reader.readDip (LMixStage$Cue;)V -/
noncomputable def s_77v : vM := ([(3, 4, 30, 0), (3, 1, -1, 0)], (9, 0, 0, 0), 1, 0, [(1, 3), (1, 14), (1, 15), (1, 16), (4, 1), (4, 2), (4, 3), (4, 4), (4, 5), (4, 6)])
def preb_77v (a0 a1 : Int) (h : gH) : Prop := KI h
def pre_77v : List Int → gH → Prop := fun xs h => match xs with
  | [a0, a1] => preb_77v a0 a1 h
  | _ => False
def postb_77v (a0 a1 : Int) (h0 h : gH) : Prop := KI h ∧ absC h = pDip (vwC h0) (absC h0)
def post_77v : List Int → gH → gH → Prop := fun xs h0 h => match xs with
  | [a0, a1] => postb_77v a0 a1 h0 h
  | _ => True
noncomputable def e_77v : vE := (77, s_77v, pre_77v, post_77v)
noncomputable def L_77v : List vE := [e_66v, e_67v]
def cs_77v : List vC := []
def A_77v : Int → List Int → gH → gH → Prop := fun c xs h0 h => True
def mu_77v : Int → List Int → gH → gH → Nat := fun c xs h0 h => 0
theorem q_77v_0 {n0 n1 n2 n3 : Int} {H0 : gH} (f0 : 0 ≤ n0) (f1 : n1 = 30) (f2 : hWt T0 H0 ∧ preb_77v n1 n0 H0) (f3 : n2 = 0) (f4 : n3 = 2) : preb_67v n1 n2 n3 H0 := by
  have pz := f2.2
  unfold preb_77v at pz
  unfold preb_67v
  exact pz
theorem c_77v_s_0 : vOkm T0 (eP e_77v L_77v A_77v mu_77v none) 2 ([(0, [3], [], 2), (0, [2], [], 0), (6000, [0, 1], [0], 0), (0, [0], [], 30), (51, [1], [], 0)], (2067, [0, 2, 3], [0], 0)) := vOk_in fun ρ η h => by
  obtain ⟨f0, f1, f2, f3, f4, _⟩ := h
  exact q_77v_0 (n0 := ρ 1) (n1 := ρ 0) (n2 := ρ 2) (n3 := ρ 3) (H0 := η 0) f4 f3 f2 f1 f0
theorem q_77v_1 {n0 n1 n2 n3 n4 n5 n6 : Int} {H0 H1 H2 : gH} (f0 : 0 ≤ n0) (f1 : n1 = 30) (f2 : hWt T0 H0 ∧ preb_77v n1 n0 H0) (f3 : n2 = 0) (f4 : n3 = 2) (f5 : n4 ≤ 2147483647) (f6 : (-2147483648) ≤ n4) (f7 : (hLe T0 H0 H1 ∧ hFr s_67v.2.2.2.2 H0 H1 ∧ ((0 : Int) = 0 → H1.length = H0.length) ∧ hWt T0 H1) ∧ postb_67v n4 n1 n2 n3 H0 H1) (f8 : hK H1 (n0).toNat = 1) (f9 : n5 = 3) (f10 : hUpd H2 H1 n0 n5 n4) (f11 : n6 = 33) : preb_66v n1 n6 H2 := by
  have pz := f2.2
  unfold preb_77v at pz
  have c0 := f7.2
  unfold postb_67v at c0
  try rw [f3] at c0
  try rw [f4] at c0
  have a0 : absC H1 = (pnm (vwC H0) 0 2 (absC H0)) := c0.2
  have v0 : vwC H1 = vwC H0 := (vwC_fr f7.1.2.1 (by decide +kernel))
  have s1 := PF_up f10 c0.1 f8
  have a1 : absC H2 = (pnm (vwC H0) 0 2 (absC H0)) := s1.1.trans a0
  have v1 : vwC H2 = vwC H0 := s1.2.1.trans v0
  unfold preb_66v
  exact ⟨s1.2.2, by omega⟩
theorem c_77v_s_1 : vOkm T0 (eP e_77v L_77v A_77v mu_77v none) 2 ([(0, [6], [], 33), (80, [1, 5, 4], [2, 1], 0), (0, [5], [], 3), (23, [1], [1], 1), (1067, [4, 0, 2, 3], [0, 1], 0), (90, [4], [], -2147483648), (91, [4], [], 2147483647), (0, [3], [], 2), (0, [2], [], 0), (6000, [0, 1], [0], 0), (0, [0], [], 30), (51, [1], [], 0)], (2066, [0, 6], [2], 0)) := vOk_in fun ρ η h => by
  obtain ⟨f0, f1, f2, f3, f4, f5, f6, f7, f8, f9, f10, f11, _⟩ := h
  exact q_77v_1 (n0 := ρ 1) (n1 := ρ 0) (n2 := ρ 2) (n3 := ρ 3) (n4 := ρ 4) (n5 := ρ 5) (n6 := ρ 6) (H0 := η 0) (H1 := η 1) (H2 := η 2) f11 f10 f9 f8 f7 f6 f5 f4 f3 f2 f1 f0
theorem q_77v_2 {n0 n1 n2 n3 n4 n5 n6 n7 n8 : Int} {H0 H1 H2 H3 : gH} (f0 : 0 ≤ n0) (f1 : n1 = 30) (f2 : hWt T0 H0 ∧ preb_77v n1 n0 H0) (f3 : n2 = 0) (f4 : n3 = 2) (f5 : n4 ≤ 2147483647) (f6 : (-2147483648) ≤ n4) (f7 : (hLe T0 H0 H1 ∧ hFr s_67v.2.2.2.2 H0 H1 ∧ ((0 : Int) = 0 → H1.length = H0.length) ∧ hWt T0 H1) ∧ postb_67v n4 n1 n2 n3 H0 H1) (f8 : hK H1 (n0).toNat = 1) (f9 : n5 = 3) (f10 : hUpd H2 H1 n0 n5 n4) (f11 : n6 = 33) (f12 : (hLe T0 H2 H3 ∧ hFr s_66v.2.2.2.2 H2 H3 ∧ ((0 : Int) = 0 → H3.length = H2.length) ∧ hWt T0 H3) ∧ postb_66v n1 n6 H2 H3) (f13 : n7 = 0) (f14 : n8 = 2) : preb_67v n1 n7 n8 H3 := by
  have pz := f2.2
  unfold preb_77v at pz
  have c0 := f7.2
  unfold postb_67v at c0
  try rw [f3] at c0
  try rw [f4] at c0
  have a0 : absC H1 = (pnm (vwC H0) 0 2 (absC H0)) := c0.2
  have v0 : vwC H1 = vwC H0 := (vwC_fr f7.1.2.1 (by decide +kernel))
  have s1 := PF_up f10 c0.1 f8
  have a1 : absC H2 = (pnm (vwC H0) 0 2 (absC H0)) := s1.1.trans a0
  have v1 : vwC H2 = vwC H0 := s1.2.1.trans v0
  have c2 := f12.2
  unfold postb_66v at c2
  try rw [f11] at c2
  rw [v1] at c2
  rw [a1] at c2
  have a2 : absC H3 = (ptk (vwC H0) 33 (pnm (vwC H0) 0 2 (absC H0))) := c2.2
  have v2 : vwC H3 = vwC H0 := (vwC_fr f12.1.2.1 (by decide +kernel)).trans v1
  unfold preb_67v
  exact c2.1
theorem c_77v_s_2 : vOkm T0 (eP e_77v L_77v A_77v mu_77v none) 2 ([(0, [8], [], 2), (0, [7], [], 0), (1066, [0, 6], [2, 3], 0), (0, [6], [], 33), (80, [1, 5, 4], [2, 1], 0), (0, [5], [], 3), (23, [1], [1], 1), (1067, [4, 0, 2, 3], [0, 1], 0), (90, [4], [], -2147483648), (91, [4], [], 2147483647), (0, [3], [], 2), (0, [2], [], 0), (6000, [0, 1], [0], 0), (0, [0], [], 30), (51, [1], [], 0)], (2067, [0, 7, 8], [3], 0)) := vOk_in fun ρ η h => by
  obtain ⟨f0, f1, f2, f3, f4, f5, f6, f7, f8, f9, f10, f11, f12, f13, f14, _⟩ := h
  exact q_77v_2 (n0 := ρ 1) (n1 := ρ 0) (n2 := ρ 2) (n3 := ρ 3) (n4 := ρ 4) (n5 := ρ 5) (n6 := ρ 6) (n7 := ρ 7) (n8 := ρ 8) (H0 := η 0) (H1 := η 1) (H2 := η 2) (H3 := η 3) f14 f13 f12 f11 f10 f9 f8 f7 f6 f5 f4 f3 f2 f1 f0
theorem q_77v_3 {n0 n1 n2 n3 n4 n5 n6 n7 n8 n9 n10 n11 : Int} {H0 H1 H2 H3 H4 H5 : gH} (f0 : 0 ≤ n0) (f1 : n1 = 30) (f2 : hWt T0 H0 ∧ preb_77v n1 n0 H0) (f3 : n2 = 0) (f4 : n3 = 2) (f5 : n4 ≤ 2147483647) (f6 : (-2147483648) ≤ n4) (f7 : (hLe T0 H0 H1 ∧ hFr s_67v.2.2.2.2 H0 H1 ∧ ((0 : Int) = 0 → H1.length = H0.length) ∧ hWt T0 H1) ∧ postb_67v n4 n1 n2 n3 H0 H1) (f8 : hK H1 (n0).toNat = 1) (f9 : n5 = 3) (f10 : hUpd H2 H1 n0 n5 n4) (f11 : n6 = 33) (f12 : (hLe T0 H2 H3 ∧ hFr s_66v.2.2.2.2 H2 H3 ∧ ((0 : Int) = 0 → H3.length = H2.length) ∧ hWt T0 H3) ∧ postb_66v n1 n6 H2 H3) (f13 : n7 = 0) (f14 : n8 = 2) (f15 : n9 ≤ 2147483647) (f16 : (-2147483648) ≤ n9) (f17 : (hLe T0 H3 H4 ∧ hFr s_67v.2.2.2.2 H3 H4 ∧ ((0 : Int) = 0 → H4.length = H3.length) ∧ hWt T0 H4) ∧ postb_67v n9 n1 n7 n8 H3 H4) (f18 : hK H4 (n0).toNat = 1) (f19 : n10 = 14) (f20 : hUpd H5 H4 n0 n10 n9) (f21 : n11 = 34) : preb_66v n1 n11 H5 := by
  have pz := f2.2
  unfold preb_77v at pz
  have c0 := f7.2
  unfold postb_67v at c0
  try rw [f3] at c0
  try rw [f4] at c0
  have a0 : absC H1 = (pnm (vwC H0) 0 2 (absC H0)) := c0.2
  have v0 : vwC H1 = vwC H0 := (vwC_fr f7.1.2.1 (by decide +kernel))
  have s1 := PF_up f10 c0.1 f8
  have a1 : absC H2 = (pnm (vwC H0) 0 2 (absC H0)) := s1.1.trans a0
  have v1 : vwC H2 = vwC H0 := s1.2.1.trans v0
  have c2 := f12.2
  unfold postb_66v at c2
  try rw [f11] at c2
  rw [v1] at c2
  rw [a1] at c2
  have a2 : absC H3 = (ptk (vwC H0) 33 (pnm (vwC H0) 0 2 (absC H0))) := c2.2
  have v2 : vwC H3 = vwC H0 := (vwC_fr f12.1.2.1 (by decide +kernel)).trans v1
  have c3 := f17.2
  unfold postb_67v at c3
  try rw [f13] at c3
  try rw [f14] at c3
  rw [v2] at c3
  rw [a2] at c3
  have a3 : absC H4 = (pnm (vwC H0) 0 2 (ptk (vwC H0) 33 (pnm (vwC H0) 0 2 (absC H0)))) := c3.2
  have v3 : vwC H4 = vwC H0 := (vwC_fr f17.1.2.1 (by decide +kernel)).trans v2
  have s4 := PF_up f20 c3.1 f18
  have a4 : absC H5 = (pnm (vwC H0) 0 2 (ptk (vwC H0) 33 (pnm (vwC H0) 0 2 (absC H0)))) := s4.1.trans a3
  have v4 : vwC H5 = vwC H0 := s4.2.1.trans v3
  unfold preb_66v
  exact ⟨s4.2.2, by omega⟩
theorem c_77v_s_3 : vOkm T0 (eP e_77v L_77v A_77v mu_77v none) 2 ([(0, [11], [], 34), (80, [1, 10, 9], [5, 4], 0), (0, [10], [], 14), (23, [1], [4], 1), (1067, [9, 0, 7, 8], [3, 4], 0), (90, [9], [], -2147483648), (91, [9], [], 2147483647), (0, [8], [], 2), (0, [7], [], 0), (1066, [0, 6], [2, 3], 0), (0, [6], [], 33), (80, [1, 5, 4], [2, 1], 0), (0, [5], [], 3), (23, [1], [1], 1), (1067, [4, 0, 2, 3], [0, 1], 0), (90, [4], [], -2147483648), (91, [4], [], 2147483647), (0, [3], [], 2), (0, [2], [], 0), (6000, [0, 1], [0], 0), (0, [0], [], 30), (51, [1], [], 0)], (2066, [0, 11], [5], 0)) := vOk_in fun ρ η h => by
  obtain ⟨f0, f1, f2, f3, f4, f5, f6, f7, f8, f9, f10, f11, f12, f13, f14, f15, f16, f17, f18, f19, f20, f21, _⟩ := h
  exact q_77v_3 (n0 := ρ 1) (n1 := ρ 0) (n2 := ρ 2) (n3 := ρ 3) (n4 := ρ 4) (n5 := ρ 5) (n6 := ρ 6) (n7 := ρ 7) (n8 := ρ 8) (n9 := ρ 9) (n10 := ρ 10) (n11 := ρ 11) (H0 := η 0) (H1 := η 1) (H2 := η 2) (H3 := η 3) (H4 := η 4) (H5 := η 5) f21 f20 f19 f18 f17 f16 f15 f14 f13 f12 f11 f10 f9 f8 f7 f6 f5 f4 f3 f2 f1 f0
theorem q_77v_4 {n0 n1 n2 n3 n4 n5 n6 n7 n8 n9 n10 n11 n12 n13 : Int} {H0 H1 H2 H3 H4 H5 H6 : gH} (f0 : 0 ≤ n0) (f1 : n1 = 30) (f2 : hWt T0 H0 ∧ preb_77v n1 n0 H0) (f3 : n2 = 0) (f4 : n3 = 2) (f5 : n4 ≤ 2147483647) (f6 : (-2147483648) ≤ n4) (f7 : (hLe T0 H0 H1 ∧ hFr s_67v.2.2.2.2 H0 H1 ∧ ((0 : Int) = 0 → H1.length = H0.length) ∧ hWt T0 H1) ∧ postb_67v n4 n1 n2 n3 H0 H1) (f8 : hK H1 (n0).toNat = 1) (f9 : n5 = 3) (f10 : hUpd H2 H1 n0 n5 n4) (f11 : n6 = 33) (f12 : (hLe T0 H2 H3 ∧ hFr s_66v.2.2.2.2 H2 H3 ∧ ((0 : Int) = 0 → H3.length = H2.length) ∧ hWt T0 H3) ∧ postb_66v n1 n6 H2 H3) (f13 : n7 = 0) (f14 : n8 = 2) (f15 : n9 ≤ 2147483647) (f16 : (-2147483648) ≤ n9) (f17 : (hLe T0 H3 H4 ∧ hFr s_67v.2.2.2.2 H3 H4 ∧ ((0 : Int) = 0 → H4.length = H3.length) ∧ hWt T0 H4) ∧ postb_67v n9 n1 n7 n8 H3 H4) (f18 : hK H4 (n0).toNat = 1) (f19 : n10 = 14) (f20 : hUpd H5 H4 n0 n10 n9) (f21 : n11 = 34) (f22 : (hLe T0 H5 H6 ∧ hFr s_66v.2.2.2.2 H5 H6 ∧ ((0 : Int) = 0 → H6.length = H5.length) ∧ hWt T0 H6) ∧ postb_66v n1 n11 H5 H6) (f23 : n12 = 0) (f24 : n13 = 400) : preb_67v n1 n12 n13 H6 := by
  have pz := f2.2
  unfold preb_77v at pz
  have c0 := f7.2
  unfold postb_67v at c0
  try rw [f3] at c0
  try rw [f4] at c0
  have a0 : absC H1 = (pnm (vwC H0) 0 2 (absC H0)) := c0.2
  have v0 : vwC H1 = vwC H0 := (vwC_fr f7.1.2.1 (by decide +kernel))
  have s1 := PF_up f10 c0.1 f8
  have a1 : absC H2 = (pnm (vwC H0) 0 2 (absC H0)) := s1.1.trans a0
  have v1 : vwC H2 = vwC H0 := s1.2.1.trans v0
  have c2 := f12.2
  unfold postb_66v at c2
  try rw [f11] at c2
  rw [v1] at c2
  rw [a1] at c2
  have a2 : absC H3 = (ptk (vwC H0) 33 (pnm (vwC H0) 0 2 (absC H0))) := c2.2
  have v2 : vwC H3 = vwC H0 := (vwC_fr f12.1.2.1 (by decide +kernel)).trans v1
  have c3 := f17.2
  unfold postb_67v at c3
  try rw [f13] at c3
  try rw [f14] at c3
  rw [v2] at c3
  rw [a2] at c3
  have a3 : absC H4 = (pnm (vwC H0) 0 2 (ptk (vwC H0) 33 (pnm (vwC H0) 0 2 (absC H0)))) := c3.2
  have v3 : vwC H4 = vwC H0 := (vwC_fr f17.1.2.1 (by decide +kernel)).trans v2
  have s4 := PF_up f20 c3.1 f18
  have a4 : absC H5 = (pnm (vwC H0) 0 2 (ptk (vwC H0) 33 (pnm (vwC H0) 0 2 (absC H0)))) := s4.1.trans a3
  have v4 : vwC H5 = vwC H0 := s4.2.1.trans v3
  have c5 := f22.2
  unfold postb_66v at c5
  try rw [f21] at c5
  rw [v4] at c5
  rw [a4] at c5
  have a5 : absC H6 = (ptk (vwC H0) 34 (pnm (vwC H0) 0 2 (ptk (vwC H0) 33 (pnm (vwC H0) 0 2 (absC H0))))) := c5.2
  have v5 : vwC H6 = vwC H0 := (vwC_fr f22.1.2.1 (by decide +kernel)).trans v4
  unfold preb_67v
  exact c5.1
theorem c_77v_s_4 : vOkm T0 (eP e_77v L_77v A_77v mu_77v none) 2 ([(0, [13], [], 400), (0, [12], [], 0), (1066, [0, 11], [5, 6], 0), (0, [11], [], 34), (80, [1, 10, 9], [5, 4], 0), (0, [10], [], 14), (23, [1], [4], 1), (1067, [9, 0, 7, 8], [3, 4], 0), (90, [9], [], -2147483648), (91, [9], [], 2147483647), (0, [8], [], 2), (0, [7], [], 0), (1066, [0, 6], [2, 3], 0), (0, [6], [], 33), (80, [1, 5, 4], [2, 1], 0), (0, [5], [], 3), (23, [1], [1], 1), (1067, [4, 0, 2, 3], [0, 1], 0), (90, [4], [], -2147483648), (91, [4], [], 2147483647), (0, [3], [], 2), (0, [2], [], 0), (6000, [0, 1], [0], 0), (0, [0], [], 30), (51, [1], [], 0)], (2067, [0, 12, 13], [6], 0)) := vOk_in fun ρ η h => by
  obtain ⟨f0, f1, f2, f3, f4, f5, f6, f7, f8, f9, f10, f11, f12, f13, f14, f15, f16, f17, f18, f19, f20, f21, f22, f23, f24, _⟩ := h
  exact q_77v_4 (n0 := ρ 1) (n1 := ρ 0) (n2 := ρ 2) (n3 := ρ 3) (n4 := ρ 4) (n5 := ρ 5) (n6 := ρ 6) (n7 := ρ 7) (n8 := ρ 8) (n9 := ρ 9) (n10 := ρ 10) (n11 := ρ 11) (n12 := ρ 12) (n13 := ρ 13) (H0 := η 0) (H1 := η 1) (H2 := η 2) (H3 := η 3) (H4 := η 4) (H5 := η 5) (H6 := η 6) f24 f23 f22 f21 f20 f19 f18 f17 f16 f15 f14 f13 f12 f11 f10 f9 f8 f7 f6 f5 f4 f3 f2 f1 f0
theorem q_77v_5 {n0 n1 n2 n3 n4 n5 n6 n7 n8 n9 n10 n11 n12 n13 n14 n15 n16 : Int} {H0 H1 H2 H3 H4 H5 H6 H7 H8 : gH} (f0 : 0 ≤ n0) (f1 : n1 = 30) (f2 : hWt T0 H0 ∧ preb_77v n1 n0 H0) (f3 : n2 = 0) (f4 : n3 = 2) (f5 : n4 ≤ 2147483647) (f6 : (-2147483648) ≤ n4) (f7 : (hLe T0 H0 H1 ∧ hFr s_67v.2.2.2.2 H0 H1 ∧ ((0 : Int) = 0 → H1.length = H0.length) ∧ hWt T0 H1) ∧ postb_67v n4 n1 n2 n3 H0 H1) (f8 : hK H1 (n0).toNat = 1) (f9 : n5 = 3) (f10 : hUpd H2 H1 n0 n5 n4) (f11 : n6 = 33) (f12 : (hLe T0 H2 H3 ∧ hFr s_66v.2.2.2.2 H2 H3 ∧ ((0 : Int) = 0 → H3.length = H2.length) ∧ hWt T0 H3) ∧ postb_66v n1 n6 H2 H3) (f13 : n7 = 0) (f14 : n8 = 2) (f15 : n9 ≤ 2147483647) (f16 : (-2147483648) ≤ n9) (f17 : (hLe T0 H3 H4 ∧ hFr s_67v.2.2.2.2 H3 H4 ∧ ((0 : Int) = 0 → H4.length = H3.length) ∧ hWt T0 H4) ∧ postb_67v n9 n1 n7 n8 H3 H4) (f18 : hK H4 (n0).toNat = 1) (f19 : n10 = 14) (f20 : hUpd H5 H4 n0 n10 n9) (f21 : n11 = 34) (f22 : (hLe T0 H5 H6 ∧ hFr s_66v.2.2.2.2 H5 H6 ∧ ((0 : Int) = 0 → H6.length = H5.length) ∧ hWt T0 H6) ∧ postb_66v n1 n11 H5 H6) (f23 : n12 = 0) (f24 : n13 = 400) (f25 : n14 ≤ 2147483647) (f26 : (-2147483648) ≤ n14) (f27 : (hLe T0 H6 H7 ∧ hFr s_67v.2.2.2.2 H6 H7 ∧ ((0 : Int) = 0 → H7.length = H6.length) ∧ hWt T0 H7) ∧ postb_67v n14 n1 n12 n13 H6 H7) (f28 : hK H7 (n0).toNat = 1) (f29 : n15 = 15) (f30 : hUpd H8 H7 n0 n15 n14) (f31 : n16 = 35) : preb_66v n1 n16 H8 := by
  have pz := f2.2
  unfold preb_77v at pz
  have c0 := f7.2
  unfold postb_67v at c0
  try rw [f3] at c0
  try rw [f4] at c0
  have a0 : absC H1 = (pnm (vwC H0) 0 2 (absC H0)) := c0.2
  have v0 : vwC H1 = vwC H0 := (vwC_fr f7.1.2.1 (by decide +kernel))
  have s1 := PF_up f10 c0.1 f8
  have a1 : absC H2 = (pnm (vwC H0) 0 2 (absC H0)) := s1.1.trans a0
  have v1 : vwC H2 = vwC H0 := s1.2.1.trans v0
  have c2 := f12.2
  unfold postb_66v at c2
  try rw [f11] at c2
  rw [v1] at c2
  rw [a1] at c2
  have a2 : absC H3 = (ptk (vwC H0) 33 (pnm (vwC H0) 0 2 (absC H0))) := c2.2
  have v2 : vwC H3 = vwC H0 := (vwC_fr f12.1.2.1 (by decide +kernel)).trans v1
  have c3 := f17.2
  unfold postb_67v at c3
  try rw [f13] at c3
  try rw [f14] at c3
  rw [v2] at c3
  rw [a2] at c3
  have a3 : absC H4 = (pnm (vwC H0) 0 2 (ptk (vwC H0) 33 (pnm (vwC H0) 0 2 (absC H0)))) := c3.2
  have v3 : vwC H4 = vwC H0 := (vwC_fr f17.1.2.1 (by decide +kernel)).trans v2
  have s4 := PF_up f20 c3.1 f18
  have a4 : absC H5 = (pnm (vwC H0) 0 2 (ptk (vwC H0) 33 (pnm (vwC H0) 0 2 (absC H0)))) := s4.1.trans a3
  have v4 : vwC H5 = vwC H0 := s4.2.1.trans v3
  have c5 := f22.2
  unfold postb_66v at c5
  try rw [f21] at c5
  rw [v4] at c5
  rw [a4] at c5
  have a5 : absC H6 = (ptk (vwC H0) 34 (pnm (vwC H0) 0 2 (ptk (vwC H0) 33 (pnm (vwC H0) 0 2 (absC H0))))) := c5.2
  have v5 : vwC H6 = vwC H0 := (vwC_fr f22.1.2.1 (by decide +kernel)).trans v4
  have c6 := f27.2
  unfold postb_67v at c6
  try rw [f23] at c6
  try rw [f24] at c6
  rw [v5] at c6
  rw [a5] at c6
  have a6 : absC H7 = (pnm (vwC H0) 0 400 (ptk (vwC H0) 34 (pnm (vwC H0) 0 2 (ptk (vwC H0) 33 (pnm (vwC H0) 0 2 (absC H0)))))) := c6.2
  have v6 : vwC H7 = vwC H0 := (vwC_fr f27.1.2.1 (by decide +kernel)).trans v5
  have s7 := PF_up f30 c6.1 f28
  have a7 : absC H8 = (pnm (vwC H0) 0 400 (ptk (vwC H0) 34 (pnm (vwC H0) 0 2 (ptk (vwC H0) 33 (pnm (vwC H0) 0 2 (absC H0)))))) := s7.1.trans a6
  have v7 : vwC H8 = vwC H0 := s7.2.1.trans v6
  unfold preb_66v
  exact ⟨s7.2.2, by omega⟩
theorem c_77v_s_5 : vOkm T0 (eP e_77v L_77v A_77v mu_77v none) 2 ([(0, [16], [], 35), (80, [1, 15, 14], [8, 7], 0), (0, [15], [], 15), (23, [1], [7], 1), (1067, [14, 0, 12, 13], [6, 7], 0), (90, [14], [], -2147483648), (91, [14], [], 2147483647), (0, [13], [], 400), (0, [12], [], 0), (1066, [0, 11], [5, 6], 0), (0, [11], [], 34), (80, [1, 10, 9], [5, 4], 0), (0, [10], [], 14), (23, [1], [4], 1), (1067, [9, 0, 7, 8], [3, 4], 0), (90, [9], [], -2147483648), (91, [9], [], 2147483647), (0, [8], [], 2), (0, [7], [], 0), (1066, [0, 6], [2, 3], 0), (0, [6], [], 33), (80, [1, 5, 4], [2, 1], 0), (0, [5], [], 3), (23, [1], [1], 1), (1067, [4, 0, 2, 3], [0, 1], 0), (90, [4], [], -2147483648), (91, [4], [], 2147483647), (0, [3], [], 2), (0, [2], [], 0), (6000, [0, 1], [0], 0), (0, [0], [], 30), (51, [1], [], 0)], (2066, [0, 16], [8], 0)) := vOk_in fun ρ η h => by
  obtain ⟨f0, f1, f2, f3, f4, f5, f6, f7, f8, f9, f10, f11, f12, f13, f14, f15, f16, f17, f18, f19, f20, f21, f22, f23, f24, f25, f26, f27, f28, f29, f30, f31, _⟩ := h
  exact q_77v_5 (n0 := ρ 1) (n1 := ρ 0) (n2 := ρ 2) (n3 := ρ 3) (n4 := ρ 4) (n5 := ρ 5) (n6 := ρ 6) (n7 := ρ 7) (n8 := ρ 8) (n9 := ρ 9) (n10 := ρ 10) (n11 := ρ 11) (n12 := ρ 12) (n13 := ρ 13) (n14 := ρ 14) (n15 := ρ 15) (n16 := ρ 16) (H0 := η 0) (H1 := η 1) (H2 := η 2) (H3 := η 3) (H4 := η 4) (H5 := η 5) (H6 := η 6) (H7 := η 7) (H8 := η 8) f31 f30 f29 f28 f27 f26 f25 f24 f23 f22 f21 f20 f19 f18 f17 f16 f15 f14 f13 f12 f11 f10 f9 f8 f7 f6 f5 f4 f3 f2 f1 f0
theorem q_77v_6 {n0 n1 n2 n3 n4 n5 n6 n7 n8 n9 n10 n11 n12 n13 n14 n15 n16 n17 n18 : Int} {H0 H1 H2 H3 H4 H5 H6 H7 H8 H9 : gH} (f0 : 0 ≤ n0) (f1 : n1 = 30) (f2 : hWt T0 H0 ∧ preb_77v n1 n0 H0) (f3 : n2 = 0) (f4 : n3 = 2) (f5 : n4 ≤ 2147483647) (f6 : (-2147483648) ≤ n4) (f7 : (hLe T0 H0 H1 ∧ hFr s_67v.2.2.2.2 H0 H1 ∧ ((0 : Int) = 0 → H1.length = H0.length) ∧ hWt T0 H1) ∧ postb_67v n4 n1 n2 n3 H0 H1) (f8 : hK H1 (n0).toNat = 1) (f9 : n5 = 3) (f10 : hUpd H2 H1 n0 n5 n4) (f11 : n6 = 33) (f12 : (hLe T0 H2 H3 ∧ hFr s_66v.2.2.2.2 H2 H3 ∧ ((0 : Int) = 0 → H3.length = H2.length) ∧ hWt T0 H3) ∧ postb_66v n1 n6 H2 H3) (f13 : n7 = 0) (f14 : n8 = 2) (f15 : n9 ≤ 2147483647) (f16 : (-2147483648) ≤ n9) (f17 : (hLe T0 H3 H4 ∧ hFr s_67v.2.2.2.2 H3 H4 ∧ ((0 : Int) = 0 → H4.length = H3.length) ∧ hWt T0 H4) ∧ postb_67v n9 n1 n7 n8 H3 H4) (f18 : hK H4 (n0).toNat = 1) (f19 : n10 = 14) (f20 : hUpd H5 H4 n0 n10 n9) (f21 : n11 = 34) (f22 : (hLe T0 H5 H6 ∧ hFr s_66v.2.2.2.2 H5 H6 ∧ ((0 : Int) = 0 → H6.length = H5.length) ∧ hWt T0 H6) ∧ postb_66v n1 n11 H5 H6) (f23 : n12 = 0) (f24 : n13 = 400) (f25 : n14 ≤ 2147483647) (f26 : (-2147483648) ≤ n14) (f27 : (hLe T0 H6 H7 ∧ hFr s_67v.2.2.2.2 H6 H7 ∧ ((0 : Int) = 0 → H7.length = H6.length) ∧ hWt T0 H7) ∧ postb_67v n14 n1 n12 n13 H6 H7) (f28 : hK H7 (n0).toNat = 1) (f29 : n15 = 15) (f30 : hUpd H8 H7 n0 n15 n14) (f31 : n16 = 35) (f32 : (hLe T0 H8 H9 ∧ hFr s_66v.2.2.2.2 H8 H9 ∧ ((0 : Int) = 0 → H9.length = H8.length) ∧ hWt T0 H9) ∧ postb_66v n1 n16 H8 H9) (f33 : n17 = 0) (f34 : n18 = 60) : preb_67v n1 n17 n18 H9 := by
  have pz := f2.2
  unfold preb_77v at pz
  have c0 := f7.2
  unfold postb_67v at c0
  try rw [f3] at c0
  try rw [f4] at c0
  have a0 : absC H1 = (pnm (vwC H0) 0 2 (absC H0)) := c0.2
  have v0 : vwC H1 = vwC H0 := (vwC_fr f7.1.2.1 (by decide +kernel))
  have s1 := PF_up f10 c0.1 f8
  have a1 : absC H2 = (pnm (vwC H0) 0 2 (absC H0)) := s1.1.trans a0
  have v1 : vwC H2 = vwC H0 := s1.2.1.trans v0
  have c2 := f12.2
  unfold postb_66v at c2
  try rw [f11] at c2
  rw [v1] at c2
  rw [a1] at c2
  have a2 : absC H3 = (ptk (vwC H0) 33 (pnm (vwC H0) 0 2 (absC H0))) := c2.2
  have v2 : vwC H3 = vwC H0 := (vwC_fr f12.1.2.1 (by decide +kernel)).trans v1
  have c3 := f17.2
  unfold postb_67v at c3
  try rw [f13] at c3
  try rw [f14] at c3
  rw [v2] at c3
  rw [a2] at c3
  have a3 : absC H4 = (pnm (vwC H0) 0 2 (ptk (vwC H0) 33 (pnm (vwC H0) 0 2 (absC H0)))) := c3.2
  have v3 : vwC H4 = vwC H0 := (vwC_fr f17.1.2.1 (by decide +kernel)).trans v2
  have s4 := PF_up f20 c3.1 f18
  have a4 : absC H5 = (pnm (vwC H0) 0 2 (ptk (vwC H0) 33 (pnm (vwC H0) 0 2 (absC H0)))) := s4.1.trans a3
  have v4 : vwC H5 = vwC H0 := s4.2.1.trans v3
  have c5 := f22.2
  unfold postb_66v at c5
  try rw [f21] at c5
  rw [v4] at c5
  rw [a4] at c5
  have a5 : absC H6 = (ptk (vwC H0) 34 (pnm (vwC H0) 0 2 (ptk (vwC H0) 33 (pnm (vwC H0) 0 2 (absC H0))))) := c5.2
  have v5 : vwC H6 = vwC H0 := (vwC_fr f22.1.2.1 (by decide +kernel)).trans v4
  have c6 := f27.2
  unfold postb_67v at c6
  try rw [f23] at c6
  try rw [f24] at c6
  rw [v5] at c6
  rw [a5] at c6
  have a6 : absC H7 = (pnm (vwC H0) 0 400 (ptk (vwC H0) 34 (pnm (vwC H0) 0 2 (ptk (vwC H0) 33 (pnm (vwC H0) 0 2 (absC H0)))))) := c6.2
  have v6 : vwC H7 = vwC H0 := (vwC_fr f27.1.2.1 (by decide +kernel)).trans v5
  have s7 := PF_up f30 c6.1 f28
  have a7 : absC H8 = (pnm (vwC H0) 0 400 (ptk (vwC H0) 34 (pnm (vwC H0) 0 2 (ptk (vwC H0) 33 (pnm (vwC H0) 0 2 (absC H0)))))) := s7.1.trans a6
  have v7 : vwC H8 = vwC H0 := s7.2.1.trans v6
  have c8 := f32.2
  unfold postb_66v at c8
  try rw [f31] at c8
  rw [v7] at c8
  rw [a7] at c8
  have a8 : absC H9 = (ptk (vwC H0) 35 (pnm (vwC H0) 0 400 (ptk (vwC H0) 34 (pnm (vwC H0) 0 2 (ptk (vwC H0) 33 (pnm (vwC H0) 0 2 (absC H0))))))) := c8.2
  have v8 : vwC H9 = vwC H0 := (vwC_fr f32.1.2.1 (by decide +kernel)).trans v7
  unfold preb_67v
  exact c8.1
theorem c_77v_s_6 : vOkm T0 (eP e_77v L_77v A_77v mu_77v none) 2 ([(0, [18], [], 60), (0, [17], [], 0), (1066, [0, 16], [8, 9], 0), (0, [16], [], 35), (80, [1, 15, 14], [8, 7], 0), (0, [15], [], 15), (23, [1], [7], 1), (1067, [14, 0, 12, 13], [6, 7], 0), (90, [14], [], -2147483648), (91, [14], [], 2147483647), (0, [13], [], 400), (0, [12], [], 0), (1066, [0, 11], [5, 6], 0), (0, [11], [], 34), (80, [1, 10, 9], [5, 4], 0), (0, [10], [], 14), (23, [1], [4], 1), (1067, [9, 0, 7, 8], [3, 4], 0), (90, [9], [], -2147483648), (91, [9], [], 2147483647), (0, [8], [], 2), (0, [7], [], 0), (1066, [0, 6], [2, 3], 0), (0, [6], [], 33), (80, [1, 5, 4], [2, 1], 0), (0, [5], [], 3), (23, [1], [1], 1), (1067, [4, 0, 2, 3], [0, 1], 0), (90, [4], [], -2147483648), (91, [4], [], 2147483647), (0, [3], [], 2), (0, [2], [], 0), (6000, [0, 1], [0], 0), (0, [0], [], 30), (51, [1], [], 0)], (2067, [0, 17, 18], [9], 0)) := vOk_in fun ρ η h => by
  obtain ⟨f0, f1, f2, f3, f4, f5, f6, f7, f8, f9, f10, f11, f12, f13, f14, f15, f16, f17, f18, f19, f20, f21, f22, f23, f24, f25, f26, f27, f28, f29, f30, f31, f32, f33, f34, _⟩ := h
  exact q_77v_6 (n0 := ρ 1) (n1 := ρ 0) (n2 := ρ 2) (n3 := ρ 3) (n4 := ρ 4) (n5 := ρ 5) (n6 := ρ 6) (n7 := ρ 7) (n8 := ρ 8) (n9 := ρ 9) (n10 := ρ 10) (n11 := ρ 11) (n12 := ρ 12) (n13 := ρ 13) (n14 := ρ 14) (n15 := ρ 15) (n16 := ρ 16) (n17 := ρ 17) (n18 := ρ 18) (H0 := η 0) (H1 := η 1) (H2 := η 2) (H3 := η 3) (H4 := η 4) (H5 := η 5) (H6 := η 6) (H7 := η 7) (H8 := η 8) (H9 := η 9) f34 f33 f32 f31 f30 f29 f28 f27 f26 f25 f24 f23 f22 f21 f20 f19 f18 f17 f16 f15 f14 f13 f12 f11 f10 f9 f8 f7 f6 f5 f4 f3 f2 f1 f0
theorem q_77v_7 {n0 n1 n2 n3 n4 n5 n6 n7 n8 n9 n10 n11 n12 n13 n14 n15 n16 n17 n18 n19 n20 : Int} {H0 H1 H2 H3 H4 H5 H6 H7 H8 H9 H10 H11 : gH} (f0 : 0 ≤ n0) (f1 : n1 = 30) (f2 : hWt T0 H0 ∧ preb_77v n1 n0 H0) (f3 : n2 = 0) (f4 : n3 = 2) (f5 : n4 ≤ 2147483647) (f6 : (-2147483648) ≤ n4) (f7 : (hLe T0 H0 H1 ∧ hFr s_67v.2.2.2.2 H0 H1 ∧ ((0 : Int) = 0 → H1.length = H0.length) ∧ hWt T0 H1) ∧ postb_67v n4 n1 n2 n3 H0 H1) (f8 : hK H1 (n0).toNat = 1) (f9 : n5 = 3) (f10 : hUpd H2 H1 n0 n5 n4) (f11 : n6 = 33) (f12 : (hLe T0 H2 H3 ∧ hFr s_66v.2.2.2.2 H2 H3 ∧ ((0 : Int) = 0 → H3.length = H2.length) ∧ hWt T0 H3) ∧ postb_66v n1 n6 H2 H3) (f13 : n7 = 0) (f14 : n8 = 2) (f15 : n9 ≤ 2147483647) (f16 : (-2147483648) ≤ n9) (f17 : (hLe T0 H3 H4 ∧ hFr s_67v.2.2.2.2 H3 H4 ∧ ((0 : Int) = 0 → H4.length = H3.length) ∧ hWt T0 H4) ∧ postb_67v n9 n1 n7 n8 H3 H4) (f18 : hK H4 (n0).toNat = 1) (f19 : n10 = 14) (f20 : hUpd H5 H4 n0 n10 n9) (f21 : n11 = 34) (f22 : (hLe T0 H5 H6 ∧ hFr s_66v.2.2.2.2 H5 H6 ∧ ((0 : Int) = 0 → H6.length = H5.length) ∧ hWt T0 H6) ∧ postb_66v n1 n11 H5 H6) (f23 : n12 = 0) (f24 : n13 = 400) (f25 : n14 ≤ 2147483647) (f26 : (-2147483648) ≤ n14) (f27 : (hLe T0 H6 H7 ∧ hFr s_67v.2.2.2.2 H6 H7 ∧ ((0 : Int) = 0 → H7.length = H6.length) ∧ hWt T0 H7) ∧ postb_67v n14 n1 n12 n13 H6 H7) (f28 : hK H7 (n0).toNat = 1) (f29 : n15 = 15) (f30 : hUpd H8 H7 n0 n15 n14) (f31 : n16 = 35) (f32 : (hLe T0 H8 H9 ∧ hFr s_66v.2.2.2.2 H8 H9 ∧ ((0 : Int) = 0 → H9.length = H8.length) ∧ hWt T0 H9) ∧ postb_66v n1 n16 H8 H9) (f33 : n17 = 0) (f34 : n18 = 60) (f35 : n19 ≤ 2147483647) (f36 : (-2147483648) ≤ n19) (f37 : (hLe T0 H9 H10 ∧ hFr s_67v.2.2.2.2 H9 H10 ∧ ((0 : Int) = 0 → H10.length = H9.length) ∧ hWt T0 H10) ∧ postb_67v n19 n1 n17 n18 H9 H10) (f38 : hK H10 (n0).toNat = 1) (f39 : n20 = 16) (f40 : hUpd H11 H10 n0 n20 n19) : postb_77v n1 n0 H0 H11 := by
  have pz := f2.2
  unfold preb_77v at pz
  have c0 := f7.2
  unfold postb_67v at c0
  try rw [f3] at c0
  try rw [f4] at c0
  have a0 : absC H1 = (pnm (vwC H0) 0 2 (absC H0)) := c0.2
  have v0 : vwC H1 = vwC H0 := (vwC_fr f7.1.2.1 (by decide +kernel))
  have s1 := PF_up f10 c0.1 f8
  have a1 : absC H2 = (pnm (vwC H0) 0 2 (absC H0)) := s1.1.trans a0
  have v1 : vwC H2 = vwC H0 := s1.2.1.trans v0
  have c2 := f12.2
  unfold postb_66v at c2
  try rw [f11] at c2
  rw [v1] at c2
  rw [a1] at c2
  have a2 : absC H3 = (ptk (vwC H0) 33 (pnm (vwC H0) 0 2 (absC H0))) := c2.2
  have v2 : vwC H3 = vwC H0 := (vwC_fr f12.1.2.1 (by decide +kernel)).trans v1
  have c3 := f17.2
  unfold postb_67v at c3
  try rw [f13] at c3
  try rw [f14] at c3
  rw [v2] at c3
  rw [a2] at c3
  have a3 : absC H4 = (pnm (vwC H0) 0 2 (ptk (vwC H0) 33 (pnm (vwC H0) 0 2 (absC H0)))) := c3.2
  have v3 : vwC H4 = vwC H0 := (vwC_fr f17.1.2.1 (by decide +kernel)).trans v2
  have s4 := PF_up f20 c3.1 f18
  have a4 : absC H5 = (pnm (vwC H0) 0 2 (ptk (vwC H0) 33 (pnm (vwC H0) 0 2 (absC H0)))) := s4.1.trans a3
  have v4 : vwC H5 = vwC H0 := s4.2.1.trans v3
  have c5 := f22.2
  unfold postb_66v at c5
  try rw [f21] at c5
  rw [v4] at c5
  rw [a4] at c5
  have a5 : absC H6 = (ptk (vwC H0) 34 (pnm (vwC H0) 0 2 (ptk (vwC H0) 33 (pnm (vwC H0) 0 2 (absC H0))))) := c5.2
  have v5 : vwC H6 = vwC H0 := (vwC_fr f22.1.2.1 (by decide +kernel)).trans v4
  have c6 := f27.2
  unfold postb_67v at c6
  try rw [f23] at c6
  try rw [f24] at c6
  rw [v5] at c6
  rw [a5] at c6
  have a6 : absC H7 = (pnm (vwC H0) 0 400 (ptk (vwC H0) 34 (pnm (vwC H0) 0 2 (ptk (vwC H0) 33 (pnm (vwC H0) 0 2 (absC H0)))))) := c6.2
  have v6 : vwC H7 = vwC H0 := (vwC_fr f27.1.2.1 (by decide +kernel)).trans v5
  have s7 := PF_up f30 c6.1 f28
  have a7 : absC H8 = (pnm (vwC H0) 0 400 (ptk (vwC H0) 34 (pnm (vwC H0) 0 2 (ptk (vwC H0) 33 (pnm (vwC H0) 0 2 (absC H0)))))) := s7.1.trans a6
  have v7 : vwC H8 = vwC H0 := s7.2.1.trans v6
  have c8 := f32.2
  unfold postb_66v at c8
  try rw [f31] at c8
  rw [v7] at c8
  rw [a7] at c8
  have a8 : absC H9 = (ptk (vwC H0) 35 (pnm (vwC H0) 0 400 (ptk (vwC H0) 34 (pnm (vwC H0) 0 2 (ptk (vwC H0) 33 (pnm (vwC H0) 0 2 (absC H0))))))) := c8.2
  have v8 : vwC H9 = vwC H0 := (vwC_fr f32.1.2.1 (by decide +kernel)).trans v7
  have c9 := f37.2
  unfold postb_67v at c9
  try rw [f33] at c9
  try rw [f34] at c9
  rw [v8] at c9
  rw [a8] at c9
  have a9 : absC H10 = (pnm (vwC H0) 0 60 (ptk (vwC H0) 35 (pnm (vwC H0) 0 400 (ptk (vwC H0) 34 (pnm (vwC H0) 0 2 (ptk (vwC H0) 33 (pnm (vwC H0) 0 2 (absC H0)))))))) := c9.2
  have v9 : vwC H10 = vwC H0 := (vwC_fr f37.1.2.1 (by decide +kernel)).trans v8
  have s10 := PF_up f40 c9.1 f38
  have a10 : absC H11 = (pnm (vwC H0) 0 60 (ptk (vwC H0) 35 (pnm (vwC H0) 0 400 (ptk (vwC H0) 34 (pnm (vwC H0) 0 2 (ptk (vwC H0) 33 (pnm (vwC H0) 0 2 (absC H0)))))))) := s10.1.trans a9
  have v10 : vwC H11 = vwC H0 := s10.2.1.trans v9
  unfold postb_77v
  refine ⟨s10.2.2, ?_⟩
  rw [a10]
  rfl
theorem c_77v_s_7 : vOkm T0 (eP e_77v L_77v A_77v mu_77v none) 2 ([(80, [1, 20, 19], [11, 10], 0), (0, [20], [], 16), (23, [1], [10], 1), (1067, [19, 0, 17, 18], [9, 10], 0), (90, [19], [], -2147483648), (91, [19], [], 2147483647), (0, [18], [], 60), (0, [17], [], 0), (1066, [0, 16], [8, 9], 0), (0, [16], [], 35), (80, [1, 15, 14], [8, 7], 0), (0, [15], [], 15), (23, [1], [7], 1), (1067, [14, 0, 12, 13], [6, 7], 0), (90, [14], [], -2147483648), (91, [14], [], 2147483647), (0, [13], [], 400), (0, [12], [], 0), (1066, [0, 11], [5, 6], 0), (0, [11], [], 34), (80, [1, 10, 9], [5, 4], 0), (0, [10], [], 14), (23, [1], [4], 1), (1067, [9, 0, 7, 8], [3, 4], 0), (90, [9], [], -2147483648), (91, [9], [], 2147483647), (0, [8], [], 2), (0, [7], [], 0), (1066, [0, 6], [2, 3], 0), (0, [6], [], 33), (80, [1, 5, 4], [2, 1], 0), (0, [5], [], 3), (23, [1], [1], 1), (1067, [4, 0, 2, 3], [0, 1], 0), (90, [4], [], -2147483648), (91, [4], [], 2147483647), (0, [3], [], 2), (0, [2], [], 0), (6000, [0, 1], [0], 0), (0, [0], [], 30), (51, [1], [], 0)], (3000, [], [11], 61)) := vOk_in fun ρ η h => by
  obtain ⟨f0, f1, f2, f3, f4, f5, f6, f7, f8, f9, f10, f11, f12, f13, f14, f15, f16, f17, f18, f19, f20, f21, f22, f23, f24, f25, f26, f27, f28, f29, f30, f31, f32, f33, f34, f35, f36, f37, f38, f39, f40, _⟩ := h
  exact q_77v_7 (n0 := ρ 1) (n1 := ρ 0) (n2 := ρ 2) (n3 := ρ 3) (n4 := ρ 4) (n5 := ρ 5) (n6 := ρ 6) (n7 := ρ 7) (n8 := ρ 8) (n9 := ρ 9) (n10 := ρ 10) (n11 := ρ 11) (n12 := ρ 12) (n13 := ρ 13) (n14 := ρ 14) (n15 := ρ 15) (n16 := ρ 16) (n17 := ρ 17) (n18 := ρ 18) (n19 := ρ 19) (n20 := ρ 20) (H0 := η 0) (H1 := η 1) (H2 := η 2) (H3 := η 3) (H4 := η 4) (H5 := η 5) (H6 := η 6) (H7 := η 7) (H8 := η 8) (H9 := η 9) (H10 := η 10) (H11 := η 11) f40 f39 f38 f37 f36 f35 f34 f33 f32 f31 f30 f29 f28 f27 f26 f25 f24 f23 f22 f21 f20 f19 f18 f17 f16 f15 f14 f13 f12 f11 f10 f9 f8 f7 f6 f5 f4 f3 f2 f1 f0
def p_77v_s : List vG := [([(0, [3], [], 2), (0, [2], [], 0), (6000, [0, 1], [0], 0), (0, [0], [], 30), (51, [1], [], 0)], (2067, [0, 2, 3], [0], 0)),
  ([(0, [6], [], 33), (80, [1, 5, 4], [2, 1], 0), (0, [5], [], 3), (23, [1], [1], 1), (1067, [4, 0, 2, 3], [0, 1], 0), (90, [4], [], -2147483648), (91, [4], [], 2147483647), (0, [3], [], 2), (0, [2], [], 0), (6000, [0, 1], [0], 0), (0, [0], [], 30), (51, [1], [], 0)], (2066, [0, 6], [2], 0)),
  ([(0, [8], [], 2), (0, [7], [], 0), (1066, [0, 6], [2, 3], 0), (0, [6], [], 33), (80, [1, 5, 4], [2, 1], 0), (0, [5], [], 3), (23, [1], [1], 1), (1067, [4, 0, 2, 3], [0, 1], 0), (90, [4], [], -2147483648), (91, [4], [], 2147483647), (0, [3], [], 2), (0, [2], [], 0), (6000, [0, 1], [0], 0), (0, [0], [], 30), (51, [1], [], 0)], (2067, [0, 7, 8], [3], 0)),
  ([(0, [11], [], 34), (80, [1, 10, 9], [5, 4], 0), (0, [10], [], 14), (23, [1], [4], 1), (1067, [9, 0, 7, 8], [3, 4], 0), (90, [9], [], -2147483648), (91, [9], [], 2147483647), (0, [8], [], 2), (0, [7], [], 0), (1066, [0, 6], [2, 3], 0), (0, [6], [], 33), (80, [1, 5, 4], [2, 1], 0), (0, [5], [], 3), (23, [1], [1], 1), (1067, [4, 0, 2, 3], [0, 1], 0), (90, [4], [], -2147483648), (91, [4], [], 2147483647), (0, [3], [], 2), (0, [2], [], 0), (6000, [0, 1], [0], 0), (0, [0], [], 30), (51, [1], [], 0)], (2066, [0, 11], [5], 0)),
  ([(0, [13], [], 400), (0, [12], [], 0), (1066, [0, 11], [5, 6], 0), (0, [11], [], 34), (80, [1, 10, 9], [5, 4], 0), (0, [10], [], 14), (23, [1], [4], 1), (1067, [9, 0, 7, 8], [3, 4], 0), (90, [9], [], -2147483648), (91, [9], [], 2147483647), (0, [8], [], 2), (0, [7], [], 0), (1066, [0, 6], [2, 3], 0), (0, [6], [], 33), (80, [1, 5, 4], [2, 1], 0), (0, [5], [], 3), (23, [1], [1], 1), (1067, [4, 0, 2, 3], [0, 1], 0), (90, [4], [], -2147483648), (91, [4], [], 2147483647), (0, [3], [], 2), (0, [2], [], 0), (6000, [0, 1], [0], 0), (0, [0], [], 30), (51, [1], [], 0)], (2067, [0, 12, 13], [6], 0)),
  ([(0, [16], [], 35), (80, [1, 15, 14], [8, 7], 0), (0, [15], [], 15), (23, [1], [7], 1), (1067, [14, 0, 12, 13], [6, 7], 0), (90, [14], [], -2147483648), (91, [14], [], 2147483647), (0, [13], [], 400), (0, [12], [], 0), (1066, [0, 11], [5, 6], 0), (0, [11], [], 34), (80, [1, 10, 9], [5, 4], 0), (0, [10], [], 14), (23, [1], [4], 1), (1067, [9, 0, 7, 8], [3, 4], 0), (90, [9], [], -2147483648), (91, [9], [], 2147483647), (0, [8], [], 2), (0, [7], [], 0), (1066, [0, 6], [2, 3], 0), (0, [6], [], 33), (80, [1, 5, 4], [2, 1], 0), (0, [5], [], 3), (23, [1], [1], 1), (1067, [4, 0, 2, 3], [0, 1], 0), (90, [4], [], -2147483648), (91, [4], [], 2147483647), (0, [3], [], 2), (0, [2], [], 0), (6000, [0, 1], [0], 0), (0, [0], [], 30), (51, [1], [], 0)], (2066, [0, 16], [8], 0)),
  ([(0, [18], [], 60), (0, [17], [], 0), (1066, [0, 16], [8, 9], 0), (0, [16], [], 35), (80, [1, 15, 14], [8, 7], 0), (0, [15], [], 15), (23, [1], [7], 1), (1067, [14, 0, 12, 13], [6, 7], 0), (90, [14], [], -2147483648), (91, [14], [], 2147483647), (0, [13], [], 400), (0, [12], [], 0), (1066, [0, 11], [5, 6], 0), (0, [11], [], 34), (80, [1, 10, 9], [5, 4], 0), (0, [10], [], 14), (23, [1], [4], 1), (1067, [9, 0, 7, 8], [3, 4], 0), (90, [9], [], -2147483648), (91, [9], [], 2147483647), (0, [8], [], 2), (0, [7], [], 0), (1066, [0, 6], [2, 3], 0), (0, [6], [], 33), (80, [1, 5, 4], [2, 1], 0), (0, [5], [], 3), (23, [1], [1], 1), (1067, [4, 0, 2, 3], [0, 1], 0), (90, [4], [], -2147483648), (91, [4], [], 2147483647), (0, [3], [], 2), (0, [2], [], 0), (6000, [0, 1], [0], 0), (0, [0], [], 30), (51, [1], [], 0)], (2067, [0, 17, 18], [9], 0)),
  ([(80, [1, 20, 19], [11, 10], 0), (0, [20], [], 16), (23, [1], [10], 1), (1067, [19, 0, 17, 18], [9, 10], 0), (90, [19], [], -2147483648), (91, [19], [], 2147483647), (0, [18], [], 60), (0, [17], [], 0), (1066, [0, 16], [8, 9], 0), (0, [16], [], 35), (80, [1, 15, 14], [8, 7], 0), (0, [15], [], 15), (23, [1], [7], 1), (1067, [14, 0, 12, 13], [6, 7], 0), (90, [14], [], -2147483648), (91, [14], [], 2147483647), (0, [13], [], 400), (0, [12], [], 0), (1066, [0, 11], [5, 6], 0), (0, [11], [], 34), (80, [1, 10, 9], [5, 4], 0), (0, [10], [], 14), (23, [1], [4], 1), (1067, [9, 0, 7, 8], [3, 4], 0), (90, [9], [], -2147483648), (91, [9], [], 2147483647), (0, [8], [], 2), (0, [7], [], 0), (1066, [0, 6], [2, 3], 0), (0, [6], [], 33), (80, [1, 5, 4], [2, 1], 0), (0, [5], [], 3), (23, [1], [1], 1), (1067, [4, 0, 2, 3], [0, 1], 0), (90, [4], [], -2147483648), (91, [4], [], 2147483647), (0, [3], [], 2), (0, [2], [], 0), (6000, [0, 1], [0], 0), (0, [0], [], 30), (51, [1], [], 0)], (3000, [], [11], 61))]
theorem r_77v_s : vCovO false (eR0 e_77v L_77v cs_77v 2000) p_77v_s = true := by decide +kernel
theorem m_77v (d : Nat) : eC e_77v (d + 4) := eC_ok (e := e_77v) (L := L_77v) (cs := cs_77v) (n := 2000) (d := d + 3) (A := A_77v) (μ := mu_77v) (tp := false) (p0 := p_77v_s) rfl ⟨m_66v (d + 1), ⟨m_67v d, trivial⟩⟩ rfl (.inl rfl) (by decide +kernel) (fun z => nomatch z) r_77v_s (allC c_77v_s_0 (allC c_77v_s_1 (allC c_77v_s_2 (allC c_77v_s_3 (allC c_77v_s_4 (allC c_77v_s_5 (allC c_77v_s_6 (allC c_77v_s_7 allN)))))))) allN
/- Reader.readWeight (LMixStage$Cue;)V -/
noncomputable def s_79v : vM := ([(3, 4, 30, 0), (3, 1, -1, 0)], (9, 0, 0, 0), 1, 0, [(1, 18), (4, 1), (4, 2), (4, 3), (4, 4), (4, 5), (4, 6), (796, 0)])
def preb_79v (a0 a1 : Int) (h : gH) : Prop := KI h ∧ 0 ≤ hV h (a1).toNat 18 ∧ hV h (a1).toNat 18 ≤ 9 ∧ hK h (a1).toNat = 1 ∧ 0 ≤ a1
def pre_79v : List Int → gH → Prop := fun xs h => match xs with
  | [a0, a1] => preb_79v a0 a1 h
  | _ => False
def postb_79v (a0 a1 : Int) (h0 h : gH) : Prop := KI h ∧ absC h = pWt (vwC h0) (hV h0 (a1).toNat 18) (absC h0) ∧ hV h (a1).toNat 18 = hV h0 (a1).toNat 18 + 1
def post_79v : List Int → gH → gH → Prop := fun xs h0 h => match xs with
  | [a0, a1] => postb_79v a0 a1 h0 h
  | _ => True
noncomputable def e_79v : vE := (79, s_79v, pre_79v, post_79v)
noncomputable def L_79v : List vE := [e_64v, e_67v, e_201k796]
def cs_79v : List vC := []
def A_79v : Int → List Int → gH → gH → Prop := fun c xs h0 h => True
def mu_79v : Int → List Int → gH → gH → Nat := fun c xs h0 h => 0
theorem q_79v_0 {n0 n1 n2 n3 n4 n5 n6 : Int} {H0 : gH} (f0 : 0 ≤ n0) (f1 : n1 = 30) (f2 : hWt T0 H0 ∧ preb_79v n1 n0 H0) (f3 : n2 ≤ 2147483647) (f4 : (-2147483648) ≤ n2) (f5 : n2 = hV H0 (n1).toNat 2) (f6 : n3 = 3) (f7 : n2 ≠ n3) (f8 : hK H0 (n0).toNat = 1) (f9 : n4 ≤ 2147483647) (f10 : (-2147483648) ≤ n4) (f11 : hK H0 (n0).toNat = 1) (f12 : n4 = hV H0 (n0).toNat 18) (f13 : n5 = 0) (f14 : n6 = 400) : preb_67v n1 n5 n6 H0 := by
  have pz := f2.2
  unfold preb_79v at pz
  unfold preb_67v
  exact pz.1
theorem c_79v_s_0 : vOkm T0 (eP e_79v L_79v A_79v mu_79v none) 2 ([(0, [7], [], 400), (0, [6], [], 0), (20, [5, 1], [0], 18), (23, [1], [0], 1), (90, [5], [], -2147483648), (91, [5], [], 2147483647), (23, [1], [0], 1), (41, [2, 3], [], 0), (0, [3], [], 3), (20, [2, 0], [0], 2), (90, [2], [], -2147483648), (91, [2], [], 2147483647), (6000, [0, 1], [0], 0), (0, [0], [], 30), (51, [1], [], 0)], (2067, [0, 6, 7], [0], 0)) := vOk_in fun ρ η h => by
  obtain ⟨f0, f1, f2, f3, f4, f5, f6, f7, f8, f9, f10, f11, f12, f13, f14, _⟩ := h
  exact q_79v_0 (n0 := ρ 1) (n1 := ρ 0) (n2 := ρ 2) (n3 := ρ 3) (n4 := ρ 5) (n5 := ρ 6) (n6 := ρ 7) (H0 := η 0) f14 f13 f12 f11 f10 f9 f8 f7 f6 f5 f4 f3 f2 f1 f0
theorem q_79v_1 {n0 n1 n2 n3 n4 n5 n6 n7 n8 n9 n10 n11 n12 : Int} {H0 H1 H2 H3 : gH} (f0 : 0 ≤ n0) (f1 : n1 = 30) (f2 : hWt T0 H0 ∧ preb_79v n1 n0 H0) (f3 : n2 ≤ 2147483647) (f4 : (-2147483648) ≤ n2) (f5 : n2 = hV H0 (n1).toNat 2) (f6 : n3 = 3) (f7 : n2 ≠ n3) (f8 : 0 ≤ n4) (f9 : hK H0 (n0).toNat = 1) (f10 : n4 = hV H0 (n0).toNat 17) (f11 : n5 ≤ 2147483647) (f12 : (-2147483648) ≤ n5) (f13 : hK H0 (n0).toNat = 1) (f14 : n5 = hV H0 (n0).toNat 18) (f15 : n6 = 0) (f16 : n7 = 400) (f17 : n8 ≤ 2147483647) (f18 : (-2147483648) ≤ n8) (f19 : (hLe T0 H0 H1 ∧ hFr s_67v.2.2.2.2 H0 H1 ∧ ((0 : Int) = 0 → H1.length = H0.length) ∧ hWt T0 H1) ∧ postb_67v n8 n1 n6 n7 H0 H1) (f20 : (hLe T0 H1 H2 ∧ hFr s_201k796.2.2.2.2 H1 H2 ∧ ((0 : Int) = 0 → H2.length = H1.length) ∧ hWt T0 H2) ∧ True) (f21 : n9 ≤ 2147483647) (f22 : (-2147483648) ≤ n9) (f23 : hK H2 (n0).toNat = 1) (f24 : n9 = hV H2 (n0).toNat 18) (f25 : n10 = 1) (f26 : n11 = w32 (n9 + n10)) (f27 : hK H2 (n0).toNat = 1) (f28 : n12 = 18) (f29 : hUpd H3 H2 n0 n12 n11) : postb_79v n1 n0 H0 H3 := by
  have pz := f2.2
  unfold preb_79v at pz
  have c0 := f19.2
  unfold postb_67v at c0
  try rw [f15] at c0
  try rw [f16] at c0
  have a0 : absC H1 = (pnm (vwC H0) 0 400 (absC H0)) := c0.2
  have v0 : vwC H1 = vwC H0 := (vwC_fr f19.1.2.1 (by decide +kernel))
  have s1 := PF_fr f20.1.1 f20.1.2.1 (by decide +kernel) c0.1
  have a1 : absC H2 = (pnm (vwC H0) 0 400 (absC H0)) := s1.1.trans a0
  have v1 : vwC H2 = vwC H0 := s1.2.1.trans v0
  have s2 := PF_up f29 s1.2.2 f23
  have a2 : absC H3 = (pnm (vwC H0) 0 400 (absC H0)) := s2.1.trans a1
  have v2 : vwC H3 = vwC H0 := s2.2.1.trans v1
  have b0 := kd_at pz.1
  have g0 := f5
  rw [f1] at g0
  rw [show ((30 : Int)).toNat = 30 from rfl] at g0
  have h0 : (absC H0).1 < 0 ∨ ¬ (vwC H0).1 (absC H0).1 = 3 := by
    rcases b0 with q | q
    · exact .inl q
    · right
      rw [q]
      omega
  have ck := pz.2.2.2.1
  have cp := pz.2.2.2.2
  have tp0 := f14.trans (rfl)
  have t1_180 : hK H1 (n0).toNat = 1 := kLe f19.1.1 ck rfl
  have t1_181 : hK H2 (n0).toNat = 1 := kLe f20.1.1 t1_180 rfl
  have tp1 := f24.trans ((f20.1.2.1.2.2 _ 1 t1_180 rfl 18 (by decide +kernel)).trans (f19.1.2.1.2.2 _ 1 ck rfl 18 (by decide +kernel)))
  have e_180 : hK H1 (n0).toNat = 1 := kLe f19.1.1 ck rfl
  have e_181 : hK H2 (n0).toNat = 1 := kLe f20.1.1 e_180 rfl
  have e_182 : hK H3 (n0).toNat = 1 := kUp f29 e_181
  have te : hV H3 (n0).toNat 18 = n11 := uSame f29 _ 18 (Int.toNat_of_nonneg (by omega)) (by rw [f28]; rfl)
  have wq := f26
  unfold w32 at wq
  unfold postb_79v
  refine ⟨s2.2.2, ?_, by omega⟩
  rw [a2]
  exact pWt_kind (vwC_ok H0) (absC_ok pz.1) h0
theorem c_79v_s_1 : vOkm T0 (eP e_79v L_79v A_79v mu_79v none) 2 ([(80, [1, 12, 11], [3, 2], 0), (0, [12], [], 18), (23, [1], [2], 1), (1, [11, 9, 10], [], 0), (0, [10], [], 1), (20, [9, 1], [2], 18), (23, [1], [2], 1), (90, [9], [], -2147483648), (91, [9], [], 2147483647), (1201, [4, 5, 8], [1, 2], 0), (1067, [8, 0, 6, 7], [0, 1], 0), (90, [8], [], -2147483648), (91, [8], [], 2147483647), (0, [7], [], 400), (0, [6], [], 0), (20, [5, 1], [0], 18), (23, [1], [0], 1), (90, [5], [], -2147483648), (91, [5], [], 2147483647), (20, [4, 1], [0], 17), (23, [1], [0], 1), (51, [4], [], 0), (41, [2, 3], [], 0), (0, [3], [], 3), (20, [2, 0], [0], 2), (90, [2], [], -2147483648), (91, [2], [], 2147483647), (6000, [0, 1], [0], 0), (0, [0], [], 30), (51, [1], [], 0)], (3000, [], [3], 50)) := vOk_in fun ρ η h => by
  obtain ⟨f0, f1, f2, f3, f4, f5, f6, f7, f8, f9, f10, f11, f12, f13, f14, f15, f16, f17, f18, f19, f20, f21, f22, f23, f24, f25, f26, f27, f28, f29, _⟩ := h
  exact q_79v_1 (n0 := ρ 1) (n1 := ρ 0) (n2 := ρ 2) (n3 := ρ 3) (n4 := ρ 4) (n5 := ρ 5) (n6 := ρ 6) (n7 := ρ 7) (n8 := ρ 8) (n9 := ρ 9) (n10 := ρ 10) (n11 := ρ 11) (n12 := ρ 12) (H0 := η 0) (H1 := η 1) (H2 := η 2) (H3 := η 3) f29 f28 f27 f26 f25 f24 f23 f22 f21 f20 f19 f18 f17 f16 f15 f14 f13 f12 f11 f10 f9 f8 f7 f6 f5 f4 f3 f2 f1 f0
theorem q_79v_2 {n0 n1 n2 n3 n4 n5 n6 n7 n8 : Int} {H0 : gH} (f0 : 0 ≤ n0) (f1 : n1 = 30) (f2 : hWt T0 H0 ∧ preb_79v n1 n0 H0) (f3 : n2 ≤ 2147483647) (f4 : (-2147483648) ≤ n2) (f5 : n2 = hV H0 (n1).toNat 2) (f6 : n3 = 3) (f7 : n2 = n3) (f8 : n4 ≤ 2147483647) (f9 : (-2147483648) ≤ n4) (f10 : hK H0 (n0).toNat = 1) (f11 : n4 = hV H0 (n0).toNat 18) (f12 : n5 = 4) (f13 : n4 < n5) (f14 : hK H0 (n0).toNat = 1) (f15 : n6 ≤ 2147483647) (f16 : (-2147483648) ≤ n6) (f17 : hK H0 (n0).toNat = 1) (f18 : n6 = hV H0 (n0).toNat 18) (f19 : n7 = 0) (f20 : n8 = 400) : preb_67v n1 n7 n8 H0 := by
  have pz := f2.2
  unfold preb_79v at pz
  unfold preb_67v
  exact pz.1
theorem c_79v_s_2 : vOkm T0 (eP e_79v L_79v A_79v mu_79v none) 2 ([(0, [9], [], 400), (0, [8], [], 0), (20, [7, 1], [0], 18), (23, [1], [0], 1), (90, [7], [], -2147483648), (91, [7], [], 2147483647), (23, [1], [0], 1), (42, [4, 5], [], 0), (0, [5], [], 4), (20, [4, 1], [0], 18), (23, [1], [0], 1), (90, [4], [], -2147483648), (91, [4], [], 2147483647), (40, [2, 3], [], 0), (0, [3], [], 3), (20, [2, 0], [0], 2), (90, [2], [], -2147483648), (91, [2], [], 2147483647), (6000, [0, 1], [0], 0), (0, [0], [], 30), (51, [1], [], 0)], (2067, [0, 8, 9], [0], 0)) := vOk_in fun ρ η h => by
  obtain ⟨f0, f1, f2, f3, f4, f5, f6, f7, f8, f9, f10, f11, f12, f13, f14, f15, f16, f17, f18, f19, f20, _⟩ := h
  exact q_79v_2 (n0 := ρ 1) (n1 := ρ 0) (n2 := ρ 2) (n3 := ρ 3) (n4 := ρ 4) (n5 := ρ 5) (n6 := ρ 7) (n7 := ρ 8) (n8 := ρ 9) (H0 := η 0) f20 f19 f18 f17 f16 f15 f14 f13 f12 f11 f10 f9 f8 f7 f6 f5 f4 f3 f2 f1 f0
theorem q_79v_3 {n0 n1 n2 n3 n4 n5 n6 n7 n8 n9 n10 n11 n12 n13 n14 : Int} {H0 H1 H2 H3 : gH} (f0 : 0 ≤ n0) (f1 : n1 = 30) (f2 : hWt T0 H0 ∧ preb_79v n1 n0 H0) (f3 : n2 ≤ 2147483647) (f4 : (-2147483648) ≤ n2) (f5 : n2 = hV H0 (n1).toNat 2) (f6 : n3 = 3) (f7 : n2 = n3) (f8 : n4 ≤ 2147483647) (f9 : (-2147483648) ≤ n4) (f10 : hK H0 (n0).toNat = 1) (f11 : n4 = hV H0 (n0).toNat 18) (f12 : n5 = 4) (f13 : n4 < n5) (f14 : 0 ≤ n6) (f15 : hK H0 (n0).toNat = 1) (f16 : n6 = hV H0 (n0).toNat 17) (f17 : n7 ≤ 2147483647) (f18 : (-2147483648) ≤ n7) (f19 : hK H0 (n0).toNat = 1) (f20 : n7 = hV H0 (n0).toNat 18) (f21 : n8 = 0) (f22 : n9 = 400) (f23 : n10 ≤ 2147483647) (f24 : (-2147483648) ≤ n10) (f25 : (hLe T0 H0 H1 ∧ hFr s_67v.2.2.2.2 H0 H1 ∧ ((0 : Int) = 0 → H1.length = H0.length) ∧ hWt T0 H1) ∧ postb_67v n10 n1 n8 n9 H0 H1) (f26 : (hLe T0 H1 H2 ∧ hFr s_201k796.2.2.2.2 H1 H2 ∧ ((0 : Int) = 0 → H2.length = H1.length) ∧ hWt T0 H2) ∧ True) (f27 : n11 ≤ 2147483647) (f28 : (-2147483648) ≤ n11) (f29 : hK H2 (n0).toNat = 1) (f30 : n11 = hV H2 (n0).toNat 18) (f31 : n12 = 1) (f32 : n13 = w32 (n11 + n12)) (f33 : hK H2 (n0).toNat = 1) (f34 : n14 = 18) (f35 : hUpd H3 H2 n0 n14 n13) : postb_79v n1 n0 H0 H3 := by
  have pz := f2.2
  unfold preb_79v at pz
  have c0 := f25.2
  unfold postb_67v at c0
  try rw [f21] at c0
  try rw [f22] at c0
  have a0 : absC H1 = (pnm (vwC H0) 0 400 (absC H0)) := c0.2
  have v0 : vwC H1 = vwC H0 := (vwC_fr f25.1.2.1 (by decide +kernel))
  have s1 := PF_fr f26.1.1 f26.1.2.1 (by decide +kernel) c0.1
  have a1 : absC H2 = (pnm (vwC H0) 0 400 (absC H0)) := s1.1.trans a0
  have v1 : vwC H2 = vwC H0 := s1.2.1.trans v0
  have s2 := PF_up f35 s1.2.2 f29
  have a2 : absC H3 = (pnm (vwC H0) 0 400 (absC H0)) := s2.1.trans a1
  have v2 : vwC H3 = vwC H0 := s2.2.1.trans v1
  have b0 := kd_at pz.1
  have g0 := f5
  rw [f1] at g0
  rw [show ((30 : Int)).toNat = 30 from rfl] at g0
  have h0 : (absC H0).1 < 0 ∨ (vwC H0).1 (absC H0).1 = 3 := by
    rcases b0 with q | q
    · exact .inl q
    · right
      rw [q]
      omega
  have ck := pz.2.2.2.1
  have cp := pz.2.2.2.2
  have tp0 := f11.trans (rfl)
  have tp1 := f20.trans (rfl)
  have t2_180 : hK H1 (n0).toNat = 1 := kLe f25.1.1 ck rfl
  have t2_181 : hK H2 (n0).toNat = 1 := kLe f26.1.1 t2_180 rfl
  have tp2 := f30.trans ((f26.1.2.1.2.2 _ 1 t2_180 rfl 18 (by decide +kernel)).trans (f25.1.2.1.2.2 _ 1 ck rfl 18 (by decide +kernel)))
  have e_180 : hK H1 (n0).toNat = 1 := kLe f25.1.1 ck rfl
  have e_181 : hK H2 (n0).toNat = 1 := kLe f26.1.1 e_180 rfl
  have e_182 : hK H3 (n0).toNat = 1 := kUp f35 e_181
  have te : hV H3 (n0).toNat 18 = n13 := uSame f35 _ 18 (Int.toNat_of_nonneg (by omega)) (by rw [f34]; rfl)
  have wq := f32
  unfold w32 at wq
  unfold postb_79v
  refine ⟨s2.2.2, ?_, by omega⟩
  rw [a2]
  exact pWt_few (by omega)
theorem c_79v_s_3 : vOkm T0 (eP e_79v L_79v A_79v mu_79v none) 2 ([(80, [1, 14, 13], [3, 2], 0), (0, [14], [], 18), (23, [1], [2], 1), (1, [13, 11, 12], [], 0), (0, [12], [], 1), (20, [11, 1], [2], 18), (23, [1], [2], 1), (90, [11], [], -2147483648), (91, [11], [], 2147483647), (1201, [6, 7, 10], [1, 2], 0), (1067, [10, 0, 8, 9], [0, 1], 0), (90, [10], [], -2147483648), (91, [10], [], 2147483647), (0, [9], [], 400), (0, [8], [], 0), (20, [7, 1], [0], 18), (23, [1], [0], 1), (90, [7], [], -2147483648), (91, [7], [], 2147483647), (20, [6, 1], [0], 17), (23, [1], [0], 1), (51, [6], [], 0), (42, [4, 5], [], 0), (0, [5], [], 4), (20, [4, 1], [0], 18), (23, [1], [0], 1), (90, [4], [], -2147483648), (91, [4], [], 2147483647), (40, [2, 3], [], 0), (0, [3], [], 3), (20, [2, 0], [0], 2), (90, [2], [], -2147483648), (91, [2], [], 2147483647), (6000, [0, 1], [0], 0), (0, [0], [], 30), (51, [1], [], 0)], (3000, [], [3], 50)) := vOk_in fun ρ η h => by
  obtain ⟨f0, f1, f2, f3, f4, f5, f6, f7, f8, f9, f10, f11, f12, f13, f14, f15, f16, f17, f18, f19, f20, f21, f22, f23, f24, f25, f26, f27, f28, f29, f30, f31, f32, f33, f34, f35, _⟩ := h
  exact q_79v_3 (n0 := ρ 1) (n1 := ρ 0) (n2 := ρ 2) (n3 := ρ 3) (n4 := ρ 4) (n5 := ρ 5) (n6 := ρ 6) (n7 := ρ 7) (n8 := ρ 8) (n9 := ρ 9) (n10 := ρ 10) (n11 := ρ 11) (n12 := ρ 12) (n13 := ρ 13) (n14 := ρ 14) (H0 := η 0) (H1 := η 1) (H2 := η 2) (H3 := η 3) f35 f34 f33 f32 f31 f30 f29 f28 f27 f26 f25 f24 f23 f22 f21 f20 f19 f18 f17 f16 f15 f14 f13 f12 f11 f10 f9 f8 f7 f6 f5 f4 f3 f2 f1 f0
theorem q_79v_4 {n0 n1 n2 n3 n4 n5 n6 : Int} {H0 : gH} (f0 : 0 ≤ n0) (f1 : n1 = 30) (f2 : hWt T0 H0 ∧ preb_79v n1 n0 H0) (f3 : n2 ≤ 2147483647) (f4 : (-2147483648) ≤ n2) (f5 : n2 = hV H0 (n1).toNat 2) (f6 : n3 = 3) (f7 : n2 = n3) (f8 : n4 ≤ 2147483647) (f9 : (-2147483648) ≤ n4) (f10 : hK H0 (n0).toNat = 1) (f11 : n4 = hV H0 (n0).toNat 18) (f12 : n5 = 4) (f13 : n5 ≤ n4) (f14 : n6 = 2) : preb_64v n1 n6 H0 := by
  have pz := f2.2
  unfold preb_79v at pz
  unfold preb_64v
  exact ⟨pz.1, by omega⟩
theorem c_79v_s_4 : vOkm T0 (eP e_79v L_79v A_79v mu_79v none) 2 ([(0, [6], [], 2), (43, [4, 5], [], 0), (0, [5], [], 4), (20, [4, 1], [0], 18), (23, [1], [0], 1), (90, [4], [], -2147483648), (91, [4], [], 2147483647), (40, [2, 3], [], 0), (0, [3], [], 3), (20, [2, 0], [0], 2), (90, [2], [], -2147483648), (91, [2], [], 2147483647), (6000, [0, 1], [0], 0), (0, [0], [], 30), (51, [1], [], 0)], (2064, [0, 6], [0], 0)) := vOk_in fun ρ η h => by
  obtain ⟨f0, f1, f2, f3, f4, f5, f6, f7, f8, f9, f10, f11, f12, f13, f14, _⟩ := h
  exact q_79v_4 (n0 := ρ 1) (n1 := ρ 0) (n2 := ρ 2) (n3 := ρ 3) (n4 := ρ 4) (n5 := ρ 5) (n6 := ρ 6) (H0 := η 0) f14 f13 f12 f11 f10 f9 f8 f7 f6 f5 f4 f3 f2 f1 f0
theorem q_79v_5 {n0 n1 n2 n3 n4 n5 n6 n7 n8 n9 : Int} {H0 H1 : gH} (f0 : 0 ≤ n0) (f1 : n1 = 30) (f2 : hWt T0 H0 ∧ preb_79v n1 n0 H0) (f3 : n2 ≤ 2147483647) (f4 : (-2147483648) ≤ n2) (f5 : n2 = hV H0 (n1).toNat 2) (f6 : n3 = 3) (f7 : n2 = n3) (f8 : n4 ≤ 2147483647) (f9 : (-2147483648) ≤ n4) (f10 : hK H0 (n0).toNat = 1) (f11 : n4 = hV H0 (n0).toNat 18) (f12 : n5 = 4) (f13 : n5 ≤ n4) (f14 : n6 = 2) (f15 : (hLe T0 H0 H1 ∧ hFr s_64v.2.2.2.2 H0 H1 ∧ ((0 : Int) = 0 → H1.length = H0.length) ∧ hWt T0 H1) ∧ postb_64v n1 n6 H0 H1) (f16 : hK H1 (n0).toNat = 1) (f17 : n7 ≤ 2147483647) (f18 : (-2147483648) ≤ n7) (f19 : hK H1 (n0).toNat = 1) (f20 : n7 = hV H1 (n0).toNat 18) (f21 : n8 = 0) (f22 : n9 = 400) : preb_67v n1 n8 n9 H1 := by
  have pz := f2.2
  unfold preb_79v at pz
  have c0 := f15.2
  unfold postb_64v at c0
  try rw [f14] at c0
  have a0 : absC H1 = (pfail (vwC H0) 2 (absC H0)) := c0.2
  have v0 : vwC H1 = vwC H0 := (vwC_fr f15.1.2.1 (by decide +kernel))
  unfold preb_67v
  exact c0.1
theorem c_79v_s_5 : vOkm T0 (eP e_79v L_79v A_79v mu_79v none) 2 ([(0, [10], [], 400), (0, [9], [], 0), (20, [8, 1], [1], 18), (23, [1], [1], 1), (90, [8], [], -2147483648), (91, [8], [], 2147483647), (23, [1], [1], 1), (1064, [0, 6], [0, 1], 0), (0, [6], [], 2), (43, [4, 5], [], 0), (0, [5], [], 4), (20, [4, 1], [0], 18), (23, [1], [0], 1), (90, [4], [], -2147483648), (91, [4], [], 2147483647), (40, [2, 3], [], 0), (0, [3], [], 3), (20, [2, 0], [0], 2), (90, [2], [], -2147483648), (91, [2], [], 2147483647), (6000, [0, 1], [0], 0), (0, [0], [], 30), (51, [1], [], 0)], (2067, [0, 9, 10], [1], 0)) := vOk_in fun ρ η h => by
  obtain ⟨f0, f1, f2, f3, f4, f5, f6, f7, f8, f9, f10, f11, f12, f13, f14, f15, f16, f17, f18, f19, f20, f21, f22, _⟩ := h
  exact q_79v_5 (n0 := ρ 1) (n1 := ρ 0) (n2 := ρ 2) (n3 := ρ 3) (n4 := ρ 4) (n5 := ρ 5) (n6 := ρ 6) (n7 := ρ 8) (n8 := ρ 9) (n9 := ρ 10) (H0 := η 0) (H1 := η 1) f22 f21 f20 f19 f18 f17 f16 f15 f14 f13 f12 f11 f10 f9 f8 f7 f6 f5 f4 f3 f2 f1 f0
theorem q_79v_6 {n0 n1 n2 n3 n4 n5 n6 n7 n8 n9 n10 n11 n12 n13 n14 n15 : Int} {H0 H1 H2 H3 H4 : gH} (f0 : 0 ≤ n0) (f1 : n1 = 30) (f2 : hWt T0 H0 ∧ preb_79v n1 n0 H0) (f3 : n2 ≤ 2147483647) (f4 : (-2147483648) ≤ n2) (f5 : n2 = hV H0 (n1).toNat 2) (f6 : n3 = 3) (f7 : n2 = n3) (f8 : n4 ≤ 2147483647) (f9 : (-2147483648) ≤ n4) (f10 : hK H0 (n0).toNat = 1) (f11 : n4 = hV H0 (n0).toNat 18) (f12 : n5 = 4) (f13 : n5 ≤ n4) (f14 : n6 = 2) (f15 : (hLe T0 H0 H1 ∧ hFr s_64v.2.2.2.2 H0 H1 ∧ ((0 : Int) = 0 → H1.length = H0.length) ∧ hWt T0 H1) ∧ postb_64v n1 n6 H0 H1) (f16 : 0 ≤ n7) (f17 : hK H1 (n0).toNat = 1) (f18 : n7 = hV H1 (n0).toNat 17) (f19 : n8 ≤ 2147483647) (f20 : (-2147483648) ≤ n8) (f21 : hK H1 (n0).toNat = 1) (f22 : n8 = hV H1 (n0).toNat 18) (f23 : n9 = 0) (f24 : n10 = 400) (f25 : n11 ≤ 2147483647) (f26 : (-2147483648) ≤ n11) (f27 : (hLe T0 H1 H2 ∧ hFr s_67v.2.2.2.2 H1 H2 ∧ ((0 : Int) = 0 → H2.length = H1.length) ∧ hWt T0 H2) ∧ postb_67v n11 n1 n9 n10 H1 H2) (f28 : (hLe T0 H2 H3 ∧ hFr s_201k796.2.2.2.2 H2 H3 ∧ ((0 : Int) = 0 → H3.length = H2.length) ∧ hWt T0 H3) ∧ True) (f29 : n12 ≤ 2147483647) (f30 : (-2147483648) ≤ n12) (f31 : hK H3 (n0).toNat = 1) (f32 : n12 = hV H3 (n0).toNat 18) (f33 : n13 = 1) (f34 : n14 = w32 (n12 + n13)) (f35 : hK H3 (n0).toNat = 1) (f36 : n15 = 18) (f37 : hUpd H4 H3 n0 n15 n14) : postb_79v n1 n0 H0 H4 := by
  have pz := f2.2
  unfold preb_79v at pz
  have c0 := f15.2
  unfold postb_64v at c0
  try rw [f14] at c0
  have a0 : absC H1 = (pfail (vwC H0) 2 (absC H0)) := c0.2
  have v0 : vwC H1 = vwC H0 := (vwC_fr f15.1.2.1 (by decide +kernel))
  have c1 := f27.2
  unfold postb_67v at c1
  try rw [f23] at c1
  try rw [f24] at c1
  rw [v0] at c1
  rw [a0] at c1
  have a1 : absC H2 = (pnm (vwC H0) 0 400 (pfail (vwC H0) 2 (absC H0))) := c1.2
  have v1 : vwC H2 = vwC H0 := (vwC_fr f27.1.2.1 (by decide +kernel)).trans v0
  have s2 := PF_fr f28.1.1 f28.1.2.1 (by decide +kernel) c1.1
  have a2 : absC H3 = (pnm (vwC H0) 0 400 (pfail (vwC H0) 2 (absC H0))) := s2.1.trans a1
  have v2 : vwC H3 = vwC H0 := s2.2.1.trans v1
  have s3 := PF_up f37 s2.2.2 f31
  have a3 : absC H4 = (pnm (vwC H0) 0 400 (pfail (vwC H0) 2 (absC H0))) := s3.1.trans a2
  have v3 : vwC H4 = vwC H0 := s3.2.1.trans v2
  have b0 := kd_at pz.1
  have g0 := f5
  rw [f1] at g0
  rw [show ((30 : Int)).toNat = 30 from rfl] at g0
  have h0 : (absC H0).1 < 0 ∨ (vwC H0).1 (absC H0).1 = 3 := by
    rcases b0 with q | q
    · exact .inl q
    · right
      rw [q]
      omega
  have ck := pz.2.2.2.1
  have cp := pz.2.2.2.2
  have tp0 := f11.trans (rfl)
  have t1_180 : hK H1 (n0).toNat = 1 := kLe f15.1.1 ck rfl
  have tp1 := f22.trans (f15.1.2.1.2.2 _ 1 ck rfl 18 (by decide +kernel))
  have t2_180 : hK H1 (n0).toNat = 1 := kLe f15.1.1 ck rfl
  have t2_181 : hK H2 (n0).toNat = 1 := kLe f27.1.1 t2_180 rfl
  have t2_182 : hK H3 (n0).toNat = 1 := kLe f28.1.1 t2_181 rfl
  have tp2 := f32.trans ((f28.1.2.1.2.2 _ 1 t2_181 rfl 18 (by decide +kernel)).trans ((f27.1.2.1.2.2 _ 1 t2_180 rfl 18 (by decide +kernel)).trans (f15.1.2.1.2.2 _ 1 ck rfl 18 (by decide +kernel))))
  have e_180 : hK H1 (n0).toNat = 1 := kLe f15.1.1 ck rfl
  have e_181 : hK H2 (n0).toNat = 1 := kLe f27.1.1 e_180 rfl
  have e_182 : hK H3 (n0).toNat = 1 := kLe f28.1.1 e_181 rfl
  have e_183 : hK H4 (n0).toNat = 1 := kUp f37 e_182
  have te : hV H4 (n0).toNat 18 = n14 := uSame f37 _ 18 (Int.toNat_of_nonneg (by omega)) (by rw [f36]; rfl)
  have wq := f34
  unfold w32 at wq
  unfold postb_79v
  refine ⟨s3.2.2, ?_, by omega⟩
  rw [a3]
  exact pWt_full pz.1 (absC_ok pz.1) h0 (by omega)
theorem c_79v_s_6 : vOkm T0 (eP e_79v L_79v A_79v mu_79v none) 2 ([(80, [1, 15, 14], [4, 3], 0), (0, [15], [], 18), (23, [1], [3], 1), (1, [14, 12, 13], [], 0), (0, [13], [], 1), (20, [12, 1], [3], 18), (23, [1], [3], 1), (90, [12], [], -2147483648), (91, [12], [], 2147483647), (1201, [7, 8, 11], [2, 3], 0), (1067, [11, 0, 9, 10], [1, 2], 0), (90, [11], [], -2147483648), (91, [11], [], 2147483647), (0, [10], [], 400), (0, [9], [], 0), (20, [8, 1], [1], 18), (23, [1], [1], 1), (90, [8], [], -2147483648), (91, [8], [], 2147483647), (20, [7, 1], [1], 17), (23, [1], [1], 1), (51, [7], [], 0), (1064, [0, 6], [0, 1], 0), (0, [6], [], 2), (43, [4, 5], [], 0), (0, [5], [], 4), (20, [4, 1], [0], 18), (23, [1], [0], 1), (90, [4], [], -2147483648), (91, [4], [], 2147483647), (40, [2, 3], [], 0), (0, [3], [], 3), (20, [2, 0], [0], 2), (90, [2], [], -2147483648), (91, [2], [], 2147483647), (6000, [0, 1], [0], 0), (0, [0], [], 30), (51, [1], [], 0)], (3000, [], [4], 50)) := vOk_in fun ρ η h => by
  obtain ⟨f0, f1, f2, f3, f4, f5, f6, f7, f8, f9, f10, f11, f12, f13, f14, f15, f16, f17, f18, f19, f20, f21, f22, f23, f24, f25, f26, f27, f28, f29, f30, f31, f32, f33, f34, f35, f36, f37, _⟩ := h
  exact q_79v_6 (n0 := ρ 1) (n1 := ρ 0) (n2 := ρ 2) (n3 := ρ 3) (n4 := ρ 4) (n5 := ρ 5) (n6 := ρ 6) (n7 := ρ 7) (n8 := ρ 8) (n9 := ρ 9) (n10 := ρ 10) (n11 := ρ 11) (n12 := ρ 12) (n13 := ρ 13) (n14 := ρ 14) (n15 := ρ 15) (H0 := η 0) (H1 := η 1) (H2 := η 2) (H3 := η 3) (H4 := η 4) f37 f36 f35 f34 f33 f32 f31 f30 f29 f28 f27 f26 f25 f24 f23 f22 f21 f20 f19 f18 f17 f16 f15 f14 f13 f12 f11 f10 f9 f8 f7 f6 f5 f4 f3 f2 f1 f0
def p_79v_s : List vG := [([(0, [7], [], 400), (0, [6], [], 0), (20, [5, 1], [0], 18), (23, [1], [0], 1), (90, [5], [], -2147483648), (91, [5], [], 2147483647), (23, [1], [0], 1), (41, [2, 3], [], 0), (0, [3], [], 3), (20, [2, 0], [0], 2), (90, [2], [], -2147483648), (91, [2], [], 2147483647), (6000, [0, 1], [0], 0), (0, [0], [], 30), (51, [1], [], 0)], (2067, [0, 6, 7], [0], 0)),
  ([(80, [1, 12, 11], [3, 2], 0), (0, [12], [], 18), (23, [1], [2], 1), (1, [11, 9, 10], [], 0), (0, [10], [], 1), (20, [9, 1], [2], 18), (23, [1], [2], 1), (90, [9], [], -2147483648), (91, [9], [], 2147483647), (1201, [4, 5, 8], [1, 2], 0), (1067, [8, 0, 6, 7], [0, 1], 0), (90, [8], [], -2147483648), (91, [8], [], 2147483647), (0, [7], [], 400), (0, [6], [], 0), (20, [5, 1], [0], 18), (23, [1], [0], 1), (90, [5], [], -2147483648), (91, [5], [], 2147483647), (20, [4, 1], [0], 17), (23, [1], [0], 1), (51, [4], [], 0), (41, [2, 3], [], 0), (0, [3], [], 3), (20, [2, 0], [0], 2), (90, [2], [], -2147483648), (91, [2], [], 2147483647), (6000, [0, 1], [0], 0), (0, [0], [], 30), (51, [1], [], 0)], (3000, [], [3], 50)),
  ([(0, [9], [], 400), (0, [8], [], 0), (20, [7, 1], [0], 18), (23, [1], [0], 1), (90, [7], [], -2147483648), (91, [7], [], 2147483647), (23, [1], [0], 1), (42, [4, 5], [], 0), (0, [5], [], 4), (20, [4, 1], [0], 18), (23, [1], [0], 1), (90, [4], [], -2147483648), (91, [4], [], 2147483647), (40, [2, 3], [], 0), (0, [3], [], 3), (20, [2, 0], [0], 2), (90, [2], [], -2147483648), (91, [2], [], 2147483647), (6000, [0, 1], [0], 0), (0, [0], [], 30), (51, [1], [], 0)], (2067, [0, 8, 9], [0], 0)),
  ([(80, [1, 14, 13], [3, 2], 0), (0, [14], [], 18), (23, [1], [2], 1), (1, [13, 11, 12], [], 0), (0, [12], [], 1), (20, [11, 1], [2], 18), (23, [1], [2], 1), (90, [11], [], -2147483648), (91, [11], [], 2147483647), (1201, [6, 7, 10], [1, 2], 0), (1067, [10, 0, 8, 9], [0, 1], 0), (90, [10], [], -2147483648), (91, [10], [], 2147483647), (0, [9], [], 400), (0, [8], [], 0), (20, [7, 1], [0], 18), (23, [1], [0], 1), (90, [7], [], -2147483648), (91, [7], [], 2147483647), (20, [6, 1], [0], 17), (23, [1], [0], 1), (51, [6], [], 0), (42, [4, 5], [], 0), (0, [5], [], 4), (20, [4, 1], [0], 18), (23, [1], [0], 1), (90, [4], [], -2147483648), (91, [4], [], 2147483647), (40, [2, 3], [], 0), (0, [3], [], 3), (20, [2, 0], [0], 2), (90, [2], [], -2147483648), (91, [2], [], 2147483647), (6000, [0, 1], [0], 0), (0, [0], [], 30), (51, [1], [], 0)], (3000, [], [3], 50)),
  ([(0, [6], [], 2), (43, [4, 5], [], 0), (0, [5], [], 4), (20, [4, 1], [0], 18), (23, [1], [0], 1), (90, [4], [], -2147483648), (91, [4], [], 2147483647), (40, [2, 3], [], 0), (0, [3], [], 3), (20, [2, 0], [0], 2), (90, [2], [], -2147483648), (91, [2], [], 2147483647), (6000, [0, 1], [0], 0), (0, [0], [], 30), (51, [1], [], 0)], (2064, [0, 6], [0], 0)),
  ([(0, [10], [], 400), (0, [9], [], 0), (20, [8, 1], [1], 18), (23, [1], [1], 1), (90, [8], [], -2147483648), (91, [8], [], 2147483647), (23, [1], [1], 1), (1064, [0, 6], [0, 1], 0), (0, [6], [], 2), (43, [4, 5], [], 0), (0, [5], [], 4), (20, [4, 1], [0], 18), (23, [1], [0], 1), (90, [4], [], -2147483648), (91, [4], [], 2147483647), (40, [2, 3], [], 0), (0, [3], [], 3), (20, [2, 0], [0], 2), (90, [2], [], -2147483648), (91, [2], [], 2147483647), (6000, [0, 1], [0], 0), (0, [0], [], 30), (51, [1], [], 0)], (2067, [0, 9, 10], [1], 0)),
  ([(80, [1, 15, 14], [4, 3], 0), (0, [15], [], 18), (23, [1], [3], 1), (1, [14, 12, 13], [], 0), (0, [13], [], 1), (20, [12, 1], [3], 18), (23, [1], [3], 1), (90, [12], [], -2147483648), (91, [12], [], 2147483647), (1201, [7, 8, 11], [2, 3], 0), (1067, [11, 0, 9, 10], [1, 2], 0), (90, [11], [], -2147483648), (91, [11], [], 2147483647), (0, [10], [], 400), (0, [9], [], 0), (20, [8, 1], [1], 18), (23, [1], [1], 1), (90, [8], [], -2147483648), (91, [8], [], 2147483647), (20, [7, 1], [1], 17), (23, [1], [1], 1), (51, [7], [], 0), (1064, [0, 6], [0, 1], 0), (0, [6], [], 2), (43, [4, 5], [], 0), (0, [5], [], 4), (20, [4, 1], [0], 18), (23, [1], [0], 1), (90, [4], [], -2147483648), (91, [4], [], 2147483647), (40, [2, 3], [], 0), (0, [3], [], 3), (20, [2, 0], [0], 2), (90, [2], [], -2147483648), (91, [2], [], 2147483647), (6000, [0, 1], [0], 0), (0, [0], [], 30), (51, [1], [], 0)], (3000, [], [4], 50))]
theorem r_79v_s : vCovO false (eR0 e_79v L_79v cs_79v 2000) p_79v_s = true := by decide +kernel
theorem m_79v (d : Nat) : eC e_79v (d + 4) := eC_ok (e := e_79v) (L := L_79v) (cs := cs_79v) (n := 2000) (d := d + 3) (A := A_79v) (μ := mu_79v) (tp := false) (p0 := p_79v_s) rfl ⟨m_64v (d + 2), ⟨m_67v d, ⟨m_201k796 (d + 2), trivial⟩⟩⟩ rfl (.inl rfl) (by decide +kernel) (fun z => nomatch z) r_79v_s (allC c_79v_s_0 (allC c_79v_s_1 (allC c_79v_s_2 (allC c_79v_s_3 (allC c_79v_s_4 (allC c_79v_s_5 (allC c_79v_s_6 allN))))))) allN
/- Reader.readTaps (LMixStage$Cue;)V -/
noncomputable def s_78v : vM := ([(3, 4, 30, 0), (3, 1, -1, 0)], (9, 0, 0, 0), 1, 0, [(1, 3), (1, 18), (4, 1), (4, 2), (4, 3), (4, 4), (4, 5), (4, 6), (796, 0)])
def preb_78v (a0 a1 : Int) (h : gH) : Prop := KI h ∧ hV h (a1).toNat 18 = 0 ∧ hK h (a1).toNat = 1 ∧ 0 ≤ a1
def pre_78v : List Int → gH → Prop := fun xs h => match xs with
  | [a0, a1] => preb_78v a0 a1 h
  | _ => False
def postb_78v (a0 a1 : Int) (h0 h : gH) : Prop := KI h ∧ absC h = pTaps (vwC h0) (absC h0)
def post_78v : List Int → gH → gH → Prop := fun xs h0 h => match xs with
  | [a0, a1] => postb_78v a0 a1 h0 h
  | _ => True
noncomputable def e_78v : vE := (78, s_78v, pre_78v, post_78v)
noncomputable def L_78v : List vE := [e_66v, e_67v, e_79v]
def cs_78v : List vC := [(23, [(0, (3, 4, 30, 0)), (1, (3, 1, -1, 0)), (2, (0, -2147483648, 2147483647, 0))])]
def Ab_78v_23 (a0 a1 x0 x1 x2 : Int) (h0 h : gH) : Prop := x1 = a1 ∧ KI h ∧ 0 ≤ x2 ∧ x2 ≤ 4 ∧ hK h (a1).toNat = 1 ∧ 0 ≤ a1 ∧ hV h (a1).toNat 18 = 1 + x2 ∧ pTl (vwC h0) (4 - x2).toNat (1 + x2) (absC h) = pTaps (vwC h0) (absC h0)
def mub_78v_23 (a0 a1 x0 x1 x2 : Int) (h0 h : gH) : Nat := (2147483648 - x2).toNat
def A_78v : Int → List Int → gH → gH → Prop := fun c xs h0 h => match c.toNat with
  | 23 => (match xs with
    | [a0, a1, x0, x1, x2] => Ab_78v_23 a0 a1 x0 x1 x2 h0 h
    | _ => False)
  | _ => True
def mu_78v : Int → List Int → gH → gH → Nat := fun c xs h0 h => match c.toNat with
  | 23 => (match xs with
    | [a0, a1, x0, x1, x2] => mub_78v_23 a0 a1 x0 x1 x2 h0 h
    | _ => 0)
  | _ => 0
theorem q_78v_0 {n0 n1 n2 n3 : Int} {H0 : gH} (f0 : 0 ≤ n0) (f1 : n1 = 30) (f2 : hWt T0 H0 ∧ preb_78v n1 n0 H0) (f3 : n2 = 0) (f4 : n3 = 2) : preb_67v n1 n2 n3 H0 := by
  have pz := f2.2
  unfold preb_78v at pz
  have ck := pz.2.2.1
  have cp := pz.2.2.2
  have c0 := pz.2.1
  unfold preb_67v
  exact pz.1
theorem c_78v_s_0 : vOkm T0 (eP e_78v L_78v A_78v mu_78v none) 2 ([(0, [3], [], 2), (0, [2], [], 0), (6000, [0, 1], [0], 0), (0, [0], [], 30), (51, [1], [], 0)], (2067, [0, 2, 3], [0], 0)) := vOk_in fun ρ η h => by
  obtain ⟨f0, f1, f2, f3, f4, _⟩ := h
  exact q_78v_0 (n0 := ρ 1) (n1 := ρ 0) (n2 := ρ 2) (n3 := ρ 3) (H0 := η 0) f4 f3 f2 f1 f0
theorem q_78v_1 {n0 n1 n2 n3 n4 n5 n6 : Int} {H0 H1 H2 : gH} (f0 : 0 ≤ n0) (f1 : n1 = 30) (f2 : hWt T0 H0 ∧ preb_78v n1 n0 H0) (f3 : n2 = 0) (f4 : n3 = 2) (f5 : n4 ≤ 2147483647) (f6 : (-2147483648) ≤ n4) (f7 : (hLe T0 H0 H1 ∧ hFr s_67v.2.2.2.2 H0 H1 ∧ ((0 : Int) = 0 → H1.length = H0.length) ∧ hWt T0 H1) ∧ postb_67v n4 n1 n2 n3 H0 H1) (f8 : hK H1 (n0).toNat = 1) (f9 : n5 = 3) (f10 : hUpd H2 H1 n0 n5 n4) (f11 : n6 = 36) : preb_66v n1 n6 H2 := by
  have pz := f2.2
  unfold preb_78v at pz
  have c0 := f7.2
  unfold postb_67v at c0
  try rw [f3] at c0
  try rw [f4] at c0
  have a0 : absC H1 = (pnm (vwC H0) 0 2 (absC H0)) := c0.2
  have v0 : vwC H1 = vwC H0 := (vwC_fr f7.1.2.1 (by decide +kernel))
  have s1 := PF_up f10 c0.1 f8
  have a1 : absC H2 = (pnm (vwC H0) 0 2 (absC H0)) := s1.1.trans a0
  have v1 : vwC H2 = vwC H0 := s1.2.1.trans v0
  have ck := pz.2.2.1
  have cp := pz.2.2.2
  have c0 := pz.2.1
  unfold preb_66v
  exact ⟨s1.2.2, by omega⟩
theorem c_78v_s_1 : vOkm T0 (eP e_78v L_78v A_78v mu_78v none) 2 ([(0, [6], [], 36), (80, [1, 5, 4], [2, 1], 0), (0, [5], [], 3), (23, [1], [1], 1), (1067, [4, 0, 2, 3], [0, 1], 0), (90, [4], [], -2147483648), (91, [4], [], 2147483647), (0, [3], [], 2), (0, [2], [], 0), (6000, [0, 1], [0], 0), (0, [0], [], 30), (51, [1], [], 0)], (2066, [0, 6], [2], 0)) := vOk_in fun ρ η h => by
  obtain ⟨f0, f1, f2, f3, f4, f5, f6, f7, f8, f9, f10, f11, _⟩ := h
  exact q_78v_1 (n0 := ρ 1) (n1 := ρ 0) (n2 := ρ 2) (n3 := ρ 3) (n4 := ρ 4) (n5 := ρ 5) (n6 := ρ 6) (H0 := η 0) (H1 := η 1) (H2 := η 2) f11 f10 f9 f8 f7 f6 f5 f4 f3 f2 f1 f0
theorem q_78v_2 {n0 n1 n2 n3 n4 n5 n6 : Int} {H0 H1 H2 H3 : gH} (f0 : 0 ≤ n0) (f1 : n1 = 30) (f2 : hWt T0 H0 ∧ preb_78v n1 n0 H0) (f3 : n2 = 0) (f4 : n3 = 2) (f5 : n4 ≤ 2147483647) (f6 : (-2147483648) ≤ n4) (f7 : (hLe T0 H0 H1 ∧ hFr s_67v.2.2.2.2 H0 H1 ∧ ((0 : Int) = 0 → H1.length = H0.length) ∧ hWt T0 H1) ∧ postb_67v n4 n1 n2 n3 H0 H1) (f8 : hK H1 (n0).toNat = 1) (f9 : n5 = 3) (f10 : hUpd H2 H1 n0 n5 n4) (f11 : n6 = 36) (f12 : (hLe T0 H2 H3 ∧ hFr s_66v.2.2.2.2 H2 H3 ∧ ((0 : Int) = 0 → H3.length = H2.length) ∧ hWt T0 H3) ∧ postb_66v n1 n6 H2 H3) : preb_79v n1 n0 H3 := by
  have pz := f2.2
  unfold preb_78v at pz
  have c0 := f7.2
  unfold postb_67v at c0
  try rw [f3] at c0
  try rw [f4] at c0
  have a0 : absC H1 = (pnm (vwC H0) 0 2 (absC H0)) := c0.2
  have v0 : vwC H1 = vwC H0 := (vwC_fr f7.1.2.1 (by decide +kernel))
  have s1 := PF_up f10 c0.1 f8
  have a1 : absC H2 = (pnm (vwC H0) 0 2 (absC H0)) := s1.1.trans a0
  have v1 : vwC H2 = vwC H0 := s1.2.1.trans v0
  have c2 := f12.2
  unfold postb_66v at c2
  try rw [f11] at c2
  rw [v1] at c2
  rw [a1] at c2
  have a2 : absC H3 = (ptk (vwC H0) 36 (pnm (vwC H0) 0 2 (absC H0))) := c2.2
  have v2 : vwC H3 = vwC H0 := (vwC_fr f12.1.2.1 (by decide +kernel)).trans v1
  have ck := pz.2.2.1
  have cp := pz.2.2.2
  have c0 := pz.2.1
  have e_180 : hK H1 (n0).toNat = 1 := kLe f7.1.1 ck rfl
  have e_181 : hK H2 (n0).toNat = 1 := kUp f10 e_180
  have e_182 : hK H3 (n0).toNat = 1 := kLe f12.1.1 e_181 rfl
  have te : hV H3 (n0).toNat 18 = hV H0 (n0).toNat 18 := (f12.1.2.1.2.2 _ 1 e_181 rfl 18 (by decide +kernel)).trans ((uSlot f10 _ 18 (by rw [f9]; decide)).trans (f7.1.2.1.2.2 _ 1 ck rfl 18 (by decide +kernel)))
  unfold preb_79v
  exact ⟨c2.1, by omega, by omega, e_182, by omega⟩
theorem c_78v_s_2 : vOkm T0 (eP e_78v L_78v A_78v mu_78v none) 2 ([(1066, [0, 6], [2, 3], 0), (0, [6], [], 36), (80, [1, 5, 4], [2, 1], 0), (0, [5], [], 3), (23, [1], [1], 1), (1067, [4, 0, 2, 3], [0, 1], 0), (90, [4], [], -2147483648), (91, [4], [], 2147483647), (0, [3], [], 2), (0, [2], [], 0), (6000, [0, 1], [0], 0), (0, [0], [], 30), (51, [1], [], 0)], (2079, [0, 1], [3], 0)) := vOk_in fun ρ η h => by
  obtain ⟨f0, f1, f2, f3, f4, f5, f6, f7, f8, f9, f10, f11, f12, _⟩ := h
  exact q_78v_2 (n0 := ρ 1) (n1 := ρ 0) (n2 := ρ 2) (n3 := ρ 3) (n4 := ρ 4) (n5 := ρ 5) (n6 := ρ 6) (H0 := η 0) (H1 := η 1) (H2 := η 2) (H3 := η 3) f12 f11 f10 f9 f8 f7 f6 f5 f4 f3 f2 f1 f0
theorem q_78v_3 {n0 n1 n2 n3 n4 n5 n6 n7 : Int} {H0 H1 H2 H3 H4 : gH} (f0 : 0 ≤ n0) (f1 : n1 = 30) (f2 : hWt T0 H0 ∧ preb_78v n1 n0 H0) (f3 : n2 = 0) (f4 : n3 = 2) (f5 : n4 ≤ 2147483647) (f6 : (-2147483648) ≤ n4) (f7 : (hLe T0 H0 H1 ∧ hFr s_67v.2.2.2.2 H0 H1 ∧ ((0 : Int) = 0 → H1.length = H0.length) ∧ hWt T0 H1) ∧ postb_67v n4 n1 n2 n3 H0 H1) (f8 : hK H1 (n0).toNat = 1) (f9 : n5 = 3) (f10 : hUpd H2 H1 n0 n5 n4) (f11 : n6 = 36) (f12 : (hLe T0 H2 H3 ∧ hFr s_66v.2.2.2.2 H2 H3 ∧ ((0 : Int) = 0 → H3.length = H2.length) ∧ hWt T0 H3) ∧ postb_66v n1 n6 H2 H3) (f13 : (hLe T0 H3 H4 ∧ hFr s_79v.2.2.2.2 H3 H4 ∧ ((0 : Int) = 0 → H4.length = H3.length) ∧ hWt T0 H4) ∧ postb_79v n1 n0 H3 H4) (f14 : n7 = 0) : Ab_78v_23 n1 n0 n1 n0 n7 H0 H4 ∧ ∀ q, none = some q → mub_78v_23 n1 n0 n1 n0 n7 H0 H4 < q := by
  have pz := f2.2
  unfold preb_78v at pz
  have c0 := f7.2
  unfold postb_67v at c0
  try rw [f3] at c0
  try rw [f4] at c0
  have a0 : absC H1 = (pnm (vwC H0) 0 2 (absC H0)) := c0.2
  have v0 : vwC H1 = vwC H0 := (vwC_fr f7.1.2.1 (by decide +kernel))
  have s1 := PF_up f10 c0.1 f8
  have a1 : absC H2 = (pnm (vwC H0) 0 2 (absC H0)) := s1.1.trans a0
  have v1 : vwC H2 = vwC H0 := s1.2.1.trans v0
  have c2 := f12.2
  unfold postb_66v at c2
  try rw [f11] at c2
  rw [v1] at c2
  rw [a1] at c2
  have a2 : absC H3 = (ptk (vwC H0) 36 (pnm (vwC H0) 0 2 (absC H0))) := c2.2
  have v2 : vwC H3 = vwC H0 := (vwC_fr f12.1.2.1 (by decide +kernel)).trans v1
  have c3 := f13.2
  unfold postb_79v at c3
  rw [v2] at c3
  rw [a2] at c3
  have a3 : absC H4 = (pWt (vwC H0) (hV H3 (n0).toNat 18) (ptk (vwC H0) 36 (pnm (vwC H0) 0 2 (absC H0)))) := c3.2.1
  have v3 : vwC H4 = vwC H0 := (vwC_fr f13.1.2.1 (by decide +kernel)).trans v2
  have ck := pz.2.2.1
  have cp := pz.2.2.2
  have c0 := pz.2.1
  have e_180 : hK H1 (n0).toNat = 1 := kLe f7.1.1 ck rfl
  have e_181 : hK H2 (n0).toNat = 1 := kUp f10 e_180
  have e_182 : hK H3 (n0).toNat = 1 := kLe f12.1.1 e_181 rfl
  have te : hV H3 (n0).toNat 18 = hV H0 (n0).toNat 18 := (f12.1.2.1.2.2 _ 1 e_181 rfl 18 (by decide +kernel)).trans ((uSlot f10 _ 18 (by rw [f9]; decide)).trans (f7.1.2.1.2.2 _ 1 ck rfl 18 (by decide +kernel)))
  have tf := f13.2
  unfold postb_79v at tf
  have tg := tf.2.2
  unfold Ab_78v_23
  refine ⟨⟨rfl, c3.1, by omega, by omega, (kLe f13.1.1 e_182 rfl), by omega, by omega, ?_⟩, fun q hq => nomatch hq⟩
  rw [show (4 - n7).toNat = 4 by omega, show 1 + n7 = 1 by omega, a3, te, c0]
  rfl
theorem c_78v_s_3 : vOkm T0 (eP e_78v L_78v A_78v mu_78v none) 2 ([(0, [7], [], 0), (1079, [0, 1], [3, 4], 0), (1066, [0, 6], [2, 3], 0), (0, [6], [], 36), (80, [1, 5, 4], [2, 1], 0), (0, [5], [], 3), (23, [1], [1], 1), (1067, [4, 0, 2, 3], [0, 1], 0), (90, [4], [], -2147483648), (91, [4], [], 2147483647), (0, [3], [], 2), (0, [2], [], 0), (6000, [0, 1], [0], 0), (0, [0], [], 30), (51, [1], [], 0)], (4000, [0, 1, 7], [4], 23)) := vOk_in fun ρ η h => by
  obtain ⟨f0, f1, f2, f3, f4, f5, f6, f7, f8, f9, f10, f11, f12, f13, f14, _⟩ := h
  exact q_78v_3 (n0 := ρ 1) (n1 := ρ 0) (n2 := ρ 2) (n3 := ρ 3) (n4 := ρ 4) (n5 := ρ 5) (n6 := ρ 6) (n7 := ρ 7) (H0 := η 0) (H1 := η 1) (H2 := η 2) (H3 := η 3) (H4 := η 4) f14 f13 f12 f11 f10 f9 f8 f7 f6 f5 f4 f3 f2 f1 f0
def p_78v_s : List vG := [([(0, [3], [], 2), (0, [2], [], 0), (6000, [0, 1], [0], 0), (0, [0], [], 30), (51, [1], [], 0)], (2067, [0, 2, 3], [0], 0)),
  ([(0, [6], [], 36), (80, [1, 5, 4], [2, 1], 0), (0, [5], [], 3), (23, [1], [1], 1), (1067, [4, 0, 2, 3], [0, 1], 0), (90, [4], [], -2147483648), (91, [4], [], 2147483647), (0, [3], [], 2), (0, [2], [], 0), (6000, [0, 1], [0], 0), (0, [0], [], 30), (51, [1], [], 0)], (2066, [0, 6], [2], 0)),
  ([(1066, [0, 6], [2, 3], 0), (0, [6], [], 36), (80, [1, 5, 4], [2, 1], 0), (0, [5], [], 3), (23, [1], [1], 1), (1067, [4, 0, 2, 3], [0, 1], 0), (90, [4], [], -2147483648), (91, [4], [], 2147483647), (0, [3], [], 2), (0, [2], [], 0), (6000, [0, 1], [0], 0), (0, [0], [], 30), (51, [1], [], 0)], (2079, [0, 1], [3], 0)),
  ([(0, [7], [], 0), (1079, [0, 1], [3, 4], 0), (1066, [0, 6], [2, 3], 0), (0, [6], [], 36), (80, [1, 5, 4], [2, 1], 0), (0, [5], [], 3), (23, [1], [1], 1), (1067, [4, 0, 2, 3], [0, 1], 0), (90, [4], [], -2147483648), (91, [4], [], 2147483647), (0, [3], [], 2), (0, [2], [], 0), (6000, [0, 1], [0], 0), (0, [0], [], 30), (51, [1], [], 0)], (4000, [0, 1, 7], [4], 23))]
theorem r_78v_s : vCovO false (eR0 e_78v L_78v cs_78v 2000) p_78v_s = true := by decide +kernel
theorem q_78v_4 {q0 : Nat} {n0 n1 n2 n3 n4 n5 : Int} {H0 H1 : gH} (f0 : n0 ≤ 2147483647) (f1 : (-2147483648) ≤ n0) (f2 : 0 ≤ n1) (f3 : n2 = 30) (f4 : 0 ≤ n3) (f5 : n4 = 30) (f6 : (hLe T0 H0 H1 ∧ hFr s_78v.2.2.2.2 H0 H1 ∧ hWt T0 H1) ∧ (Ab_78v_23 n4 n3 n2 n1 n0 H0 H1 ∧ preb_78v n4 n3 H0) ∧ some q0 = some (mub_78v_23 n4 n3 n2 n1 n0 H0 H1)) (f7 : n5 = 4) (f8 : n5 ≤ n0) : postb_78v n4 n3 H0 H1 := by
  have pz := f6.2.1.2
  unfold preb_78v at pz
  have ga := f6.2.1.1
  unfold Ab_78v_23 at ga
  have vz : vwC H1 = vwC H0 := vwC_fr f6.1.2.1 (by decide +kernel)
  have gb := ga
  obtain ⟨k1, _, x0, x4, ck, cp, ct, ya⟩ := gb
  have ck1 : hK H1 (n1).toNat = 1 := by rw [k1]; exact ck
  have ct1 : hV H1 (n1).toNat 18 = 1 + n0 := by rw [k1]; exact ct
  unfold postb_78v
  refine ⟨ga.2.1, ?_⟩
  rw [← ya]
  rw [show (4 - n0).toNat = 0 by omega]
  rfl
theorem c_78v_23_0 {q0 : Nat} : vOkm T0 (eP e_78v L_78v A_78v mu_78v (some q0)) 2 ([(43, [4, 5], [], 0), (0, [5], [], 4), (5000, [0, 1, 2, 3, 4], [0, 1], 23), (0, [0], [], 30), (51, [1], [], 0), (0, [2], [], 30), (51, [3], [], 0), (90, [4], [], -2147483648), (91, [4], [], 2147483647)], (3000, [], [1], 59)) := vOk_in fun ρ η h => by
  obtain ⟨f0, f1, f2, f3, f4, f5, f6, f7, f8, _⟩ := h
  exact q_78v_4 (q0 := q0) (n0 := ρ 4) (n1 := ρ 3) (n2 := ρ 2) (n3 := ρ 1) (n4 := ρ 0) (n5 := ρ 5) (H0 := η 0) (H1 := η 1) f8 f7 f6 f5 f4 f3 f2 f1 f0
theorem q_78v_5 {q0 : Nat} {n0 n1 n2 n3 n4 n5 n6 : Int} {H0 H1 : gH} (f0 : n0 ≤ 2147483647) (f1 : (-2147483648) ≤ n0) (f2 : 0 ≤ n1) (f3 : n2 = 30) (f4 : 0 ≤ n3) (f5 : n4 = 30) (f6 : (hLe T0 H0 H1 ∧ hFr s_78v.2.2.2.2 H0 H1 ∧ hWt T0 H1) ∧ (Ab_78v_23 n4 n3 n2 n1 n0 H0 H1 ∧ preb_78v n4 n3 H0) ∧ some q0 = some (mub_78v_23 n4 n3 n2 n1 n0 H0 H1)) (f7 : n5 = 4) (f8 : n0 < n5) (f9 : n6 ≤ 2147483647) (f10 : (-2147483648) ≤ n6) (f11 : n6 = hV H1 (n2).toNat 3) (f12 : n6 ≠ 0) : postb_78v n4 n3 H0 H1 := by
  have pz := f6.2.1.2
  unfold preb_78v at pz
  have ga := f6.2.1.1
  unfold Ab_78v_23 at ga
  have vz : vwC H1 = vwC H0 := vwC_fr f6.1.2.1 (by decide +kernel)
  have gb := ga
  obtain ⟨k1, _, x0, x4, ck, cp, ct, ya⟩ := gb
  have ck1 : hK H1 (n1).toNat = 1 := by rw [k1]; exact ck
  have ct1 : hV H1 (n1).toNat 18 = 1 + n0 := by rw [k1]; exact ct
  unfold postb_78v
  refine ⟨ga.2.1, ?_⟩
  rw [← ya]
  have rf := f11
  rw [f3] at rf
  rw [show ((30 : Int)).toNat = 30 from rfl] at rf
  exact (pTl_neg (vwC_ok H0) (absC_neg ga.2.1 (by omega))).symm
theorem c_78v_23_1 {q0 : Nat} : vOkm T0 (eP e_78v L_78v A_78v mu_78v (some q0)) 2 ([(31, [6], [], 0), (20, [6, 2], [1], 3), (90, [6], [], -2147483648), (91, [6], [], 2147483647), (42, [4, 5], [], 0), (0, [5], [], 4), (5000, [0, 1, 2, 3, 4], [0, 1], 23), (0, [0], [], 30), (51, [1], [], 0), (0, [2], [], 30), (51, [3], [], 0), (90, [4], [], -2147483648), (91, [4], [], 2147483647)], (3000, [], [1], 59)) := vOk_in fun ρ η h => by
  obtain ⟨f0, f1, f2, f3, f4, f5, f6, f7, f8, f9, f10, f11, f12, _⟩ := h
  exact q_78v_5 (q0 := q0) (n0 := ρ 4) (n1 := ρ 3) (n2 := ρ 2) (n3 := ρ 1) (n4 := ρ 0) (n5 := ρ 5) (n6 := ρ 6) (H0 := η 0) (H1 := η 1) f12 f11 f10 f9 f8 f7 f6 f5 f4 f3 f2 f1 f0
theorem q_78v_6 {q0 : Nat} {n0 n1 n2 n3 n4 n5 n6 n7 n8 : Int} {H0 H1 : gH} (f0 : n0 ≤ 2147483647) (f1 : (-2147483648) ≤ n0) (f2 : 0 ≤ n1) (f3 : n2 = 30) (f4 : 0 ≤ n3) (f5 : n4 = 30) (f6 : (hLe T0 H0 H1 ∧ hFr s_78v.2.2.2.2 H0 H1 ∧ hWt T0 H1) ∧ (Ab_78v_23 n4 n3 n2 n1 n0 H0 H1 ∧ preb_78v n4 n3 H0) ∧ some q0 = some (mub_78v_23 n4 n3 n2 n1 n0 H0 H1)) (f7 : n5 = 4) (f8 : n0 < n5) (f9 : n6 ≤ 2147483647) (f10 : (-2147483648) ≤ n6) (f11 : n6 = hV H1 (n2).toNat 3) (f12 : n6 = 0) (f13 : n7 ≤ 2147483647) (f14 : (-2147483648) ≤ n7) (f15 : n7 = hV H1 (n2).toNat 2) (f16 : n8 = 5) (f17 : n7 ≠ n8) : postb_78v n4 n3 H0 H1 := by
  have pz := f6.2.1.2
  unfold preb_78v at pz
  have ga := f6.2.1.1
  unfold Ab_78v_23 at ga
  have vz : vwC H1 = vwC H0 := vwC_fr f6.1.2.1 (by decide +kernel)
  have b0 := kd_at ga.2.1
  rw [vz] at b0
  have g0 := f15
  rw [f3] at g0
  rw [show ((30 : Int)).toNat = 30 from rfl] at g0
  have h0 : (absC H1).1 < 0 ∨ ¬ (vwC H0).1 (absC H1).1 = 5 := by
    rcases b0 with q | q
    · exact .inl q
    · right
      rw [q]
      omega
  have gb := ga
  obtain ⟨k1, _, x0, x4, ck, cp, ct, ya⟩ := gb
  have ck1 : hK H1 (n1).toNat = 1 := by rw [k1]; exact ck
  have ct1 : hV H1 (n1).toNat 18 = 1 + n0 := by rw [k1]; exact ct
  unfold postb_78v
  refine ⟨ga.2.1, ?_⟩
  rw [← ya]
  rcases h0 with q | q
  · exact (pTl_neg (vwC_ok H0) q).symm
  · exact (pTl_stop q).symm
theorem c_78v_23_2 {q0 : Nat} : vOkm T0 (eP e_78v L_78v A_78v mu_78v (some q0)) 2 ([(41, [7, 8], [], 0), (0, [8], [], 5), (20, [7, 2], [1], 2), (90, [7], [], -2147483648), (91, [7], [], 2147483647), (30, [6], [], 0), (20, [6, 2], [1], 3), (90, [6], [], -2147483648), (91, [6], [], 2147483647), (42, [4, 5], [], 0), (0, [5], [], 4), (5000, [0, 1, 2, 3, 4], [0, 1], 23), (0, [0], [], 30), (51, [1], [], 0), (0, [2], [], 30), (51, [3], [], 0), (90, [4], [], -2147483648), (91, [4], [], 2147483647)], (3000, [], [1], 59)) := vOk_in fun ρ η h => by
  obtain ⟨f0, f1, f2, f3, f4, f5, f6, f7, f8, f9, f10, f11, f12, f13, f14, f15, f16, f17, _⟩ := h
  exact q_78v_6 (q0 := q0) (n0 := ρ 4) (n1 := ρ 3) (n2 := ρ 2) (n3 := ρ 1) (n4 := ρ 0) (n5 := ρ 5) (n6 := ρ 6) (n7 := ρ 7) (n8 := ρ 8) (H0 := η 0) (H1 := η 1) f17 f16 f15 f14 f13 f12 f11 f10 f9 f8 f7 f6 f5 f4 f3 f2 f1 f0
theorem q_78v_7 {q0 : Nat} {n0 n1 n2 n3 n4 n5 n6 n7 n8 n9 : Int} {H0 H1 : gH} (f0 : n0 ≤ 2147483647) (f1 : (-2147483648) ≤ n0) (f2 : 0 ≤ n1) (f3 : n2 = 30) (f4 : 0 ≤ n3) (f5 : n4 = 30) (f6 : (hLe T0 H0 H1 ∧ hFr s_78v.2.2.2.2 H0 H1 ∧ hWt T0 H1) ∧ (Ab_78v_23 n4 n3 n2 n1 n0 H0 H1 ∧ preb_78v n4 n3 H0) ∧ some q0 = some (mub_78v_23 n4 n3 n2 n1 n0 H0 H1)) (f7 : n5 = 4) (f8 : n0 < n5) (f9 : n6 ≤ 2147483647) (f10 : (-2147483648) ≤ n6) (f11 : n6 = hV H1 (n2).toNat 3) (f12 : n6 = 0) (f13 : n7 ≤ 2147483647) (f14 : (-2147483648) ≤ n7) (f15 : n7 = hV H1 (n2).toNat 2) (f16 : n8 = 5) (f17 : n7 = n8) (f18 : n9 = 5) : preb_66v n2 n9 H1 := by
  have pz := f6.2.1.2
  unfold preb_78v at pz
  have ga := f6.2.1.1
  unfold Ab_78v_23 at ga
  have vz : vwC H1 = vwC H0 := vwC_fr f6.1.2.1 (by decide +kernel)
  have b0 := kd_at ga.2.1
  rw [vz] at b0
  have g0 := f15
  rw [f3] at g0
  rw [show ((30 : Int)).toNat = 30 from rfl] at g0
  have h0 : (absC H1).1 < 0 ∨ (vwC H0).1 (absC H1).1 = 5 := by
    rcases b0 with q | q
    · exact .inl q
    · right
      rw [q]
      omega
  have gb := ga
  obtain ⟨k1, _, x0, x4, ck, cp, ct, ya⟩ := gb
  have ck1 : hK H1 (n1).toNat = 1 := by rw [k1]; exact ck
  have ct1 : hV H1 (n1).toNat 18 = 1 + n0 := by rw [k1]; exact ct
  unfold preb_66v
  exact ⟨ga.2.1, by omega⟩
theorem c_78v_23_3 {q0 : Nat} : vOkm T0 (eP e_78v L_78v A_78v mu_78v (some q0)) 2 ([(0, [9], [], 5), (40, [7, 8], [], 0), (0, [8], [], 5), (20, [7, 2], [1], 2), (90, [7], [], -2147483648), (91, [7], [], 2147483647), (30, [6], [], 0), (20, [6, 2], [1], 3), (90, [6], [], -2147483648), (91, [6], [], 2147483647), (42, [4, 5], [], 0), (0, [5], [], 4), (5000, [0, 1, 2, 3, 4], [0, 1], 23), (0, [0], [], 30), (51, [1], [], 0), (0, [2], [], 30), (51, [3], [], 0), (90, [4], [], -2147483648), (91, [4], [], 2147483647)], (2066, [2, 9], [1], 0)) := vOk_in fun ρ η h => by
  obtain ⟨f0, f1, f2, f3, f4, f5, f6, f7, f8, f9, f10, f11, f12, f13, f14, f15, f16, f17, f18, _⟩ := h
  exact q_78v_7 (q0 := q0) (n0 := ρ 4) (n1 := ρ 3) (n2 := ρ 2) (n3 := ρ 1) (n4 := ρ 0) (n5 := ρ 5) (n6 := ρ 6) (n7 := ρ 7) (n8 := ρ 8) (n9 := ρ 9) (H0 := η 0) (H1 := η 1) f18 f17 f16 f15 f14 f13 f12 f11 f10 f9 f8 f7 f6 f5 f4 f3 f2 f1 f0
theorem q_78v_8 {q0 : Nat} {n0 n1 n2 n3 n4 n5 n6 n7 n8 n9 : Int} {H0 H1 H2 : gH} (f0 : n0 ≤ 2147483647) (f1 : (-2147483648) ≤ n0) (f2 : 0 ≤ n1) (f3 : n2 = 30) (f4 : 0 ≤ n3) (f5 : n4 = 30) (f6 : (hLe T0 H0 H1 ∧ hFr s_78v.2.2.2.2 H0 H1 ∧ hWt T0 H1) ∧ (Ab_78v_23 n4 n3 n2 n1 n0 H0 H1 ∧ preb_78v n4 n3 H0) ∧ some q0 = some (mub_78v_23 n4 n3 n2 n1 n0 H0 H1)) (f7 : n5 = 4) (f8 : n0 < n5) (f9 : n6 ≤ 2147483647) (f10 : (-2147483648) ≤ n6) (f11 : n6 = hV H1 (n2).toNat 3) (f12 : n6 = 0) (f13 : n7 ≤ 2147483647) (f14 : (-2147483648) ≤ n7) (f15 : n7 = hV H1 (n2).toNat 2) (f16 : n8 = 5) (f17 : n7 = n8) (f18 : n9 = 5) (f19 : (hLe T0 H1 H2 ∧ hFr s_66v.2.2.2.2 H1 H2 ∧ ((0 : Int) = 0 → H2.length = H1.length) ∧ hWt T0 H2) ∧ postb_66v n2 n9 H1 H2) : preb_79v n2 n1 H2 := by
  have pz := f6.2.1.2
  unfold preb_78v at pz
  have ga := f6.2.1.1
  unfold Ab_78v_23 at ga
  have vz : vwC H1 = vwC H0 := vwC_fr f6.1.2.1 (by decide +kernel)
  have c0 := f19.2
  unfold postb_66v at c0
  try rw [f18] at c0
  rw [vz] at c0
  have a0 : absC H2 = (ptk (vwC H0) 5 (absC H1)) := c0.2
  have v0 : vwC H2 = vwC H0 := (vwC_fr f19.1.2.1 (by decide +kernel)).trans vz
  have b0 := kd_at ga.2.1
  rw [vz] at b0
  have g0 := f15
  rw [f3] at g0
  rw [show ((30 : Int)).toNat = 30 from rfl] at g0
  have h0 : (absC H1).1 < 0 ∨ (vwC H0).1 (absC H1).1 = 5 := by
    rcases b0 with q | q
    · exact .inl q
    · right
      rw [q]
      omega
  have gb := ga
  obtain ⟨k1, _, x0, x4, ck, cp, ct, ya⟩ := gb
  have ck1 : hK H1 (n1).toNat = 1 := by rw [k1]; exact ck
  have ct1 : hV H1 (n1).toNat 18 = 1 + n0 := by rw [k1]; exact ct
  have e_180 : hK H2 (n1).toNat = 1 := kLe f19.1.1 ck1 rfl
  have te : hV H2 (n1).toNat 18 = hV H1 (n1).toNat 18 := f19.1.2.1.2.2 _ 1 ck1 rfl 18 (by decide +kernel)
  unfold preb_79v
  exact ⟨c0.1, by omega, by omega, e_180, by omega⟩
theorem c_78v_23_4 {q0 : Nat} : vOkm T0 (eP e_78v L_78v A_78v mu_78v (some q0)) 2 ([(1066, [2, 9], [1, 2], 0), (0, [9], [], 5), (40, [7, 8], [], 0), (0, [8], [], 5), (20, [7, 2], [1], 2), (90, [7], [], -2147483648), (91, [7], [], 2147483647), (30, [6], [], 0), (20, [6, 2], [1], 3), (90, [6], [], -2147483648), (91, [6], [], 2147483647), (42, [4, 5], [], 0), (0, [5], [], 4), (5000, [0, 1, 2, 3, 4], [0, 1], 23), (0, [0], [], 30), (51, [1], [], 0), (0, [2], [], 30), (51, [3], [], 0), (90, [4], [], -2147483648), (91, [4], [], 2147483647)], (2079, [2, 3], [2], 0)) := vOk_in fun ρ η h => by
  obtain ⟨f0, f1, f2, f3, f4, f5, f6, f7, f8, f9, f10, f11, f12, f13, f14, f15, f16, f17, f18, f19, _⟩ := h
  exact q_78v_8 (q0 := q0) (n0 := ρ 4) (n1 := ρ 3) (n2 := ρ 2) (n3 := ρ 1) (n4 := ρ 0) (n5 := ρ 5) (n6 := ρ 6) (n7 := ρ 7) (n8 := ρ 8) (n9 := ρ 9) (H0 := η 0) (H1 := η 1) (H2 := η 2) f19 f18 f17 f16 f15 f14 f13 f12 f11 f10 f9 f8 f7 f6 f5 f4 f3 f2 f1 f0
theorem q_78v_9 {q0 : Nat} {n0 n1 n2 n3 n4 n5 n6 n7 n8 n9 n10 : Int} {H0 H1 H2 H3 : gH} (f0 : n0 ≤ 2147483647) (f1 : (-2147483648) ≤ n0) (f2 : 0 ≤ n1) (f3 : n2 = 30) (f4 : 0 ≤ n3) (f5 : n4 = 30) (f6 : (hLe T0 H0 H1 ∧ hFr s_78v.2.2.2.2 H0 H1 ∧ hWt T0 H1) ∧ (Ab_78v_23 n4 n3 n2 n1 n0 H0 H1 ∧ preb_78v n4 n3 H0) ∧ some q0 = some (mub_78v_23 n4 n3 n2 n1 n0 H0 H1)) (f7 : n5 = 4) (f8 : n0 < n5) (f9 : n6 ≤ 2147483647) (f10 : (-2147483648) ≤ n6) (f11 : n6 = hV H1 (n2).toNat 3) (f12 : n6 = 0) (f13 : n7 ≤ 2147483647) (f14 : (-2147483648) ≤ n7) (f15 : n7 = hV H1 (n2).toNat 2) (f16 : n8 = 5) (f17 : n7 = n8) (f18 : n9 = 5) (f19 : (hLe T0 H1 H2 ∧ hFr s_66v.2.2.2.2 H1 H2 ∧ ((0 : Int) = 0 → H2.length = H1.length) ∧ hWt T0 H2) ∧ postb_66v n2 n9 H1 H2) (f20 : (hLe T0 H2 H3 ∧ hFr s_79v.2.2.2.2 H2 H3 ∧ ((0 : Int) = 0 → H3.length = H2.length) ∧ hWt T0 H3) ∧ postb_79v n2 n1 H2 H3) (f21 : n10 = w32 (n0 + 1)) : Ab_78v_23 n4 n3 n2 n1 n10 H0 H3 ∧ ∀ q, some q0 = some q → mub_78v_23 n4 n3 n2 n1 n10 H0 H3 < q := by
  have pz := f6.2.1.2
  unfold preb_78v at pz
  have ga := f6.2.1.1
  unfold Ab_78v_23 at ga
  have vz : vwC H1 = vwC H0 := vwC_fr f6.1.2.1 (by decide +kernel)
  have c0 := f19.2
  unfold postb_66v at c0
  try rw [f18] at c0
  rw [vz] at c0
  have a0 : absC H2 = (ptk (vwC H0) 5 (absC H1)) := c0.2
  have v0 : vwC H2 = vwC H0 := (vwC_fr f19.1.2.1 (by decide +kernel)).trans vz
  have c1 := f20.2
  unfold postb_79v at c1
  rw [v0] at c1
  rw [a0] at c1
  have a1 : absC H3 = (pWt (vwC H0) (hV H2 (n1).toNat 18) (ptk (vwC H0) 5 (absC H1))) := c1.2.1
  have v1 : vwC H3 = vwC H0 := (vwC_fr f20.1.2.1 (by decide +kernel)).trans v0
  have b0 := kd_at ga.2.1
  rw [vz] at b0
  have g0 := f15
  rw [f3] at g0
  rw [show ((30 : Int)).toNat = 30 from rfl] at g0
  have h0 : (absC H1).1 < 0 ∨ (vwC H0).1 (absC H1).1 = 5 := by
    rcases b0 with q | q
    · exact .inl q
    · right
      rw [q]
      omega
  have gb := ga
  obtain ⟨k1, _, x0, x4, ck, cp, ct, ya⟩ := gb
  have ck1 : hK H1 (n1).toNat = 1 := by rw [k1]; exact ck
  have ct1 : hV H1 (n1).toNat 18 = 1 + n0 := by rw [k1]; exact ct
  have e_180 : hK H2 (n1).toNat = 1 := kLe f19.1.1 ck1 rfl
  have te : hV H2 (n1).toNat 18 = hV H1 (n1).toNat 18 := f19.1.2.1.2.2 _ 1 ck1 rfl 18 (by decide +kernel)
  have tf := f20.2
  unfold postb_79v at tf
  have tg := tf.2.2
  have rf := f11
  rw [f3] at rf
  rw [show ((30 : Int)).toNat = 30 from rfl] at rf
  have q0 := (absC_pos ga.2.1 (by omega)).2
  have h5 : (vwC H0).1 (absC H1).1 = 5 := h0.resolve_left (by omega)
  have z2 := f21
  unfold w32 at z2
  have g5 := Option.some.inj f6.2.2
  unfold mub_78v_23 at g5
  unfold Ab_78v_23 mub_78v_23
  refine ⟨⟨k1, c1.1, by omega, by omega, by rw [← k1]; exact (kLe f20.1.1 e_180 rfl), cp, by rw [← k1]; omega, ?_⟩, fun q hq => ?_⟩
  · rw [← ya, show (4 - n0).toNat = (4 - n10).toNat + 1 by omega, pTl_step h5, a1, te, ct1, show 1 + n0 + 1 = 1 + n10 by omega]
  · have g6 := Option.some.inj hq
    subst g6
    omega
theorem c_78v_23_5 {q0 : Nat} : vOkm T0 (eP e_78v L_78v A_78v mu_78v (some q0)) 2 ([(10, [10, 4], [], 1), (1079, [2, 3], [2, 3], 0), (1066, [2, 9], [1, 2], 0), (0, [9], [], 5), (40, [7, 8], [], 0), (0, [8], [], 5), (20, [7, 2], [1], 2), (90, [7], [], -2147483648), (91, [7], [], 2147483647), (30, [6], [], 0), (20, [6, 2], [1], 3), (90, [6], [], -2147483648), (91, [6], [], 2147483647), (42, [4, 5], [], 0), (0, [5], [], 4), (5000, [0, 1, 2, 3, 4], [0, 1], 23), (0, [0], [], 30), (51, [1], [], 0), (0, [2], [], 30), (51, [3], [], 0), (90, [4], [], -2147483648), (91, [4], [], 2147483647)], (4000, [2, 3, 10], [3], 23)) := vOk_in fun ρ η h => by
  obtain ⟨f0, f1, f2, f3, f4, f5, f6, f7, f8, f9, f10, f11, f12, f13, f14, f15, f16, f17, f18, f19, f20, f21, _⟩ := h
  exact q_78v_9 (q0 := q0) (n0 := ρ 4) (n1 := ρ 3) (n2 := ρ 2) (n3 := ρ 1) (n4 := ρ 0) (n5 := ρ 5) (n6 := ρ 6) (n7 := ρ 7) (n8 := ρ 8) (n9 := ρ 9) (n10 := ρ 10) (H0 := η 0) (H1 := η 1) (H2 := η 2) (H3 := η 3) f21 f20 f19 f18 f17 f16 f15 f14 f13 f12 f11 f10 f9 f8 f7 f6 f5 f4 f3 f2 f1 f0
def p_78v_23 : List vG := [([(43, [4, 5], [], 0), (0, [5], [], 4), (5000, [0, 1, 2, 3, 4], [0, 1], 23), (0, [0], [], 30), (51, [1], [], 0), (0, [2], [], 30), (51, [3], [], 0), (90, [4], [], -2147483648), (91, [4], [], 2147483647)], (3000, [], [1], 59)),
  ([(31, [6], [], 0), (20, [6, 2], [1], 3), (90, [6], [], -2147483648), (91, [6], [], 2147483647), (42, [4, 5], [], 0), (0, [5], [], 4), (5000, [0, 1, 2, 3, 4], [0, 1], 23), (0, [0], [], 30), (51, [1], [], 0), (0, [2], [], 30), (51, [3], [], 0), (90, [4], [], -2147483648), (91, [4], [], 2147483647)], (3000, [], [1], 59)),
  ([(41, [7, 8], [], 0), (0, [8], [], 5), (20, [7, 2], [1], 2), (90, [7], [], -2147483648), (91, [7], [], 2147483647), (30, [6], [], 0), (20, [6, 2], [1], 3), (90, [6], [], -2147483648), (91, [6], [], 2147483647), (42, [4, 5], [], 0), (0, [5], [], 4), (5000, [0, 1, 2, 3, 4], [0, 1], 23), (0, [0], [], 30), (51, [1], [], 0), (0, [2], [], 30), (51, [3], [], 0), (90, [4], [], -2147483648), (91, [4], [], 2147483647)], (3000, [], [1], 59)),
  ([(0, [9], [], 5), (40, [7, 8], [], 0), (0, [8], [], 5), (20, [7, 2], [1], 2), (90, [7], [], -2147483648), (91, [7], [], 2147483647), (30, [6], [], 0), (20, [6, 2], [1], 3), (90, [6], [], -2147483648), (91, [6], [], 2147483647), (42, [4, 5], [], 0), (0, [5], [], 4), (5000, [0, 1, 2, 3, 4], [0, 1], 23), (0, [0], [], 30), (51, [1], [], 0), (0, [2], [], 30), (51, [3], [], 0), (90, [4], [], -2147483648), (91, [4], [], 2147483647)], (2066, [2, 9], [1], 0)),
  ([(1066, [2, 9], [1, 2], 0), (0, [9], [], 5), (40, [7, 8], [], 0), (0, [8], [], 5), (20, [7, 2], [1], 2), (90, [7], [], -2147483648), (91, [7], [], 2147483647), (30, [6], [], 0), (20, [6, 2], [1], 3), (90, [6], [], -2147483648), (91, [6], [], 2147483647), (42, [4, 5], [], 0), (0, [5], [], 4), (5000, [0, 1, 2, 3, 4], [0, 1], 23), (0, [0], [], 30), (51, [1], [], 0), (0, [2], [], 30), (51, [3], [], 0), (90, [4], [], -2147483648), (91, [4], [], 2147483647)], (2079, [2, 3], [2], 0)),
  ([(10, [10, 4], [], 1), (1079, [2, 3], [2, 3], 0), (1066, [2, 9], [1, 2], 0), (0, [9], [], 5), (40, [7, 8], [], 0), (0, [8], [], 5), (20, [7, 2], [1], 2), (90, [7], [], -2147483648), (91, [7], [], 2147483647), (30, [6], [], 0), (20, [6, 2], [1], 3), (90, [6], [], -2147483648), (91, [6], [], 2147483647), (42, [4, 5], [], 0), (0, [5], [], 4), (5000, [0, 1, 2, 3, 4], [0, 1], 23), (0, [0], [], 30), (51, [1], [], 0), (0, [2], [], 30), (51, [3], [], 0), (90, [4], [], -2147483648), (91, [4], [], 2147483647)], (4000, [2, 3, 10], [3], 23))]
theorem r_78v_23 : vCovO false (eRc e_78v L_78v cs_78v 2000 (23, [(0, (3, 4, 30, 0)), (1, (3, 1, -1, 0)), (2, (0, -2147483648, 2147483647, 0))])) p_78v_23 = true := by decide +kernel
theorem m_78v (d : Nat) : eC e_78v (d + 5) := eC_ok (e := e_78v) (L := L_78v) (cs := cs_78v) (n := 2000) (d := d + 4) (A := A_78v) (μ := mu_78v) (tp := false) (p0 := p_78v_s) rfl ⟨m_66v (d + 2), ⟨m_67v (d + 1), ⟨m_79v d, trivial⟩⟩⟩ rfl (.inl rfl) (by decide +kernel) (fun z => nomatch z) r_78v_s (allC c_78v_s_0 (allC c_78v_s_1 (allC c_78v_s_2 (allC c_78v_s_3 allN)))) (allC (.inl ⟨p_78v_23, r_78v_23, fun q0 => (allC c_78v_23_0 (allC c_78v_23_1 (allC c_78v_23_2 (allC c_78v_23_3 (allC c_78v_23_4 (allC c_78v_23_5 allN))))))⟩) allN)
