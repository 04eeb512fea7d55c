/- Reader.beginBlock ()V -/
noncomputable def s_68v : vM := ([(3, 4, 30, 0)], (9, 0, 0, 0), 1, 0, [(4, 1), (4, 2), (4, 3), (4, 4), (4, 5), (4, 6), (733, 0)])
def preb_68v (a0 : Int) (h : gH) : Prop := KI h ∧ BI h
def pre_68v : List Int → gH → Prop := fun xs h => match xs with
  | [a0] => preb_68v a0 h
  | _ => False
def postb_68v (a0 : Int) (h0 h : gH) : Prop := KI h ∧ BI h ∧ BLc h = BLc h0 ∧ hV h 30 13 = hV h0 30 13 ∧ hV h 47 = hV h0 47 ∧ (hV h0 30 13 < 6 → absC h = pNm2 (vwC h0) (BLc h0) (ptk (vwC h0) 16 (absC h0)) ∧ (hV h 30 3 = 0 → NV (hV h 48 (hV h0 30 13).toNat) ∧ c27 9 (hV h 48 (hV h0 30 13).toNat) = (vwC h0).2.2.1 (ptk (vwC h0) 16 (absC h0)).1)) ∧ (6 ≤ hV h0 30 13 → absC h = pfail (vwC h0) 2 (absC h0))
def post_68v : List Int → gH → gH → Prop := fun xs h0 h => match xs with
  | [a0] => postb_68v a0 h0 h
  | _ => True
noncomputable def e_68v : vE := (68, s_68v, pre_68v, post_68v)
noncomputable def L_68v : List vE := [e_64v, e_65v, e_66v, e_71v, e_123v, e_202vk733]
def cs_68v : List vC := []
def A_68v : Int → List Int → gH → gH → Prop := fun c xs h0 h => True
def mu_68v : Int → List Int → gH → gH → Nat := fun c xs h0 h => 0
theorem q_68v_0 {n0 n1 n2 n3 : Int} {H0 : gH} (f0 : n0 = 30) (f1 : hWt T0 H0 ∧ preb_68v n0 H0) (f2 : n1 ≤ 2147483647) (f3 : (-2147483648) ≤ n1) (f4 : n1 = hV H0 (n0).toNat 13) (f5 : n2 = 6) (f6 : n1 < n2) (f7 : n3 = 16) : preb_66v n0 n3 H0 := by
  have pz := f1.2
  unfold preb_68v at pz
  unfold preb_66v
  exact ⟨pz.1, by omega⟩
theorem c_68v_s_0 : vOkm T0 (eP e_68v L_68v A_68v mu_68v none) 1 ([(0, [3], [], 16), (42, [1, 2], [], 0), (0, [2], [], 6), (20, [1, 0], [0], 13), (90, [1], [], -2147483648), (91, [1], [], 2147483647), (6000, [0], [0], 0), (0, [0], [], 30)], (2066, [0, 3], [0], 0)) := vOk_in fun ρ η h => by
  obtain ⟨f0, f1, f2, f3, f4, f5, f6, f7, _⟩ := h
  exact q_68v_0 (n0 := ρ 0) (n1 := ρ 1) (n2 := ρ 2) (n3 := ρ 3) (H0 := η 0) f7 f6 f5 f4 f3 f2 f1 f0
theorem q_68v_1 {n0 n1 n2 n3 n4 n5 : Int} {H0 H1 : gH} (f0 : n0 = 30) (f1 : hWt T0 H0 ∧ preb_68v n0 H0) (f2 : n1 ≤ 2147483647) (f3 : (-2147483648) ≤ n1) (f4 : n1 = hV H0 (n0).toNat 13) (f5 : n2 = 6) (f6 : n1 < n2) (f7 : n3 = 16) (f8 : (hLe T0 H0 H1 ∧ hFr s_66v.2.2.2.2 H0 H1 ∧ ((0 : Int) = 0 → H1.length = H0.length) ∧ hWt T0 H1) ∧ postb_66v n0 n3 H0 H1) (f9 : n4 = 31) (f10 : n4 = hV H1 (n0).toNat 0) (f11 : n5 ≤ 2147483647) (f12 : (-2147483648) ≤ n5) (f13 : n5 = hV H1 (n0).toNat 1) : preb_123v n4 n5 H1 := by
  have pz := f1.2
  unfold preb_68v at pz
  have c0 := f8.2
  unfold postb_66v at c0
  try rw [f7] at c0
  have a0 : absC H1 = (ptk (vwC H0) 16 (absC H0)) := c0.2
  have v0 : vwC H1 = vwC H0 := (vwC_fr f8.1.2.1 (by decide +kernel))
  have d0 := BI_fr f8.1.1 f8.1.2.1 (by decide +kernel) pz.2
  have j0 : BLc H1 = BLc H0 := d0.2
  have t0 : hV H1 30 13 = hV H0 30 13 := (f8.1.2.1.1 30 13 (by decide +kernel))
  unfold preb_123v
  exact c0.1.1
theorem c_68v_s_1 : vOkm T0 (eP e_68v L_68v A_68v mu_68v none) 1 ([(20, [5, 0], [1], 1), (90, [5], [], -2147483648), (91, [5], [], 2147483647), (20, [4, 0], [1], 0), (0, [4], [], 31), (1066, [0, 3], [0, 1], 0), (0, [3], [], 16), (42, [1, 2], [], 0), (0, [2], [], 6), (20, [1, 0], [0], 13), (90, [1], [], -2147483648), (91, [1], [], 2147483647), (6000, [0], [0], 0), (0, [0], [], 30)], (2123, [4, 5], [1], 0)) := vOk_in fun ρ η h => by
  obtain ⟨f0, f1, f2, f3, f4, f5, f6, f7, f8, f9, f10, f11, f12, f13, _⟩ := h
  exact q_68v_1 (n0 := ρ 0) (n1 := ρ 1) (n2 := ρ 2) (n3 := ρ 3) (n4 := ρ 4) (n5 := ρ 5) (H0 := η 0) (H1 := η 1) f13 f12 f11 f10 f9 f8 f7 f6 f5 f4 f3 f2 f1 f0
theorem q_68v_2 {n0 n1 n2 n3 n4 n5 n6 : Int} {H0 H1 H2 : gH} (f0 : n0 = 30) (f1 : hWt T0 H0 ∧ preb_68v n0 H0) (f2 : n1 ≤ 2147483647) (f3 : (-2147483648) ≤ n1) (f4 : n1 = hV H0 (n0).toNat 13) (f5 : n2 = 6) (f6 : n1 < n2) (f7 : n3 = 16) (f8 : (hLe T0 H0 H1 ∧ hFr s_66v.2.2.2.2 H0 H1 ∧ ((0 : Int) = 0 → H1.length = H0.length) ∧ hWt T0 H1) ∧ postb_66v n0 n3 H0 H1) (f9 : n4 = 31) (f10 : n4 = hV H1 (n0).toNat 0) (f11 : n5 ≤ 2147483647) (f12 : (-2147483648) ≤ n5) (f13 : n5 = hV H1 (n0).toNat 1) (f14 : (hLe T0 H1 H2 ∧ hFr s_123v.2.2.2.2 H1 H2 ∧ ((0 : Int) = 0 → H2.length = H1.length) ∧ hWt T0 H2) ∧ postb_123v n6 n4 n5 H1 H2) : preb_71v n0 n6 H2 := by
  have pz := f1.2
  unfold preb_68v at pz
  have c0 := f8.2
  unfold postb_66v at c0
  try rw [f7] at c0
  have a0 : absC H1 = (ptk (vwC H0) 16 (absC H0)) := c0.2
  have v0 : vwC H1 = vwC H0 := (vwC_fr f8.1.2.1 (by decide +kernel))
  have s1 := PF_fr f14.1.1 f14.1.2.1 (by decide +kernel) c0.1
  have a1 : absC H2 = (ptk (vwC H0) 16 (absC H0)) := s1.1.trans a0
  have v1 : vwC H2 = vwC H0 := s1.2.1.trans v0
  have d0 := BI_fr f8.1.1 f8.1.2.1 (by decide +kernel) pz.2
  have j0 : BLc H1 = BLc H0 := d0.2
  have t0 : hV H1 30 13 = hV H0 30 13 := (f8.1.2.1.1 30 13 (by decide +kernel))
  have d1 := BI_fr f14.1.1 f14.1.2.1 (by decide +kernel) d0.1
  have j1 : BLc H2 = BLc H0 := d1.2.trans j0
  have t1 : hV H2 30 13 = hV H0 30 13 := (f14.1.2.1.1 30 13 (by decide +kernel)).trans t0
  unfold preb_71v
  exact d1.1
theorem c_68v_s_2 : vOkm T0 (eP e_68v L_68v A_68v mu_68v none) 1 ([(1123, [6, 4, 5], [1, 2], 0), (20, [5, 0], [1], 1), (90, [5], [], -2147483648), (91, [5], [], 2147483647), (20, [4, 0], [1], 0), (0, [4], [], 31), (1066, [0, 3], [0, 1], 0), (0, [3], [], 16), (42, [1, 2], [], 0), (0, [2], [], 6), (20, [1, 0], [0], 13), (90, [1], [], -2147483648), (91, [1], [], 2147483647), (6000, [0], [0], 0), (0, [0], [], 30)], (2071, [0, 6], [2], 0)) := vOk_in fun ρ η h => by
  obtain ⟨f0, f1, f2, f3, f4, f5, f6, f7, f8, f9, f10, f11, f12, f13, f14, _⟩ := h
  exact q_68v_2 (n0 := ρ 0) (n1 := ρ 1) (n2 := ρ 2) (n3 := ρ 3) (n4 := ρ 4) (n5 := ρ 5) (n6 := ρ 6) (H0 := η 0) (H1 := η 1) (H2 := η 2) f14 f13 f12 f11 f10 f9 f8 f7 f6 f5 f4 f3 f2 f1 f0
theorem q_68v_3 {n0 n1 n2 n3 n4 n5 n6 n7 n8 n9 n10 n11 : Int} {H0 H1 H2 H3 H4 : gH} (f0 : n0 = 30) (f1 : hWt T0 H0 ∧ preb_68v n0 H0) (f2 : n1 ≤ 2147483647) (f3 : (-2147483648) ≤ n1) (f4 : n1 = hV H0 (n0).toNat 13) (f5 : n2 = 6) (f6 : n1 < n2) (f7 : n3 = 16) (f8 : (hLe T0 H0 H1 ∧ hFr s_66v.2.2.2.2 H0 H1 ∧ ((0 : Int) = 0 → H1.length = H0.length) ∧ hWt T0 H1) ∧ postb_66v n0 n3 H0 H1) (f9 : n4 = 31) (f10 : n4 = hV H1 (n0).toNat 0) (f11 : n5 ≤ 2147483647) (f12 : (-2147483648) ≤ n5) (f13 : n5 = hV H1 (n0).toNat 1) (f14 : (hLe T0 H1 H2 ∧ hFr s_123v.2.2.2.2 H1 H2 ∧ ((0 : Int) = 0 → H2.length = H1.length) ∧ hWt T0 H2) ∧ postb_123v n6 n4 n5 H1 H2) (f15 : n7 ≤ 2147483647) (f16 : (-2147483648) ≤ n7) (f17 : (hLe T0 H2 H3 ∧ hFr s_71v.2.2.2.2 H2 H3 ∧ ((0 : Int) = 0 → H3.length = H2.length) ∧ hWt T0 H3) ∧ postb_71v n7 n0 n6 H2 H3) (f18 : n8 = (-1)) (f19 : n7 = n8) (f20 : n9 = 48) (f21 : n9 = hV H3 (n0).toNat 12) (f22 : n10 ≤ 2147483647) (f23 : (-2147483648) ≤ n10) (f24 : n10 = hV H3 (n0).toNat 13) (f25 : (hLe T0 H3 H4 ∧ hFr s_202vk733.2.2.2.2 H3 H4 ∧ ((0 : Int) = 0 → H4.length = H3.length) ∧ hWt T0 H4) ∧ postb_202vk733 n9 n10 n6 H3 H4) (f26 : n11 = 2) : preb_66v n0 n11 H4 := by
  have pz := f1.2
  unfold preb_68v at pz
  have c0 := f8.2
  unfold postb_66v at c0
  try rw [f7] at c0
  have a0 : absC H1 = (ptk (vwC H0) 16 (absC H0)) := c0.2
  have v0 : vwC H1 = vwC H0 := (vwC_fr f8.1.2.1 (by decide +kernel))
  have s1 := PF_fr f14.1.1 f14.1.2.1 (by decide +kernel) c0.1
  have a1 : absC H2 = (ptk (vwC H0) 16 (absC H0)) := s1.1.trans a0
  have v1 : vwC H2 = vwC H0 := s1.2.1.trans v0
  have s2 := PF_fr f17.1.1 f17.1.2.1 (by decide +kernel) s1.2.2
  have a2 : absC H3 = (ptk (vwC H0) 16 (absC H0)) := s2.1.trans a1
  have v2 : vwC H3 = vwC H0 := s2.2.1.trans v1
  have s3 := PF_fr f25.1.1 f25.1.2.1 (by decide +kernel) s2.2.2
  have a3 : absC H4 = (ptk (vwC H0) 16 (absC H0)) := s3.1.trans a2
  have v3 : vwC H4 = vwC H0 := s3.2.1.trans v2
  have d0 := BI_fr f8.1.1 f8.1.2.1 (by decide +kernel) pz.2
  have j0 : BLc H1 = BLc H0 := d0.2
  have t0 : hV H1 30 13 = hV H0 30 13 := (f8.1.2.1.1 30 13 (by decide +kernel))
  have d1 := BI_fr f14.1.1 f14.1.2.1 (by decide +kernel) d0.1
  have j1 : BLc H2 = BLc H0 := d1.2.trans j0
  have t1 : hV H2 30 13 = hV H0 30 13 := (f14.1.2.1.1 30 13 (by decide +kernel)).trans t0
  have d2 := BI_fr f17.1.1 f17.1.2.1 (by decide +kernel) d1.1
  have j2 : BLc H3 = BLc H0 := d2.2.trans j1
  have t2 : hV H3 30 13 = hV H0 30 13 := (f17.1.2.1.1 30 13 (by decide +kernel)).trans t1
  have rp := f24
  rw [f0] at rp
  rw [show ((30 : Int)).toNat = 30 from rfl] at rp
  have pp := f25.2
  unfold postb_202vk733 at pp
  rw [f20, rp] at pp
  have d3 := BI_name f25.1.1 f25.1.2.1 (by decide +kernel) d2.1 pp
  have j3 : BLc H4 = BLc H0 := d3.2.1.trans j2
  have t3 : hV H4 30 13 = hV H0 30 13 := d3.2.2.1.trans t2
  unfold preb_66v
  exact ⟨s3.2.2, by omega⟩
theorem c_68v_s_3 : vOkm T0 (eP e_68v L_68v A_68v mu_68v none) 1 ([(0, [11], [], 2), (1202, [9, 10, 6], [3, 4], 0), (20, [10, 0], [3], 13), (90, [10], [], -2147483648), (91, [10], [], 2147483647), (20, [9, 0], [3], 12), (0, [9], [], 48), (40, [7, 8], [], 0), (0, [8], [], -1), (1071, [7, 0, 6], [2, 3], 0), (90, [7], [], -2147483648), (91, [7], [], 2147483647), (1123, [6, 4, 5], [1, 2], 0), (20, [5, 0], [1], 1), (90, [5], [], -2147483648), (91, [5], [], 2147483647), (20, [4, 0], [1], 0), (0, [4], [], 31), (1066, [0, 3], [0, 1], 0), (0, [3], [], 16), (42, [1, 2], [], 0), (0, [2], [], 6), (20, [1, 0], [0], 13), (90, [1], [], -2147483648), (91, [1], [], 2147483647), (6000, [0], [0], 0), (0, [0], [], 30)], (2066, [0, 11], [4], 0)) := vOk_in fun ρ η h => by
  obtain ⟨f0, f1, f2, f3, f4, f5, f6, f7, f8, f9, f10, f11, f12, f13, f14, f15, f16, f17, f18, f19, f20, f21, f22, f23, f24, f25, f26, _⟩ := h
  exact q_68v_3 (n0 := ρ 0) (n1 := ρ 1) (n2 := ρ 2) (n3 := ρ 3) (n4 := ρ 4) (n5 := ρ 5) (n6 := ρ 6) (n7 := ρ 7) (n8 := ρ 8) (n9 := ρ 9) (n10 := ρ 10) (n11 := ρ 11) (H0 := η 0) (H1 := η 1) (H2 := η 2) (H3 := η 3) (H4 := η 4) f26 f25 f24 f23 f22 f21 f20 f19 f18 f17 f16 f15 f14 f13 f12 f11 f10 f9 f8 f7 f6 f5 f4 f3 f2 f1 f0
theorem q_68v_4 {n0 n1 n2 n3 n4 n5 n6 n7 n8 n9 n10 n11 : Int} {H0 H1 H2 H3 H4 H5 : gH} (f0 : n0 = 30) (f1 : hWt T0 H0 ∧ preb_68v n0 H0) (f2 : n1 ≤ 2147483647) (f3 : (-2147483648) ≤ n1) (f4 : n1 = hV H0 (n0).toNat 13) (f5 : n2 = 6) (f6 : n1 < n2) (f7 : n3 = 16) (f8 : (hLe T0 H0 H1 ∧ hFr s_66v.2.2.2.2 H0 H1 ∧ ((0 : Int) = 0 → H1.length = H0.length) ∧ hWt T0 H1) ∧ postb_66v n0 n3 H0 H1) (f9 : n4 = 31) (f10 : n4 = hV H1 (n0).toNat 0) (f11 : n5 ≤ 2147483647) (f12 : (-2147483648) ≤ n5) (f13 : n5 = hV H1 (n0).toNat 1) (f14 : (hLe T0 H1 H2 ∧ hFr s_123v.2.2.2.2 H1 H2 ∧ ((0 : Int) = 0 → H2.length = H1.length) ∧ hWt T0 H2) ∧ postb_123v n6 n4 n5 H1 H2) (f15 : n7 ≤ 2147483647) (f16 : (-2147483648) ≤ n7) (f17 : (hLe T0 H2 H3 ∧ hFr s_71v.2.2.2.2 H2 H3 ∧ ((0 : Int) = 0 → H3.length = H2.length) ∧ hWt T0 H3) ∧ postb_71v n7 n0 n6 H2 H3) (f18 : n8 = (-1)) (f19 : n7 = n8) (f20 : n9 = 48) (f21 : n9 = hV H3 (n0).toNat 12) (f22 : n10 ≤ 2147483647) (f23 : (-2147483648) ≤ n10) (f24 : n10 = hV H3 (n0).toNat 13) (f25 : (hLe T0 H3 H4 ∧ hFr s_202vk733.2.2.2.2 H3 H4 ∧ ((0 : Int) = 0 → H4.length = H3.length) ∧ hWt T0 H4) ∧ postb_202vk733 n9 n10 n6 H3 H4) (f26 : n11 = 2) (f27 : (hLe T0 H4 H5 ∧ hFr s_66v.2.2.2.2 H4 H5 ∧ ((0 : Int) = 0 → H5.length = H4.length) ∧ hWt T0 H5) ∧ postb_66v n0 n11 H4 H5) : postb_68v n0 H0 H5 := by
  have pz := f1.2
  unfold preb_68v at pz
  have c0 := f8.2
  unfold postb_66v at c0
  try rw [f7] at c0
  have a0 : absC H1 = (ptk (vwC H0) 16 (absC H0)) := c0.2
  have v0 : vwC H1 = vwC H0 := (vwC_fr f8.1.2.1 (by decide +kernel))
  have s1 := PF_fr f14.1.1 f14.1.2.1 (by decide +kernel) c0.1
  have a1 : absC H2 = (ptk (vwC H0) 16 (absC H0)) := s1.1.trans a0
  have v1 : vwC H2 = vwC H0 := s1.2.1.trans v0
  have s2 := PF_fr f17.1.1 f17.1.2.1 (by decide +kernel) s1.2.2
  have a2 : absC H3 = (ptk (vwC H0) 16 (absC H0)) := s2.1.trans a1
  have v2 : vwC H3 = vwC H0 := s2.2.1.trans v1
  have s3 := PF_fr f25.1.1 f25.1.2.1 (by decide +kernel) s2.2.2
  have a3 : absC H4 = (ptk (vwC H0) 16 (absC H0)) := s3.1.trans a2
  have v3 : vwC H4 = vwC H0 := s3.2.1.trans v2
  have c4 := f27.2
  unfold postb_66v at c4
  try rw [f26] at c4
  rw [v3] at c4
  rw [a3] at c4
  have a4 : absC H5 = (ptk (vwC H0) 2 (ptk (vwC H0) 16 (absC H0))) := c4.2
  have v4 : vwC H5 = vwC H0 := (vwC_fr f27.1.2.1 (by decide +kernel)).trans v3
  have d0 := BI_fr f8.1.1 f8.1.2.1 (by decide +kernel) pz.2
  have j0 : BLc H1 = BLc H0 := d0.2
  have t0 : hV H1 30 13 = hV H0 30 13 := (f8.1.2.1.1 30 13 (by decide +kernel))
  have d1 := BI_fr f14.1.1 f14.1.2.1 (by decide +kernel) d0.1
  have j1 : BLc H2 = BLc H0 := d1.2.trans j0
  have t1 : hV H2 30 13 = hV H0 30 13 := (f14.1.2.1.1 30 13 (by decide +kernel)).trans t0
  have d2 := BI_fr f17.1.1 f17.1.2.1 (by decide +kernel) d1.1
  have j2 : BLc H3 = BLc H0 := d2.2.trans j1
  have t2 : hV H3 30 13 = hV H0 30 13 := (f17.1.2.1.1 30 13 (by decide +kernel)).trans t1
  have rp := f24
  rw [f0] at rp
  rw [show ((30 : Int)).toNat = 30 from rfl] at rp
  have pp := f25.2
  unfold postb_202vk733 at pp
  rw [f20, rp] at pp
  have d3 := BI_name f25.1.1 f25.1.2.1 (by decide +kernel) d2.1 pp
  have j3 : BLc H4 = BLc H0 := d3.2.1.trans j2
  have t3 : hV H4 30 13 = hV H0 30 13 := d3.2.2.1.trans t2
  have d4 := BI_fr f27.1.1 f27.1.2.1 (by decide +kernel) d3.1
  have j4 : BLc H5 = BLc H0 := d4.2.trans j3
  have t4 : hV H5 30 13 = hV H0 30 13 := (f27.1.2.1.1 30 13 (by decide +kernel)).trans t3
  have rb0 := f4
  rw [f0] at rb0
  rw [show ((30 : Int)).toNat = 30 from rfl] at rb0
  have e47 : hV H5 47 = hV H0 47 := ((fRow f27.1.2.1 47 (by decide +kernel)).trans ((fRow f25.1.2.1 47 (by decide +kernel)).trans ((fRow f17.1.2.1 47 (by decide +kernel)).trans ((fRow f14.1.2.1 47 (by decide +kernel)).trans (fRow f8.1.2.1 47 (by decide +kernel))))))
  unfold postb_68v
  have r1 := f13
  rw [f0] at r1
  rw [show ((30 : Int)).toNat = 30 from rfl] at r1
  have pv := f14.2
  unfold postb_123v at pv
  rw [show n5 = hV H1 30 1 from r1] at pv
  have nx := nm_at c0.1 pv
  rw [v0, a0] at nx
  have pk := f17.2
  unfold postb_71v at pk
  have un : (vwC H0).1 (ptk (vwC H0) 16 (absC H0)).1 = 2 → UNb H2 ((vwC H0).2.2.1 (ptk (vwC H0) 16 (absC H0)).1) n7 := fun h2 => by
    rw [(nx h2).2]
    exact UNb_of d1.1 (nx h2).1 (pk.1 (nx h2).1)
  have ok := name_ok (b := 3) (n := 8 * (vwC H0).2.2.2 (ptk (vwC H0) 16 (absC H0)).1 + 3) (c := ¬ n7 = -1) (d := ¬ pfd (BLc H0) ((vwC H0).2.2.1 (ptk (vwC H0) 16 (absC H0)).1) = -1) pz.1 (p := (ptk (vwC H0) 16 (absC H0))) ptk_ok (fun h2 => by
    have u := un h2
    unfold UNb at u
    rw [j1] at u
    rcases u with q | q <;> omega) rfl
  rw [if_neg (by omega)] at ok
  rw [ok] at a4
  refine ⟨c4.1, d4.1, j4, t4, e47, fun h6 => ⟨a4, fun hf => ?_⟩, fun h6 => absurd h6 (by omega)⟩
  have q0 := (absC_pos c4.1 hf).2
  rw [a4] at q0
  have q3 := (pt1_kind pz.1.2.1 (show 0 ≤ pt1 (vwC H0) 2 (ptk (vwC H0) 16 (absC H0)).1 from q0)).2
  have nn := nx q3
  have e48 : hV H5 48 (hV H0 30 13).toNat = n6 := by
    rw [fRow f27.1.2.1 48 (by decide +kernel)]
    have u := d3.2.2.2.2 (by omega)
    rw [t2] at u
    exact u
  rw [e48]
  exact ⟨nn.1, nn.2.symm⟩
theorem c_68v_s_4 : vOkm T0 (eP e_68v L_68v A_68v mu_68v none) 1 ([(1066, [0, 11], [4, 5], 0), (0, [11], [], 2), (1202, [9, 10, 6], [3, 4], 0), (20, [10, 0], [3], 13), (90, [10], [], -2147483648), (91, [10], [], 2147483647), (20, [9, 0], [3], 12), (0, [9], [], 48), (40, [7, 8], [], 0), (0, [8], [], -1), (1071, [7, 0, 6], [2, 3], 0), (90, [7], [], -2147483648), (91, [7], [], 2147483647), (1123, [6, 4, 5], [1, 2], 0), (20, [5, 0], [1], 1), (90, [5], [], -2147483648), (91, [5], [], 2147483647), (20, [4, 0], [1], 0), (0, [4], [], 31), (1066, [0, 3], [0, 1], 0), (0, [3], [], 16), (42, [1, 2], [], 0), (0, [2], [], 6), (20, [1, 0], [0], 13), (90, [1], [], -2147483648), (91, [1], [], 2147483647), (6000, [0], [0], 0), (0, [0], [], 30)], (3000, [], [5], 67)) := vOk_in fun ρ η h => by
  obtain ⟨f0, f1, f2, f3, f4, f5, f6, f7, f8, f9, f10, f11, f12, f13, f14, f15, f16, f17, f18, f19, f20, f21, f22, f23, f24, f25, f26, f27, _⟩ := h
  exact q_68v_4 (n0 := ρ 0) (n1 := ρ 1) (n2 := ρ 2) (n3 := ρ 3) (n4 := ρ 4) (n5 := ρ 5) (n6 := ρ 6) (n7 := ρ 7) (n8 := ρ 8) (n9 := ρ 9) (n10 := ρ 10) (n11 := ρ 11) (H0 := η 0) (H1 := η 1) (H2 := η 2) (H3 := η 3) (H4 := η 4) (H5 := η 5) f27 f26 f25 f24 f23 f22 f21 f20 f19 f18 f17 f16 f15 f14 f13 f12 f11 f10 f9 f8 f7 f6 f5 f4 f3 f2 f1 f0
theorem q_68v_5 {n0 n1 n2 n3 n4 n5 n6 n7 n8 n9 n10 : Int} {H0 H1 H2 H3 : gH} (f0 : n0 = 30) (f1 : hWt T0 H0 ∧ preb_68v n0 H0) (f2 : n1 ≤ 2147483647) (f3 : (-2147483648) ≤ n1) (f4 : n1 = hV H0 (n0).toNat 13) (f5 : n2 = 6) (f6 : n1 < n2) (f7 : n3 = 16) (f8 : (hLe T0 H0 H1 ∧ hFr s_66v.2.2.2.2 H0 H1 ∧ ((0 : Int) = 0 → H1.length = H0.length) ∧ hWt T0 H1) ∧ postb_66v n0 n3 H0 H1) (f9 : n4 = 31) (f10 : n4 = hV H1 (n0).toNat 0) (f11 : n5 ≤ 2147483647) (f12 : (-2147483648) ≤ n5) (f13 : n5 = hV H1 (n0).toNat 1) (f14 : (hLe T0 H1 H2 ∧ hFr s_123v.2.2.2.2 H1 H2 ∧ ((0 : Int) = 0 → H2.length = H1.length) ∧ hWt T0 H2) ∧ postb_123v n6 n4 n5 H1 H2) (f15 : n7 ≤ 2147483647) (f16 : (-2147483648) ≤ n7) (f17 : (hLe T0 H2 H3 ∧ hFr s_71v.2.2.2.2 H2 H3 ∧ ((0 : Int) = 0 → H3.length = H2.length) ∧ hWt T0 H3) ∧ postb_71v n7 n0 n6 H2 H3) (f18 : n8 = (-1)) (f19 : n7 ≠ n8) (f20 : n9 = 3) (f21 : n10 ≤ 2147483647) (f22 : (-2147483648) ≤ n10) (f23 : n10 = hV H3 (n0).toNat 1) : preb_65v n0 n9 n10 H3 := by
  have pz := f1.2
  unfold preb_68v at pz
  have c0 := f8.2
  unfold postb_66v at c0
  try rw [f7] at c0
  have a0 : absC H1 = (ptk (vwC H0) 16 (absC H0)) := c0.2
  have v0 : vwC H1 = vwC H0 := (vwC_fr f8.1.2.1 (by decide +kernel))
  have s1 := PF_fr f14.1.1 f14.1.2.1 (by decide +kernel) c0.1
  have a1 : absC H2 = (ptk (vwC H0) 16 (absC H0)) := s1.1.trans a0
  have v1 : vwC H2 = vwC H0 := s1.2.1.trans v0
  have s2 := PF_fr f17.1.1 f17.1.2.1 (by decide +kernel) s1.2.2
  have a2 : absC H3 = (ptk (vwC H0) 16 (absC H0)) := s2.1.trans a1
  have v2 : vwC H3 = vwC H0 := s2.2.1.trans v1
  have d0 := BI_fr f8.1.1 f8.1.2.1 (by decide +kernel) pz.2
  have j0 : BLc H1 = BLc H0 := d0.2
  have t0 : hV H1 30 13 = hV H0 30 13 := (f8.1.2.1.1 30 13 (by decide +kernel))
  have d1 := BI_fr f14.1.1 f14.1.2.1 (by decide +kernel) d0.1
  have j1 : BLc H2 = BLc H0 := d1.2.trans j0
  have t1 : hV H2 30 13 = hV H0 30 13 := (f14.1.2.1.1 30 13 (by decide +kernel)).trans t0
  have d2 := BI_fr f17.1.1 f17.1.2.1 (by decide +kernel) d1.1
  have j2 : BLc H3 = BLc H0 := d2.2.trans j1
  have t2 : hV H3 30 13 = hV H0 30 13 := (f17.1.2.1.1 30 13 (by decide +kernel)).trans t1
  have rb := f23
  rw [f0] at rb
  rw [show ((30 : Int)).toNat = 30 from rfl] at rb
  unfold preb_65v
  refine ⟨s2.2.2, by omega, by omega, ?_⟩
  rw [rb]
  exact s2.2.2.2.2.2.1
theorem c_68v_s_5 : vOkm T0 (eP e_68v L_68v A_68v mu_68v none) 1 ([(20, [10, 0], [3], 1), (90, [10], [], -2147483648), (91, [10], [], 2147483647), (0, [9], [], 3), (41, [7, 8], [], 0), (0, [8], [], -1), (1071, [7, 0, 6], [2, 3], 0), (90, [7], [], -2147483648), (91, [7], [], 2147483647), (1123, [6, 4, 5], [1, 2], 0), (20, [5, 0], [1], 1), (90, [5], [], -2147483648), (91, [5], [], 2147483647), (20, [4, 0], [1], 0), (0, [4], [], 31), (1066, [0, 3], [0, 1], 0), (0, [3], [], 16), (42, [1, 2], [], 0), (0, [2], [], 6), (20, [1, 0], [0], 13), (90, [1], [], -2147483648), (91, [1], [], 2147483647), (6000, [0], [0], 0), (0, [0], [], 30)], (2065, [0, 9, 10], [3], 0)) := vOk_in fun ρ η h => by
  obtain ⟨f0, f1, f2, f3, f4, f5, f6, f7, f8, f9, f10, f11, f12, f13, f14, f15, f16, f17, f18, f19, f20, f21, f22, f23, _⟩ := h
  exact q_68v_5 (n0 := ρ 0) (n1 := ρ 1) (n2 := ρ 2) (n3 := ρ 3) (n4 := ρ 4) (n5 := ρ 5) (n6 := ρ 6) (n7 := ρ 7) (n8 := ρ 8) (n9 := ρ 9) (n10 := ρ 10) (H0 := η 0) (H1 := η 1) (H2 := η 2) (H3 := η 3) f23 f22 f21 f20 f19 f18 f17 f16 f15 f14 f13 f12 f11 f10 f9 f8 f7 f6 f5 f4 f3 f2 f1 f0
theorem q_68v_6 {n0 n1 n2 n3 n4 n5 n6 n7 n8 n9 n10 n11 n12 n13 : Int} {H0 H1 H2 H3 H4 H5 : gH} (f0 : n0 = 30) (f1 : hWt T0 H0 ∧ preb_68v n0 H0) (f2 : n1 ≤ 2147483647) (f3 : (-2147483648) ≤ n1) (f4 : n1 = hV H0 (n0).toNat 13) (f5 : n2 = 6) (f6 : n1 < n2) (f7 : n3 = 16) (f8 : (hLe T0 H0 H1 ∧ hFr s_66v.2.2.2.2 H0 H1 ∧ ((0 : Int) = 0 → H1.length = H0.length) ∧ hWt T0 H1) ∧ postb_66v n0 n3 H0 H1) (f9 : n4 = 31) (f10 : n4 = hV H1 (n0).toNat 0) (f11 : n5 ≤ 2147483647) (f12 : (-2147483648) ≤ n5) (f13 : n5 = hV H1 (n0).toNat 1) (f14 : (hLe T0 H1 H2 ∧ hFr s_123v.2.2.2.2 H1 H2 ∧ ((0 : Int) = 0 → H2.length = H1.length) ∧ hWt T0 H2) ∧ postb_123v n6 n4 n5 H1 H2) (f15 : n7 ≤ 2147483647) (f16 : (-2147483648) ≤ n7) (f17 : (hLe T0 H2 H3 ∧ hFr s_71v.2.2.2.2 H2 H3 ∧ ((0 : Int) = 0 → H3.length = H2.length) ∧ hWt T0 H3) ∧ postb_71v n7 n0 n6 H2 H3) (f18 : n8 = (-1)) (f19 : n7 ≠ n8) (f20 : n9 = 3) (f21 : n10 ≤ 2147483647) (f22 : (-2147483648) ≤ n10) (f23 : n10 = hV H3 (n0).toNat 1) (f24 : (hLe T0 H3 H4 ∧ hFr s_65v.2.2.2.2 H3 H4 ∧ ((0 : Int) = 0 → H4.length = H3.length) ∧ hWt T0 H4) ∧ postb_65v n0 n9 n10 H3 H4) (f25 : n11 = 48) (f26 : n11 = hV H4 (n0).toNat 12) (f27 : n12 ≤ 2147483647) (f28 : (-2147483648) ≤ n12) (f29 : n12 = hV H4 (n0).toNat 13) (f30 : (hLe T0 H4 H5 ∧ hFr s_202vk733.2.2.2.2 H4 H5 ∧ ((0 : Int) = 0 → H5.length = H4.length) ∧ hWt T0 H5) ∧ postb_202vk733 n11 n12 n6 H4 H5) (f31 : n13 = 2) : preb_66v n0 n13 H5 := by
  have pz := f1.2
  unfold preb_68v at pz
  have c0 := f8.2
  unfold postb_66v at c0
  try rw [f7] at c0
  have a0 : absC H1 = (ptk (vwC H0) 16 (absC H0)) := c0.2
  have v0 : vwC H1 = vwC H0 := (vwC_fr f8.1.2.1 (by decide +kernel))
  have s1 := PF_fr f14.1.1 f14.1.2.1 (by decide +kernel) c0.1
  have a1 : absC H2 = (ptk (vwC H0) 16 (absC H0)) := s1.1.trans a0
  have v1 : vwC H2 = vwC H0 := s1.2.1.trans v0
  have s2 := PF_fr f17.1.1 f17.1.2.1 (by decide +kernel) s1.2.2
  have a2 : absC H3 = (ptk (vwC H0) 16 (absC H0)) := s2.1.trans a1
  have v2 : vwC H3 = vwC H0 := s2.2.1.trans v1
  have c3 := f24.2
  unfold postb_65v at c3
  try rw [f20] at c3
  rw [v2] at c3
  rw [a2] at c3
  have a3 : absC H4 = (pbl (vwC H0) 3 n10 (ptk (vwC H0) 16 (absC H0))) := c3.2
  have v3 : vwC H4 = vwC H0 := (vwC_fr f24.1.2.1 (by decide +kernel)).trans v2
  have s4 := PF_fr f30.1.1 f30.1.2.1 (by decide +kernel) c3.1
  have a4 : absC H5 = (pbl (vwC H0) 3 n10 (ptk (vwC H0) 16 (absC H0))) := s4.1.trans a3
  have v4 : vwC H5 = vwC H0 := s4.2.1.trans v3
  have d0 := BI_fr f8.1.1 f8.1.2.1 (by decide +kernel) pz.2
  have j0 : BLc H1 = BLc H0 := d0.2
  have t0 : hV H1 30 13 = hV H0 30 13 := (f8.1.2.1.1 30 13 (by decide +kernel))
  have d1 := BI_fr f14.1.1 f14.1.2.1 (by decide +kernel) d0.1
  have j1 : BLc H2 = BLc H0 := d1.2.trans j0
  have t1 : hV H2 30 13 = hV H0 30 13 := (f14.1.2.1.1 30 13 (by decide +kernel)).trans t0
  have d2 := BI_fr f17.1.1 f17.1.2.1 (by decide +kernel) d1.1
  have j2 : BLc H3 = BLc H0 := d2.2.trans j1
  have t2 : hV H3 30 13 = hV H0 30 13 := (f17.1.2.1.1 30 13 (by decide +kernel)).trans t1
  have d3 := BI_fr f24.1.1 f24.1.2.1 (by decide +kernel) d2.1
  have j3 : BLc H4 = BLc H0 := d3.2.trans j2
  have t3 : hV H4 30 13 = hV H0 30 13 := (f24.1.2.1.1 30 13 (by decide +kernel)).trans t2
  have rp := f29
  rw [f0] at rp
  rw [show ((30 : Int)).toNat = 30 from rfl] at rp
  have pp := f30.2
  unfold postb_202vk733 at pp
  rw [f25, rp] at pp
  have d4 := BI_name f30.1.1 f30.1.2.1 (by decide +kernel) d3.1 pp
  have j4 : BLc H5 = BLc H0 := d4.2.1.trans j3
  have t4 : hV H5 30 13 = hV H0 30 13 := d4.2.2.1.trans t3
  unfold preb_66v
  exact ⟨s4.2.2, by omega⟩
theorem c_68v_s_6 : vOkm T0 (eP e_68v L_68v A_68v mu_68v none) 1 ([(0, [13], [], 2), (1202, [11, 12, 6], [4, 5], 0), (20, [12, 0], [4], 13), (90, [12], [], -2147483648), (91, [12], [], 2147483647), (20, [11, 0], [4], 12), (0, [11], [], 48), (1065, [0, 9, 10], [3, 4], 0), (20, [10, 0], [3], 1), (90, [10], [], -2147483648), (91, [10], [], 2147483647), (0, [9], [], 3), (41, [7, 8], [], 0), (0, [8], [], -1), (1071, [7, 0, 6], [2, 3], 0), (90, [7], [], -2147483648), (91, [7], [], 2147483647), (1123, [6, 4, 5], [1, 2], 0), (20, [5, 0], [1], 1), (90, [5], [], -2147483648), (91, [5], [], 2147483647), (20, [4, 0], [1], 0), (0, [4], [], 31), (1066, [0, 3], [0, 1], 0), (0, [3], [], 16), (42, [1, 2], [], 0), (0, [2], [], 6), (20, [1, 0], [0], 13), (90, [1], [], -2147483648), (91, [1], [], 2147483647), (6000, [0], [0], 0), (0, [0], [], 30)], (2066, [0, 13], [5], 0)) := vOk_in fun ρ η h => by
  obtain ⟨f0, f1, f2, f3, f4, f5, f6, f7, f8, f9, f10, f11, f12, f13, f14, f15, f16, f17, f18, f19, f20, f21, f22, f23, f24, f25, f26, f27, f28, f29, f30, f31, _⟩ := h
  exact q_68v_6 (n0 := ρ 0) (n1 := ρ 1) (n2 := ρ 2) (n3 := ρ 3) (n4 := ρ 4) (n5 := ρ 5) (n6 := ρ 6) (n7 := ρ 7) (n8 := ρ 8) (n9 := ρ 9) (n10 := ρ 10) (n11 := ρ 11) (n12 := ρ 12) (n13 := ρ 13) (H0 := η 0) (H1 := η 1) (H2 := η 2) (H3 := η 3) (H4 := η 4) (H5 := η 5) f31 f30 f29 f28 f27 f26 f25 f24 f23 f22 f21 f20 f19 f18 f17 f16 f15 f14 f13 f12 f11 f10 f9 f8 f7 f6 f5 f4 f3 f2 f1 f0
theorem q_68v_7 {n0 n1 n2 n3 n4 n5 n6 n7 n8 n9 n10 n11 n12 n13 : Int} {H0 H1 H2 H3 H4 H5 H6 : gH} (f0 : n0 = 30) (f1 : hWt T0 H0 ∧ preb_68v n0 H0) (f2 : n1 ≤ 2147483647) (f3 : (-2147483648) ≤ n1) (f4 : n1 = hV H0 (n0).toNat 13) (f5 : n2 = 6) (f6 : n1 < n2) (f7 : n3 = 16) (f8 : (hLe T0 H0 H1 ∧ hFr s_66v.2.2.2.2 H0 H1 ∧ ((0 : Int) = 0 → H1.length = H0.length) ∧ hWt T0 H1) ∧ postb_66v n0 n3 H0 H1) (f9 : n4 = 31) (f10 : n4 = hV H1 (n0).toNat 0) (f11 : n5 ≤ 2147483647) (f12 : (-2147483648) ≤ n5) (f13 : n5 = hV H1 (n0).toNat 1) (f14 : (hLe T0 H1 H2 ∧ hFr s_123v.2.2.2.2 H1 H2 ∧ ((0 : Int) = 0 → H2.length = H1.length) ∧ hWt T0 H2) ∧ postb_123v n6 n4 n5 H1 H2) (f15 : n7 ≤ 2147483647) (f16 : (-2147483648) ≤ n7) (f17 : (hLe T0 H2 H3 ∧ hFr s_71v.2.2.2.2 H2 H3 ∧ ((0 : Int) = 0 → H3.length = H2.length) ∧ hWt T0 H3) ∧ postb_71v n7 n0 n6 H2 H3) (f18 : n8 = (-1)) (f19 : n7 ≠ n8) (f20 : n9 = 3) (f21 : n10 ≤ 2147483647) (f22 : (-2147483648) ≤ n10) (f23 : n10 = hV H3 (n0).toNat 1) (f24 : (hLe T0 H3 H4 ∧ hFr s_65v.2.2.2.2 H3 H4 ∧ ((0 : Int) = 0 → H4.length = H3.length) ∧ hWt T0 H4) ∧ postb_65v n0 n9 n10 H3 H4) (f25 : n11 = 48) (f26 : n11 = hV H4 (n0).toNat 12) (f27 : n12 ≤ 2147483647) (f28 : (-2147483648) ≤ n12) (f29 : n12 = hV H4 (n0).toNat 13) (f30 : (hLe T0 H4 H5 ∧ hFr s_202vk733.2.2.2.2 H4 H5 ∧ ((0 : Int) = 0 → H5.length = H4.length) ∧ hWt T0 H5) ∧ postb_202vk733 n11 n12 n6 H4 H5) (f31 : n13 = 2) (f32 : (hLe T0 H5 H6 ∧ hFr s_66v.2.2.2.2 H5 H6 ∧ ((0 : Int) = 0 → H6.length = H5.length) ∧ hWt T0 H6) ∧ postb_66v n0 n13 H5 H6) : postb_68v n0 H0 H6 := by
  have pz := f1.2
  unfold preb_68v at pz
  have c0 := f8.2
  unfold postb_66v at c0
  try rw [f7] at c0
  have a0 : absC H1 = (ptk (vwC H0) 16 (absC H0)) := c0.2
  have v0 : vwC H1 = vwC H0 := (vwC_fr f8.1.2.1 (by decide +kernel))
  have s1 := PF_fr f14.1.1 f14.1.2.1 (by decide +kernel) c0.1
  have a1 : absC H2 = (ptk (vwC H0) 16 (absC H0)) := s1.1.trans a0
  have v1 : vwC H2 = vwC H0 := s1.2.1.trans v0
  have s2 := PF_fr f17.1.1 f17.1.2.1 (by decide +kernel) s1.2.2
  have a2 : absC H3 = (ptk (vwC H0) 16 (absC H0)) := s2.1.trans a1
  have v2 : vwC H3 = vwC H0 := s2.2.1.trans v1
  have c3 := f24.2
  unfold postb_65v at c3
  try rw [f20] at c3
  rw [v2] at c3
  rw [a2] at c3
  have a3 : absC H4 = (pbl (vwC H0) 3 n10 (ptk (vwC H0) 16 (absC H0))) := c3.2
  have v3 : vwC H4 = vwC H0 := (vwC_fr f24.1.2.1 (by decide +kernel)).trans v2
  have s4 := PF_fr f30.1.1 f30.1.2.1 (by decide +kernel) c3.1
  have a4 : absC H5 = (pbl (vwC H0) 3 n10 (ptk (vwC H0) 16 (absC H0))) := s4.1.trans a3
  have v4 : vwC H5 = vwC H0 := s4.2.1.trans v3
  have c5 := f32.2
  unfold postb_66v at c5
  try rw [f31] at c5
  rw [v4] at c5
  rw [a4] at c5
  have a5 : absC H6 = (ptk (vwC H0) 2 (pbl (vwC H0) 3 n10 (ptk (vwC H0) 16 (absC H0)))) := c5.2
  have v5 : vwC H6 = vwC H0 := (vwC_fr f32.1.2.1 (by decide +kernel)).trans v4
  have d0 := BI_fr f8.1.1 f8.1.2.1 (by decide +kernel) pz.2
  have j0 : BLc H1 = BLc H0 := d0.2
  have t0 : hV H1 30 13 = hV H0 30 13 := (f8.1.2.1.1 30 13 (by decide +kernel))
  have d1 := BI_fr f14.1.1 f14.1.2.1 (by decide +kernel) d0.1
  have j1 : BLc H2 = BLc H0 := d1.2.trans j0
  have t1 : hV H2 30 13 = hV H0 30 13 := (f14.1.2.1.1 30 13 (by decide +kernel)).trans t0
  have d2 := BI_fr f17.1.1 f17.1.2.1 (by decide +kernel) d1.1
  have j2 : BLc H3 = BLc H0 := d2.2.trans j1
  have t2 : hV H3 30 13 = hV H0 30 13 := (f17.1.2.1.1 30 13 (by decide +kernel)).trans t1
  have d3 := BI_fr f24.1.1 f24.1.2.1 (by decide +kernel) d2.1
  have j3 : BLc H4 = BLc H0 := d3.2.trans j2
  have t3 : hV H4 30 13 = hV H0 30 13 := (f24.1.2.1.1 30 13 (by decide +kernel)).trans t2
  have rp := f29
  rw [f0] at rp
  rw [show ((30 : Int)).toNat = 30 from rfl] at rp
  have pp := f30.2
  unfold postb_202vk733 at pp
  rw [f25, rp] at pp
  have d4 := BI_name f30.1.1 f30.1.2.1 (by decide +kernel) d3.1 pp
  have j4 : BLc H5 = BLc H0 := d4.2.1.trans j3
  have t4 : hV H5 30 13 = hV H0 30 13 := d4.2.2.1.trans t3
  have d5 := BI_fr f32.1.1 f32.1.2.1 (by decide +kernel) d4.1
  have j5 : BLc H6 = BLc H0 := d5.2.trans j4
  have t5 : hV H6 30 13 = hV H0 30 13 := (f32.1.2.1.1 30 13 (by decide +kernel)).trans t4
  have rb0 := f4
  rw [f0] at rb0
  rw [show ((30 : Int)).toNat = 30 from rfl] at rb0
  have e47 : hV H6 47 = hV H0 47 := ((fRow f32.1.2.1 47 (by decide +kernel)).trans ((fRow f30.1.2.1 47 (by decide +kernel)).trans ((fRow f24.1.2.1 47 (by decide +kernel)).trans ((fRow f17.1.2.1 47 (by decide +kernel)).trans ((fRow f14.1.2.1 47 (by decide +kernel)).trans (fRow f8.1.2.1 47 (by decide +kernel)))))))
  unfold postb_68v
  have r1 := f13
  rw [f0] at r1
  rw [show ((30 : Int)).toNat = 30 from rfl] at r1
  have pv := f14.2
  unfold postb_123v at pv
  rw [show n5 = hV H1 30 1 from r1] at pv
  have nx := nm_at c0.1 pv
  rw [v0, a0] at nx
  have pk := f17.2
  unfold postb_71v at pk
  have un : (vwC H0).1 (ptk (vwC H0) 16 (absC H0)).1 = 2 → UNb H2 ((vwC H0).2.2.1 (ptk (vwC H0) 16 (absC H0)).1) n7 := fun h2 => by
    rw [(nx h2).2]
    exact UNb_of d1.1 (nx h2).1 (pk.1 (nx h2).1)
  have ok := name_ok (b := 3) (n := 8 * (vwC H0).2.2.2 (ptk (vwC H0) 16 (absC H0)).1 + 3) (c := ¬ n7 = -1) (d := ¬ pfd (BLc H0) ((vwC H0).2.2.1 (ptk (vwC H0) 16 (absC H0)).1) = -1) pz.1 (p := (ptk (vwC H0) 16 (absC H0))) ptk_ok (fun h2 => by
    have u := un h2
    unfold UNb at u
    rw [j1] at u
    rcases u with q | q <;> omega) rfl
  have rb := f23
  rw [f0] at rb
  rw [show ((30 : Int)).toNat = 30 from rfl] at rb
  have nb : n10 = hV H1 30 1 := rb.trans ((f17.1.2.1.1 30 1 (by decide +kernel)).trans (f14.1.2.1.1 30 1 (by decide +kernel)))
  rw [if_pos (by omega)] at ok
  have bq : pbl (vwC H0) 3 n10 (ptk (vwC H0) 16 (absC H0)) = pbl (vwC H0) 3 (ptk (vwC H0) 16 (absC H0)).1 (ptk (vwC H0) 16 (absC H0)) := by
    by_cases hf : hV H1 30 3 = 0
    · have u := (absC_pos c0.1 hf).1
      rw [a0] at u
      rw [u, nb]
    · have u := absC_neg c0.1 hf
      rw [a0] at u
      rw [pbl_neg u, pbl_neg u]
  rw [bq, ok] at a5
  refine ⟨c5.1, d5.1, j5, t5, e47, fun h6 => ⟨a5, fun hf => ?_⟩, fun h6 => absurd h6 (by omega)⟩
  have q0 := (absC_pos c5.1 hf).2
  rw [a5] at q0
  have q3 := (pt1_kind pz.1.2.1 (show 0 ≤ pt1 (vwC H0) 2 (ptk (vwC H0) 16 (absC H0)).1 from q0)).2
  have nn := nx q3
  have e48 : hV H6 48 (hV H0 30 13).toNat = n6 := by
    rw [fRow f32.1.2.1 48 (by decide +kernel)]
    have u := d4.2.2.2.2 (by omega)
    rw [t3] at u
    exact u
  rw [e48]
  exact ⟨nn.1, nn.2.symm⟩
theorem c_68v_s_7 : vOkm T0 (eP e_68v L_68v A_68v mu_68v none) 1 ([(1066, [0, 13], [5, 6], 0), (0, [13], [], 2), (1202, [11, 12, 6], [4, 5], 0), (20, [12, 0], [4], 13), (90, [12], [], -2147483648), (91, [12], [], 2147483647), (20, [11, 0], [4], 12), (0, [11], [], 48), (1065, [0, 9, 10], [3, 4], 0), (20, [10, 0], [3], 1), (90, [10], [], -2147483648), (91, [10], [], 2147483647), (0, [9], [], 3), (41, [7, 8], [], 0), (0, [8], [], -1), (1071, [7, 0, 6], [2, 3], 0), (90, [7], [], -2147483648), (91, [7], [], 2147483647), (1123, [6, 4, 5], [1, 2], 0), (20, [5, 0], [1], 1), (90, [5], [], -2147483648), (91, [5], [], 2147483647), (20, [4, 0], [1], 0), (0, [4], [], 31), (1066, [0, 3], [0, 1], 0), (0, [3], [], 16), (42, [1, 2], [], 0), (0, [2], [], 6), (20, [1, 0], [0], 13), (90, [1], [], -2147483648), (91, [1], [], 2147483647), (6000, [0], [0], 0), (0, [0], [], 30)], (3000, [], [6], 67)) := vOk_in fun ρ η h => by
  obtain ⟨f0, f1, f2, f3, f4, f5, f6, f7, f8, f9, f10, f11, f12, f13, f14, f15, f16, f17, f18, f19, f20, f21, f22, f23, f24, f25, f26, f27, f28, f29, f30, f31, f32, _⟩ := h
  exact q_68v_7 (n0 := ρ 0) (n1 := ρ 1) (n2 := ρ 2) (n3 := ρ 3) (n4 := ρ 4) (n5 := ρ 5) (n6 := ρ 6) (n7 := ρ 7) (n8 := ρ 8) (n9 := ρ 9) (n10 := ρ 10) (n11 := ρ 11) (n12 := ρ 12) (n13 := ρ 13) (H0 := η 0) (H1 := η 1) (H2 := η 2) (H3 := η 3) (H4 := η 4) (H5 := η 5) (H6 := η 6) f32 f31 f30 f29 f28 f27 f26 f25 f24 f23 f22 f21 f20 f19 f18 f17 f16 f15 f14 f13 f12 f11 f10 f9 f8 f7 f6 f5 f4 f3 f2 f1 f0
theorem q_68v_8 {n0 n1 n2 n3 : Int} {H0 : gH} (f0 : n0 = 30) (f1 : hWt T0 H0 ∧ preb_68v n0 H0) (f2 : n1 ≤ 2147483647) (f3 : (-2147483648) ≤ n1) (f4 : n1 = hV H0 (n0).toNat 13) (f5 : n2 = 6) (f6 : n2 ≤ n1) (f7 : n3 = 2) : preb_64v n0 n3 H0 := by
  have pz := f1.2
  unfold preb_68v at pz
  unfold preb_64v
  exact ⟨pz.1, by omega⟩
theorem c_68v_s_8 : vOkm T0 (eP e_68v L_68v A_68v mu_68v none) 1 ([(0, [3], [], 2), (43, [1, 2], [], 0), (0, [2], [], 6), (20, [1, 0], [0], 13), (90, [1], [], -2147483648), (91, [1], [], 2147483647), (6000, [0], [0], 0), (0, [0], [], 30)], (2064, [0, 3], [0], 0)) := vOk_in fun ρ η h => by
  obtain ⟨f0, f1, f2, f3, f4, f5, f6, f7, _⟩ := h
  exact q_68v_8 (n0 := ρ 0) (n1 := ρ 1) (n2 := ρ 2) (n3 := ρ 3) (H0 := η 0) f7 f6 f5 f4 f3 f2 f1 f0
theorem q_68v_9 {n0 n1 n2 n3 n4 : Int} {H0 H1 : gH} (f0 : n0 = 30) (f1 : hWt T0 H0 ∧ preb_68v n0 H0) (f2 : n1 ≤ 2147483647) (f3 : (-2147483648) ≤ n1) (f4 : n1 = hV H0 (n0).toNat 13) (f5 : n2 = 6) (f6 : n2 ≤ n1) (f7 : n3 = 2) (f8 : (hLe T0 H0 H1 ∧ hFr s_64v.2.2.2.2 H0 H1 ∧ ((0 : Int) = 0 → H1.length = H0.length) ∧ hWt T0 H1) ∧ postb_64v n0 n3 H0 H1) (f9 : n4 = 16) : preb_66v n0 n4 H1 := by
  have pz := f1.2
  unfold preb_68v at pz
  have c0 := f8.2
  unfold postb_64v at c0
  try rw [f7] at c0
  have a0 : absC H1 = (pfail (vwC H0) 2 (absC H0)) := c0.2
  have v0 : vwC H1 = vwC H0 := (vwC_fr f8.1.2.1 (by decide +kernel))
  have d0 := BI_fr f8.1.1 f8.1.2.1 (by decide +kernel) pz.2
  have j0 : BLc H1 = BLc H0 := d0.2
  have t0 : hV H1 30 13 = hV H0 30 13 := (f8.1.2.1.1 30 13 (by decide +kernel))
  unfold preb_66v
  exact ⟨c0.1, by omega⟩
theorem c_68v_s_9 : vOkm T0 (eP e_68v L_68v A_68v mu_68v none) 1 ([(0, [4], [], 16), (1064, [0, 3], [0, 1], 0), (0, [3], [], 2), (43, [1, 2], [], 0), (0, [2], [], 6), (20, [1, 0], [0], 13), (90, [1], [], -2147483648), (91, [1], [], 2147483647), (6000, [0], [0], 0), (0, [0], [], 30)], (2066, [0, 4], [1], 0)) := vOk_in fun ρ η h => by
  obtain ⟨f0, f1, f2, f3, f4, f5, f6, f7, f8, f9, _⟩ := h
  exact q_68v_9 (n0 := ρ 0) (n1 := ρ 1) (n2 := ρ 2) (n3 := ρ 3) (n4 := ρ 4) (H0 := η 0) (H1 := η 1) f9 f8 f7 f6 f5 f4 f3 f2 f1 f0
theorem q_68v_10 {n0 n1 n2 n3 n4 n5 n6 : Int} {H0 H1 H2 : gH} (f0 : n0 = 30) (f1 : hWt T0 H0 ∧ preb_68v n0 H0) (f2 : n1 ≤ 2147483647) (f3 : (-2147483648) ≤ n1) (f4 : n1 = hV H0 (n0).toNat 13) (f5 : n2 = 6) (f6 : n2 ≤ n1) (f7 : n3 = 2) (f8 : (hLe T0 H0 H1 ∧ hFr s_64v.2.2.2.2 H0 H1 ∧ ((0 : Int) = 0 → H1.length = H0.length) ∧ hWt T0 H1) ∧ postb_64v n0 n3 H0 H1) (f9 : n4 = 16) (f10 : (hLe T0 H1 H2 ∧ hFr s_66v.2.2.2.2 H1 H2 ∧ ((0 : Int) = 0 → H2.length = H1.length) ∧ hWt T0 H2) ∧ postb_66v n0 n4 H1 H2) (f11 : n5 = 31) (f12 : n5 = hV H2 (n0).toNat 0) (f13 : n6 ≤ 2147483647) (f14 : (-2147483648) ≤ n6) (f15 : n6 = hV H2 (n0).toNat 1) : preb_123v n5 n6 H2 := by
  have pz := f1.2
  unfold preb_68v at pz
  have c0 := f8.2
  unfold postb_64v at c0
  try rw [f7] at c0
  have a0 : absC H1 = (pfail (vwC H0) 2 (absC H0)) := c0.2
  have v0 : vwC H1 = vwC H0 := (vwC_fr f8.1.2.1 (by decide +kernel))
  have c1 := f10.2
  unfold postb_66v at c1
  try rw [f9] at c1
  rw [v0] at c1
  rw [a0] at c1
  have a1 : absC H2 = (ptk (vwC H0) 16 (pfail (vwC H0) 2 (absC H0))) := c1.2
  have v1 : vwC H2 = vwC H0 := (vwC_fr f10.1.2.1 (by decide +kernel)).trans v0
  have d0 := BI_fr f8.1.1 f8.1.2.1 (by decide +kernel) pz.2
  have j0 : BLc H1 = BLc H0 := d0.2
  have t0 : hV H1 30 13 = hV H0 30 13 := (f8.1.2.1.1 30 13 (by decide +kernel))
  have d1 := BI_fr f10.1.1 f10.1.2.1 (by decide +kernel) d0.1
  have j1 : BLc H2 = BLc H0 := d1.2.trans j0
  have t1 : hV H2 30 13 = hV H0 30 13 := (f10.1.2.1.1 30 13 (by decide +kernel)).trans t0
  unfold preb_123v
  exact c1.1.1
theorem c_68v_s_10 : vOkm T0 (eP e_68v L_68v A_68v mu_68v none) 1 ([(20, [6, 0], [2], 1), (90, [6], [], -2147483648), (91, [6], [], 2147483647), (20, [5, 0], [2], 0), (0, [5], [], 31), (1066, [0, 4], [1, 2], 0), (0, [4], [], 16), (1064, [0, 3], [0, 1], 0), (0, [3], [], 2), (43, [1, 2], [], 0), (0, [2], [], 6), (20, [1, 0], [0], 13), (90, [1], [], -2147483648), (91, [1], [], 2147483647), (6000, [0], [0], 0), (0, [0], [], 30)], (2123, [5, 6], [2], 0)) := vOk_in fun ρ η h => by
  obtain ⟨f0, f1, f2, f3, f4, f5, f6, f7, f8, f9, f10, f11, f12, f13, f14, f15, _⟩ := h
  exact q_68v_10 (n0 := ρ 0) (n1 := ρ 1) (n2 := ρ 2) (n3 := ρ 3) (n4 := ρ 4) (n5 := ρ 5) (n6 := ρ 6) (H0 := η 0) (H1 := η 1) (H2 := η 2) f15 f14 f13 f12 f11 f10 f9 f8 f7 f6 f5 f4 f3 f2 f1 f0
theorem q_68v_11 {n0 n1 n2 n3 n4 n5 n6 n7 : Int} {H0 H1 H2 H3 : gH} (f0 : n0 = 30) (f1 : hWt T0 H0 ∧ preb_68v n0 H0) (f2 : n1 ≤ 2147483647) (f3 : (-2147483648) ≤ n1) (f4 : n1 = hV H0 (n0).toNat 13) (f5 : n2 = 6) (f6 : n2 ≤ n1) (f7 : n3 = 2) (f8 : (hLe T0 H0 H1 ∧ hFr s_64v.2.2.2.2 H0 H1 ∧ ((0 : Int) = 0 → H1.length = H0.length) ∧ hWt T0 H1) ∧ postb_64v n0 n3 H0 H1) (f9 : n4 = 16) (f10 : (hLe T0 H1 H2 ∧ hFr s_66v.2.2.2.2 H1 H2 ∧ ((0 : Int) = 0 → H2.length = H1.length) ∧ hWt T0 H2) ∧ postb_66v n0 n4 H1 H2) (f11 : n5 = 31) (f12 : n5 = hV H2 (n0).toNat 0) (f13 : n6 ≤ 2147483647) (f14 : (-2147483648) ≤ n6) (f15 : n6 = hV H2 (n0).toNat 1) (f16 : (hLe T0 H2 H3 ∧ hFr s_123v.2.2.2.2 H2 H3 ∧ ((0 : Int) = 0 → H3.length = H2.length) ∧ hWt T0 H3) ∧ postb_123v n7 n5 n6 H2 H3) : preb_71v n0 n7 H3 := by
  have pz := f1.2
  unfold preb_68v at pz
  have c0 := f8.2
  unfold postb_64v at c0
  try rw [f7] at c0
  have a0 : absC H1 = (pfail (vwC H0) 2 (absC H0)) := c0.2
  have v0 : vwC H1 = vwC H0 := (vwC_fr f8.1.2.1 (by decide +kernel))
  have c1 := f10.2
  unfold postb_66v at c1
  try rw [f9] at c1
  rw [v0] at c1
  rw [a0] at c1
  have a1 : absC H2 = (ptk (vwC H0) 16 (pfail (vwC H0) 2 (absC H0))) := c1.2
  have v1 : vwC H2 = vwC H0 := (vwC_fr f10.1.2.1 (by decide +kernel)).trans v0
  have s2 := PF_fr f16.1.1 f16.1.2.1 (by decide +kernel) c1.1
  have a2 : absC H3 = (ptk (vwC H0) 16 (pfail (vwC H0) 2 (absC H0))) := s2.1.trans a1
  have v2 : vwC H3 = vwC H0 := s2.2.1.trans v1
  have d0 := BI_fr f8.1.1 f8.1.2.1 (by decide +kernel) pz.2
  have j0 : BLc H1 = BLc H0 := d0.2
  have t0 : hV H1 30 13 = hV H0 30 13 := (f8.1.2.1.1 30 13 (by decide +kernel))
  have d1 := BI_fr f10.1.1 f10.1.2.1 (by decide +kernel) d0.1
  have j1 : BLc H2 = BLc H0 := d1.2.trans j0
  have t1 : hV H2 30 13 = hV H0 30 13 := (f10.1.2.1.1 30 13 (by decide +kernel)).trans t0
  have d2 := BI_fr f16.1.1 f16.1.2.1 (by decide +kernel) d1.1
  have j2 : BLc H3 = BLc H0 := d2.2.trans j1
  have t2 : hV H3 30 13 = hV H0 30 13 := (f16.1.2.1.1 30 13 (by decide +kernel)).trans t1
  unfold preb_71v
  exact d2.1
theorem c_68v_s_11 : vOkm T0 (eP e_68v L_68v A_68v mu_68v none) 1 ([(1123, [7, 5, 6], [2, 3], 0), (20, [6, 0], [2], 1), (90, [6], [], -2147483648), (91, [6], [], 2147483647), (20, [5, 0], [2], 0), (0, [5], [], 31), (1066, [0, 4], [1, 2], 0), (0, [4], [], 16), (1064, [0, 3], [0, 1], 0), (0, [3], [], 2), (43, [1, 2], [], 0), (0, [2], [], 6), (20, [1, 0], [0], 13), (90, [1], [], -2147483648), (91, [1], [], 2147483647), (6000, [0], [0], 0), (0, [0], [], 30)], (2071, [0, 7], [3], 0)) := vOk_in fun ρ η h => by
  obtain ⟨f0, f1, f2, f3, f4, f5, f6, f7, f8, f9, f10, f11, f12, f13, f14, f15, f16, _⟩ := h
  exact q_68v_11 (n0 := ρ 0) (n1 := ρ 1) (n2 := ρ 2) (n3 := ρ 3) (n4 := ρ 4) (n5 := ρ 5) (n6 := ρ 6) (n7 := ρ 7) (H0 := η 0) (H1 := η 1) (H2 := η 2) (H3 := η 3) f16 f15 f14 f13 f12 f11 f10 f9 f8 f7 f6 f5 f4 f3 f2 f1 f0
theorem q_68v_12 {n0 n1 n2 n3 n4 n5 n6 n7 n8 n9 n10 n11 n12 : Int} {H0 H1 H2 H3 H4 H5 : gH} (f0 : n0 = 30) (f1 : hWt T0 H0 ∧ preb_68v n0 H0) (f2 : n1 ≤ 2147483647) (f3 : (-2147483648) ≤ n1) (f4 : n1 = hV H0 (n0).toNat 13) (f5 : n2 = 6) (f6 : n2 ≤ n1) (f7 : n3 = 2) (f8 : (hLe T0 H0 H1 ∧ hFr s_64v.2.2.2.2 H0 H1 ∧ ((0 : Int) = 0 → H1.length = H0.length) ∧ hWt T0 H1) ∧ postb_64v n0 n3 H0 H1) (f9 : n4 = 16) (f10 : (hLe T0 H1 H2 ∧ hFr s_66v.2.2.2.2 H1 H2 ∧ ((0 : Int) = 0 → H2.length = H1.length) ∧ hWt T0 H2) ∧ postb_66v n0 n4 H1 H2) (f11 : n5 = 31) (f12 : n5 = hV H2 (n0).toNat 0) (f13 : n6 ≤ 2147483647) (f14 : (-2147483648) ≤ n6) (f15 : n6 = hV H2 (n0).toNat 1) (f16 : (hLe T0 H2 H3 ∧ hFr s_123v.2.2.2.2 H2 H3 ∧ ((0 : Int) = 0 → H3.length = H2.length) ∧ hWt T0 H3) ∧ postb_123v n7 n5 n6 H2 H3) (f17 : n8 ≤ 2147483647) (f18 : (-2147483648) ≤ n8) (f19 : (hLe T0 H3 H4 ∧ hFr s_71v.2.2.2.2 H3 H4 ∧ ((0 : Int) = 0 → H4.length = H3.length) ∧ hWt T0 H4) ∧ postb_71v n8 n0 n7 H3 H4) (f20 : n9 = (-1)) (f21 : n8 = n9) (f22 : n10 = 48) (f23 : n10 = hV H4 (n0).toNat 12) (f24 : n11 ≤ 2147483647) (f25 : (-2147483648) ≤ n11) (f26 : n11 = hV H4 (n0).toNat 13) (f27 : (hLe T0 H4 H5 ∧ hFr s_202vk733.2.2.2.2 H4 H5 ∧ ((0 : Int) = 0 → H5.length = H4.length) ∧ hWt T0 H5) ∧ postb_202vk733 n10 n11 n7 H4 H5) (f28 : n12 = 2) : preb_66v n0 n12 H5 := by
  have pz := f1.2
  unfold preb_68v at pz
  have c0 := f8.2
  unfold postb_64v at c0
  try rw [f7] at c0
  have a0 : absC H1 = (pfail (vwC H0) 2 (absC H0)) := c0.2
  have v0 : vwC H1 = vwC H0 := (vwC_fr f8.1.2.1 (by decide +kernel))
  have c1 := f10.2
  unfold postb_66v at c1
  try rw [f9] at c1
  rw [v0] at c1
  rw [a0] at c1
  have a1 : absC H2 = (ptk (vwC H0) 16 (pfail (vwC H0) 2 (absC H0))) := c1.2
  have v1 : vwC H2 = vwC H0 := (vwC_fr f10.1.2.1 (by decide +kernel)).trans v0
  have s2 := PF_fr f16.1.1 f16.1.2.1 (by decide +kernel) c1.1
  have a2 : absC H3 = (ptk (vwC H0) 16 (pfail (vwC H0) 2 (absC H0))) := s2.1.trans a1
  have v2 : vwC H3 = vwC H0 := s2.2.1.trans v1
  have s3 := PF_fr f19.1.1 f19.1.2.1 (by decide +kernel) s2.2.2
  have a3 : absC H4 = (ptk (vwC H0) 16 (pfail (vwC H0) 2 (absC H0))) := s3.1.trans a2
  have v3 : vwC H4 = vwC H0 := s3.2.1.trans v2
  have s4 := PF_fr f27.1.1 f27.1.2.1 (by decide +kernel) s3.2.2
  have a4 : absC H5 = (ptk (vwC H0) 16 (pfail (vwC H0) 2 (absC H0))) := s4.1.trans a3
  have v4 : vwC H5 = vwC H0 := s4.2.1.trans v3
  have d0 := BI_fr f8.1.1 f8.1.2.1 (by decide +kernel) pz.2
  have j0 : BLc H1 = BLc H0 := d0.2
  have t0 : hV H1 30 13 = hV H0 30 13 := (f8.1.2.1.1 30 13 (by decide +kernel))
  have d1 := BI_fr f10.1.1 f10.1.2.1 (by decide +kernel) d0.1
  have j1 : BLc H2 = BLc H0 := d1.2.trans j0
  have t1 : hV H2 30 13 = hV H0 30 13 := (f10.1.2.1.1 30 13 (by decide +kernel)).trans t0
  have d2 := BI_fr f16.1.1 f16.1.2.1 (by decide +kernel) d1.1
  have j2 : BLc H3 = BLc H0 := d2.2.trans j1
  have t2 : hV H3 30 13 = hV H0 30 13 := (f16.1.2.1.1 30 13 (by decide +kernel)).trans t1
  have d3 := BI_fr f19.1.1 f19.1.2.1 (by decide +kernel) d2.1
  have j3 : BLc H4 = BLc H0 := d3.2.trans j2
  have t3 : hV H4 30 13 = hV H0 30 13 := (f19.1.2.1.1 30 13 (by decide +kernel)).trans t2
  have rp := f26
  rw [f0] at rp
  rw [show ((30 : Int)).toNat = 30 from rfl] at rp
  have pp := f27.2
  unfold postb_202vk733 at pp
  rw [f22, rp] at pp
  have d4 := BI_name f27.1.1 f27.1.2.1 (by decide +kernel) d3.1 pp
  have j4 : BLc H5 = BLc H0 := d4.2.1.trans j3
  have t4 : hV H5 30 13 = hV H0 30 13 := d4.2.2.1.trans t3
  unfold preb_66v
  exact ⟨s4.2.2, by omega⟩
theorem c_68v_s_12 : vOkm T0 (eP e_68v L_68v A_68v mu_68v none) 1 ([(0, [12], [], 2), (1202, [10, 11, 7], [4, 5], 0), (20, [11, 0], [4], 13), (90, [11], [], -2147483648), (91, [11], [], 2147483647), (20, [10, 0], [4], 12), (0, [10], [], 48), (40, [8, 9], [], 0), (0, [9], [], -1), (1071, [8, 0, 7], [3, 4], 0), (90, [8], [], -2147483648), (91, [8], [], 2147483647), (1123, [7, 5, 6], [2, 3], 0), (20, [6, 0], [2], 1), (90, [6], [], -2147483648), (91, [6], [], 2147483647), (20, [5, 0], [2], 0), (0, [5], [], 31), (1066, [0, 4], [1, 2], 0), (0, [4], [], 16), (1064, [0, 3], [0, 1], 0), (0, [3], [], 2), (43, [1, 2], [], 0), (0, [2], [], 6), (20, [1, 0], [0], 13), (90, [1], [], -2147483648), (91, [1], [], 2147483647), (6000, [0], [0], 0), (0, [0], [], 30)], (2066, [0, 12], [5], 0)) := vOk_in fun ρ η h => by
  obtain ⟨f0, f1, f2, f3, f4, f5, f6, f7, f8, f9, f10, f11, f12, f13, f14, f15, f16, f17, f18, f19, f20, f21, f22, f23, f24, f25, f26, f27, f28, _⟩ := h
  exact q_68v_12 (n0 := ρ 0) (n1 := ρ 1) (n2 := ρ 2) (n3 := ρ 3) (n4 := ρ 4) (n5 := ρ 5) (n6 := ρ 6) (n7 := ρ 7) (n8 := ρ 8) (n9 := ρ 9) (n10 := ρ 10) (n11 := ρ 11) (n12 := ρ 12) (H0 := η 0) (H1 := η 1) (H2 := η 2) (H3 := η 3) (H4 := η 4) (H5 := η 5) f28 f27 f26 f25 f24 f23 f22 f21 f20 f19 f18 f17 f16 f15 f14 f13 f12 f11 f10 f9 f8 f7 f6 f5 f4 f3 f2 f1 f0
theorem q_68v_13 {n0 n1 n2 n3 n4 n5 n6 n7 n8 n9 n10 n11 n12 : Int} {H0 H1 H2 H3 H4 H5 H6 : gH} (f0 : n0 = 30) (f1 : hWt T0 H0 ∧ preb_68v n0 H0) (f2 : n1 ≤ 2147483647) (f3 : (-2147483648) ≤ n1) (f4 : n1 = hV H0 (n0).toNat 13) (f5 : n2 = 6) (f6 : n2 ≤ n1) (f7 : n3 = 2) (f8 : (hLe T0 H0 H1 ∧ hFr s_64v.2.2.2.2 H0 H1 ∧ ((0 : Int) = 0 → H1.length = H0.length) ∧ hWt T0 H1) ∧ postb_64v n0 n3 H0 H1) (f9 : n4 = 16) (f10 : (hLe T0 H1 H2 ∧ hFr s_66v.2.2.2.2 H1 H2 ∧ ((0 : Int) = 0 → H2.length = H1.length) ∧ hWt T0 H2) ∧ postb_66v n0 n4 H1 H2) (f11 : n5 = 31) (f12 : n5 = hV H2 (n0).toNat 0) (f13 : n6 ≤ 2147483647) (f14 : (-2147483648) ≤ n6) (f15 : n6 = hV H2 (n0).toNat 1) (f16 : (hLe T0 H2 H3 ∧ hFr s_123v.2.2.2.2 H2 H3 ∧ ((0 : Int) = 0 → H3.length = H2.length) ∧ hWt T0 H3) ∧ postb_123v n7 n5 n6 H2 H3) (f17 : n8 ≤ 2147483647) (f18 : (-2147483648) ≤ n8) (f19 : (hLe T0 H3 H4 ∧ hFr s_71v.2.2.2.2 H3 H4 ∧ ((0 : Int) = 0 → H4.length = H3.length) ∧ hWt T0 H4) ∧ postb_71v n8 n0 n7 H3 H4) (f20 : n9 = (-1)) (f21 : n8 = n9) (f22 : n10 = 48) (f23 : n10 = hV H4 (n0).toNat 12) (f24 : n11 ≤ 2147483647) (f25 : (-2147483648) ≤ n11) (f26 : n11 = hV H4 (n0).toNat 13) (f27 : (hLe T0 H4 H5 ∧ hFr s_202vk733.2.2.2.2 H4 H5 ∧ ((0 : Int) = 0 → H5.length = H4.length) ∧ hWt T0 H5) ∧ postb_202vk733 n10 n11 n7 H4 H5) (f28 : n12 = 2) (f29 : (hLe T0 H5 H6 ∧ hFr s_66v.2.2.2.2 H5 H6 ∧ ((0 : Int) = 0 → H6.length = H5.length) ∧ hWt T0 H6) ∧ postb_66v n0 n12 H5 H6) : postb_68v n0 H0 H6 := by
  have pz := f1.2
  unfold preb_68v at pz
  have c0 := f8.2
  unfold postb_64v at c0
  try rw [f7] at c0
  have a0 : absC H1 = (pfail (vwC H0) 2 (absC H0)) := c0.2
  have v0 : vwC H1 = vwC H0 := (vwC_fr f8.1.2.1 (by decide +kernel))
  have c1 := f10.2
  unfold postb_66v at c1
  try rw [f9] at c1
  rw [v0] at c1
  rw [a0] at c1
  have a1 : absC H2 = (ptk (vwC H0) 16 (pfail (vwC H0) 2 (absC H0))) := c1.2
  have v1 : vwC H2 = vwC H0 := (vwC_fr f10.1.2.1 (by decide +kernel)).trans v0
  have s2 := PF_fr f16.1.1 f16.1.2.1 (by decide +kernel) c1.1
  have a2 : absC H3 = (ptk (vwC H0) 16 (pfail (vwC H0) 2 (absC H0))) := s2.1.trans a1
  have v2 : vwC H3 = vwC H0 := s2.2.1.trans v1
  have s3 := PF_fr f19.1.1 f19.1.2.1 (by decide +kernel) s2.2.2
  have a3 : absC H4 = (ptk (vwC H0) 16 (pfail (vwC H0) 2 (absC H0))) := s3.1.trans a2
  have v3 : vwC H4 = vwC H0 := s3.2.1.trans v2
  have s4 := PF_fr f27.1.1 f27.1.2.1 (by decide +kernel) s3.2.2
  have a4 : absC H5 = (ptk (vwC H0) 16 (pfail (vwC H0) 2 (absC H0))) := s4.1.trans a3
  have v4 : vwC H5 = vwC H0 := s4.2.1.trans v3
  have c5 := f29.2
  unfold postb_66v at c5
  try rw [f28] at c5
  rw [v4] at c5
  rw [a4] at c5
  have a5 : absC H6 = (ptk (vwC H0) 2 (ptk (vwC H0) 16 (pfail (vwC H0) 2 (absC H0)))) := c5.2
  have v5 : vwC H6 = vwC H0 := (vwC_fr f29.1.2.1 (by decide +kernel)).trans v4
  have d0 := BI_fr f8.1.1 f8.1.2.1 (by decide +kernel) pz.2
  have j0 : BLc H1 = BLc H0 := d0.2
  have t0 : hV H1 30 13 = hV H0 30 13 := (f8.1.2.1.1 30 13 (by decide +kernel))
  have d1 := BI_fr f10.1.1 f10.1.2.1 (by decide +kernel) d0.1
  have j1 : BLc H2 = BLc H0 := d1.2.trans j0
  have t1 : hV H2 30 13 = hV H0 30 13 := (f10.1.2.1.1 30 13 (by decide +kernel)).trans t0
  have d2 := BI_fr f16.1.1 f16.1.2.1 (by decide +kernel) d1.1
  have j2 : BLc H3 = BLc H0 := d2.2.trans j1
  have t2 : hV H3 30 13 = hV H0 30 13 := (f16.1.2.1.1 30 13 (by decide +kernel)).trans t1
  have d3 := BI_fr f19.1.1 f19.1.2.1 (by decide +kernel) d2.1
  have j3 : BLc H4 = BLc H0 := d3.2.trans j2
  have t3 : hV H4 30 13 = hV H0 30 13 := (f19.1.2.1.1 30 13 (by decide +kernel)).trans t2
  have rp := f26
  rw [f0] at rp
  rw [show ((30 : Int)).toNat = 30 from rfl] at rp
  have pp := f27.2
  unfold postb_202vk733 at pp
  rw [f22, rp] at pp
  have d4 := BI_name f27.1.1 f27.1.2.1 (by decide +kernel) d3.1 pp
  have j4 : BLc H5 = BLc H0 := d4.2.1.trans j3
  have t4 : hV H5 30 13 = hV H0 30 13 := d4.2.2.1.trans t3
  have d5 := BI_fr f29.1.1 f29.1.2.1 (by decide +kernel) d4.1
  have j5 : BLc H6 = BLc H0 := d5.2.trans j4
  have t5 : hV H6 30 13 = hV H0 30 13 := (f29.1.2.1.1 30 13 (by decide +kernel)).trans t4
  have rb0 := f4
  rw [f0] at rb0
  rw [show ((30 : Int)).toNat = 30 from rfl] at rb0
  have e47 : hV H6 47 = hV H0 47 := ((fRow f29.1.2.1 47 (by decide +kernel)).trans ((fRow f27.1.2.1 47 (by decide +kernel)).trans ((fRow f19.1.2.1 47 (by decide +kernel)).trans ((fRow f16.1.2.1 47 (by decide +kernel)).trans ((fRow f10.1.2.1 47 (by decide +kernel)).trans (fRow f8.1.2.1 47 (by decide +kernel)))))))
  unfold postb_68v
  have hn := pfail_lt pz.1 (f := 2) (by decide) (p := absC H0)
  rw [ptk_neg hn pfail_ok, ptk_neg hn pfail_ok] at a5
  exact ⟨c5.1, d5.1, j5, t5, e47, fun h6 => absurd h6 (by omega), fun _ => a5⟩
theorem c_68v_s_13 : vOkm T0 (eP e_68v L_68v A_68v mu_68v none) 1 ([(1066, [0, 12], [5, 6], 0), (0, [12], [], 2), (1202, [10, 11, 7], [4, 5], 0), (20, [11, 0], [4], 13), (90, [11], [], -2147483648), (91, [11], [], 2147483647), (20, [10, 0], [4], 12), (0, [10], [], 48), (40, [8, 9], [], 0), (0, [9], [], -1), (1071, [8, 0, 7], [3, 4], 0), (90, [8], [], -2147483648), (91, [8], [], 2147483647), (1123, [7, 5, 6], [2, 3], 0), (20, [6, 0], [2], 1), (90, [6], [], -2147483648), (91, [6], [], 2147483647), (20, [5, 0], [2], 0), (0, [5], [], 31), (1066, [0, 4], [1, 2], 0), (0, [4], [], 16), (1064, [0, 3], [0, 1], 0), (0, [3], [], 2), (43, [1, 2], [], 0), (0, [2], [], 6), (20, [1, 0], [0], 13), (90, [1], [], -2147483648), (91, [1], [], 2147483647), (6000, [0], [0], 0), (0, [0], [], 30)], (3000, [], [6], 67)) := vOk_in fun ρ η h => by
  obtain ⟨f0, f1, f2, f3, f4, f5, f6, f7, f8, f9, f10, f11, f12, f13, f14, f15, f16, f17, f18, f19, f20, f21, f22, f23, f24, f25, f26, f27, f28, f29, _⟩ := h
  exact q_68v_13 (n0 := ρ 0) (n1 := ρ 1) (n2 := ρ 2) (n3 := ρ 3) (n4 := ρ 4) (n5 := ρ 5) (n6 := ρ 6) (n7 := ρ 7) (n8 := ρ 8) (n9 := ρ 9) (n10 := ρ 10) (n11 := ρ 11) (n12 := ρ 12) (H0 := η 0) (H1 := η 1) (H2 := η 2) (H3 := η 3) (H4 := η 4) (H5 := η 5) (H6 := η 6) f29 f28 f27 f26 f25 f24 f23 f22 f21 f20 f19 f18 f17 f16 f15 f14 f13 f12 f11 f10 f9 f8 f7 f6 f5 f4 f3 f2 f1 f0
theorem q_68v_14 {n0 n1 n2 n3 n4 n5 n6 n7 n8 n9 n10 n11 : Int} {H0 H1 H2 H3 H4 : gH} (f0 : n0 = 30) (f1 : hWt T0 H0 ∧ preb_68v n0 H0) (f2 : n1 ≤ 2147483647) (f3 : (-2147483648) ≤ n1) (f4 : n1 = hV H0 (n0).toNat 13) (f5 : n2 = 6) (f6 : n2 ≤ n1) (f7 : n3 = 2) (f8 : (hLe T0 H0 H1 ∧ hFr s_64v.2.2.2.2 H0 H1 ∧ ((0 : Int) = 0 → H1.length = H0.length) ∧ hWt T0 H1) ∧ postb_64v n0 n3 H0 H1) (f9 : n4 = 16) (f10 : (hLe T0 H1 H2 ∧ hFr s_66v.2.2.2.2 H1 H2 ∧ ((0 : Int) = 0 → H2.length = H1.length) ∧ hWt T0 H2) ∧ postb_66v n0 n4 H1 H2) (f11 : n5 = 31) (f12 : n5 = hV H2 (n0).toNat 0) (f13 : n6 ≤ 2147483647) (f14 : (-2147483648) ≤ n6) (f15 : n6 = hV H2 (n0).toNat 1) (f16 : (hLe T0 H2 H3 ∧ hFr s_123v.2.2.2.2 H2 H3 ∧ ((0 : Int) = 0 → H3.length = H2.length) ∧ hWt T0 H3) ∧ postb_123v n7 n5 n6 H2 H3) (f17 : n8 ≤ 2147483647) (f18 : (-2147483648) ≤ n8) (f19 : (hLe T0 H3 H4 ∧ hFr s_71v.2.2.2.2 H3 H4 ∧ ((0 : Int) = 0 → H4.length = H3.length) ∧ hWt T0 H4) ∧ postb_71v n8 n0 n7 H3 H4) (f20 : n9 = (-1)) (f21 : n8 ≠ n9) (f22 : n10 = 3) (f23 : n11 ≤ 2147483647) (f24 : (-2147483648) ≤ n11) (f25 : n11 = hV H4 (n0).toNat 1) : preb_65v n0 n10 n11 H4 := by
  have pz := f1.2
  unfold preb_68v at pz
  have c0 := f8.2
  unfold postb_64v at c0
  try rw [f7] at c0
  have a0 : absC H1 = (pfail (vwC H0) 2 (absC H0)) := c0.2
  have v0 : vwC H1 = vwC H0 := (vwC_fr f8.1.2.1 (by decide +kernel))
  have c1 := f10.2
  unfold postb_66v at c1
  try rw [f9] at c1
  rw [v0] at c1
  rw [a0] at c1
  have a1 : absC H2 = (ptk (vwC H0) 16 (pfail (vwC H0) 2 (absC H0))) := c1.2
  have v1 : vwC H2 = vwC H0 := (vwC_fr f10.1.2.1 (by decide +kernel)).trans v0
  have s2 := PF_fr f16.1.1 f16.1.2.1 (by decide +kernel) c1.1
  have a2 : absC H3 = (ptk (vwC H0) 16 (pfail (vwC H0) 2 (absC H0))) := s2.1.trans a1
  have v2 : vwC H3 = vwC H0 := s2.2.1.trans v1
  have s3 := PF_fr f19.1.1 f19.1.2.1 (by decide +kernel) s2.2.2
  have a3 : absC H4 = (ptk (vwC H0) 16 (pfail (vwC H0) 2 (absC H0))) := s3.1.trans a2
  have v3 : vwC H4 = vwC H0 := s3.2.1.trans v2
  have d0 := BI_fr f8.1.1 f8.1.2.1 (by decide +kernel) pz.2
  have j0 : BLc H1 = BLc H0 := d0.2
  have t0 : hV H1 30 13 = hV H0 30 13 := (f8.1.2.1.1 30 13 (by decide +kernel))
  have d1 := BI_fr f10.1.1 f10.1.2.1 (by decide +kernel) d0.1
  have j1 : BLc H2 = BLc H0 := d1.2.trans j0
  have t1 : hV H2 30 13 = hV H0 30 13 := (f10.1.2.1.1 30 13 (by decide +kernel)).trans t0
  have d2 := BI_fr f16.1.1 f16.1.2.1 (by decide +kernel) d1.1
  have j2 : BLc H3 = BLc H0 := d2.2.trans j1
  have t2 : hV H3 30 13 = hV H0 30 13 := (f16.1.2.1.1 30 13 (by decide +kernel)).trans t1
  have d3 := BI_fr f19.1.1 f19.1.2.1 (by decide +kernel) d2.1
  have j3 : BLc H4 = BLc H0 := d3.2.trans j2
  have t3 : hV H4 30 13 = hV H0 30 13 := (f19.1.2.1.1 30 13 (by decide +kernel)).trans t2
  have rb := f25
  rw [f0] at rb
  rw [show ((30 : Int)).toNat = 30 from rfl] at rb
  unfold preb_65v
  refine ⟨s3.2.2, by omega, by omega, ?_⟩
  rw [rb]
  exact s3.2.2.2.2.2.1
theorem c_68v_s_14 : vOkm T0 (eP e_68v L_68v A_68v mu_68v none) 1 ([(20, [11, 0], [4], 1), (90, [11], [], -2147483648), (91, [11], [], 2147483647), (0, [10], [], 3), (41, [8, 9], [], 0), (0, [9], [], -1), (1071, [8, 0, 7], [3, 4], 0), (90, [8], [], -2147483648), (91, [8], [], 2147483647), (1123, [7, 5, 6], [2, 3], 0), (20, [6, 0], [2], 1), (90, [6], [], -2147483648), (91, [6], [], 2147483647), (20, [5, 0], [2], 0), (0, [5], [], 31), (1066, [0, 4], [1, 2], 0), (0, [4], [], 16), (1064, [0, 3], [0, 1], 0), (0, [3], [], 2), (43, [1, 2], [], 0), (0, [2], [], 6), (20, [1, 0], [0], 13), (90, [1], [], -2147483648), (91, [1], [], 2147483647), (6000, [0], [0], 0), (0, [0], [], 30)], (2065, [0, 10, 11], [4], 0)) := vOk_in fun ρ η h => by
  obtain ⟨f0, f1, f2, f3, f4, f5, f6, f7, f8, f9, f10, f11, f12, f13, f14, f15, f16, f17, f18, f19, f20, f21, f22, f23, f24, f25, _⟩ := h
  exact q_68v_14 (n0 := ρ 0) (n1 := ρ 1) (n2 := ρ 2) (n3 := ρ 3) (n4 := ρ 4) (n5 := ρ 5) (n6 := ρ 6) (n7 := ρ 7) (n8 := ρ 8) (n9 := ρ 9) (n10 := ρ 10) (n11 := ρ 11) (H0 := η 0) (H1 := η 1) (H2 := η 2) (H3 := η 3) (H4 := η 4) f25 f24 f23 f22 f21 f20 f19 f18 f17 f16 f15 f14 f13 f12 f11 f10 f9 f8 f7 f6 f5 f4 f3 f2 f1 f0
theorem q_68v_15 {n0 n1 n2 n3 n4 n5 n6 n7 n8 n9 n10 n11 n12 n13 n14 : Int} {H0 H1 H2 H3 H4 H5 H6 : gH} (f0 : n0 = 30) (f1 : hWt T0 H0 ∧ preb_68v n0 H0) (f2 : n1 ≤ 2147483647) (f3 : (-2147483648) ≤ n1) (f4 : n1 = hV H0 (n0).toNat 13) (f5 : n2 = 6) (f6 : n2 ≤ n1) (f7 : n3 = 2) (f8 : (hLe T0 H0 H1 ∧ hFr s_64v.2.2.2.2 H0 H1 ∧ ((0 : Int) = 0 → H1.length = H0.length) ∧ hWt T0 H1) ∧ postb_64v n0 n3 H0 H1) (f9 : n4 = 16) (f10 : (hLe T0 H1 H2 ∧ hFr s_66v.2.2.2.2 H1 H2 ∧ ((0 : Int) = 0 → H2.length = H1.length) ∧ hWt T0 H2) ∧ postb_66v n0 n4 H1 H2) (f11 : n5 = 31) (f12 : n5 = hV H2 (n0).toNat 0) (f13 : n6 ≤ 2147483647) (f14 : (-2147483648) ≤ n6) (f15 : n6 = hV H2 (n0).toNat 1) (f16 : (hLe T0 H2 H3 ∧ hFr s_123v.2.2.2.2 H2 H3 ∧ ((0 : Int) = 0 → H3.length = H2.length) ∧ hWt T0 H3) ∧ postb_123v n7 n5 n6 H2 H3) (f17 : n8 ≤ 2147483647) (f18 : (-2147483648) ≤ n8) (f19 : (hLe T0 H3 H4 ∧ hFr s_71v.2.2.2.2 H3 H4 ∧ ((0 : Int) = 0 → H4.length = H3.length) ∧ hWt T0 H4) ∧ postb_71v n8 n0 n7 H3 H4) (f20 : n9 = (-1)) (f21 : n8 ≠ n9) (f22 : n10 = 3) (f23 : n11 ≤ 2147483647) (f24 : (-2147483648) ≤ n11) (f25 : n11 = hV H4 (n0).toNat 1) (f26 : (hLe T0 H4 H5 ∧ hFr s_65v.2.2.2.2 H4 H5 ∧ ((0 : Int) = 0 → H5.length = H4.length) ∧ hWt T0 H5) ∧ postb_65v n0 n10 n11 H4 H5) (f27 : n12 = 48) (f28 : n12 = hV H5 (n0).toNat 12) (f29 : n13 ≤ 2147483647) (f30 : (-2147483648) ≤ n13) (f31 : n13 = hV H5 (n0).toNat 13) (f32 : (hLe T0 H5 H6 ∧ hFr s_202vk733.2.2.2.2 H5 H6 ∧ ((0 : Int) = 0 → H6.length = H5.length) ∧ hWt T0 H6) ∧ postb_202vk733 n12 n13 n7 H5 H6) (f33 : n14 = 2) : preb_66v n0 n14 H6 := by
  have pz := f1.2
  unfold preb_68v at pz
  have c0 := f8.2
  unfold postb_64v at c0
  try rw [f7] at c0
  have a0 : absC H1 = (pfail (vwC H0) 2 (absC H0)) := c0.2
  have v0 : vwC H1 = vwC H0 := (vwC_fr f8.1.2.1 (by decide +kernel))
  have c1 := f10.2
  unfold postb_66v at c1
  try rw [f9] at c1
  rw [v0] at c1
  rw [a0] at c1
  have a1 : absC H2 = (ptk (vwC H0) 16 (pfail (vwC H0) 2 (absC H0))) := c1.2
  have v1 : vwC H2 = vwC H0 := (vwC_fr f10.1.2.1 (by decide +kernel)).trans v0
  have s2 := PF_fr f16.1.1 f16.1.2.1 (by decide +kernel) c1.1
  have a2 : absC H3 = (ptk (vwC H0) 16 (pfail (vwC H0) 2 (absC H0))) := s2.1.trans a1
  have v2 : vwC H3 = vwC H0 := s2.2.1.trans v1
  have s3 := PF_fr f19.1.1 f19.1.2.1 (by decide +kernel) s2.2.2
  have a3 : absC H4 = (ptk (vwC H0) 16 (pfail (vwC H0) 2 (absC H0))) := s3.1.trans a2
  have v3 : vwC H4 = vwC H0 := s3.2.1.trans v2
  have c4 := f26.2
  unfold postb_65v at c4
  try rw [f22] at c4
  rw [v3] at c4
  rw [a3] at c4
  have a4 : absC H5 = (pbl (vwC H0) 3 n11 (ptk (vwC H0) 16 (pfail (vwC H0) 2 (absC H0)))) := c4.2
  have v4 : vwC H5 = vwC H0 := (vwC_fr f26.1.2.1 (by decide +kernel)).trans v3
  have s5 := PF_fr f32.1.1 f32.1.2.1 (by decide +kernel) c4.1
  have a5 : absC H6 = (pbl (vwC H0) 3 n11 (ptk (vwC H0) 16 (pfail (vwC H0) 2 (absC H0)))) := s5.1.trans a4
  have v5 : vwC H6 = vwC H0 := s5.2.1.trans v4
  have d0 := BI_fr f8.1.1 f8.1.2.1 (by decide +kernel) pz.2
  have j0 : BLc H1 = BLc H0 := d0.2
  have t0 : hV H1 30 13 = hV H0 30 13 := (f8.1.2.1.1 30 13 (by decide +kernel))
  have d1 := BI_fr f10.1.1 f10.1.2.1 (by decide +kernel) d0.1
  have j1 : BLc H2 = BLc H0 := d1.2.trans j0
  have t1 : hV H2 30 13 = hV H0 30 13 := (f10.1.2.1.1 30 13 (by decide +kernel)).trans t0
  have d2 := BI_fr f16.1.1 f16.1.2.1 (by decide +kernel) d1.1
  have j2 : BLc H3 = BLc H0 := d2.2.trans j1
  have t2 : hV H3 30 13 = hV H0 30 13 := (f16.1.2.1.1 30 13 (by decide +kernel)).trans t1
  have d3 := BI_fr f19.1.1 f19.1.2.1 (by decide +kernel) d2.1
  have j3 : BLc H4 = BLc H0 := d3.2.trans j2
  have t3 : hV H4 30 13 = hV H0 30 13 := (f19.1.2.1.1 30 13 (by decide +kernel)).trans t2
  have d4 := BI_fr f26.1.1 f26.1.2.1 (by decide +kernel) d3.1
  have j4 : BLc H5 = BLc H0 := d4.2.trans j3
  have t4 : hV H5 30 13 = hV H0 30 13 := (f26.1.2.1.1 30 13 (by decide +kernel)).trans t3
  have rp := f31
  rw [f0] at rp
  rw [show ((30 : Int)).toNat = 30 from rfl] at rp
  have pp := f32.2
  unfold postb_202vk733 at pp
  rw [f27, rp] at pp
  have d5 := BI_name f32.1.1 f32.1.2.1 (by decide +kernel) d4.1 pp
  have j5 : BLc H6 = BLc H0 := d5.2.1.trans j4
  have t5 : hV H6 30 13 = hV H0 30 13 := d5.2.2.1.trans t4
  unfold preb_66v
  exact ⟨s5.2.2, by omega⟩
theorem c_68v_s_15 : vOkm T0 (eP e_68v L_68v A_68v mu_68v none) 1 ([(0, [14], [], 2), (1202, [12, 13, 7], [5, 6], 0), (20, [13, 0], [5], 13), (90, [13], [], -2147483648), (91, [13], [], 2147483647), (20, [12, 0], [5], 12), (0, [12], [], 48), (1065, [0, 10, 11], [4, 5], 0), (20, [11, 0], [4], 1), (90, [11], [], -2147483648), (91, [11], [], 2147483647), (0, [10], [], 3), (41, [8, 9], [], 0), (0, [9], [], -1), (1071, [8, 0, 7], [3, 4], 0), (90, [8], [], -2147483648), (91, [8], [], 2147483647), (1123, [7, 5, 6], [2, 3], 0), (20, [6, 0], [2], 1), (90, [6], [], -2147483648), (91, [6], [], 2147483647), (20, [5, 0], [2], 0), (0, [5], [], 31), (1066, [0, 4], [1, 2], 0), (0, [4], [], 16), (1064, [0, 3], [0, 1], 0), (0, [3], [], 2), (43, [1, 2], [], 0), (0, [2], [], 6), (20, [1, 0], [0], 13), (90, [1], [], -2147483648), (91, [1], [], 2147483647), (6000, [0], [0], 0), (0, [0], [], 30)], (2066, [0, 14], [6], 0)) := vOk_in fun ρ η h => by
  obtain ⟨f0, f1, f2, f3, f4, f5, f6, f7, f8, f9, f10, f11, f12, f13, f14, f15, f16, f17, f18, f19, f20, f21, f22, f23, f24, f25, f26, f27, f28, f29, f30, f31, f32, f33, _⟩ := h
  exact q_68v_15 (n0 := ρ 0) (n1 := ρ 1) (n2 := ρ 2) (n3 := ρ 3) (n4 := ρ 4) (n5 := ρ 5) (n6 := ρ 6) (n7 := ρ 7) (n8 := ρ 8) (n9 := ρ 9) (n10 := ρ 10) (n11 := ρ 11) (n12 := ρ 12) (n13 := ρ 13) (n14 := ρ 14) (H0 := η 0) (H1 := η 1) (H2 := η 2) (H3 := η 3) (H4 := η 4) (H5 := η 5) (H6 := η 6) f33 f32 f31 f30 f29 f28 f27 f26 f25 f24 f23 f22 f21 f20 f19 f18 f17 f16 f15 f14 f13 f12 f11 f10 f9 f8 f7 f6 f5 f4 f3 f2 f1 f0
theorem q_68v_16 {n0 n1 n2 n3 n4 n5 n6 n7 n8 n9 n10 n11 n12 n13 n14 : Int} {H0 H1 H2 H3 H4 H5 H6 H7 : gH} (f0 : n0 = 30) (f1 : hWt T0 H0 ∧ preb_68v n0 H0) (f2 : n1 ≤ 2147483647) (f3 : (-2147483648) ≤ n1) (f4 : n1 = hV H0 (n0).toNat 13) (f5 : n2 = 6) (f6 : n2 ≤ n1) (f7 : n3 = 2) (f8 : (hLe T0 H0 H1 ∧ hFr s_64v.2.2.2.2 H0 H1 ∧ ((0 : Int) = 0 → H1.length = H0.length) ∧ hWt T0 H1) ∧ postb_64v n0 n3 H0 H1) (f9 : n4 = 16) (f10 : (hLe T0 H1 H2 ∧ hFr s_66v.2.2.2.2 H1 H2 ∧ ((0 : Int) = 0 → H2.length = H1.length) ∧ hWt T0 H2) ∧ postb_66v n0 n4 H1 H2) (f11 : n5 = 31) (f12 : n5 = hV H2 (n0).toNat 0) (f13 : n6 ≤ 2147483647) (f14 : (-2147483648) ≤ n6) (f15 : n6 = hV H2 (n0).toNat 1) (f16 : (hLe T0 H2 H3 ∧ hFr s_123v.2.2.2.2 H2 H3 ∧ ((0 : Int) = 0 → H3.length = H2.length) ∧ hWt T0 H3) ∧ postb_123v n7 n5 n6 H2 H3) (f17 : n8 ≤ 2147483647) (f18 : (-2147483648) ≤ n8) (f19 : (hLe T0 H3 H4 ∧ hFr s_71v.2.2.2.2 H3 H4 ∧ ((0 : Int) = 0 → H4.length = H3.length) ∧ hWt T0 H4) ∧ postb_71v n8 n0 n7 H3 H4) (f20 : n9 = (-1)) (f21 : n8 ≠ n9) (f22 : n10 = 3) (f23 : n11 ≤ 2147483647) (f24 : (-2147483648) ≤ n11) (f25 : n11 = hV H4 (n0).toNat 1) (f26 : (hLe T0 H4 H5 ∧ hFr s_65v.2.2.2.2 H4 H5 ∧ ((0 : Int) = 0 → H5.length = H4.length) ∧ hWt T0 H5) ∧ postb_65v n0 n10 n11 H4 H5) (f27 : n12 = 48) (f28 : n12 = hV H5 (n0).toNat 12) (f29 : n13 ≤ 2147483647) (f30 : (-2147483648) ≤ n13) (f31 : n13 = hV H5 (n0).toNat 13) (f32 : (hLe T0 H5 H6 ∧ hFr s_202vk733.2.2.2.2 H5 H6 ∧ ((0 : Int) = 0 → H6.length = H5.length) ∧ hWt T0 H6) ∧ postb_202vk733 n12 n13 n7 H5 H6) (f33 : n14 = 2) (f34 : (hLe T0 H6 H7 ∧ hFr s_66v.2.2.2.2 H6 H7 ∧ ((0 : Int) = 0 → H7.length = H6.length) ∧ hWt T0 H7) ∧ postb_66v n0 n14 H6 H7) : postb_68v n0 H0 H7 := by
  have pz := f1.2
  unfold preb_68v at pz
  have c0 := f8.2
  unfold postb_64v at c0
  try rw [f7] at c0
  have a0 : absC H1 = (pfail (vwC H0) 2 (absC H0)) := c0.2
  have v0 : vwC H1 = vwC H0 := (vwC_fr f8.1.2.1 (by decide +kernel))
  have c1 := f10.2
  unfold postb_66v at c1
  try rw [f9] at c1
  rw [v0] at c1
  rw [a0] at c1
  have a1 : absC H2 = (ptk (vwC H0) 16 (pfail (vwC H0) 2 (absC H0))) := c1.2
  have v1 : vwC H2 = vwC H0 := (vwC_fr f10.1.2.1 (by decide +kernel)).trans v0
  have s2 := PF_fr f16.1.1 f16.1.2.1 (by decide +kernel) c1.1
  have a2 : absC H3 = (ptk (vwC H0) 16 (pfail (vwC H0) 2 (absC H0))) := s2.1.trans a1
  have v2 : vwC H3 = vwC H0 := s2.2.1.trans v1
  have s3 := PF_fr f19.1.1 f19.1.2.1 (by decide +kernel) s2.2.2
  have a3 : absC H4 = (ptk (vwC H0) 16 (pfail (vwC H0) 2 (absC H0))) := s3.1.trans a2
  have v3 : vwC H4 = vwC H0 := s3.2.1.trans v2
  have c4 := f26.2
  unfold postb_65v at c4
  try rw [f22] at c4
  rw [v3] at c4
  rw [a3] at c4
  have a4 : absC H5 = (pbl (vwC H0) 3 n11 (ptk (vwC H0) 16 (pfail (vwC H0) 2 (absC H0)))) := c4.2
  have v4 : vwC H5 = vwC H0 := (vwC_fr f26.1.2.1 (by decide +kernel)).trans v3
  have s5 := PF_fr f32.1.1 f32.1.2.1 (by decide +kernel) c4.1
  have a5 : absC H6 = (pbl (vwC H0) 3 n11 (ptk (vwC H0) 16 (pfail (vwC H0) 2 (absC H0)))) := s5.1.trans a4
  have v5 : vwC H6 = vwC H0 := s5.2.1.trans v4
  have c6 := f34.2
  unfold postb_66v at c6
  try rw [f33] at c6
  rw [v5] at c6
  rw [a5] at c6
  have a6 : absC H7 = (ptk (vwC H0) 2 (pbl (vwC H0) 3 n11 (ptk (vwC H0) 16 (pfail (vwC H0) 2 (absC H0))))) := c6.2
  have v6 : vwC H7 = vwC H0 := (vwC_fr f34.1.2.1 (by decide +kernel)).trans v5
  have d0 := BI_fr f8.1.1 f8.1.2.1 (by decide +kernel) pz.2
  have j0 : BLc H1 = BLc H0 := d0.2
  have t0 : hV H1 30 13 = hV H0 30 13 := (f8.1.2.1.1 30 13 (by decide +kernel))
  have d1 := BI_fr f10.1.1 f10.1.2.1 (by decide +kernel) d0.1
  have j1 : BLc H2 = BLc H0 := d1.2.trans j0
  have t1 : hV H2 30 13 = hV H0 30 13 := (f10.1.2.1.1 30 13 (by decide +kernel)).trans t0
  have d2 := BI_fr f16.1.1 f16.1.2.1 (by decide +kernel) d1.1
  have j2 : BLc H3 = BLc H0 := d2.2.trans j1
  have t2 : hV H3 30 13 = hV H0 30 13 := (f16.1.2.1.1 30 13 (by decide +kernel)).trans t1
  have d3 := BI_fr f19.1.1 f19.1.2.1 (by decide +kernel) d2.1
  have j3 : BLc H4 = BLc H0 := d3.2.trans j2
  have t3 : hV H4 30 13 = hV H0 30 13 := (f19.1.2.1.1 30 13 (by decide +kernel)).trans t2
  have d4 := BI_fr f26.1.1 f26.1.2.1 (by decide +kernel) d3.1
  have j4 : BLc H5 = BLc H0 := d4.2.trans j3
  have t4 : hV H5 30 13 = hV H0 30 13 := (f26.1.2.1.1 30 13 (by decide +kernel)).trans t3
  have rp := f31
  rw [f0] at rp
  rw [show ((30 : Int)).toNat = 30 from rfl] at rp
  have pp := f32.2
  unfold postb_202vk733 at pp
  rw [f27, rp] at pp
  have d5 := BI_name f32.1.1 f32.1.2.1 (by decide +kernel) d4.1 pp
  have j5 : BLc H6 = BLc H0 := d5.2.1.trans j4
  have t5 : hV H6 30 13 = hV H0 30 13 := d5.2.2.1.trans t4
  have d6 := BI_fr f34.1.1 f34.1.2.1 (by decide +kernel) d5.1
  have j6 : BLc H7 = BLc H0 := d6.2.trans j5
  have t6 : hV H7 30 13 = hV H0 30 13 := (f34.1.2.1.1 30 13 (by decide +kernel)).trans t5
  have rb0 := f4
  rw [f0] at rb0
  rw [show ((30 : Int)).toNat = 30 from rfl] at rb0
  have e47 : hV H7 47 = hV H0 47 := ((fRow f34.1.2.1 47 (by decide +kernel)).trans ((fRow f32.1.2.1 47 (by decide +kernel)).trans ((fRow f26.1.2.1 47 (by decide +kernel)).trans ((fRow f19.1.2.1 47 (by decide +kernel)).trans ((fRow f16.1.2.1 47 (by decide +kernel)).trans ((fRow f10.1.2.1 47 (by decide +kernel)).trans (fRow f8.1.2.1 47 (by decide +kernel))))))))
  unfold postb_68v
  have hn := pfail_lt pz.1 (f := 2) (by decide) (p := absC H0)
  rw [ptk_neg hn pfail_ok, pbl_neg hn, ptk_neg hn pfail_ok] at a6
  exact ⟨c6.1, d6.1, j6, t6, e47, fun h6 => absurd h6 (by omega), fun _ => a6⟩
theorem c_68v_s_16 : vOkm T0 (eP e_68v L_68v A_68v mu_68v none) 1 ([(1066, [0, 14], [6, 7], 0), (0, [14], [], 2), (1202, [12, 13, 7], [5, 6], 0), (20, [13, 0], [5], 13), (90, [13], [], -2147483648), (91, [13], [], 2147483647), (20, [12, 0], [5], 12), (0, [12], [], 48), (1065, [0, 10, 11], [4, 5], 0), (20, [11, 0], [4], 1), (90, [11], [], -2147483648), (91, [11], [], 2147483647), (0, [10], [], 3), (41, [8, 9], [], 0), (0, [9], [], -1), (1071, [8, 0, 7], [3, 4], 0), (90, [8], [], -2147483648), (91, [8], [], 2147483647), (1123, [7, 5, 6], [2, 3], 0), (20, [6, 0], [2], 1), (90, [6], [], -2147483648), (91, [6], [], 2147483647), (20, [5, 0], [2], 0), (0, [5], [], 31), (1066, [0, 4], [1, 2], 0), (0, [4], [], 16), (1064, [0, 3], [0, 1], 0), (0, [3], [], 2), (43, [1, 2], [], 0), (0, [2], [], 6), (20, [1, 0], [0], 13), (90, [1], [], -2147483648), (91, [1], [], 2147483647), (6000, [0], [0], 0), (0, [0], [], 30)], (3000, [], [7], 67)) := vOk_in fun ρ η h => by
  obtain ⟨f0, f1, f2, f3, f4, f5, f6, f7, f8, f9, f10, f11, f12, f13, f14, f15, f16, f17, f18, f19, f20, f21, f22, f23, f24, f25, f26, f27, f28, f29, f30, f31, f32, f33, f34, _⟩ := h
  exact q_68v_16 (n0 := ρ 0) (n1 := ρ 1) (n2 := ρ 2) (n3 := ρ 3) (n4 := ρ 4) (n5 := ρ 5) (n6 := ρ 6) (n7 := ρ 7) (n8 := ρ 8) (n9 := ρ 9) (n10 := ρ 10) (n11 := ρ 11) (n12 := ρ 12) (n13 := ρ 13) (n14 := ρ 14) (H0 := η 0) (H1 := η 1) (H2 := η 2) (H3 := η 3) (H4 := η 4) (H5 := η 5) (H6 := η 6) (H7 := η 7) f34 f33 f32 f31 f30 f29 f28 f27 f26 f25 f24 f23 f22 f21 f20 f19 f18 f17 f16 f15 f14 f13 f12 f11 f10 f9 f8 f7 f6 f5 f4 f3 f2 f1 f0
def p_68v_s : List vG := [([(0, [3], [], 16), (42, [1, 2], [], 0), (0, [2], [], 6), (20, [1, 0], [0], 13), (90, [1], [], -2147483648), (91, [1], [], 2147483647), (6000, [0], [0], 0), (0, [0], [], 30)], (2066, [0, 3], [0], 0)),
  ([(20, [5, 0], [1], 1), (90, [5], [], -2147483648), (91, [5], [], 2147483647), (20, [4, 0], [1], 0), (0, [4], [], 31), (1066, [0, 3], [0, 1], 0), (0, [3], [], 16), (42, [1, 2], [], 0), (0, [2], [], 6), (20, [1, 0], [0], 13), (90, [1], [], -2147483648), (91, [1], [], 2147483647), (6000, [0], [0], 0), (0, [0], [], 30)], (2123, [4, 5], [1], 0)),
  ([(1123, [6, 4, 5], [1, 2], 0), (20, [5, 0], [1], 1), (90, [5], [], -2147483648), (91, [5], [], 2147483647), (20, [4, 0], [1], 0), (0, [4], [], 31), (1066, [0, 3], [0, 1], 0), (0, [3], [], 16), (42, [1, 2], [], 0), (0, [2], [], 6), (20, [1, 0], [0], 13), (90, [1], [], -2147483648), (91, [1], [], 2147483647), (6000, [0], [0], 0), (0, [0], [], 30)], (2071, [0, 6], [2], 0)),
  ([(0, [11], [], 2), (1202, [9, 10, 6], [3, 4], 0), (20, [10, 0], [3], 13), (90, [10], [], -2147483648), (91, [10], [], 2147483647), (20, [9, 0], [3], 12), (0, [9], [], 48), (40, [7, 8], [], 0), (0, [8], [], -1), (1071, [7, 0, 6], [2, 3], 0), (90, [7], [], -2147483648), (91, [7], [], 2147483647), (1123, [6, 4, 5], [1, 2], 0), (20, [5, 0], [1], 1), (90, [5], [], -2147483648), (91, [5], [], 2147483647), (20, [4, 0], [1], 0), (0, [4], [], 31), (1066, [0, 3], [0, 1], 0), (0, [3], [], 16), (42, [1, 2], [], 0), (0, [2], [], 6), (20, [1, 0], [0], 13), (90, [1], [], -2147483648), (91, [1], [], 2147483647), (6000, [0], [0], 0), (0, [0], [], 30)], (2066, [0, 11], [4], 0)),
  ([(1066, [0, 11], [4, 5], 0), (0, [11], [], 2), (1202, [9, 10, 6], [3, 4], 0), (20, [10, 0], [3], 13), (90, [10], [], -2147483648), (91, [10], [], 2147483647), (20, [9, 0], [3], 12), (0, [9], [], 48), (40, [7, 8], [], 0), (0, [8], [], -1), (1071, [7, 0, 6], [2, 3], 0), (90, [7], [], -2147483648), (91, [7], [], 2147483647), (1123, [6, 4, 5], [1, 2], 0), (20, [5, 0], [1], 1), (90, [5], [], -2147483648), (91, [5], [], 2147483647), (20, [4, 0], [1], 0), (0, [4], [], 31), (1066, [0, 3], [0, 1], 0), (0, [3], [], 16), (42, [1, 2], [], 0), (0, [2], [], 6), (20, [1, 0], [0], 13), (90, [1], [], -2147483648), (91, [1], [], 2147483647), (6000, [0], [0], 0), (0, [0], [], 30)], (3000, [], [5], 67)),
  ([(20, [10, 0], [3], 1), (90, [10], [], -2147483648), (91, [10], [], 2147483647), (0, [9], [], 3), (41, [7, 8], [], 0), (0, [8], [], -1), (1071, [7, 0, 6], [2, 3], 0), (90, [7], [], -2147483648), (91, [7], [], 2147483647), (1123, [6, 4, 5], [1, 2], 0), (20, [5, 0], [1], 1), (90, [5], [], -2147483648), (91, [5], [], 2147483647), (20, [4, 0], [1], 0), (0, [4], [], 31), (1066, [0, 3], [0, 1], 0), (0, [3], [], 16), (42, [1, 2], [], 0), (0, [2], [], 6), (20, [1, 0], [0], 13), (90, [1], [], -2147483648), (91, [1], [], 2147483647), (6000, [0], [0], 0), (0, [0], [], 30)], (2065, [0, 9, 10], [3], 0)),
  ([(0, [13], [], 2), (1202, [11, 12, 6], [4, 5], 0), (20, [12, 0], [4], 13), (90, [12], [], -2147483648), (91, [12], [], 2147483647), (20, [11, 0], [4], 12), (0, [11], [], 48), (1065, [0, 9, 10], [3, 4], 0), (20, [10, 0], [3], 1), (90, [10], [], -2147483648), (91, [10], [], 2147483647), (0, [9], [], 3), (41, [7, 8], [], 0), (0, [8], [], -1), (1071, [7, 0, 6], [2, 3], 0), (90, [7], [], -2147483648), (91, [7], [], 2147483647), (1123, [6, 4, 5], [1, 2], 0), (20, [5, 0], [1], 1), (90, [5], [], -2147483648), (91, [5], [], 2147483647), (20, [4, 0], [1], 0), (0, [4], [], 31), (1066, [0, 3], [0, 1], 0), (0, [3], [], 16), (42, [1, 2], [], 0), (0, [2], [], 6), (20, [1, 0], [0], 13), (90, [1], [], -2147483648), (91, [1], [], 2147483647), (6000, [0], [0], 0), (0, [0], [], 30)], (2066, [0, 13], [5], 0)),
  ([(1066, [0, 13], [5, 6], 0), (0, [13], [], 2), (1202, [11, 12, 6], [4, 5], 0), (20, [12, 0], [4], 13), (90, [12], [], -2147483648), (91, [12], [], 2147483647), (20, [11, 0], [4], 12), (0, [11], [], 48), (1065, [0, 9, 10], [3, 4], 0), (20, [10, 0], [3], 1), (90, [10], [], -2147483648), (91, [10], [], 2147483647), (0, [9], [], 3), (41, [7, 8], [], 0), (0, [8], [], -1), (1071, [7, 0, 6], [2, 3], 0), (90, [7], [], -2147483648), (91, [7], [], 2147483647), (1123, [6, 4, 5], [1, 2], 0), (20, [5, 0], [1], 1), (90, [5], [], -2147483648), (91, [5], [], 2147483647), (20, [4, 0], [1], 0), (0, [4], [], 31), (1066, [0, 3], [0, 1], 0), (0, [3], [], 16), (42, [1, 2], [], 0), (0, [2], [], 6), (20, [1, 0], [0], 13), (90, [1], [], -2147483648), (91, [1], [], 2147483647), (6000, [0], [0], 0), (0, [0], [], 30)], (3000, [], [6], 67)),
  ([(0, [3], [], 2), (43, [1, 2], [], 0), (0, [2], [], 6), (20, [1, 0], [0], 13), (90, [1], [], -2147483648), (91, [1], [], 2147483647), (6000, [0], [0], 0), (0, [0], [], 30)], (2064, [0, 3], [0], 0)),
  ([(0, [4], [], 16), (1064, [0, 3], [0, 1], 0), (0, [3], [], 2), (43, [1, 2], [], 0), (0, [2], [], 6), (20, [1, 0], [0], 13), (90, [1], [], -2147483648), (91, [1], [], 2147483647), (6000, [0], [0], 0), (0, [0], [], 30)], (2066, [0, 4], [1], 0)),
  ([(20, [6, 0], [2], 1), (90, [6], [], -2147483648), (91, [6], [], 2147483647), (20, [5, 0], [2], 0), (0, [5], [], 31), (1066, [0, 4], [1, 2], 0), (0, [4], [], 16), (1064, [0, 3], [0, 1], 0), (0, [3], [], 2), (43, [1, 2], [], 0), (0, [2], [], 6), (20, [1, 0], [0], 13), (90, [1], [], -2147483648), (91, [1], [], 2147483647), (6000, [0], [0], 0), (0, [0], [], 30)], (2123, [5, 6], [2], 0)),
  ([(1123, [7, 5, 6], [2, 3], 0), (20, [6, 0], [2], 1), (90, [6], [], -2147483648), (91, [6], [], 2147483647), (20, [5, 0], [2], 0), (0, [5], [], 31), (1066, [0, 4], [1, 2], 0), (0, [4], [], 16), (1064, [0, 3], [0, 1], 0), (0, [3], [], 2), (43, [1, 2], [], 0), (0, [2], [], 6), (20, [1, 0], [0], 13), (90, [1], [], -2147483648), (91, [1], [], 2147483647), (6000, [0], [0], 0), (0, [0], [], 30)], (2071, [0, 7], [3], 0)),
  ([(0, [12], [], 2), (1202, [10, 11, 7], [4, 5], 0), (20, [11, 0], [4], 13), (90, [11], [], -2147483648), (91, [11], [], 2147483647), (20, [10, 0], [4], 12), (0, [10], [], 48), (40, [8, 9], [], 0), (0, [9], [], -1), (1071, [8, 0, 7], [3, 4], 0), (90, [8], [], -2147483648), (91, [8], [], 2147483647), (1123, [7, 5, 6], [2, 3], 0), (20, [6, 0], [2], 1), (90, [6], [], -2147483648), (91, [6], [], 2147483647), (20, [5, 0], [2], 0), (0, [5], [], 31), (1066, [0, 4], [1, 2], 0), (0, [4], [], 16), (1064, [0, 3], [0, 1], 0), (0, [3], [], 2), (43, [1, 2], [], 0), (0, [2], [], 6), (20, [1, 0], [0], 13), (90, [1], [], -2147483648), (91, [1], [], 2147483647), (6000, [0], [0], 0), (0, [0], [], 30)], (2066, [0, 12], [5], 0)),
  ([(1066, [0, 12], [5, 6], 0), (0, [12], [], 2), (1202, [10, 11, 7], [4, 5], 0), (20, [11, 0], [4], 13), (90, [11], [], -2147483648), (91, [11], [], 2147483647), (20, [10, 0], [4], 12), (0, [10], [], 48), (40, [8, 9], [], 0), (0, [9], [], -1), (1071, [8, 0, 7], [3, 4], 0), (90, [8], [], -2147483648), (91, [8], [], 2147483647), (1123, [7, 5, 6], [2, 3], 0), (20, [6, 0], [2], 1), (90, [6], [], -2147483648), (91, [6], [], 2147483647), (20, [5, 0], [2], 0), (0, [5], [], 31), (1066, [0, 4], [1, 2], 0), (0, [4], [], 16), (1064, [0, 3], [0, 1], 0), (0, [3], [], 2), (43, [1, 2], [], 0), (0, [2], [], 6), (20, [1, 0], [0], 13), (90, [1], [], -2147483648), (91, [1], [], 2147483647), (6000, [0], [0], 0), (0, [0], [], 30)], (3000, [], [6], 67)),
  ([(20, [11, 0], [4], 1), (90, [11], [], -2147483648), (91, [11], [], 2147483647), (0, [10], [], 3), (41, [8, 9], [], 0), (0, [9], [], -1), (1071, [8, 0, 7], [3, 4], 0), (90, [8], [], -2147483648), (91, [8], [], 2147483647), (1123, [7, 5, 6], [2, 3], 0), (20, [6, 0], [2], 1), (90, [6], [], -2147483648), (91, [6], [], 2147483647), (20, [5, 0], [2], 0), (0, [5], [], 31), (1066, [0, 4], [1, 2], 0), (0, [4], [], 16), (1064, [0, 3], [0, 1], 0), (0, [3], [], 2), (43, [1, 2], [], 0), (0, [2], [], 6), (20, [1, 0], [0], 13), (90, [1], [], -2147483648), (91, [1], [], 2147483647), (6000, [0], [0], 0), (0, [0], [], 30)], (2065, [0, 10, 11], [4], 0)),
  ([(0, [14], [], 2), (1202, [12, 13, 7], [5, 6], 0), (20, [13, 0], [5], 13), (90, [13], [], -2147483648), (91, [13], [], 2147483647), (20, [12, 0], [5], 12), (0, [12], [], 48), (1065, [0, 10, 11], [4, 5], 0), (20, [11, 0], [4], 1), (90, [11], [], -2147483648), (91, [11], [], 2147483647), (0, [10], [], 3), (41, [8, 9], [], 0), (0, [9], [], -1), (1071, [8, 0, 7], [3, 4], 0), (90, [8], [], -2147483648), (91, [8], [], 2147483647), (1123, [7, 5, 6], [2, 3], 0), (20, [6, 0], [2], 1), (90, [6], [], -2147483648), (91, [6], [], 2147483647), (20, [5, 0], [2], 0), (0, [5], [], 31), (1066, [0, 4], [1, 2], 0), (0, [4], [], 16), (1064, [0, 3], [0, 1], 0), (0, [3], [], 2), (43, [1, 2], [], 0), (0, [2], [], 6), (20, [1, 0], [0], 13), (90, [1], [], -2147483648), (91, [1], [], 2147483647), (6000, [0], [0], 0), (0, [0], [], 30)], (2066, [0, 14], [6], 0)),
  ([(1066, [0, 14], [6, 7], 0), (0, [14], [], 2), (1202, [12, 13, 7], [5, 6], 0), (20, [13, 0], [5], 13), (90, [13], [], -2147483648), (91, [13], [], 2147483647), (20, [12, 0], [5], 12), (0, [12], [], 48), (1065, [0, 10, 11], [4, 5], 0), (20, [11, 0], [4], 1), (90, [11], [], -2147483648), (91, [11], [], 2147483647), (0, [10], [], 3), (41, [8, 9], [], 0), (0, [9], [], -1), (1071, [8, 0, 7], [3, 4], 0), (90, [8], [], -2147483648), (91, [8], [], 2147483647), (1123, [7, 5, 6], [2, 3], 0), (20, [6, 0], [2], 1), (90, [6], [], -2147483648), (91, [6], [], 2147483647), (20, [5, 0], [2], 0), (0, [5], [], 31), (1066, [0, 4], [1, 2], 0), (0, [4], [], 16), (1064, [0, 3], [0, 1], 0), (0, [3], [], 2), (43, [1, 2], [], 0), (0, [2], [], 6), (20, [1, 0], [0], 13), (90, [1], [], -2147483648), (91, [1], [], 2147483647), (6000, [0], [0], 0), (0, [0], [], 30)], (3000, [], [7], 67))]
theorem r_68v_s : vCovO false (eR0 e_68v L_68v cs_68v 2000) p_68v_s = true := by decide +kernel
theorem m_68v (d : Nat) : eC e_68v (d + 3) := eC_ok (e := e_68v) (L := L_68v) (cs := cs_68v) (n := 2000) (d := d + 2) (A := A_68v) (μ := mu_68v) (tp := false) (p0 := p_68v_s) rfl ⟨m_64v (d + 1), ⟨m_65v (d + 1), ⟨m_66v d, ⟨m_71v d, ⟨m_123v (d + 1), ⟨m_202vk733 (d + 1), trivial⟩⟩⟩⟩⟩⟩ rfl (.inl rfl) (by decide +kernel) (fun z => nomatch z) r_68v_s (allC c_68v_s_0 (allC c_68v_s_1 (allC c_68v_s_2 (allC c_68v_s_3 (allC c_68v_s_4 (allC c_68v_s_5 (allC c_68v_s_6 (allC c_68v_s_7 (allC c_68v_s_8 (allC c_68v_s_9 (allC c_68v_s_10 (allC c_68v_s_11 (allC c_68v_s_12 (allC c_68v_s_13 (allC c_68v_s_14 (allC c_68v_s_15 (allC c_68v_s_16 allN))))))))))))))))) allN
/- Reader.endBlock ()V -/
noncomputable def s_69v : vM := ([(3, 4, 30, 0)], (9, 0, 0, 0), 1, 0, [(4, 1), (4, 2), (4, 3), (4, 4), (4, 13)])
def preb_69v (a0 : Int) (h : gH) : Prop := KI h ∧ BI h ∧ (hV h 30 3 = 0 → hV h 30 13 < 6 ∧ NV (hV h 48 (hV h 30 13).toNat) ∧ 0 ≤ hV h 47 (hV h 30 13).toNat ∧ hV h 47 (hV h 30 13).toNat ≤ gB ((hV h 30 13).toNat + 1))
def pre_69v : List Int → gH → Prop := fun xs h => match xs with
  | [a0] => preb_69v a0 h
  | _ => False
def postb_69v (a0 : Int) (h0 h : gH) : Prop := KI h ∧ absC h = ptk (vwC h0) 17 (absC h0) ∧ BI h ∧ (hV h 30 3 = 0 → hV h 30 13 = hV h0 30 13 + 1 ∧ BLc h = BLc h0 ++ [(c27 9 (hV h0 48 (hV h0 30 13).toNat), pcap (hV h0 47 (hV h0 30 13).toNat))]) ∧ (¬ hV h 30 3 = 0 → hV h 30 13 = hV h0 30 13 ∧ BLc h = BLc h0) ∧ hV h 47 = hV h0 47 ∧ hV h 48 = hV h0 48
def post_69v : List Int → gH → gH → Prop := fun xs h0 h => match xs with
  | [a0] => postb_69v a0 h0 h
  | _ => True
noncomputable def e_69v : vE := (69, s_69v, pre_69v, post_69v)
noncomputable def L_69v : List vE := [e_66v]
def cs_69v : List vC := []
def A_69v : Int → List Int → gH → gH → Prop := fun c xs h0 h => True
def mu_69v : Int → List Int → gH → gH → Nat := fun c xs h0 h => 0
theorem q_69v_0 {n0 n1 : Int} {H0 : gH} (f0 : n0 = 30) (f1 : hWt T0 H0 ∧ preb_69v n0 H0) (f2 : n1 = 17) : preb_66v n0 n1 H0 := by
  have pz := f1.2
  unfold preb_69v at pz
  unfold preb_66v
  exact ⟨pz.1, by omega⟩
theorem c_69v_s_0 : vOkm T0 (eP e_69v L_69v A_69v mu_69v none) 1 ([(0, [1], [], 17), (6000, [0], [0], 0), (0, [0], [], 30)], (2066, [0, 1], [0], 0)) := vOk_in fun ρ η h => by
  obtain ⟨f0, f1, f2, _⟩ := h
  exact q_69v_0 (n0 := ρ 0) (n1 := ρ 1) (H0 := η 0) f2 f1 f0
theorem q_69v_1 {n0 n1 n2 n3 n4 n5 n6 : Int} {H0 H1 H2 : gH} (f0 : n0 = 30) (f1 : hWt T0 H0 ∧ preb_69v n0 H0) (f2 : n1 = 17) (f3 : (hLe T0 H0 H1 ∧ hFr s_66v.2.2.2.2 H0 H1 ∧ ((0 : Int) = 0 → H1.length = H0.length) ∧ hWt T0 H1) ∧ postb_66v n0 n1 H0 H1) (f4 : n2 ≤ 2147483647) (f5 : (-2147483648) ≤ n2) (f6 : n2 = hV H1 (n0).toNat 13) (f7 : n3 ≤ 2147483647) (f8 : (-2147483648) ≤ n3) (f9 : n3 = hV H1 (n0).toNat 3) (f10 : n3 ≠ 0) (f11 : n4 = 0) (f12 : n5 = w32 (n2 + n4)) (f13 : n6 = 13) (f14 : hUpd H2 H1 n0 n6 n5) : postb_69v n0 H0 H2 := by
  have pz := f1.2
  unfold preb_69v at pz
  have pt := f3.2
  unfold postb_66v at pt
  rw [f2] at pt
  have d1 := BI_fr f3.1.1 f3.1.2.1 (by decide +kernel) pz.2.1
  have e13 : hV H1 30 13 = hV H0 30 13 := f3.1.2.1.1 30 13 (by decide +kernel)
  have e47 := fRow f3.1.2.1 47 (by decide +kernel)
  have e48 := fRow f3.1.2.1 48 (by decide +kernel)
  have rb := f6
  rw [f0] at rb
  rw [show ((30 : Int)).toNat = 30 from rfl] at rb
  have rf := f9
  rw [f0] at rf
  rw [show ((30 : Int)).toNat = 30 from rfl] at rf
  have fu := f14
  rw [f0, f13] at fu
  have s2 := PF_13 fu pt.1
  have aq := f12
  unfold w32 at aq
  have w13 : hV H2 30 13 = n5 := uSame fu 30 13 rfl rfl
  have w3 : hV H2 30 3 = hV H1 30 3 := uSlot fu 30 3 (by decide)
  have w47 := uRowNe fu 47 (by decide)
  have w48 := uRowNe fu 48 (by decide)
  have hz := d1.1.2.1
  have hz2 := d1.1.2.2.1
  unfold postb_69v
  have se : hV H2 30 13 = hV H1 30 13 := by omega
  have bi : BI H2 ∧ BLc H2 = BLc H1 := by
    unfold BI BLc
    rw [se, w47, w48]
    exact ⟨⟨KB_up fu d1.1.1, d1.1.2⟩, rfl⟩
  exact ⟨s2.2.2, s2.1.trans pt.2, bi.1, fun hz => absurd (w3.symm.trans hz) (by omega), fun _ => ⟨by omega, bi.2.trans d1.2⟩, w47.trans e47, w48.trans e48⟩
theorem c_69v_s_1 : vOkm T0 (eP e_69v L_69v A_69v mu_69v none) 1 ([(80, [0, 6, 5], [2, 1], 0), (0, [6], [], 13), (1, [5, 2, 4], [], 0), (0, [4], [], 0), (31, [3], [], 0), (20, [3, 0], [1], 3), (90, [3], [], -2147483648), (91, [3], [], 2147483647), (20, [2, 0], [1], 13), (90, [2], [], -2147483648), (91, [2], [], 2147483647), (1066, [0, 1], [0, 1], 0), (0, [1], [], 17), (6000, [0], [0], 0), (0, [0], [], 30)], (3000, [], [2], 27)) := vOk_in fun ρ η h => by
  obtain ⟨f0, f1, f2, f3, f4, f5, f6, f7, f8, f9, f10, f11, f12, f13, f14, _⟩ := h
  exact q_69v_1 (n0 := ρ 0) (n1 := ρ 1) (n2 := ρ 2) (n3 := ρ 3) (n4 := ρ 4) (n5 := ρ 5) (n6 := ρ 6) (H0 := η 0) (H1 := η 1) (H2 := η 2) f14 f13 f12 f11 f10 f9 f8 f7 f6 f5 f4 f3 f2 f1 f0
theorem q_69v_2 {n0 n1 n2 n3 n4 n5 n6 : Int} {H0 H1 H2 : gH} (f0 : n0 = 30) (f1 : hWt T0 H0 ∧ preb_69v n0 H0) (f2 : n1 = 17) (f3 : (hLe T0 H0 H1 ∧ hFr s_66v.2.2.2.2 H0 H1 ∧ ((0 : Int) = 0 → H1.length = H0.length) ∧ hWt T0 H1) ∧ postb_66v n0 n1 H0 H1) (f4 : n2 ≤ 2147483647) (f5 : (-2147483648) ≤ n2) (f6 : n2 = hV H1 (n0).toNat 13) (f7 : n3 ≤ 2147483647) (f8 : (-2147483648) ≤ n3) (f9 : n3 = hV H1 (n0).toNat 3) (f10 : n3 = 0) (f11 : n4 = 1) (f12 : n5 = w32 (n2 + n4)) (f13 : n6 = 13) (f14 : hUpd H2 H1 n0 n6 n5) : postb_69v n0 H0 H2 := by
  have pz := f1.2
  unfold preb_69v at pz
  have pt := f3.2
  unfold postb_66v at pt
  rw [f2] at pt
  have d1 := BI_fr f3.1.1 f3.1.2.1 (by decide +kernel) pz.2.1
  have e13 : hV H1 30 13 = hV H0 30 13 := f3.1.2.1.1 30 13 (by decide +kernel)
  have e47 := fRow f3.1.2.1 47 (by decide +kernel)
  have e48 := fRow f3.1.2.1 48 (by decide +kernel)
  have rb := f6
  rw [f0] at rb
  rw [show ((30 : Int)).toNat = 30 from rfl] at rb
  have rf := f9
  rw [f0] at rf
  rw [show ((30 : Int)).toNat = 30 from rfl] at rf
  have fu := f14
  rw [f0, f13] at fu
  have s2 := PF_13 fu pt.1
  have aq := f12
  unfold w32 at aq
  have w13 : hV H2 30 13 = n5 := uSame fu 30 13 rfl rfl
  have w3 : hV H2 30 3 = hV H1 30 3 := uSlot fu 30 3 (by decide)
  have w47 := uRowNe fu 47 (by decide)
  have w48 := uRowNe fu 48 (by decide)
  have hz := d1.1.2.1
  have hz2 := d1.1.2.2.1
  unfold postb_69v
  have h0 : hV H0 30 3 = 0 := fault_no pz.1 (by
    have q0 := (absC_pos pt.1 (by omega)).2
    rw [pt.2] at q0
    exact (pt1_kind pz.1.2.1 (show 0 ≤ pt1 (vwC H0) 17 (absC H0).1 from q0)).1)
  have pq := pz.2.2 h0
  have bm := BI_more (b := H2) d1.1 (by omega) (by rw [e48, e13]; exact pq.2.1) (by rw [e47, e13]; exact pq.2.2.1) (by rw [e47, e13]; exact pq.2.2.2) (by omega) w47 w48 (KB_up fu d1.1.1)
  rw [e13, e47, e48, d1.2] at bm
  exact ⟨s2.2.2, s2.1.trans pt.2, bm.1, fun _ => ⟨by omega, bm.2⟩, fun hn => absurd (w3.trans (by omega)) hn, w47.trans e47, w48.trans e48⟩
theorem c_69v_s_2 : vOkm T0 (eP e_69v L_69v A_69v mu_69v none) 1 ([(80, [0, 6, 5], [2, 1], 0), (0, [6], [], 13), (1, [5, 2, 4], [], 0), (0, [4], [], 1), (30, [3], [], 0), (20, [3, 0], [1], 3), (90, [3], [], -2147483648), (91, [3], [], 2147483647), (20, [2, 0], [1], 13), (90, [2], [], -2147483648), (91, [2], [], 2147483647), (1066, [0, 1], [0, 1], 0), (0, [1], [], 17), (6000, [0], [0], 0), (0, [0], [], 30)], (3000, [], [2], 27)) := vOk_in fun ρ η h => by
  obtain ⟨f0, f1, f2, f3, f4, f5, f6, f7, f8, f9, f10, f11, f12, f13, f14, _⟩ := h
  exact q_69v_2 (n0 := ρ 0) (n1 := ρ 1) (n2 := ρ 2) (n3 := ρ 3) (n4 := ρ 4) (n5 := ρ 5) (n6 := ρ 6) (H0 := η 0) (H1 := η 1) (H2 := η 2) f14 f13 f12 f11 f10 f9 f8 f7 f6 f5 f4 f3 f2 f1 f0
def p_69v_s : List vG := [([(0, [1], [], 17), (6000, [0], [0], 0), (0, [0], [], 30)], (2066, [0, 1], [0], 0)),
  ([(80, [0, 6, 5], [2, 1], 0), (0, [6], [], 13), (1, [5, 2, 4], [], 0), (0, [4], [], 0), (31, [3], [], 0), (20, [3, 0], [1], 3), (90, [3], [], -2147483648), (91, [3], [], 2147483647), (20, [2, 0], [1], 13), (90, [2], [], -2147483648), (91, [2], [], 2147483647), (1066, [0, 1], [0, 1], 0), (0, [1], [], 17), (6000, [0], [0], 0), (0, [0], [], 30)], (3000, [], [2], 27)),
  ([(80, [0, 6, 5], [2, 1], 0), (0, [6], [], 13), (1, [5, 2, 4], [], 0), (0, [4], [], 1), (30, [3], [], 0), (20, [3, 0], [1], 3), (90, [3], [], -2147483648), (91, [3], [], 2147483647), (20, [2, 0], [1], 13), (90, [2], [], -2147483648), (91, [2], [], 2147483647), (1066, [0, 1], [0, 1], 0), (0, [1], [], 17), (6000, [0], [0], 0), (0, [0], [], 30)], (3000, [], [2], 27))]
theorem r_69v_s : vCovO false (eR0 e_69v L_69v cs_69v 2000) p_69v_s = true := by decide +kernel
theorem m_69v (d : Nat) : eC e_69v (d + 3) := eC_ok (e := e_69v) (L := L_69v) (cs := cs_69v) (n := 2000) (d := d + 2) (A := A_69v) (μ := mu_69v) (tp := false) (p0 := p_69v_s) rfl ⟨m_66v d, trivial⟩ rfl (.inl rfl) (by decide +kernel) (fun z => nomatch z) r_69v_s (allC c_69v_s_0 (allC c_69v_s_1 (allC c_69v_s_2 allN))) allN
/- MixStage.at ([II)I -/
noncomputable def s_199vk740 : vM := ([(2, 740, -1, 0), (0, -2147483648, 2147483647, 0)], (0, -2147483648, 2147483647, 0), 0, 0, [])
def postb_199vk740 (r a0 a1 : Int) (h0 h : gH) : Prop := r = atQ h0 a0 a1
def post_199vk740 : List Int → gH → gH → Prop := fun xs h0 h => match xs with
  | [r, a0, a1] => postb_199vk740 r a0 a1 h0 h
  | _ => True
noncomputable def e_199vk740 : vE := (199, s_199vk740, pre0, post_199vk740)
noncomputable def L_199vk740 : List vE := []
def cs_199vk740 : List vC := []
def A_199vk740 : Int → List Int → gH → gH → Prop := fun c xs h0 h => True
def mu_199vk740 : Int → List Int → gH → gH → Nat := fun c xs h0 h => 0
theorem q_199vk740_0 {n0 n1 n2 : Int} {H0 : gH} (f0 : n0 ≤ 2147483647) (f1 : (-2147483648) ≤ n0) (f2 : hWt T0 H0 ∧ True) (f3 : n1 = -1) (f4 : n2 = 0) : postb_199vk740 n2 n1 n0 H0 H0 := by
  unfold postb_199vk740

  unfold atQ
  first
  | (rw [if_neg (by omega)] <;> omega)
  | (rw [if_pos (by omega)] <;> omega)
theorem c_199vk740_s_0 : vOkm T0 (eP e_199vk740 L_199vk740 A_199vk740 mu_199vk740 none) 2 ([(0, [2], [], 0), (50, [0], [], 0), (6000, [0, 1], [0], 0), (90, [1], [], -2147483648), (91, [1], [], 2147483647)], (3000, [2], [0], 21)) := vOk_in fun ρ η h => by
  obtain ⟨f0, f1, f2, f3, f4, _⟩ := h
  exact q_199vk740_0 (n0 := ρ 1) (n1 := ρ 0) (n2 := ρ 2) (H0 := η 0) f4 f3 f2 f1 f0
theorem q_199vk740_1 {n0 n1 n2 : Int} {H0 : gH} (f0 : n0 ≤ 2147483647) (f1 : (-2147483648) ≤ n0) (f2 : hWt T0 H0 ∧ True) (f3 : 0 ≤ n1) (f4 : n0 < 0) (f5 : n2 = 0) : postb_199vk740 n2 n1 n0 H0 H0 := by
  unfold postb_199vk740

  unfold atQ
  first
  | (rw [if_neg (by omega)] <;> omega)
  | (rw [if_pos (by omega)] <;> omega)
theorem c_199vk740_s_1 : vOkm T0 (eP e_199vk740 L_199vk740 A_199vk740 mu_199vk740 none) 2 ([(0, [2], [], 0), (32, [1], [], 0), (51, [0], [], 0), (6000, [0, 1], [0], 0), (90, [1], [], -2147483648), (91, [1], [], 2147483647)], (3000, [2], [0], 21)) := vOk_in fun ρ η h => by
  obtain ⟨f0, f1, f2, f3, f4, f5, _⟩ := h
  exact q_199vk740_1 (n0 := ρ 1) (n1 := ρ 0) (n2 := ρ 2) (H0 := η 0) f5 f4 f3 f2 f1 f0
theorem q_199vk740_2 {n0 n1 n2 n3 : Int} {H0 : gH} (f0 : n0 ≤ 2147483647) (f1 : (-2147483648) ≤ n0) (f2 : hWt T0 H0 ∧ True) (f3 : 0 ≤ n1) (f4 : 0 ≤ n0) (f5 : n2 = (hN H0 (n1).toNat : Int)) (f6 : n0 < n2) (f7 : n3 ≤ 2147483647) (f8 : (-2147483648) ≤ n3) (f9 : n3 = hV H0 (n1).toNat (n0).toNat) : postb_199vk740 n3 n1 n0 H0 H0 := by
  unfold postb_199vk740

  unfold atQ
  first
  | (rw [if_neg (by omega)] <;> omega)
  | (rw [if_pos (by omega)] <;> omega)
theorem c_199vk740_s_2 : vOkm T0 (eP e_199vk740 L_199vk740 A_199vk740 mu_199vk740 none) 2 ([(22, [3, 0, 1], [0], 0), (90, [3], [], -2147483648), (91, [3], [], 2147483647), (42, [1, 2], [], 0), (21, [2, 0], [0], 0), (33, [1], [], 0), (51, [0], [], 0), (6000, [0, 1], [0], 0), (90, [1], [], -2147483648), (91, [1], [], 2147483647)], (3000, [3], [0], 21)) := vOk_in fun ρ η h => by
  obtain ⟨f0, f1, f2, f3, f4, f5, f6, f7, f8, f9, _⟩ := h
  exact q_199vk740_2 (n0 := ρ 1) (n1 := ρ 0) (n2 := ρ 2) (n3 := ρ 3) (H0 := η 0) f9 f8 f7 f6 f5 f4 f3 f2 f1 f0
theorem q_199vk740_3 {n0 n1 n2 n3 : Int} {H0 : gH} (f0 : n0 ≤ 2147483647) (f1 : (-2147483648) ≤ n0) (f2 : hWt T0 H0 ∧ True) (f3 : 0 ≤ n1) (f4 : 0 ≤ n0) (f5 : n2 = (hN H0 (n1).toNat : Int)) (f6 : n2 ≤ n0) (f7 : n3 = 0) : postb_199vk740 n3 n1 n0 H0 H0 := by
  unfold postb_199vk740

  unfold atQ
  first
  | (rw [if_neg (by omega)] <;> omega)
  | (rw [if_pos (by omega)] <;> omega)
theorem c_199vk740_s_3 : vOkm T0 (eP e_199vk740 L_199vk740 A_199vk740 mu_199vk740 none) 2 ([(0, [3], [], 0), (43, [1, 2], [], 0), (21, [2, 0], [0], 0), (33, [1], [], 0), (51, [0], [], 0), (6000, [0, 1], [0], 0), (90, [1], [], -2147483648), (91, [1], [], 2147483647)], (3000, [3], [0], 21)) := vOk_in fun ρ η h => by
  obtain ⟨f0, f1, f2, f3, f4, f5, f6, f7, _⟩ := h
  exact q_199vk740_3 (n0 := ρ 1) (n1 := ρ 0) (n2 := ρ 2) (n3 := ρ 3) (H0 := η 0) f7 f6 f5 f4 f3 f2 f1 f0
def p_199vk740_s : List vG := [([(0, [2], [], 0), (50, [0], [], 0), (6000, [0, 1], [0], 0), (90, [1], [], -2147483648), (91, [1], [], 2147483647)], (3000, [2], [0], 21)),
  ([(0, [2], [], 0), (32, [1], [], 0), (51, [0], [], 0), (6000, [0, 1], [0], 0), (90, [1], [], -2147483648), (91, [1], [], 2147483647)], (3000, [2], [0], 21)),
  ([(22, [3, 0, 1], [0], 0), (90, [3], [], -2147483648), (91, [3], [], 2147483647), (42, [1, 2], [], 0), (21, [2, 0], [0], 0), (33, [1], [], 0), (51, [0], [], 0), (6000, [0, 1], [0], 0), (90, [1], [], -2147483648), (91, [1], [], 2147483647)], (3000, [3], [0], 21)),
  ([(0, [3], [], 0), (43, [1, 2], [], 0), (21, [2, 0], [0], 0), (33, [1], [], 0), (51, [0], [], 0), (6000, [0, 1], [0], 0), (90, [1], [], -2147483648), (91, [1], [], 2147483647)], (3000, [3], [0], 21))]
theorem r_199vk740_s : vCovO false (eR0 e_199vk740 L_199vk740 cs_199vk740 2000) p_199vk740_s = true := by decide +kernel
theorem m_199vk740 (d : Nat) : eC e_199vk740 (d + 1) := eC_ok (e := e_199vk740) (L := L_199vk740) (cs := cs_199vk740) (n := 2000) (d := d + 0) (A := A_199vk740) (μ := mu_199vk740) (tp := false) (p0 := p_199vk740_s) rfl trivial rfl (.inr pre0_ok) (by decide +kernel) (fun z => nomatch z) r_199vk740_s (allC c_199vk740_s_0 (allC c_199vk740_s_1 (allC c_199vk740_s_2 (allC c_199vk740_s_3 allN)))) allN
/- MixStage.put ([III)V -/
noncomputable def s_201vk740 : vM := ([(2, 740, -1, 0), (0, -2147483648, 2147483647, 0), (0, -2147483648, 2147483647, 0)], (9, 0, 0, 0), 0, 0, [(740, 0)])
def postb_201vk740 (a0 a1 a2 : Int) (h0 h : gH) : Prop := putQ a0 a1 a2 h0 h
def post_201vk740 : List Int → gH → gH → Prop := fun xs h0 h => match xs with
  | [a0, a1, a2] => postb_201vk740 a0 a1 a2 h0 h
  | _ => True
noncomputable def e_201vk740 : vE := (201, s_201vk740, pre0, post_201vk740)
noncomputable def L_201vk740 : List vE := []
def cs_201vk740 : List vC := []
def A_201vk740 : Int → List Int → gH → gH → Prop := fun c xs h0 h => True
def mu_201vk740 : Int → List Int → gH → gH → Nat := fun c xs h0 h => 0
theorem q_201vk740_0 {n0 n1 n2 : Int} {H0 : gH} (f0 : n0 ≤ 2147483647) (f1 : (-2147483648) ≤ n0) (f2 : n1 ≤ 2147483647) (f3 : (-2147483648) ≤ n1) (f4 : hWt T0 H0 ∧ True) (f5 : n2 = -1) : postb_201vk740 n2 n1 n0 H0 H0 := by
  unfold postb_201vk740

  exact putQ_same (by omega)
theorem c_201vk740_s_0 : vOkm T0 (eP e_201vk740 L_201vk740 A_201vk740 mu_201vk740 none) 3 ([(50, [0], [], 0), (6000, [0, 1, 2], [0], 0), (90, [1], [], -2147483648), (91, [1], [], 2147483647), (90, [2], [], -2147483648), (91, [2], [], 2147483647)], (3000, [], [0], 18)) := vOk_in fun ρ η h => by
  obtain ⟨f0, f1, f2, f3, f4, f5, _⟩ := h
  exact q_201vk740_0 (n0 := ρ 2) (n1 := ρ 1) (n2 := ρ 0) (H0 := η 0) f5 f4 f3 f2 f1 f0
theorem q_201vk740_1 {n0 n1 n2 : Int} {H0 : gH} (f0 : n0 ≤ 2147483647) (f1 : (-2147483648) ≤ n0) (f2 : n1 ≤ 2147483647) (f3 : (-2147483648) ≤ n1) (f4 : hWt T0 H0 ∧ True) (f5 : 0 ≤ n2) (f6 : n1 < 0) : postb_201vk740 n2 n1 n0 H0 H0 := by
  unfold postb_201vk740

  exact putQ_same (by omega)
theorem c_201vk740_s_1 : vOkm T0 (eP e_201vk740 L_201vk740 A_201vk740 mu_201vk740 none) 3 ([(32, [1], [], 0), (51, [0], [], 0), (6000, [0, 1, 2], [0], 0), (90, [1], [], -2147483648), (91, [1], [], 2147483647), (90, [2], [], -2147483648), (91, [2], [], 2147483647)], (3000, [], [0], 18)) := vOk_in fun ρ η h => by
  obtain ⟨f0, f1, f2, f3, f4, f5, f6, _⟩ := h
  exact q_201vk740_1 (n0 := ρ 2) (n1 := ρ 1) (n2 := ρ 0) (H0 := η 0) f6 f5 f4 f3 f2 f1 f0
theorem q_201vk740_2 {n0 n1 n2 n3 : Int} {H0 : gH} (f0 : n0 ≤ 2147483647) (f1 : (-2147483648) ≤ n0) (f2 : n1 ≤ 2147483647) (f3 : (-2147483648) ≤ n1) (f4 : hWt T0 H0 ∧ True) (f5 : 0 ≤ n2) (f6 : 0 ≤ n1) (f7 : n3 = (hN H0 (n2).toNat : Int)) (f8 : n3 ≤ n1) : postb_201vk740 n2 n1 n0 H0 H0 := by
  unfold postb_201vk740

  exact putQ_same (by omega)
theorem c_201vk740_s_2 : vOkm T0 (eP e_201vk740 L_201vk740 A_201vk740 mu_201vk740 none) 3 ([(43, [1, 3], [], 0), (21, [3, 0], [0], 0), (33, [1], [], 0), (51, [0], [], 0), (6000, [0, 1, 2], [0], 0), (90, [1], [], -2147483648), (91, [1], [], 2147483647), (90, [2], [], -2147483648), (91, [2], [], 2147483647)], (3000, [], [0], 18)) := vOk_in fun ρ η h => by
  obtain ⟨f0, f1, f2, f3, f4, f5, f6, f7, f8, _⟩ := h
  exact q_201vk740_2 (n0 := ρ 2) (n1 := ρ 1) (n2 := ρ 0) (n3 := ρ 3) (H0 := η 0) f8 f7 f6 f5 f4 f3 f2 f1 f0
theorem q_201vk740_3 {n0 n1 n2 n3 : Int} {H0 H1 : gH} (f0 : n0 ≤ 2147483647) (f1 : (-2147483648) ≤ n0) (f2 : n1 ≤ 2147483647) (f3 : (-2147483648) ≤ n1) (f4 : hWt T0 H0 ∧ True) (f5 : 0 ≤ n2) (f6 : 0 ≤ n1) (f7 : n3 = (hN H0 (n2).toNat : Int)) (f8 : n1 < n3) (f9 : hK H0 (n2).toNat = 740) (f10 : hUpd H1 H0 n2 n1 n0) : postb_201vk740 n2 n1 n0 H0 H1 := by
  unfold postb_201vk740

  exact putQ_upd f10 (by omega)
theorem c_201vk740_s_3 : vOkm T0 (eP e_201vk740 L_201vk740 A_201vk740 mu_201vk740 none) 3 ([(80, [0, 1, 2], [1, 0], 0), (23, [0], [0], 740), (42, [1, 3], [], 0), (21, [3, 0], [0], 0), (33, [1], [], 0), (51, [0], [], 0), (6000, [0, 1, 2], [0], 0), (90, [1], [], -2147483648), (91, [1], [], 2147483647), (90, [2], [], -2147483648), (91, [2], [], 2147483647)], (3000, [], [1], 18)) := vOk_in fun ρ η h => by
  obtain ⟨f0, f1, f2, f3, f4, f5, f6, f7, f8, f9, f10, _⟩ := h
  exact q_201vk740_3 (n0 := ρ 2) (n1 := ρ 1) (n2 := ρ 0) (n3 := ρ 3) (H0 := η 0) (H1 := η 1) f10 f9 f8 f7 f6 f5 f4 f3 f2 f1 f0
def p_201vk740_s : List vG := [([(50, [0], [], 0), (6000, [0, 1, 2], [0], 0), (90, [1], [], -2147483648), (91, [1], [], 2147483647), (90, [2], [], -2147483648), (91, [2], [], 2147483647)], (3000, [], [0], 18)),
  ([(32, [1], [], 0), (51, [0], [], 0), (6000, [0, 1, 2], [0], 0), (90, [1], [], -2147483648), (91, [1], [], 2147483647), (90, [2], [], -2147483648), (91, [2], [], 2147483647)], (3000, [], [0], 18)),
  ([(43, [1, 3], [], 0), (21, [3, 0], [0], 0), (33, [1], [], 0), (51, [0], [], 0), (6000, [0, 1, 2], [0], 0), (90, [1], [], -2147483648), (91, [1], [], 2147483647), (90, [2], [], -2147483648), (91, [2], [], 2147483647)], (3000, [], [0], 18)),
  ([(80, [0, 1, 2], [1, 0], 0), (23, [0], [0], 740), (42, [1, 3], [], 0), (21, [3, 0], [0], 0), (33, [1], [], 0), (51, [0], [], 0), (6000, [0, 1, 2], [0], 0), (90, [1], [], -2147483648), (91, [1], [], 2147483647), (90, [2], [], -2147483648), (91, [2], [], 2147483647)], (3000, [], [1], 18))]
theorem r_201vk740_s : vCovO false (eR0 e_201vk740 L_201vk740 cs_201vk740 2000) p_201vk740_s = true := by decide +kernel
theorem m_201vk740 (d : Nat) : eC e_201vk740 (d + 1) := eC_ok (e := e_201vk740) (L := L_201vk740) (cs := cs_201vk740) (n := 2000) (d := d + 0) (A := A_201vk740) (μ := mu_201vk740) (tp := false) (p0 := p_201vk740_s) rfl trivial rfl (.inr pre0_ok) (by decide +kernel) (fun z => nomatch z) r_201vk740_s (allC c_201vk740_s_0 (allC c_201vk740_s_1 (allC c_201vk740_s_2 (allC c_201vk740_s_3 allN)))) allN
/- MixStage.put ([III)V -/
noncomputable def s_201vk100 : vM := ([(2, 100, -1, 0), (0, -2147483648, 2147483647, 0), (0, -2147483648, 2147483647, 0)], (9, 0, 0, 0), 0, 0, [(100, 0)])
def postb_201vk100 (a0 a1 a2 : Int) (h0 h : gH) : Prop := putQ a0 a1 a2 h0 h
def post_201vk100 : List Int → gH → gH → Prop := fun xs h0 h => match xs with
  | [a0, a1, a2] => postb_201vk100 a0 a1 a2 h0 h
  | _ => True
noncomputable def e_201vk100 : vE := (201, s_201vk100, pre0, post_201vk100)
noncomputable def L_201vk100 : List vE := []
def cs_201vk100 : List vC := []
def A_201vk100 : Int → List Int → gH → gH → Prop := fun c xs h0 h => True
def mu_201vk100 : Int → List Int → gH → gH → Nat := fun c xs h0 h => 0
theorem q_201vk100_0 {n0 n1 n2 : Int} {H0 : gH} (f0 : n0 ≤ 2147483647) (f1 : (-2147483648) ≤ n0) (f2 : n1 ≤ 2147483647) (f3 : (-2147483648) ≤ n1) (f4 : hWt T0 H0 ∧ True) (f5 : n2 = -1) : postb_201vk100 n2 n1 n0 H0 H0 := by
  unfold postb_201vk100

  exact putQ_same (by omega)
theorem c_201vk100_s_0 : vOkm T0 (eP e_201vk100 L_201vk100 A_201vk100 mu_201vk100 none) 3 ([(50, [0], [], 0), (6000, [0, 1, 2], [0], 0), (90, [1], [], -2147483648), (91, [1], [], 2147483647), (90, [2], [], -2147483648), (91, [2], [], 2147483647)], (3000, [], [0], 18)) := vOk_in fun ρ η h => by
  obtain ⟨f0, f1, f2, f3, f4, f5, _⟩ := h
  exact q_201vk100_0 (n0 := ρ 2) (n1 := ρ 1) (n2 := ρ 0) (H0 := η 0) f5 f4 f3 f2 f1 f0
theorem q_201vk100_1 {n0 n1 n2 : Int} {H0 : gH} (f0 : n0 ≤ 2147483647) (f1 : (-2147483648) ≤ n0) (f2 : n1 ≤ 2147483647) (f3 : (-2147483648) ≤ n1) (f4 : hWt T0 H0 ∧ True) (f5 : 0 ≤ n2) (f6 : n1 < 0) : postb_201vk100 n2 n1 n0 H0 H0 := by
  unfold postb_201vk100

  exact putQ_same (by omega)
theorem c_201vk100_s_1 : vOkm T0 (eP e_201vk100 L_201vk100 A_201vk100 mu_201vk100 none) 3 ([(32, [1], [], 0), (51, [0], [], 0), (6000, [0, 1, 2], [0], 0), (90, [1], [], -2147483648), (91, [1], [], 2147483647), (90, [2], [], -2147483648), (91, [2], [], 2147483647)], (3000, [], [0], 18)) := vOk_in fun ρ η h => by
  obtain ⟨f0, f1, f2, f3, f4, f5, f6, _⟩ := h
  exact q_201vk100_1 (n0 := ρ 2) (n1 := ρ 1) (n2 := ρ 0) (H0 := η 0) f6 f5 f4 f3 f2 f1 f0
theorem q_201vk100_2 {n0 n1 n2 n3 : Int} {H0 : gH} (f0 : n0 ≤ 2147483647) (f1 : (-2147483648) ≤ n0) (f2 : n1 ≤ 2147483647) (f3 : (-2147483648) ≤ n1) (f4 : hWt T0 H0 ∧ True) (f5 : 0 ≤ n2) (f6 : 0 ≤ n1) (f7 : n3 = (hN H0 (n2).toNat : Int)) (f8 : n3 ≤ n1) : postb_201vk100 n2 n1 n0 H0 H0 := by
  unfold postb_201vk100

  exact putQ_same (by omega)
theorem c_201vk100_s_2 : vOkm T0 (eP e_201vk100 L_201vk100 A_201vk100 mu_201vk100 none) 3 ([(43, [1, 3], [], 0), (21, [3, 0], [0], 0), (33, [1], [], 0), (51, [0], [], 0), (6000, [0, 1, 2], [0], 0), (90, [1], [], -2147483648), (91, [1], [], 2147483647), (90, [2], [], -2147483648), (91, [2], [], 2147483647)], (3000, [], [0], 18)) := vOk_in fun ρ η h => by
  obtain ⟨f0, f1, f2, f3, f4, f5, f6, f7, f8, _⟩ := h
  exact q_201vk100_2 (n0 := ρ 2) (n1 := ρ 1) (n2 := ρ 0) (n3 := ρ 3) (H0 := η 0) f8 f7 f6 f5 f4 f3 f2 f1 f0
theorem q_201vk100_3 {n0 n1 n2 n3 : Int} {H0 H1 : gH} (f0 : n0 ≤ 2147483647) (f1 : (-2147483648) ≤ n0) (f2 : n1 ≤ 2147483647) (f3 : (-2147483648) ≤ n1) (f4 : hWt T0 H0 ∧ True) (f5 : 0 ≤ n2) (f6 : 0 ≤ n1) (f7 : n3 = (hN H0 (n2).toNat : Int)) (f8 : n1 < n3) (f9 : hK H0 (n2).toNat = 100) (f10 : hUpd H1 H0 n2 n1 n0) : postb_201vk100 n2 n1 n0 H0 H1 := by
  unfold postb_201vk100

  exact putQ_upd f10 (by omega)
theorem c_201vk100_s_3 : vOkm T0 (eP e_201vk100 L_201vk100 A_201vk100 mu_201vk100 none) 3 ([(80, [0, 1, 2], [1, 0], 0), (23, [0], [0], 100), (42, [1, 3], [], 0), (21, [3, 0], [0], 0), (33, [1], [], 0), (51, [0], [], 0), (6000, [0, 1, 2], [0], 0), (90, [1], [], -2147483648), (91, [1], [], 2147483647), (90, [2], [], -2147483648), (91, [2], [], 2147483647)], (3000, [], [1], 18)) := vOk_in fun ρ η h => by
  obtain ⟨f0, f1, f2, f3, f4, f5, f6, f7, f8, f9, f10, _⟩ := h
  exact q_201vk100_3 (n0 := ρ 2) (n1 := ρ 1) (n2 := ρ 0) (n3 := ρ 3) (H0 := η 0) (H1 := η 1) f10 f9 f8 f7 f6 f5 f4 f3 f2 f1 f0
def p_201vk100_s : List vG := [([(50, [0], [], 0), (6000, [0, 1, 2], [0], 0), (90, [1], [], -2147483648), (91, [1], [], 2147483647), (90, [2], [], -2147483648), (91, [2], [], 2147483647)], (3000, [], [0], 18)),
  ([(32, [1], [], 0), (51, [0], [], 0), (6000, [0, 1, 2], [0], 0), (90, [1], [], -2147483648), (91, [1], [], 2147483647), (90, [2], [], -2147483648), (91, [2], [], 2147483647)], (3000, [], [0], 18)),
  ([(43, [1, 3], [], 0), (21, [3, 0], [0], 0), (33, [1], [], 0), (51, [0], [], 0), (6000, [0, 1, 2], [0], 0), (90, [1], [], -2147483648), (91, [1], [], 2147483647), (90, [2], [], -2147483648), (91, [2], [], 2147483647)], (3000, [], [0], 18)),
  ([(80, [0, 1, 2], [1, 0], 0), (23, [0], [0], 100), (42, [1, 3], [], 0), (21, [3, 0], [0], 0), (33, [1], [], 0), (51, [0], [], 0), (6000, [0, 1, 2], [0], 0), (90, [1], [], -2147483648), (91, [1], [], 2147483647), (90, [2], [], -2147483648), (91, [2], [], 2147483647)], (3000, [], [1], 18))]
theorem r_201vk100_s : vCovO false (eR0 e_201vk100 L_201vk100 cs_201vk100 2000) p_201vk100_s = true := by decide +kernel
theorem m_201vk100 (d : Nat) : eC e_201vk100 (d + 1) := eC_ok (e := e_201vk100) (L := L_201vk100) (cs := cs_201vk100) (n := 2000) (d := d + 0) (A := A_201vk100) (μ := mu_201vk100) (tp := false) (p0 := p_201vk100_s) rfl trivial rfl (.inr pre0_ok) (by decide +kernel) (fun z => nomatch z) r_201vk100_s (allC c_201vk100_s_0 (allC c_201vk100_s_1 (allC c_201vk100_s_2 (allC c_201vk100_s_3 allN)))) allN
