/- Reader.takeRelation ()I -/
noncomputable def s_90v : vM := ([(3, 4, 30, 0)], (0, -2147483648, 2147483647, 0), 1, 0, [(4, 1), (4, 2), (4, 3), (4, 4)])
def preb_90v (a0 : Int) (h : gH) : Prop := KI h
def pre_90v : List Int → gH → Prop := fun xs h => match xs with
  | [a0] => preb_90v a0 h
  | _ => False
def postb_90v (r a0 : Int) (h0 h : gH) : Prop := KI h ∧ absC h = pRel (vwC h0) (absC h0)
def post_90v : List Int → gH → gH → Prop := fun xs h0 h => match xs with
  | [r, a0] => postb_90v r a0 h0 h
  | _ => True
noncomputable def e_90v : vE := (90, s_90v, pre_90v, post_90v)
noncomputable def L_90v : List vE := [e_64v, e_66v]
def cs_90v : List vC := []
def A_90v : Int → List Int → gH → gH → Prop := fun c xs h0 h => True
def mu_90v : Int → List Int → gH → gH → Nat := fun c xs h0 h => 0
theorem q_90v_0 {n0 n1 n2 n3 : Int} {H0 : gH} (f0 : n0 = 30) (f1 : hWt T0 H0 ∧ preb_90v n0 H0) (f2 : n1 ≤ 2147483647) (f3 : (-2147483648) ≤ n1) (f4 : n1 = hV H0 (n0).toNat 2) (f5 : n2 = 12) (f6 : n1 < n2) (f7 : n3 = 1) : preb_64v n0 n3 H0 := by
  have pz := f1.2
  unfold preb_90v at pz
  have rk := f4
  rw [f0] at rk
  rw [show ((30 : Int)).toNat = 30 from rfl] at rk
  unfold preb_64v
  exact ⟨pz, by omega⟩
theorem c_90v_s_0 : vOkm T0 (eP e_90v L_90v A_90v mu_90v none) 1 ([(0, [3], [], 1), (42, [1, 2], [], 0), (0, [2], [], 12), (20, [1, 0], [0], 2), (90, [1], [], -2147483648), (91, [1], [], 2147483647), (6000, [0], [0], 0), (0, [0], [], 30)], (2064, [0, 3], [0], 0)) := vOk_in fun ρ η h => by
  obtain ⟨f0, f1, f2, f3, f4, f5, f6, f7, _⟩ := h
  exact q_90v_0 (n0 := ρ 0) (n1 := ρ 1) (n2 := ρ 2) (n3 := ρ 3) (H0 := η 0) f7 f6 f5 f4 f3 f2 f1 f0
theorem q_90v_1 {n0 n1 n2 n3 : Int} {H0 H1 : gH} (f0 : n0 = 30) (f1 : hWt T0 H0 ∧ preb_90v n0 H0) (f2 : n1 ≤ 2147483647) (f3 : (-2147483648) ≤ n1) (f4 : n1 = hV H0 (n0).toNat 2) (f5 : n2 = 12) (f6 : n1 < n2) (f7 : n3 = 1) (f8 : (hLe T0 H0 H1 ∧ hFr s_64v.2.2.2.2 H0 H1 ∧ ((0 : Int) = 0 → H1.length = H0.length) ∧ hWt T0 H1) ∧ postb_64v n0 n3 H0 H1) : preb_66v n0 n1 H1 := by
  have pz := f1.2
  unfold preb_90v at pz
  have c0 := f8.2
  unfold postb_64v at c0
  try rw [f7] at c0
  have a0 : absC H1 = (pfail (vwC H0) 1 (absC H0)) := c0.2
  have v0 : vwC H1 = vwC H0 := (vwC_fr f8.1.2.1 (by decide +kernel))
  have rk := f4
  rw [f0] at rk
  rw [show ((30 : Int)).toNat = 30 from rfl] at rk
  unfold preb_66v
  exact ⟨c0.1, .inr (fault_of c0.1 (by rw [a0]; exact pfail_lt pz (by decide)))⟩
theorem c_90v_s_1 : vOkm T0 (eP e_90v L_90v A_90v mu_90v none) 1 ([(1064, [0, 3], [0, 1], 0), (0, [3], [], 1), (42, [1, 2], [], 0), (0, [2], [], 12), (20, [1, 0], [0], 2), (90, [1], [], -2147483648), (91, [1], [], 2147483647), (6000, [0], [0], 0), (0, [0], [], 30)], (2066, [0, 1], [1], 0)) := vOk_in fun ρ η h => by
  obtain ⟨f0, f1, f2, f3, f4, f5, f6, f7, f8, _⟩ := h
  exact q_90v_1 (n0 := ρ 0) (n1 := ρ 1) (n2 := ρ 2) (n3 := ρ 3) (H0 := η 0) (H1 := η 1) f8 f7 f6 f5 f4 f3 f2 f1 f0
theorem q_90v_2 {n0 n1 n2 n3 : Int} {H0 H1 H2 : gH} (f0 : n0 = 30) (f1 : hWt T0 H0 ∧ preb_90v n0 H0) (f2 : n1 ≤ 2147483647) (f3 : (-2147483648) ≤ n1) (f4 : n1 = hV H0 (n0).toNat 2) (f5 : n2 = 12) (f6 : n1 < n2) (f7 : n3 = 1) (f8 : (hLe T0 H0 H1 ∧ hFr s_64v.2.2.2.2 H0 H1 ∧ ((0 : Int) = 0 → H1.length = H0.length) ∧ hWt T0 H1) ∧ postb_64v n0 n3 H0 H1) (f9 : (hLe T0 H1 H2 ∧ hFr s_66v.2.2.2.2 H1 H2 ∧ ((0 : Int) = 0 → H2.length = H1.length) ∧ hWt T0 H2) ∧ postb_66v n0 n1 H1 H2) : postb_90v n1 n0 H0 H2 := by
  have pz := f1.2
  unfold preb_90v at pz
  have c0 := f8.2
  unfold postb_64v at c0
  try rw [f7] at c0
  have a0 : absC H1 = (pfail (vwC H0) 1 (absC H0)) := c0.2
  have v0 : vwC H1 = vwC H0 := (vwC_fr f8.1.2.1 (by decide +kernel))
  have c1 := f9.2
  unfold postb_66v at c1
  rw [v0] at c1
  rw [a0] at c1
  have a1 : absC H2 = (ptk (vwC H0) n1 (pfail (vwC H0) 1 (absC H0))) := c1.2
  have v1 : vwC H2 = vwC H0 := (vwC_fr f9.1.2.1 (by decide +kernel)).trans v0
  have rk := f4
  rw [f0] at rk
  rw [show ((30 : Int)).toNat = 30 from rfl] at rk
  have kd := kd_at pz
  rw [← rk] at kd
  unfold postb_90v
  refine ⟨c1.1, ?_⟩
  rw [a1]
  rw [ptk_neg (pfail_lt pz (by decide)) pfail_ok]
  exact pRel_no (vwC_ok H0) (absC_ok pz) (by omega) kd
theorem c_90v_s_2 : vOkm T0 (eP e_90v L_90v A_90v mu_90v none) 1 ([(1066, [0, 1], [1, 2], 0), (1064, [0, 3], [0, 1], 0), (0, [3], [], 1), (42, [1, 2], [], 0), (0, [2], [], 12), (20, [1, 0], [0], 2), (90, [1], [], -2147483648), (91, [1], [], 2147483647), (6000, [0], [0], 0), (0, [0], [], 30)], (3000, [1], [2], 28)) := vOk_in fun ρ η h => by
  obtain ⟨f0, f1, f2, f3, f4, f5, f6, f7, f8, f9, _⟩ := h
  exact q_90v_2 (n0 := ρ 0) (n1 := ρ 1) (n2 := ρ 2) (n3 := ρ 3) (H0 := η 0) (H1 := η 1) (H2 := η 2) f9 f8 f7 f6 f5 f4 f3 f2 f1 f0
theorem q_90v_3 {n0 n1 n2 n3 : Int} {H0 : gH} (f0 : n0 = 30) (f1 : hWt T0 H0 ∧ preb_90v n0 H0) (f2 : n1 ≤ 2147483647) (f3 : (-2147483648) ≤ n1) (f4 : n1 = hV H0 (n0).toNat 2) (f5 : n2 = 12) (f6 : n2 ≤ n1) (f7 : n3 = 15) (f8 : n1 ≤ n3) : preb_66v n0 n1 H0 := by
  have pz := f1.2
  unfold preb_90v at pz
  have rk := f4
  rw [f0] at rk
  rw [show ((30 : Int)).toNat = 30 from rfl] at rk
  unfold preb_66v
  exact ⟨pz, .inl (by omega)⟩
theorem c_90v_s_3 : vOkm T0 (eP e_90v L_90v A_90v mu_90v none) 1 ([(45, [1, 3], [], 0), (0, [3], [], 15), (43, [1, 2], [], 0), (0, [2], [], 12), (20, [1, 0], [0], 2), (90, [1], [], -2147483648), (91, [1], [], 2147483647), (6000, [0], [0], 0), (0, [0], [], 30)], (2066, [0, 1], [0], 0)) := vOk_in fun ρ η h => by
  obtain ⟨f0, f1, f2, f3, f4, f5, f6, f7, f8, _⟩ := h
  exact q_90v_3 (n0 := ρ 0) (n1 := ρ 1) (n2 := ρ 2) (n3 := ρ 3) (H0 := η 0) f8 f7 f6 f5 f4 f3 f2 f1 f0
theorem q_90v_4 {n0 n1 n2 n3 : Int} {H0 H1 : gH} (f0 : n0 = 30) (f1 : hWt T0 H0 ∧ preb_90v n0 H0) (f2 : n1 ≤ 2147483647) (f3 : (-2147483648) ≤ n1) (f4 : n1 = hV H0 (n0).toNat 2) (f5 : n2 = 12) (f6 : n2 ≤ n1) (f7 : n3 = 15) (f8 : n1 ≤ n3) (f9 : (hLe T0 H0 H1 ∧ hFr s_66v.2.2.2.2 H0 H1 ∧ ((0 : Int) = 0 → H1.length = H0.length) ∧ hWt T0 H1) ∧ postb_66v n0 n1 H0 H1) : postb_90v n1 n0 H0 H1 := by
  have pz := f1.2
  unfold preb_90v at pz
  have c0 := f9.2
  unfold postb_66v at c0
  have a0 : absC H1 = (ptk (vwC H0) n1 (absC H0)) := c0.2
  have v0 : vwC H1 = vwC H0 := (vwC_fr f9.1.2.1 (by decide +kernel))
  have rk := f4
  rw [f0] at rk
  rw [show ((30 : Int)).toNat = 30 from rfl] at rk
  have kd := kd_at pz
  rw [← rk] at kd
  unfold postb_90v
  refine ⟨c0.1, ?_⟩
  rw [a0]
  exact pRel_yes (vwC_ok H0) (absC_ok pz) (by omega) (by omega) kd
theorem c_90v_s_4 : vOkm T0 (eP e_90v L_90v A_90v mu_90v none) 1 ([(1066, [0, 1], [0, 1], 0), (45, [1, 3], [], 0), (0, [3], [], 15), (43, [1, 2], [], 0), (0, [2], [], 12), (20, [1, 0], [0], 2), (90, [1], [], -2147483648), (91, [1], [], 2147483647), (6000, [0], [0], 0), (0, [0], [], 30)], (3000, [1], [1], 28)) := vOk_in fun ρ η h => by
  obtain ⟨f0, f1, f2, f3, f4, f5, f6, f7, f8, f9, _⟩ := h
  exact q_90v_4 (n0 := ρ 0) (n1 := ρ 1) (n2 := ρ 2) (n3 := ρ 3) (H0 := η 0) (H1 := η 1) f9 f8 f7 f6 f5 f4 f3 f2 f1 f0
theorem q_90v_5 {n0 n1 n2 n3 n4 : Int} {H0 : gH} (f0 : n0 = 30) (f1 : hWt T0 H0 ∧ preb_90v n0 H0) (f2 : n1 ≤ 2147483647) (f3 : (-2147483648) ≤ n1) (f4 : n1 = hV H0 (n0).toNat 2) (f5 : n2 = 12) (f6 : n2 ≤ n1) (f7 : n3 = 15) (f8 : n3 < n1) (f9 : n4 = 1) : preb_64v n0 n4 H0 := by
  have pz := f1.2
  unfold preb_90v at pz
  have rk := f4
  rw [f0] at rk
  rw [show ((30 : Int)).toNat = 30 from rfl] at rk
  unfold preb_64v
  exact ⟨pz, by omega⟩
theorem c_90v_s_5 : vOkm T0 (eP e_90v L_90v A_90v mu_90v none) 1 ([(0, [4], [], 1), (44, [1, 3], [], 0), (0, [3], [], 15), (43, [1, 2], [], 0), (0, [2], [], 12), (20, [1, 0], [0], 2), (90, [1], [], -2147483648), (91, [1], [], 2147483647), (6000, [0], [0], 0), (0, [0], [], 30)], (2064, [0, 4], [0], 0)) := vOk_in fun ρ η h => by
  obtain ⟨f0, f1, f2, f3, f4, f5, f6, f7, f8, f9, _⟩ := h
  exact q_90v_5 (n0 := ρ 0) (n1 := ρ 1) (n2 := ρ 2) (n3 := ρ 3) (n4 := ρ 4) (H0 := η 0) f9 f8 f7 f6 f5 f4 f3 f2 f1 f0
theorem q_90v_6 {n0 n1 n2 n3 n4 : Int} {H0 H1 : gH} (f0 : n0 = 30) (f1 : hWt T0 H0 ∧ preb_90v n0 H0) (f2 : n1 ≤ 2147483647) (f3 : (-2147483648) ≤ n1) (f4 : n1 = hV H0 (n0).toNat 2) (f5 : n2 = 12) (f6 : n2 ≤ n1) (f7 : n3 = 15) (f8 : n3 < n1) (f9 : n4 = 1) (f10 : (hLe T0 H0 H1 ∧ hFr s_64v.2.2.2.2 H0 H1 ∧ ((0 : Int) = 0 → H1.length = H0.length) ∧ hWt T0 H1) ∧ postb_64v n0 n4 H0 H1) : preb_66v n0 n1 H1 := by
  have pz := f1.2
  unfold preb_90v at pz
  have c0 := f10.2
  unfold postb_64v at c0
  try rw [f9] at c0
  have a0 : absC H1 = (pfail (vwC H0) 1 (absC H0)) := c0.2
  have v0 : vwC H1 = vwC H0 := (vwC_fr f10.1.2.1 (by decide +kernel))
  have rk := f4
  rw [f0] at rk
  rw [show ((30 : Int)).toNat = 30 from rfl] at rk
  unfold preb_66v
  exact ⟨c0.1, .inr (fault_of c0.1 (by rw [a0]; exact pfail_lt pz (by decide)))⟩
theorem c_90v_s_6 : vOkm T0 (eP e_90v L_90v A_90v mu_90v none) 1 ([(1064, [0, 4], [0, 1], 0), (0, [4], [], 1), (44, [1, 3], [], 0), (0, [3], [], 15), (43, [1, 2], [], 0), (0, [2], [], 12), (20, [1, 0], [0], 2), (90, [1], [], -2147483648), (91, [1], [], 2147483647), (6000, [0], [0], 0), (0, [0], [], 30)], (2066, [0, 1], [1], 0)) := vOk_in fun ρ η h => by
  obtain ⟨f0, f1, f2, f3, f4, f5, f6, f7, f8, f9, f10, _⟩ := h
  exact q_90v_6 (n0 := ρ 0) (n1 := ρ 1) (n2 := ρ 2) (n3 := ρ 3) (n4 := ρ 4) (H0 := η 0) (H1 := η 1) f10 f9 f8 f7 f6 f5 f4 f3 f2 f1 f0
theorem q_90v_7 {n0 n1 n2 n3 n4 : Int} {H0 H1 H2 : gH} (f0 : n0 = 30) (f1 : hWt T0 H0 ∧ preb_90v n0 H0) (f2 : n1 ≤ 2147483647) (f3 : (-2147483648) ≤ n1) (f4 : n1 = hV H0 (n0).toNat 2) (f5 : n2 = 12) (f6 : n2 ≤ n1) (f7 : n3 = 15) (f8 : n3 < n1) (f9 : n4 = 1) (f10 : (hLe T0 H0 H1 ∧ hFr s_64v.2.2.2.2 H0 H1 ∧ ((0 : Int) = 0 → H1.length = H0.length) ∧ hWt T0 H1) ∧ postb_64v n0 n4 H0 H1) (f11 : (hLe T0 H1 H2 ∧ hFr s_66v.2.2.2.2 H1 H2 ∧ ((0 : Int) = 0 → H2.length = H1.length) ∧ hWt T0 H2) ∧ postb_66v n0 n1 H1 H2) : postb_90v n1 n0 H0 H2 := by
  have pz := f1.2
  unfold preb_90v at pz
  have c0 := f10.2
  unfold postb_64v at c0
  try rw [f9] at c0
  have a0 : absC H1 = (pfail (vwC H0) 1 (absC H0)) := c0.2
  have v0 : vwC H1 = vwC H0 := (vwC_fr f10.1.2.1 (by decide +kernel))
  have c1 := f11.2
  unfold postb_66v at c1
  rw [v0] at c1
  rw [a0] at c1
  have a1 : absC H2 = (ptk (vwC H0) n1 (pfail (vwC H0) 1 (absC H0))) := c1.2
  have v1 : vwC H2 = vwC H0 := (vwC_fr f11.1.2.1 (by decide +kernel)).trans v0
  have rk := f4
  rw [f0] at rk
  rw [show ((30 : Int)).toNat = 30 from rfl] at rk
  have kd := kd_at pz
  rw [← rk] at kd
  unfold postb_90v
  refine ⟨c1.1, ?_⟩
  rw [a1]
  rw [ptk_neg (pfail_lt pz (by decide)) pfail_ok]
  exact pRel_no (vwC_ok H0) (absC_ok pz) (by omega) kd
theorem c_90v_s_7 : vOkm T0 (eP e_90v L_90v A_90v mu_90v none) 1 ([(1066, [0, 1], [1, 2], 0), (1064, [0, 4], [0, 1], 0), (0, [4], [], 1), (44, [1, 3], [], 0), (0, [3], [], 15), (43, [1, 2], [], 0), (0, [2], [], 12), (20, [1, 0], [0], 2), (90, [1], [], -2147483648), (91, [1], [], 2147483647), (6000, [0], [0], 0), (0, [0], [], 30)], (3000, [1], [2], 28)) := vOk_in fun ρ η h => by
  obtain ⟨f0, f1, f2, f3, f4, f5, f6, f7, f8, f9, f10, f11, _⟩ := h
  exact q_90v_7 (n0 := ρ 0) (n1 := ρ 1) (n2 := ρ 2) (n3 := ρ 3) (n4 := ρ 4) (H0 := η 0) (H1 := η 1) (H2 := η 2) f11 f10 f9 f8 f7 f6 f5 f4 f3 f2 f1 f0
def p_90v_s : List vG := [([(0, [3], [], 1), (42, [1, 2], [], 0), (0, [2], [], 12), (20, [1, 0], [0], 2), (90, [1], [], -2147483648), (91, [1], [], 2147483647), (6000, [0], [0], 0), (0, [0], [], 30)], (2064, [0, 3], [0], 0)),
  ([(1064, [0, 3], [0, 1], 0), (0, [3], [], 1), (42, [1, 2], [], 0), (0, [2], [], 12), (20, [1, 0], [0], 2), (90, [1], [], -2147483648), (91, [1], [], 2147483647), (6000, [0], [0], 0), (0, [0], [], 30)], (2066, [0, 1], [1], 0)),
  ([(1066, [0, 1], [1, 2], 0), (1064, [0, 3], [0, 1], 0), (0, [3], [], 1), (42, [1, 2], [], 0), (0, [2], [], 12), (20, [1, 0], [0], 2), (90, [1], [], -2147483648), (91, [1], [], 2147483647), (6000, [0], [0], 0), (0, [0], [], 30)], (3000, [1], [2], 28)),
  ([(45, [1, 3], [], 0), (0, [3], [], 15), (43, [1, 2], [], 0), (0, [2], [], 12), (20, [1, 0], [0], 2), (90, [1], [], -2147483648), (91, [1], [], 2147483647), (6000, [0], [0], 0), (0, [0], [], 30)], (2066, [0, 1], [0], 0)),
  ([(1066, [0, 1], [0, 1], 0), (45, [1, 3], [], 0), (0, [3], [], 15), (43, [1, 2], [], 0), (0, [2], [], 12), (20, [1, 0], [0], 2), (90, [1], [], -2147483648), (91, [1], [], 2147483647), (6000, [0], [0], 0), (0, [0], [], 30)], (3000, [1], [1], 28)),
  ([(0, [4], [], 1), (44, [1, 3], [], 0), (0, [3], [], 15), (43, [1, 2], [], 0), (0, [2], [], 12), (20, [1, 0], [0], 2), (90, [1], [], -2147483648), (91, [1], [], 2147483647), (6000, [0], [0], 0), (0, [0], [], 30)], (2064, [0, 4], [0], 0)),
  ([(1064, [0, 4], [0, 1], 0), (0, [4], [], 1), (44, [1, 3], [], 0), (0, [3], [], 15), (43, [1, 2], [], 0), (0, [2], [], 12), (20, [1, 0], [0], 2), (90, [1], [], -2147483648), (91, [1], [], 2147483647), (6000, [0], [0], 0), (0, [0], [], 30)], (2066, [0, 1], [1], 0)),
  ([(1066, [0, 1], [1, 2], 0), (1064, [0, 4], [0, 1], 0), (0, [4], [], 1), (44, [1, 3], [], 0), (0, [3], [], 15), (43, [1, 2], [], 0), (0, [2], [], 12), (20, [1, 0], [0], 2), (90, [1], [], -2147483648), (91, [1], [], 2147483647), (6000, [0], [0], 0), (0, [0], [], 30)], (3000, [1], [2], 28))]
theorem r_90v_s : vCovO false (eR0 e_90v L_90v cs_90v 2000) p_90v_s = true := by decide +kernel
theorem m_90v (d : Nat) : eC e_90v (d + 3) := eC_ok (e := e_90v) (L := L_90v) (cs := cs_90v) (n := 2000) (d := d + 2) (A := A_90v) (μ := mu_90v) (tp := false) (p0 := p_90v_s) rfl ⟨m_64v (d + 1), ⟨m_66v d, trivial⟩⟩ rfl (.inl rfl) (by decide +kernel) (fun z => nomatch z) r_90v_s (allC c_90v_s_0 (allC c_90v_s_1 (allC c_90v_s_2 (allC c_90v_s_3 (allC c_90v_s_4 (allC c_90v_s_5 (allC c_90v_s_6 (allC c_90v_s_7 allN)))))))) allN
/- Reader.takeNots ()Z -/
noncomputable def s_89v : vM := ([(3, 4, 30, 0)], (0, 0, 1, 0), 1, 0, [(4, 1), (4, 2), (4, 3), (4, 4)])
def preb_89v (a0 : Int) (h : gH) : Prop := KI h
def pre_89v : List Int → gH → Prop := fun xs h => match xs with
  | [a0] => preb_89v a0 h
  | _ => False
def postb_89v (r a0 : Int) (h0 h : gH) : Prop := KI h ∧ absC h = pNots (vwC h0) (502 - (absC h0).1).toNat (absC h0)
def post_89v : List Int → gH → gH → Prop := fun xs h0 h => match xs with
  | [r, a0] => postb_89v r a0 h0 h
  | _ => True
noncomputable def e_89v : vE := (89, s_89v, pre_89v, post_89v)
noncomputable def L_89v : List vE := [e_66v]
def cs_89v : List vC := [(4, [(0, (3, 4, 30, 0)), (1, (0, 0, 1, 0)), (2, (0, -2147483648, 2147483647, 0))])]
def Ab_89v_4 (a0 x0 x1 x2 : Int) (h0 h : gH) : Prop := KI h ∧ 0 ≤ x2 ∧ (hV h 30 3 = 0 → (absC h0).1 + x2 ≤ hV h 30 1 ∧ 0 ≤ (absC h0).1) ∧ pNots (vwC h0) ((502 - (absC h0).1).toNat - (x2).toNat) (absC h) = pNots (vwC h0) (502 - (absC h0).1).toNat (absC h0)
def mub_89v_4 (a0 x0 x1 x2 : Int) (h0 h : gH) : Nat := (2147483648 - x2).toNat
def A_89v : Int → List Int → gH → gH → Prop := fun c xs h0 h => match c.toNat with
  | 4 => (match xs with
    | [a0, x0, x1, x2] => Ab_89v_4 a0 x0 x1 x2 h0 h
    | _ => False)
  | _ => True
def mu_89v : Int → List Int → gH → gH → Nat := fun c xs h0 h => match c.toNat with
  | 4 => (match xs with
    | [a0, x0, x1, x2] => mub_89v_4 a0 x0 x1 x2 h0 h
    | _ => 0)
  | _ => 0
theorem q_89v_0 {n0 n1 n2 : Int} {H0 : gH} (f0 : n0 = 30) (f1 : hWt T0 H0 ∧ preb_89v n0 H0) (f2 : n1 = 0) (f3 : n2 = 0) : Ab_89v_4 n0 n0 n1 n2 H0 H0 ∧ ∀ q, none = some q → mub_89v_4 n0 n0 n1 n2 H0 H0 < q := by
  have pz := f1.2
  unfold preb_89v at pz
  unfold Ab_89v_4
  refine ⟨⟨pz, by omega, fun hf => by have u := (absC_pos pz hf).1; have w := pz.2.2.2.1.1; omega, by rw [show (502 - (absC H0).1).toNat - (n2).toNat = (502 - (absC H0).1).toNat by omega]⟩, fun q hq => nomatch hq⟩
theorem c_89v_s_0 : vOkm T0 (eP e_89v L_89v A_89v mu_89v none) 1 ([(0, [2], [], 0), (0, [1], [], 0), (6000, [0], [0], 0), (0, [0], [], 30)], (4000, [0, 1, 2], [0], 4)) := vOk_in fun ρ η h => by
  obtain ⟨f0, f1, f2, f3, _⟩ := h
  exact q_89v_0 (n0 := ρ 0) (n1 := ρ 1) (n2 := ρ 2) (H0 := η 0) f3 f2 f1 f0
def p_89v_s : List vG := [([(0, [2], [], 0), (0, [1], [], 0), (6000, [0], [0], 0), (0, [0], [], 30)], (4000, [0, 1, 2], [0], 4))]
theorem r_89v_s : vCovO false (eR0 e_89v L_89v cs_89v 2000) p_89v_s = true := by decide +kernel
theorem q_89v_1 {q0 : Nat} {n0 n1 n2 n3 n4 : Int} {H0 H1 : gH} (f0 : n0 ≤ 2147483647) (f1 : (-2147483648) ≤ n0) (f2 : n1 ≤ 1) (f3 : 0 ≤ n1) (f4 : n2 = 30) (f5 : n3 = 30) (f6 : (hLe T0 H0 H1 ∧ hFr s_89v.2.2.2.2 H0 H1 ∧ hWt T0 H1) ∧ (Ab_89v_4 n3 n2 n1 n0 H0 H1 ∧ preb_89v n3 H0) ∧ some q0 = some (mub_89v_4 n3 n2 n1 n0 H0 H1)) (f7 : n4 = 500) (f8 : n4 < n0) : postb_89v n1 n3 H0 H1 := by
  have pz := f6.2.1.2
  unfold preb_89v at pz
  have ga := f6.2.1.1
  unfold Ab_89v_4 at ga
  have vz : vwC H1 = vwC H0 := vwC_fr f6.1.2.1 (by decide +kernel)
  have gb := ga
  obtain ⟨_, x0, xn, ya⟩ := gb
  unfold postb_89v
  refine ⟨ga.1, ?_⟩
  rw [← ya]
  refine (pNots_neg (vwC_ok H0) ?_).symm
  refine absC_neg ga.1 (fun hf => ?_)
  have u := xn hf
  have w := ga.1.2.2.2.1.2.1
  omega
theorem c_89v_4_0 {q0 : Nat} : vOkm T0 (eP e_89v L_89v A_89v mu_89v (some q0)) 1 ([(44, [3, 4], [], 0), (0, [4], [], 500), (5000, [0, 1, 2, 3], [0, 1], 4), (0, [0], [], 30), (0, [1], [], 30), (90, [2], [], 0), (91, [2], [], 1), (90, [3], [], -2147483648), (91, [3], [], 2147483647)], (3000, [2], [1], 50)) := vOk_in fun ρ η h => by
  obtain ⟨f0, f1, f2, f3, f4, f5, f6, f7, f8, _⟩ := h
  exact q_89v_1 (q0 := q0) (n0 := ρ 3) (n1 := ρ 2) (n2 := ρ 1) (n3 := ρ 0) (n4 := ρ 4) (H0 := η 0) (H1 := η 1) f8 f7 f6 f5 f4 f3 f2 f1 f0
theorem q_89v_2 {q0 : Nat} {n0 n1 n2 n3 n4 n5 : Int} {H0 H1 : gH} (f0 : n0 ≤ 2147483647) (f1 : (-2147483648) ≤ n0) (f2 : n1 ≤ 1) (f3 : 0 ≤ n1) (f4 : n2 = 30) (f5 : n3 = 30) (f6 : (hLe T0 H0 H1 ∧ hFr s_89v.2.2.2.2 H0 H1 ∧ hWt T0 H1) ∧ (Ab_89v_4 n3 n2 n1 n0 H0 H1 ∧ preb_89v n3 H0) ∧ some q0 = some (mub_89v_4 n3 n2 n1 n0 H0 H1)) (f7 : n4 = 500) (f8 : n0 ≤ n4) (f9 : n5 ≤ 2147483647) (f10 : (-2147483648) ≤ n5) (f11 : n5 = hV H1 (n2).toNat 3) (f12 : n5 ≠ 0) : postb_89v n1 n3 H0 H1 := by
  have pz := f6.2.1.2
  unfold preb_89v at pz
  have ga := f6.2.1.1
  unfold Ab_89v_4 at ga
  have vz : vwC H1 = vwC H0 := vwC_fr f6.1.2.1 (by decide +kernel)
  have gb := ga
  obtain ⟨_, x0, xn, ya⟩ := gb
  unfold postb_89v
  refine ⟨ga.1, ?_⟩
  rw [← ya]
  have rf := f11
  rw [f4] at rf
  rw [show ((30 : Int)).toNat = 30 from rfl] at rf
  exact (pNots_neg (vwC_ok H0) (absC_neg ga.1 (by omega))).symm
theorem c_89v_4_1 {q0 : Nat} : vOkm T0 (eP e_89v L_89v A_89v mu_89v (some q0)) 1 ([(31, [5], [], 0), (20, [5, 1], [1], 3), (90, [5], [], -2147483648), (91, [5], [], 2147483647), (45, [3, 4], [], 0), (0, [4], [], 500), (5000, [0, 1, 2, 3], [0, 1], 4), (0, [0], [], 30), (0, [1], [], 30), (90, [2], [], 0), (91, [2], [], 1), (90, [3], [], -2147483648), (91, [3], [], 2147483647)], (3000, [2], [1], 50)) := vOk_in fun ρ η h => by
  obtain ⟨f0, f1, f2, f3, f4, f5, f6, f7, f8, f9, f10, f11, f12, _⟩ := h
  exact q_89v_2 (q0 := q0) (n0 := ρ 3) (n1 := ρ 2) (n2 := ρ 1) (n3 := ρ 0) (n4 := ρ 4) (n5 := ρ 5) (H0 := η 0) (H1 := η 1) f12 f11 f10 f9 f8 f7 f6 f5 f4 f3 f2 f1 f0
theorem q_89v_3 {q0 : Nat} {n0 n1 n2 n3 n4 n5 n6 n7 : Int} {H0 H1 : gH} (f0 : n0 ≤ 2147483647) (f1 : (-2147483648) ≤ n0) (f2 : n1 ≤ 1) (f3 : 0 ≤ n1) (f4 : n2 = 30) (f5 : n3 = 30) (f6 : (hLe T0 H0 H1 ∧ hFr s_89v.2.2.2.2 H0 H1 ∧ hWt T0 H1) ∧ (Ab_89v_4 n3 n2 n1 n0 H0 H1 ∧ preb_89v n3 H0) ∧ some q0 = some (mub_89v_4 n3 n2 n1 n0 H0 H1)) (f7 : n4 = 500) (f8 : n0 ≤ n4) (f9 : n5 ≤ 2147483647) (f10 : (-2147483648) ≤ n5) (f11 : n5 = hV H1 (n2).toNat 3) (f12 : n5 = 0) (f13 : n6 ≤ 2147483647) (f14 : (-2147483648) ≤ n6) (f15 : n6 = hV H1 (n2).toNat 2) (f16 : n7 = 44) (f17 : n6 ≠ n7) : postb_89v n1 n3 H0 H1 := by
  have pz := f6.2.1.2
  unfold preb_89v at pz
  have ga := f6.2.1.1
  unfold Ab_89v_4 at ga
  have vz : vwC H1 = vwC H0 := vwC_fr f6.1.2.1 (by decide +kernel)
  have b0 := kd_at ga.1
  rw [vz] at b0
  have g0 := f15
  rw [f4] at g0
  rw [show ((30 : Int)).toNat = 30 from rfl] at g0
  have h0 : (absC H1).1 < 0 ∨ ¬ (vwC H0).1 (absC H1).1 = 44 := by
    rcases b0 with q | q
    · exact .inl q
    · right
      rw [q]
      omega
  have gb := ga
  obtain ⟨_, x0, xn, ya⟩ := gb
  unfold postb_89v
  refine ⟨ga.1, ?_⟩
  rw [← ya]
  rcases h0 with q | q
  · exact (pNots_neg (vwC_ok H0) q).symm
  · exact (pNots_stop q).symm
theorem c_89v_4_2 {q0 : Nat} : vOkm T0 (eP e_89v L_89v A_89v mu_89v (some q0)) 1 ([(41, [6, 7], [], 0), (0, [7], [], 44), (20, [6, 1], [1], 2), (90, [6], [], -2147483648), (91, [6], [], 2147483647), (30, [5], [], 0), (20, [5, 1], [1], 3), (90, [5], [], -2147483648), (91, [5], [], 2147483647), (45, [3, 4], [], 0), (0, [4], [], 500), (5000, [0, 1, 2, 3], [0, 1], 4), (0, [0], [], 30), (0, [1], [], 30), (90, [2], [], 0), (91, [2], [], 1), (90, [3], [], -2147483648), (91, [3], [], 2147483647)], (3000, [2], [1], 50)) := vOk_in fun ρ η h => by
  obtain ⟨f0, f1, f2, f3, f4, f5, f6, f7, f8, f9, f10, f11, f12, f13, f14, f15, f16, f17, _⟩ := h
  exact q_89v_3 (q0 := q0) (n0 := ρ 3) (n1 := ρ 2) (n2 := ρ 1) (n3 := ρ 0) (n4 := ρ 4) (n5 := ρ 5) (n6 := ρ 6) (n7 := ρ 7) (H0 := η 0) (H1 := η 1) f17 f16 f15 f14 f13 f12 f11 f10 f9 f8 f7 f6 f5 f4 f3 f2 f1 f0
theorem q_89v_4 {q0 : Nat} {n0 n1 n2 n3 n4 n5 n6 n7 n8 : Int} {H0 H1 : gH} (f0 : n0 ≤ 2147483647) (f1 : (-2147483648) ≤ n0) (f2 : n1 ≤ 1) (f3 : 0 ≤ n1) (f4 : n2 = 30) (f5 : n3 = 30) (f6 : (hLe T0 H0 H1 ∧ hFr s_89v.2.2.2.2 H0 H1 ∧ hWt T0 H1) ∧ (Ab_89v_4 n3 n2 n1 n0 H0 H1 ∧ preb_89v n3 H0) ∧ some q0 = some (mub_89v_4 n3 n2 n1 n0 H0 H1)) (f7 : n4 = 500) (f8 : n0 ≤ n4) (f9 : n5 ≤ 2147483647) (f10 : (-2147483648) ≤ n5) (f11 : n5 = hV H1 (n2).toNat 3) (f12 : n5 = 0) (f13 : n6 ≤ 2147483647) (f14 : (-2147483648) ≤ n6) (f15 : n6 = hV H1 (n2).toNat 2) (f16 : n7 = 44) (f17 : n6 = n7) (f18 : n8 = 44) : preb_66v n2 n8 H1 := by
  have pz := f6.2.1.2
  unfold preb_89v at pz
  have ga := f6.2.1.1
  unfold Ab_89v_4 at ga
  have vz : vwC H1 = vwC H0 := vwC_fr f6.1.2.1 (by decide +kernel)
  have b0 := kd_at ga.1
  rw [vz] at b0
  have g0 := f15
  rw [f4] at g0
  rw [show ((30 : Int)).toNat = 30 from rfl] at g0
  have h0 : (absC H1).1 < 0 ∨ (vwC H0).1 (absC H1).1 = 44 := by
    rcases b0 with q | q
    · exact .inl q
    · right
      rw [q]
      omega
  have gb := ga
  obtain ⟨_, x0, xn, ya⟩ := gb
  unfold preb_66v
  exact ⟨ga.1, by omega⟩
theorem c_89v_4_3 {q0 : Nat} : vOkm T0 (eP e_89v L_89v A_89v mu_89v (some q0)) 1 ([(0, [8], [], 44), (40, [6, 7], [], 0), (0, [7], [], 44), (20, [6, 1], [1], 2), (90, [6], [], -2147483648), (91, [6], [], 2147483647), (30, [5], [], 0), (20, [5, 1], [1], 3), (90, [5], [], -2147483648), (91, [5], [], 2147483647), (45, [3, 4], [], 0), (0, [4], [], 500), (5000, [0, 1, 2, 3], [0, 1], 4), (0, [0], [], 30), (0, [1], [], 30), (90, [2], [], 0), (91, [2], [], 1), (90, [3], [], -2147483648), (91, [3], [], 2147483647)], (2066, [1, 8], [1], 0)) := vOk_in fun ρ η h => by
  obtain ⟨f0, f1, f2, f3, f4, f5, f6, f7, f8, f9, f10, f11, f12, f13, f14, f15, f16, f17, f18, _⟩ := h
  exact q_89v_4 (q0 := q0) (n0 := ρ 3) (n1 := ρ 2) (n2 := ρ 1) (n3 := ρ 0) (n4 := ρ 4) (n5 := ρ 5) (n6 := ρ 6) (n7 := ρ 7) (n8 := ρ 8) (H0 := η 0) (H1 := η 1) f18 f17 f16 f15 f14 f13 f12 f11 f10 f9 f8 f7 f6 f5 f4 f3 f2 f1 f0
theorem q_89v_5 {q0 : Nat} {n0 n1 n2 n3 n4 n5 n6 n7 n8 n9 n10 : Int} {H0 H1 H2 : gH} (f0 : n0 ≤ 2147483647) (f1 : (-2147483648) ≤ n0) (f2 : n1 ≤ 1) (f3 : 0 ≤ n1) (f4 : n2 = 30) (f5 : n3 = 30) (f6 : (hLe T0 H0 H1 ∧ hFr s_89v.2.2.2.2 H0 H1 ∧ hWt T0 H1) ∧ (Ab_89v_4 n3 n2 n1 n0 H0 H1 ∧ preb_89v n3 H0) ∧ some q0 = some (mub_89v_4 n3 n2 n1 n0 H0 H1)) (f7 : n4 = 500) (f8 : n0 ≤ n4) (f9 : n5 ≤ 2147483647) (f10 : (-2147483648) ≤ n5) (f11 : n5 = hV H1 (n2).toNat 3) (f12 : n5 = 0) (f13 : n6 ≤ 2147483647) (f14 : (-2147483648) ≤ n6) (f15 : n6 = hV H1 (n2).toNat 2) (f16 : n7 = 44) (f17 : n6 = n7) (f18 : n8 = 44) (f19 : (hLe T0 H1 H2 ∧ hFr s_66v.2.2.2.2 H1 H2 ∧ ((0 : Int) = 0 → H2.length = H1.length) ∧ hWt T0 H2) ∧ postb_66v n2 n8 H1 H2) (f20 : n1 ≠ 0) (f21 : n9 = 0) (f22 : n10 = w32 (n0 + 1)) : Ab_89v_4 n3 n2 n9 n10 H0 H2 ∧ ∀ q, some q0 = some q → mub_89v_4 n3 n2 n9 n10 H0 H2 < q := by
  have pz := f6.2.1.2
  unfold preb_89v at pz
  have ga := f6.2.1.1
  unfold Ab_89v_4 at ga
  have vz : vwC H1 = vwC H0 := vwC_fr f6.1.2.1 (by decide +kernel)
  have c0 := f19.2
  unfold postb_66v at c0
  try rw [f18] at c0
  rw [vz] at c0
  have a0 : absC H2 = (ptk (vwC H0) 44 (absC H1)) := c0.2
  have v0 : vwC H2 = vwC H0 := (vwC_fr f19.1.2.1 (by decide +kernel)).trans vz
  have b0 := kd_at ga.1
  rw [vz] at b0
  have g0 := f15
  rw [f4] at g0
  rw [show ((30 : Int)).toNat = 30 from rfl] at g0
  have h0 : (absC H1).1 < 0 ∨ (vwC H0).1 (absC H1).1 = 44 := by
    rcases b0 with q | q
    · exact .inl q
    · right
      rw [q]
      omega
  have gb := ga
  obtain ⟨_, x0, xn, ya⟩ := gb
  have rf := f11
  rw [f4] at rf
  rw [show ((30 : Int)).toNat = 30 from rfl] at rf
  have ap := absC_pos ga.1 (by omega)
  have h5 : (vwC H0).1 (absC H1).1 = 44 := h0.resolve_left (by omega)
  have u := xn (by omega)
  have w := ga.1.2.2.2.1.2.1
  have z2 := f22
  unfold w32 at z2
  have g5 := Option.some.inj f6.2.2
  unfold mub_89v_4 at g5
  unfold Ab_89v_4 mub_89v_4
  refine ⟨⟨c0.1, by omega, fun hf => ?_, ?_⟩, fun q hq => ?_⟩
  · have a2 := absC_pos c0.1 hf
    have a3 := ptk_next (c := 44) (p := absC H1) pz.2.1 (by rw [← a0]; exact a2.2)
    rw [← a0] at a3
    omega
  · rw [← ya, show (502 - (absC H0).1).toNat - (n0).toNat = ((502 - (absC H0).1).toNat - (n10).toNat) + 1 by omega, pNots_step h5, a0]
  · have g6 := Option.some.inj hq
    subst g6
    omega
theorem c_89v_4_4 {q0 : Nat} : vOkm T0 (eP e_89v L_89v A_89v mu_89v (some q0)) 1 ([(10, [10, 3], [], 1), (0, [9], [], 0), (31, [2], [], 0), (1066, [1, 8], [1, 2], 0), (0, [8], [], 44), (40, [6, 7], [], 0), (0, [7], [], 44), (20, [6, 1], [1], 2), (90, [6], [], -2147483648), (91, [6], [], 2147483647), (30, [5], [], 0), (20, [5, 1], [1], 3), (90, [5], [], -2147483648), (91, [5], [], 2147483647), (45, [3, 4], [], 0), (0, [4], [], 500), (5000, [0, 1, 2, 3], [0, 1], 4), (0, [0], [], 30), (0, [1], [], 30), (90, [2], [], 0), (91, [2], [], 1), (90, [3], [], -2147483648), (91, [3], [], 2147483647)], (4000, [1, 9, 10], [2], 4)) := vOk_in fun ρ η h => by
  obtain ⟨f0, f1, f2, f3, f4, f5, f6, f7, f8, f9, f10, f11, f12, f13, f14, f15, f16, f17, f18, f19, f20, f21, f22, _⟩ := h
  exact q_89v_5 (q0 := q0) (n0 := ρ 3) (n1 := ρ 2) (n2 := ρ 1) (n3 := ρ 0) (n4 := ρ 4) (n5 := ρ 5) (n6 := ρ 6) (n7 := ρ 7) (n8 := ρ 8) (n9 := ρ 9) (n10 := ρ 10) (H0 := η 0) (H1 := η 1) (H2 := η 2) f22 f21 f20 f19 f18 f17 f16 f15 f14 f13 f12 f11 f10 f9 f8 f7 f6 f5 f4 f3 f2 f1 f0
theorem q_89v_6 {q0 : Nat} {n0 n1 n2 n3 n4 n5 n6 n7 n8 n9 n10 : Int} {H0 H1 H2 : gH} (f0 : n0 ≤ 2147483647) (f1 : (-2147483648) ≤ n0) (f2 : n1 ≤ 1) (f3 : 0 ≤ n1) (f4 : n2 = 30) (f5 : n3 = 30) (f6 : (hLe T0 H0 H1 ∧ hFr s_89v.2.2.2.2 H0 H1 ∧ hWt T0 H1) ∧ (Ab_89v_4 n3 n2 n1 n0 H0 H1 ∧ preb_89v n3 H0) ∧ some q0 = some (mub_89v_4 n3 n2 n1 n0 H0 H1)) (f7 : n4 = 500) (f8 : n0 ≤ n4) (f9 : n5 ≤ 2147483647) (f10 : (-2147483648) ≤ n5) (f11 : n5 = hV H1 (n2).toNat 3) (f12 : n5 = 0) (f13 : n6 ≤ 2147483647) (f14 : (-2147483648) ≤ n6) (f15 : n6 = hV H1 (n2).toNat 2) (f16 : n7 = 44) (f17 : n6 = n7) (f18 : n8 = 44) (f19 : (hLe T0 H1 H2 ∧ hFr s_66v.2.2.2.2 H1 H2 ∧ ((0 : Int) = 0 → H2.length = H1.length) ∧ hWt T0 H2) ∧ postb_66v n2 n8 H1 H2) (f20 : n1 = 0) (f21 : n9 = 1) (f22 : n10 = w32 (n0 + 1)) : Ab_89v_4 n3 n2 n9 n10 H0 H2 ∧ ∀ q, some q0 = some q → mub_89v_4 n3 n2 n9 n10 H0 H2 < q := by
  have pz := f6.2.1.2
  unfold preb_89v at pz
  have ga := f6.2.1.1
  unfold Ab_89v_4 at ga
  have vz : vwC H1 = vwC H0 := vwC_fr f6.1.2.1 (by decide +kernel)
  have c0 := f19.2
  unfold postb_66v at c0
  try rw [f18] at c0
  rw [vz] at c0
  have a0 : absC H2 = (ptk (vwC H0) 44 (absC H1)) := c0.2
  have v0 : vwC H2 = vwC H0 := (vwC_fr f19.1.2.1 (by decide +kernel)).trans vz
  have b0 := kd_at ga.1
  rw [vz] at b0
  have g0 := f15
  rw [f4] at g0
  rw [show ((30 : Int)).toNat = 30 from rfl] at g0
  have h0 : (absC H1).1 < 0 ∨ (vwC H0).1 (absC H1).1 = 44 := by
    rcases b0 with q | q
    · exact .inl q
    · right
      rw [q]
      omega
  have gb := ga
  obtain ⟨_, x0, xn, ya⟩ := gb
  have rf := f11
  rw [f4] at rf
  rw [show ((30 : Int)).toNat = 30 from rfl] at rf
  have ap := absC_pos ga.1 (by omega)
  have h5 : (vwC H0).1 (absC H1).1 = 44 := h0.resolve_left (by omega)
  have u := xn (by omega)
  have w := ga.1.2.2.2.1.2.1
  have z2 := f22
  unfold w32 at z2
  have g5 := Option.some.inj f6.2.2
  unfold mub_89v_4 at g5
  unfold Ab_89v_4 mub_89v_4
  refine ⟨⟨c0.1, by omega, fun hf => ?_, ?_⟩, fun q hq => ?_⟩
  · have a2 := absC_pos c0.1 hf
    have a3 := ptk_next (c := 44) (p := absC H1) pz.2.1 (by rw [← a0]; exact a2.2)
    rw [← a0] at a3
    omega
  · rw [← ya, show (502 - (absC H0).1).toNat - (n0).toNat = ((502 - (absC H0).1).toNat - (n10).toNat) + 1 by omega, pNots_step h5, a0]
  · have g6 := Option.some.inj hq
    subst g6
    omega
theorem c_89v_4_5 {q0 : Nat} : vOkm T0 (eP e_89v L_89v A_89v mu_89v (some q0)) 1 ([(10, [10, 3], [], 1), (0, [9], [], 1), (30, [2], [], 0), (1066, [1, 8], [1, 2], 0), (0, [8], [], 44), (40, [6, 7], [], 0), (0, [7], [], 44), (20, [6, 1], [1], 2), (90, [6], [], -2147483648), (91, [6], [], 2147483647), (30, [5], [], 0), (20, [5, 1], [1], 3), (90, [5], [], -2147483648), (91, [5], [], 2147483647), (45, [3, 4], [], 0), (0, [4], [], 500), (5000, [0, 1, 2, 3], [0, 1], 4), (0, [0], [], 30), (0, [1], [], 30), (90, [2], [], 0), (91, [2], [], 1), (90, [3], [], -2147483648), (91, [3], [], 2147483647)], (4000, [1, 9, 10], [2], 4)) := vOk_in fun ρ η h => by
  obtain ⟨f0, f1, f2, f3, f4, f5, f6, f7, f8, f9, f10, f11, f12, f13, f14, f15, f16, f17, f18, f19, f20, f21, f22, _⟩ := h
  exact q_89v_6 (q0 := q0) (n0 := ρ 3) (n1 := ρ 2) (n2 := ρ 1) (n3 := ρ 0) (n4 := ρ 4) (n5 := ρ 5) (n6 := ρ 6) (n7 := ρ 7) (n8 := ρ 8) (n9 := ρ 9) (n10 := ρ 10) (H0 := η 0) (H1 := η 1) (H2 := η 2) f22 f21 f20 f19 f18 f17 f16 f15 f14 f13 f12 f11 f10 f9 f8 f7 f6 f5 f4 f3 f2 f1 f0
def p_89v_4 : List vG := [([(44, [3, 4], [], 0), (0, [4], [], 500), (5000, [0, 1, 2, 3], [0, 1], 4), (0, [0], [], 30), (0, [1], [], 30), (90, [2], [], 0), (91, [2], [], 1), (90, [3], [], -2147483648), (91, [3], [], 2147483647)], (3000, [2], [1], 50)),
  ([(31, [5], [], 0), (20, [5, 1], [1], 3), (90, [5], [], -2147483648), (91, [5], [], 2147483647), (45, [3, 4], [], 0), (0, [4], [], 500), (5000, [0, 1, 2, 3], [0, 1], 4), (0, [0], [], 30), (0, [1], [], 30), (90, [2], [], 0), (91, [2], [], 1), (90, [3], [], -2147483648), (91, [3], [], 2147483647)], (3000, [2], [1], 50)),
  ([(41, [6, 7], [], 0), (0, [7], [], 44), (20, [6, 1], [1], 2), (90, [6], [], -2147483648), (91, [6], [], 2147483647), (30, [5], [], 0), (20, [5, 1], [1], 3), (90, [5], [], -2147483648), (91, [5], [], 2147483647), (45, [3, 4], [], 0), (0, [4], [], 500), (5000, [0, 1, 2, 3], [0, 1], 4), (0, [0], [], 30), (0, [1], [], 30), (90, [2], [], 0), (91, [2], [], 1), (90, [3], [], -2147483648), (91, [3], [], 2147483647)], (3000, [2], [1], 50)),
  ([(0, [8], [], 44), (40, [6, 7], [], 0), (0, [7], [], 44), (20, [6, 1], [1], 2), (90, [6], [], -2147483648), (91, [6], [], 2147483647), (30, [5], [], 0), (20, [5, 1], [1], 3), (90, [5], [], -2147483648), (91, [5], [], 2147483647), (45, [3, 4], [], 0), (0, [4], [], 500), (5000, [0, 1, 2, 3], [0, 1], 4), (0, [0], [], 30), (0, [1], [], 30), (90, [2], [], 0), (91, [2], [], 1), (90, [3], [], -2147483648), (91, [3], [], 2147483647)], (2066, [1, 8], [1], 0)),
  ([(10, [10, 3], [], 1), (0, [9], [], 0), (31, [2], [], 0), (1066, [1, 8], [1, 2], 0), (0, [8], [], 44), (40, [6, 7], [], 0), (0, [7], [], 44), (20, [6, 1], [1], 2), (90, [6], [], -2147483648), (91, [6], [], 2147483647), (30, [5], [], 0), (20, [5, 1], [1], 3), (90, [5], [], -2147483648), (91, [5], [], 2147483647), (45, [3, 4], [], 0), (0, [4], [], 500), (5000, [0, 1, 2, 3], [0, 1], 4), (0, [0], [], 30), (0, [1], [], 30), (90, [2], [], 0), (91, [2], [], 1), (90, [3], [], -2147483648), (91, [3], [], 2147483647)], (4000, [1, 9, 10], [2], 4)),
  ([(10, [10, 3], [], 1), (0, [9], [], 1), (30, [2], [], 0), (1066, [1, 8], [1, 2], 0), (0, [8], [], 44), (40, [6, 7], [], 0), (0, [7], [], 44), (20, [6, 1], [1], 2), (90, [6], [], -2147483648), (91, [6], [], 2147483647), (30, [5], [], 0), (20, [5, 1], [1], 3), (90, [5], [], -2147483648), (91, [5], [], 2147483647), (45, [3, 4], [], 0), (0, [4], [], 500), (5000, [0, 1, 2, 3], [0, 1], 4), (0, [0], [], 30), (0, [1], [], 30), (90, [2], [], 0), (91, [2], [], 1), (90, [3], [], -2147483648), (91, [3], [], 2147483647)], (4000, [1, 9, 10], [2], 4))]
theorem r_89v_4 : vCovO false (eRc e_89v L_89v cs_89v 2000 (4, [(0, (3, 4, 30, 0)), (1, (0, 0, 1, 0)), (2, (0, -2147483648, 2147483647, 0))])) p_89v_4 = true := by decide +kernel
theorem m_89v (d : Nat) : eC e_89v (d + 3) := eC_ok (e := e_89v) (L := L_89v) (cs := cs_89v) (n := 2000) (d := d + 2) (A := A_89v) (μ := mu_89v) (tp := false) (p0 := p_89v_s) rfl ⟨m_66v d, trivial⟩ rfl (.inl rfl) (by decide +kernel) (fun z => nomatch z) r_89v_s (allC c_89v_s_0 allN) (allC (.inl ⟨p_89v_4, r_89v_4, fun q0 => (allC c_89v_4_0 (allC c_89v_4_1 (allC c_89v_4_2 (allC c_89v_4_3 (allC c_89v_4_4 (allC c_89v_4_5 allN))))))⟩) allN)
