/- Reader.readRules ()V -/
noncomputable def s_84v : vM := ([(3, 4, 30, 0)], (9, 0, 0, 0), 1, 0, [(4, 1), (4, 2), (4, 3), (4, 4), (4, 5), (4, 6), (4, 15), (5, 0), (5, 2), (100, 0), (740, 0)])
def preb_84v (a0 : Int) (h : gH) : Prop := KI h ∧ DR h
def pre_84v : List Int → gH → Prop := fun xs h => match xs with
  | [a0] => preb_84v a0 h
  | _ => False
def postb_84v (a0 : Int) (h0 h : gH) : Prop := KI h ∧ absC h = pRules (vwC h0) (absC h0)
def post_84v : List Int → gH → gH → Prop := fun xs h0 h => match xs with
  | [a0] => postb_84v a0 h0 h
  | _ => True
noncomputable def e_84v : vE := (84, s_84v, pre_84v, post_84v)
noncomputable def L_84v : List vE := [e_64v, e_66v, e_85v, e_86v, e_87v, e_97v]
def cs_84v : List vC := [(15, [(0, (3, 4, 30, 0)), (1, (0, -2147483648, 2147483647, 0))])]
def Ab_84v_15 (a0 x0 x1 : Int) (h0 h : gH) : Prop := KI h ∧ DR h ∧ 0 ≤ x1 ∧ x1 ≤ 13 ∧ 0 ≤ RC h ∧ RC h ≤ 12 ∧ (hV h 30 3 = 0 → RC h = x1) ∧ pRs (vwC h0) (12 - (x1).toNat) (absC h) = pRs (vwC h0) 12 (ptk (vwC h0) 19 (absC h0))
def mub_84v_15 (a0 x0 x1 : Int) (h0 h : gH) : Nat := (14 - x1).toNat
def A_84v : Int → List Int → gH → gH → Prop := fun c xs h0 h => match c.toNat with
  | 15 => (match xs with
    | [a0, x0, x1] => Ab_84v_15 a0 x0 x1 h0 h
    | _ => False)
  | _ => True
def mu_84v : Int → List Int → gH → gH → Nat := fun c xs h0 h => match c.toNat with
  | 15 => (match xs with
    | [a0, x0, x1] => mub_84v_15 a0 x0 x1 h0 h
    | _ => 0)
  | _ => 0
theorem q_84v_0 {n0 n1 : Int} {H0 : gH} (f0 : n0 = 30) (f1 : hWt T0 H0 ∧ preb_84v n0 H0) (f2 : 0 ≤ n1) (f3 : n1 = hV H0 (n0).toNat 8) : preb_97v n1 H0 := by
  have pz := f1.2
  unfold preb_84v at pz
  have r8 := f3
  rw [f0] at r8
  rw [show ((30 : Int)).toNat = 30 from rfl] at r8
  unfold preb_97v
  rw [r8]
  exact ⟨pz.2.2, pz.2.1⟩
theorem c_84v_s_0 : vOkm T0 (eP e_84v L_84v A_84v mu_84v none) 1 ([(20, [1, 0], [0], 8), (51, [1], [], 0), (6000, [0], [0], 0), (0, [0], [], 30)], (2097, [1], [0], 0)) := vOk_in fun ρ η h => by
  obtain ⟨f0, f1, f2, f3, _⟩ := h
  exact q_84v_0 (n0 := ρ 0) (n1 := ρ 1) (H0 := η 0) f3 f2 f1 f0
theorem q_84v_1 {n0 n1 n2 : Int} {H0 H1 : gH} (f0 : n0 = 30) (f1 : hWt T0 H0 ∧ preb_84v n0 H0) (f2 : 0 ≤ n1) (f3 : n1 = hV H0 (n0).toNat 8) (f4 : (hLe T0 H0 H1 ∧ hFr s_97v.2.2.2.2 H0 H1 ∧ ((0 : Int) = 0 → H1.length = H0.length) ∧ hWt T0 H1) ∧ postb_97v n1 H0 H1) (f5 : n2 = 19) : preb_66v n0 n2 H1 := by
  have pz := f1.2
  unfold preb_84v at pz
  have s0 := PF_fr f4.1.1 f4.1.2.1 (by decide +kernel) pz.1
  have a0 : absC H1 = (absC H0) := s0.1
  have v0 : vwC H1 = vwC H0 := s0.2.1
  unfold preb_66v
  exact ⟨s0.2.2, by omega⟩
theorem c_84v_s_1 : vOkm T0 (eP e_84v L_84v A_84v mu_84v none) 1 ([(0, [2], [], 19), (1097, [1], [0, 1], 0), (20, [1, 0], [0], 8), (51, [1], [], 0), (6000, [0], [0], 0), (0, [0], [], 30)], (2066, [0, 2], [1], 0)) := vOk_in fun ρ η h => by
  obtain ⟨f0, f1, f2, f3, f4, f5, _⟩ := h
  exact q_84v_1 (n0 := ρ 0) (n1 := ρ 1) (n2 := ρ 2) (H0 := η 0) (H1 := η 1) f5 f4 f3 f2 f1 f0
theorem q_84v_2 {n0 n1 n2 n3 : Int} {H0 H1 H2 : gH} (f0 : n0 = 30) (f1 : hWt T0 H0 ∧ preb_84v n0 H0) (f2 : 0 ≤ n1) (f3 : n1 = hV H0 (n0).toNat 8) (f4 : (hLe T0 H0 H1 ∧ hFr s_97v.2.2.2.2 H0 H1 ∧ ((0 : Int) = 0 → H1.length = H0.length) ∧ hWt T0 H1) ∧ postb_97v n1 H0 H1) (f5 : n2 = 19) (f6 : (hLe T0 H1 H2 ∧ hFr s_66v.2.2.2.2 H1 H2 ∧ ((0 : Int) = 0 → H2.length = H1.length) ∧ hWt T0 H2) ∧ postb_66v n0 n2 H1 H2) (f7 : n3 = 0) : Ab_84v_15 n0 n0 n3 H0 H2 ∧ ∀ q, none = some q → mub_84v_15 n0 n0 n3 H0 H2 < q := by
  have pz := f1.2
  unfold preb_84v at pz
  have s0 := PF_fr f4.1.1 f4.1.2.1 (by decide +kernel) pz.1
  have a0 : absC H1 = (absC H0) := s0.1
  have v0 : vwC H1 = vwC H0 := s0.2.1
  have c1 := f6.2
  unfold postb_66v at c1
  try rw [f5] at c1
  rw [v0] at c1
  rw [a0] at c1
  have a1 : absC H2 = (ptk (vwC H0) 19 (absC H0)) := c1.2
  have v1 : vwC H2 = vwC H0 := (vwC_fr f6.1.2.1 (by decide +kernel)).trans v0
  have dr0 := DR_fr f4.1.1 f4.1.2.1 (by decide +kernel) pz.2
  have r80 := f3
  rw [f0] at r80
  rw [show ((30 : Int)).toNat = 30 from rfl] at r80
  have pe0 := f4.2
  unfold postb_97v at pe0
  rw [r80] at pe0
  have rc0 : RC H1 = 0 := by
    unfold RC
    rw [dr0.2, pe0]
  have dr1 := DR_fr f6.1.1 f6.1.2.1 (by decide +kernel) dr0.1
  have rc1 : RC H2 = 0 := (RC_fr f6.1.2.1 (by decide +kernel) dr0.1).trans rc0
  unfold Ab_84v_15
  refine ⟨⟨c1.1, dr1.1, by omega, by omega, by omega, by omega, fun _ => by omega, ?_⟩, fun q hq => nomatch hq⟩
  rw [show (n3).toNat = 0 by omega, a1]
theorem c_84v_s_2 : vOkm T0 (eP e_84v L_84v A_84v mu_84v none) 1 ([(0, [3], [], 0), (1066, [0, 2], [1, 2], 0), (0, [2], [], 19), (1097, [1], [0, 1], 0), (20, [1, 0], [0], 8), (51, [1], [], 0), (6000, [0], [0], 0), (0, [0], [], 30)], (4000, [0, 3], [2], 15)) := vOk_in fun ρ η h => by
  obtain ⟨f0, f1, f2, f3, f4, f5, f6, f7, _⟩ := h
  exact q_84v_2 (n0 := ρ 0) (n1 := ρ 1) (n2 := ρ 2) (n3 := ρ 3) (H0 := η 0) (H1 := η 1) (H2 := η 2) f7 f6 f5 f4 f3 f2 f1 f0
def p_84v_s : List vG := [([(20, [1, 0], [0], 8), (51, [1], [], 0), (6000, [0], [0], 0), (0, [0], [], 30)], (2097, [1], [0], 0)),
  ([(0, [2], [], 19), (1097, [1], [0, 1], 0), (20, [1, 0], [0], 8), (51, [1], [], 0), (6000, [0], [0], 0), (0, [0], [], 30)], (2066, [0, 2], [1], 0)),
  ([(0, [3], [], 0), (1066, [0, 2], [1, 2], 0), (0, [2], [], 19), (1097, [1], [0, 1], 0), (20, [1, 0], [0], 8), (51, [1], [], 0), (6000, [0], [0], 0), (0, [0], [], 30)], (4000, [0, 3], [2], 15))]
theorem r_84v_s : vCovO false (eR0 e_84v L_84v cs_84v 2000) p_84v_s = true := by decide +kernel
theorem q_84v_3 {q0 : Nat} {n0 n1 n2 n3 n4 : Int} {H0 H1 : gH} (f0 : n0 ≤ 2147483647) (f1 : (-2147483648) ≤ n0) (f2 : n1 = 30) (f3 : n2 = 30) (f4 : (hLe T0 H0 H1 ∧ hFr s_84v.2.2.2.2 H0 H1 ∧ hWt T0 H1) ∧ (Ab_84v_15 n2 n1 n0 H0 H1 ∧ preb_84v n2 H0) ∧ some q0 = some (mub_84v_15 n2 n1 n0 H0 H1)) (f5 : n3 = 12) (f6 : n3 < n0) (f7 : n4 = 17) : preb_66v n1 n4 H1 := by
  have pz := f4.2.1.2
  unfold preb_84v at pz
  have ga := f4.2.1.1
  unfold Ab_84v_15 at ga
  have vz : vwC H1 = vwC H0 := vwC_fr f4.1.2.1 (by decide +kernel)
  have gb := ga
  obtain ⟨kz, dz, x10, x113, rc0, rc12, xr, ya⟩ := gb
  unfold preb_66v
  exact ⟨ga.1, by omega⟩
theorem c_84v_15_0 {q0 : Nat} : vOkm T0 (eP e_84v L_84v A_84v mu_84v (some q0)) 1 ([(0, [4], [], 17), (44, [2, 3], [], 0), (0, [3], [], 12), (5000, [0, 1, 2], [0, 1], 15), (0, [0], [], 30), (0, [1], [], 30), (90, [2], [], -2147483648), (91, [2], [], 2147483647)], (2066, [1, 4], [1], 0)) := vOk_in fun ρ η h => by
  obtain ⟨f0, f1, f2, f3, f4, f5, f6, f7, _⟩ := h
  exact q_84v_3 (q0 := q0) (n0 := ρ 2) (n1 := ρ 1) (n2 := ρ 0) (n3 := ρ 3) (n4 := ρ 4) (H0 := η 0) (H1 := η 1) f7 f6 f5 f4 f3 f2 f1 f0
theorem q_84v_4 {q0 : Nat} {n0 n1 n2 n3 n4 : Int} {H0 H1 H2 : gH} (f0 : n0 ≤ 2147483647) (f1 : (-2147483648) ≤ n0) (f2 : n1 = 30) (f3 : n2 = 30) (f4 : (hLe T0 H0 H1 ∧ hFr s_84v.2.2.2.2 H0 H1 ∧ hWt T0 H1) ∧ (Ab_84v_15 n2 n1 n0 H0 H1 ∧ preb_84v n2 H0) ∧ some q0 = some (mub_84v_15 n2 n1 n0 H0 H1)) (f5 : n3 = 12) (f6 : n3 < n0) (f7 : n4 = 17) (f8 : (hLe T0 H1 H2 ∧ hFr s_66v.2.2.2.2 H1 H2 ∧ ((0 : Int) = 0 → H2.length = H1.length) ∧ hWt T0 H2) ∧ postb_66v n1 n4 H1 H2) : postb_84v n2 H0 H2 := by
  have pz := f4.2.1.2
  unfold preb_84v at pz
  have ga := f4.2.1.1
  unfold Ab_84v_15 at ga
  have vz : vwC H1 = vwC H0 := vwC_fr f4.1.2.1 (by decide +kernel)
  have c0 := f8.2
  unfold postb_66v at c0
  try rw [f7] at c0
  rw [vz] at c0
  have a0 : absC H2 = (ptk (vwC H0) 17 (absC H1)) := c0.2
  have v0 : vwC H2 = vwC H0 := (vwC_fr f8.1.2.1 (by decide +kernel)).trans vz
  have gb := ga
  obtain ⟨kz, dz, x10, x113, rc0, rc12, xr, ya⟩ := gb
  have dr0 := DR_fr f8.1.1 f8.1.2.1 (by decide +kernel) dz
  have rc0 : RC H2 = RC H1 := (RC_fr f8.1.2.1 (by decide +kernel) dz).trans (rfl : RC H1 = RC H1)
  unfold postb_84v pRules
  refine ⟨c0.1, ?_⟩
  rw [a0, ← ya]
  congr 1
  exact (pRs_neg (vwC_ok H0) (absC_neg kz (fun w => by have := xr w; omega))).symm
theorem c_84v_15_1 {q0 : Nat} : vOkm T0 (eP e_84v L_84v A_84v mu_84v (some q0)) 1 ([(1066, [1, 4], [1, 2], 0), (0, [4], [], 17), (44, [2, 3], [], 0), (0, [3], [], 12), (5000, [0, 1, 2], [0, 1], 15), (0, [0], [], 30), (0, [1], [], 30), (90, [2], [], -2147483648), (91, [2], [], 2147483647)], (3000, [], [2], 95)) := vOk_in fun ρ η h => by
  obtain ⟨f0, f1, f2, f3, f4, f5, f6, f7, f8, _⟩ := h
  exact q_84v_4 (q0 := q0) (n0 := ρ 2) (n1 := ρ 1) (n2 := ρ 0) (n3 := ρ 3) (n4 := ρ 4) (H0 := η 0) (H1 := η 1) (H2 := η 2) f8 f7 f6 f5 f4 f3 f2 f1 f0
theorem q_84v_5 {q0 : Nat} {n0 n1 n2 n3 n4 n5 : Int} {H0 H1 : gH} (f0 : n0 ≤ 2147483647) (f1 : (-2147483648) ≤ n0) (f2 : n1 = 30) (f3 : n2 = 30) (f4 : (hLe T0 H0 H1 ∧ hFr s_84v.2.2.2.2 H0 H1 ∧ hWt T0 H1) ∧ (Ab_84v_15 n2 n1 n0 H0 H1 ∧ preb_84v n2 H0) ∧ some q0 = some (mub_84v_15 n2 n1 n0 H0 H1)) (f5 : n3 = 12) (f6 : n0 ≤ n3) (f7 : n4 ≤ 2147483647) (f8 : (-2147483648) ≤ n4) (f9 : n4 = hV H1 (n1).toNat 3) (f10 : n4 ≠ 0) (f11 : n5 = 17) : preb_66v n1 n5 H1 := by
  have pz := f4.2.1.2
  unfold preb_84v at pz
  have ga := f4.2.1.1
  unfold Ab_84v_15 at ga
  have vz : vwC H1 = vwC H0 := vwC_fr f4.1.2.1 (by decide +kernel)
  have gb := ga
  obtain ⟨kz, dz, x10, x113, rc0, rc12, xr, ya⟩ := gb
  have r3 := f9
  rw [f2] at r3
  rw [show ((30 : Int)).toNat = 30 from rfl] at r3
  unfold preb_66v
  exact ⟨ga.1, by omega⟩
theorem c_84v_15_2 {q0 : Nat} : vOkm T0 (eP e_84v L_84v A_84v mu_84v (some q0)) 1 ([(0, [5], [], 17), (31, [4], [], 0), (20, [4, 1], [1], 3), (90, [4], [], -2147483648), (91, [4], [], 2147483647), (45, [2, 3], [], 0), (0, [3], [], 12), (5000, [0, 1, 2], [0, 1], 15), (0, [0], [], 30), (0, [1], [], 30), (90, [2], [], -2147483648), (91, [2], [], 2147483647)], (2066, [1, 5], [1], 0)) := vOk_in fun ρ η h => by
  obtain ⟨f0, f1, f2, f3, f4, f5, f6, f7, f8, f9, f10, f11, _⟩ := h
  exact q_84v_5 (q0 := q0) (n0 := ρ 2) (n1 := ρ 1) (n2 := ρ 0) (n3 := ρ 3) (n4 := ρ 4) (n5 := ρ 5) (H0 := η 0) (H1 := η 1) f11 f10 f9 f8 f7 f6 f5 f4 f3 f2 f1 f0
theorem q_84v_6 {q0 : Nat} {n0 n1 n2 n3 n4 n5 : Int} {H0 H1 H2 : gH} (f0 : n0 ≤ 2147483647) (f1 : (-2147483648) ≤ n0) (f2 : n1 = 30) (f3 : n2 = 30) (f4 : (hLe T0 H0 H1 ∧ hFr s_84v.2.2.2.2 H0 H1 ∧ hWt T0 H1) ∧ (Ab_84v_15 n2 n1 n0 H0 H1 ∧ preb_84v n2 H0) ∧ some q0 = some (mub_84v_15 n2 n1 n0 H0 H1)) (f5 : n3 = 12) (f6 : n0 ≤ n3) (f7 : n4 ≤ 2147483647) (f8 : (-2147483648) ≤ n4) (f9 : n4 = hV H1 (n1).toNat 3) (f10 : n4 ≠ 0) (f11 : n5 = 17) (f12 : (hLe T0 H1 H2 ∧ hFr s_66v.2.2.2.2 H1 H2 ∧ ((0 : Int) = 0 → H2.length = H1.length) ∧ hWt T0 H2) ∧ postb_66v n1 n5 H1 H2) : postb_84v n2 H0 H2 := by
  have pz := f4.2.1.2
  unfold preb_84v at pz
  have ga := f4.2.1.1
  unfold Ab_84v_15 at ga
  have vz : vwC H1 = vwC H0 := vwC_fr f4.1.2.1 (by decide +kernel)
  have c0 := f12.2
  unfold postb_66v at c0
  try rw [f11] at c0
  rw [vz] at c0
  have a0 : absC H2 = (ptk (vwC H0) 17 (absC H1)) := c0.2
  have v0 : vwC H2 = vwC H0 := (vwC_fr f12.1.2.1 (by decide +kernel)).trans vz
  have gb := ga
  obtain ⟨kz, dz, x10, x113, rc0, rc12, xr, ya⟩ := gb
  have dr0 := DR_fr f12.1.1 f12.1.2.1 (by decide +kernel) dz
  have rc0 : RC H2 = RC H1 := (RC_fr f12.1.2.1 (by decide +kernel) dz).trans (rfl : RC H1 = RC H1)
  have r3 := f9
  rw [f2] at r3
  rw [show ((30 : Int)).toNat = 30 from rfl] at r3
  unfold postb_84v pRules
  refine ⟨c0.1, ?_⟩
  rw [a0, ← ya]
  congr 1
  exact (pRs_neg (vwC_ok H0) (absC_neg kz (by omega))).symm
theorem c_84v_15_3 {q0 : Nat} : vOkm T0 (eP e_84v L_84v A_84v mu_84v (some q0)) 1 ([(1066, [1, 5], [1, 2], 0), (0, [5], [], 17), (31, [4], [], 0), (20, [4, 1], [1], 3), (90, [4], [], -2147483648), (91, [4], [], 2147483647), (45, [2, 3], [], 0), (0, [3], [], 12), (5000, [0, 1, 2], [0, 1], 15), (0, [0], [], 30), (0, [1], [], 30), (90, [2], [], -2147483648), (91, [2], [], 2147483647)], (3000, [], [2], 95)) := vOk_in fun ρ η h => by
  obtain ⟨f0, f1, f2, f3, f4, f5, f6, f7, f8, f9, f10, f11, f12, _⟩ := h
  exact q_84v_6 (q0 := q0) (n0 := ρ 2) (n1 := ρ 1) (n2 := ρ 0) (n3 := ρ 3) (n4 := ρ 4) (n5 := ρ 5) (H0 := η 0) (H1 := η 1) (H2 := η 2) f12 f11 f10 f9 f8 f7 f6 f5 f4 f3 f2 f1 f0
theorem q_84v_7 {q0 : Nat} {n0 n1 n2 n3 n4 n5 n6 n7 : Int} {H0 H1 H2 : gH} (f0 : n0 ≤ 2147483647) (f1 : (-2147483648) ≤ n0) (f2 : n1 = 30) (f3 : n2 = 30) (f4 : (hLe T0 H0 H1 ∧ hFr s_84v.2.2.2.2 H0 H1 ∧ hWt T0 H1) ∧ (Ab_84v_15 n2 n1 n0 H0 H1 ∧ preb_84v n2 H0) ∧ some q0 = some (mub_84v_15 n2 n1 n0 H0 H1)) (f5 : n3 = 12) (f6 : n0 ≤ n3) (f7 : n4 ≤ 2147483647) (f8 : (-2147483648) ≤ n4) (f9 : n4 = hV H1 (n1).toNat 3) (f10 : n4 = 0) (f11 : n5 ≤ 2147483647) (f12 : (-2147483648) ≤ n5) (f13 : n5 = hV H1 (n1).toNat 2) (f14 : n6 ≤ 1) (f15 : 0 ≤ n6) (f16 : (hLe T0 H1 H2 ∧ hFr s_85v.2.2.2.2 H1 H2 ∧ ((0 : Int) = 0 → H2.length = H1.length) ∧ hWt T0 H2) ∧ postb_85v n6 n5 H1 H2) (f17 : n6 = 0) (f18 : n7 = 17) : preb_66v n1 n7 H2 := by
  have pz := f4.2.1.2
  unfold preb_84v at pz
  have ga := f4.2.1.1
  unfold Ab_84v_15 at ga
  have vz : vwC H1 = vwC H0 := vwC_fr f4.1.2.1 (by decide +kernel)
  have s0 := PF_fr f16.1.1 f16.1.2.1 (by decide +kernel) ga.1
  have a0 : absC H2 = (absC H1) := s0.1
  have v0 : vwC H2 = vwC H0 := s0.2.1.trans vz
  have gb := ga
  obtain ⟨kz, dz, x10, x113, rc0, rc12, xr, ya⟩ := gb
  have dr0 := DR_fr f16.1.1 f16.1.2.1 (by decide +kernel) dz
  have rc0 : RC H2 = RC H1 := (RC_fr f16.1.2.1 (by decide +kernel) dz).trans (rfl : RC H1 = RC H1)
  have r3 := f9
  rw [f2] at r3
  rw [show ((30 : Int)).toNat = 30 from rfl] at r3
  have r2_0 := f13
  rw [f2] at r2_0
  rw [show ((30 : Int)).toNat = 30 from rfl] at r2_0
  have pc := f16.2
  unfold postb_85v at pc
  unfold preb_66v
  exact ⟨s0.2.2, by omega⟩
theorem c_84v_15_4 {q0 : Nat} : vOkm T0 (eP e_84v L_84v A_84v mu_84v (some q0)) 1 ([(0, [7], [], 17), (30, [6], [], 0), (1085, [6, 5], [1, 2], 0), (90, [6], [], 0), (91, [6], [], 1), (20, [5, 1], [1], 2), (90, [5], [], -2147483648), (91, [5], [], 2147483647), (30, [4], [], 0), (20, [4, 1], [1], 3), (90, [4], [], -2147483648), (91, [4], [], 2147483647), (45, [2, 3], [], 0), (0, [3], [], 12), (5000, [0, 1, 2], [0, 1], 15), (0, [0], [], 30), (0, [1], [], 30), (90, [2], [], -2147483648), (91, [2], [], 2147483647)], (2066, [1, 7], [2], 0)) := vOk_in fun ρ η h => by
  obtain ⟨f0, f1, f2, f3, f4, f5, f6, f7, f8, f9, f10, f11, f12, f13, f14, f15, f16, f17, f18, _⟩ := h
  exact q_84v_7 (q0 := q0) (n0 := ρ 2) (n1 := ρ 1) (n2 := ρ 0) (n3 := ρ 3) (n4 := ρ 4) (n5 := ρ 5) (n6 := ρ 6) (n7 := ρ 7) (H0 := η 0) (H1 := η 1) (H2 := η 2) f18 f17 f16 f15 f14 f13 f12 f11 f10 f9 f8 f7 f6 f5 f4 f3 f2 f1 f0
theorem q_84v_8 {q0 : Nat} {n0 n1 n2 n3 n4 n5 n6 n7 : Int} {H0 H1 H2 H3 : gH} (f0 : n0 ≤ 2147483647) (f1 : (-2147483648) ≤ n0) (f2 : n1 = 30) (f3 : n2 = 30) (f4 : (hLe T0 H0 H1 ∧ hFr s_84v.2.2.2.2 H0 H1 ∧ hWt T0 H1) ∧ (Ab_84v_15 n2 n1 n0 H0 H1 ∧ preb_84v n2 H0) ∧ some q0 = some (mub_84v_15 n2 n1 n0 H0 H1)) (f5 : n3 = 12) (f6 : n0 ≤ n3) (f7 : n4 ≤ 2147483647) (f8 : (-2147483648) ≤ n4) (f9 : n4 = hV H1 (n1).toNat 3) (f10 : n4 = 0) (f11 : n5 ≤ 2147483647) (f12 : (-2147483648) ≤ n5) (f13 : n5 = hV H1 (n1).toNat 2) (f14 : n6 ≤ 1) (f15 : 0 ≤ n6) (f16 : (hLe T0 H1 H2 ∧ hFr s_85v.2.2.2.2 H1 H2 ∧ ((0 : Int) = 0 → H2.length = H1.length) ∧ hWt T0 H2) ∧ postb_85v n6 n5 H1 H2) (f17 : n6 = 0) (f18 : n7 = 17) (f19 : (hLe T0 H2 H3 ∧ hFr s_66v.2.2.2.2 H2 H3 ∧ ((0 : Int) = 0 → H3.length = H2.length) ∧ hWt T0 H3) ∧ postb_66v n1 n7 H2 H3) : postb_84v n2 H0 H3 := by
  have pz := f4.2.1.2
  unfold preb_84v at pz
  have ga := f4.2.1.1
  unfold Ab_84v_15 at ga
  have vz : vwC H1 = vwC H0 := vwC_fr f4.1.2.1 (by decide +kernel)
  have s0 := PF_fr f16.1.1 f16.1.2.1 (by decide +kernel) ga.1
  have a0 : absC H2 = (absC H1) := s0.1
  have v0 : vwC H2 = vwC H0 := s0.2.1.trans vz
  have c1 := f19.2
  unfold postb_66v at c1
  try rw [f18] at c1
  rw [v0] at c1
  rw [a0] at c1
  have a1 : absC H3 = (ptk (vwC H0) 17 (absC H1)) := c1.2
  have v1 : vwC H3 = vwC H0 := (vwC_fr f19.1.2.1 (by decide +kernel)).trans v0
  have gb := ga
  obtain ⟨kz, dz, x10, x113, rc0, rc12, xr, ya⟩ := gb
  have dr0 := DR_fr f16.1.1 f16.1.2.1 (by decide +kernel) dz
  have rc0 : RC H2 = RC H1 := (RC_fr f16.1.2.1 (by decide +kernel) dz).trans (rfl : RC H1 = RC H1)
  have dr1 := DR_fr f19.1.1 f19.1.2.1 (by decide +kernel) dr0.1
  have rc1 : RC H3 = RC H1 := (RC_fr f19.1.2.1 (by decide +kernel) dr0.1).trans rc0
  have r3 := f9
  rw [f2] at r3
  rw [show ((30 : Int)).toNat = 30 from rfl] at r3
  have r2_0 := f13
  rw [f2] at r2_0
  rw [show ((30 : Int)).toNat = 30 from rfl] at r2_0
  have pc := f16.2
  unfold postb_85v at pc
  unfold postb_84v pRules
  refine ⟨c1.1, ?_⟩
  rw [a1, ← ya]
  congr 1
  have kd := kd_at kz
  rw [vz] at kd
  rcases kd with q | q
  · exact (pRs_neg (vwC_ok H0) q).symm
  · exact (pRs_stop (by rw [q]; omega)).symm
theorem c_84v_15_5 {q0 : Nat} : vOkm T0 (eP e_84v L_84v A_84v mu_84v (some q0)) 1 ([(1066, [1, 7], [2, 3], 0), (0, [7], [], 17), (30, [6], [], 0), (1085, [6, 5], [1, 2], 0), (90, [6], [], 0), (91, [6], [], 1), (20, [5, 1], [1], 2), (90, [5], [], -2147483648), (91, [5], [], 2147483647), (30, [4], [], 0), (20, [4, 1], [1], 3), (90, [4], [], -2147483648), (91, [4], [], 2147483647), (45, [2, 3], [], 0), (0, [3], [], 12), (5000, [0, 1, 2], [0, 1], 15), (0, [0], [], 30), (0, [1], [], 30), (90, [2], [], -2147483648), (91, [2], [], 2147483647)], (3000, [], [3], 95)) := vOk_in fun ρ η h => by
  obtain ⟨f0, f1, f2, f3, f4, f5, f6, f7, f8, f9, f10, f11, f12, f13, f14, f15, f16, f17, f18, f19, _⟩ := h
  exact q_84v_8 (q0 := q0) (n0 := ρ 2) (n1 := ρ 1) (n2 := ρ 0) (n3 := ρ 3) (n4 := ρ 4) (n5 := ρ 5) (n6 := ρ 6) (n7 := ρ 7) (H0 := η 0) (H1 := η 1) (H2 := η 2) (H3 := η 3) f19 f18 f17 f16 f15 f14 f13 f12 f11 f10 f9 f8 f7 f6 f5 f4 f3 f2 f1 f0
theorem q_84v_9 {q0 : Nat} {n0 n1 n2 n3 n4 n5 n6 n7 n8 n9 n10 n11 : Int} {H0 H1 H2 : gH} (f0 : n0 ≤ 2147483647) (f1 : (-2147483648) ≤ n0) (f2 : n1 = 30) (f3 : n2 = 30) (f4 : (hLe T0 H0 H1 ∧ hFr s_84v.2.2.2.2 H0 H1 ∧ hWt T0 H1) ∧ (Ab_84v_15 n2 n1 n0 H0 H1 ∧ preb_84v n2 H0) ∧ some q0 = some (mub_84v_15 n2 n1 n0 H0 H1)) (f5 : n3 = 12) (f6 : n0 ≤ n3) (f7 : n4 ≤ 2147483647) (f8 : (-2147483648) ≤ n4) (f9 : n4 = hV H1 (n1).toNat 3) (f10 : n4 = 0) (f11 : n5 ≤ 2147483647) (f12 : (-2147483648) ≤ n5) (f13 : n5 = hV H1 (n1).toNat 2) (f14 : n6 ≤ 1) (f15 : 0 ≤ n6) (f16 : (hLe T0 H1 H2 ∧ hFr s_85v.2.2.2.2 H1 H2 ∧ ((0 : Int) = 0 → H2.length = H1.length) ∧ hWt T0 H2) ∧ postb_85v n6 n5 H1 H2) (f17 : n6 ≠ 0) (f18 : 0 ≤ n7) (f19 : n7 = hV H2 (n1).toNat 8) (f20 : n8 ≤ 2147483647) (f21 : (-2147483648) ≤ n8) (f22 : hK H2 (n7).toNat = 5) (f23 : n8 = hV H2 (n7).toNat 0) (f24 : n9 = 12) (f25 : n8 < n9) (f26 : n10 ≤ 2147483647) (f27 : (-2147483648) ≤ n10) (f28 : n10 = hV H2 (n1).toNat 2) (f29 : n11 = 38) (f30 : n10 ≠ n11) : preb_86v n1 H2 := by
  have pz := f4.2.1.2
  unfold preb_84v at pz
  have ga := f4.2.1.1
  unfold Ab_84v_15 at ga
  have vz : vwC H1 = vwC H0 := vwC_fr f4.1.2.1 (by decide +kernel)
  have s0 := PF_fr f16.1.1 f16.1.2.1 (by decide +kernel) ga.1
  have a0 : absC H2 = (absC H1) := s0.1
  have v0 : vwC H2 = vwC H0 := s0.2.1.trans vz
  have b0 := kd_at s0.2.2
  rw [v0] at b0
  rw [a0] at b0
  have g0 := f28
  rw [f2] at g0
  rw [show ((30 : Int)).toNat = 30 from rfl] at g0
  have h0 : (absC H1).1 < 0 ∨ ¬ (vwC H0).1 (absC H1).1 = 38 := by
    rcases b0 with q | q
    · exact .inl q
    · right
      rw [q]
      omega
  have gb := ga
  obtain ⟨kz, dz, x10, x113, rc0, rc12, xr, ya⟩ := gb
  have dr0 := DR_fr f16.1.1 f16.1.2.1 (by decide +kernel) dz
  have rc0 : RC H2 = RC H1 := (RC_fr f16.1.2.1 (by decide +kernel) dz).trans (rfl : RC H1 = RC H1)
  have r3 := f9
  rw [f2] at r3
  rw [show ((30 : Int)).toNat = 30 from rfl] at r3
  have r2_0 := f13
  rw [f2] at r2_0
  rw [show ((30 : Int)).toNat = 30 from rfl] at r2_0
  have r2_1 := f28
  rw [f2] at r2_1
  rw [show ((30 : Int)).toNat = 30 from rfl] at r2_1
  have t2_1 : hV H2 30 2 = hV H1 30 2 := f16.1.2.1.1 30 2 (by decide +kernel)
  have pc := f16.2
  unfold postb_85v at pc
  have r8 := f19
  rw [f2] at r8
  rw [show ((30 : Int)).toNat = 30 from rfl] at r8
  have ec : n8 = RC H2 := by
    unfold RC
    rw [← r8]
    exact f23
  have ec2 := rc0
  unfold preb_86v
  exact ⟨s0.2.2, dr0.1, by omega, by omega⟩
theorem c_84v_15_6 {q0 : Nat} : vOkm T0 (eP e_84v L_84v A_84v mu_84v (some q0)) 1 ([(41, [10, 11], [], 0), (0, [11], [], 38), (20, [10, 1], [2], 2), (90, [10], [], -2147483648), (91, [10], [], 2147483647), (42, [8, 9], [], 0), (0, [9], [], 12), (20, [8, 7], [2], 0), (23, [7], [2], 5), (90, [8], [], -2147483648), (91, [8], [], 2147483647), (20, [7, 1], [2], 8), (51, [7], [], 0), (31, [6], [], 0), (1085, [6, 5], [1, 2], 0), (90, [6], [], 0), (91, [6], [], 1), (20, [5, 1], [1], 2), (90, [5], [], -2147483648), (91, [5], [], 2147483647), (30, [4], [], 0), (20, [4, 1], [1], 3), (90, [4], [], -2147483648), (91, [4], [], 2147483647), (45, [2, 3], [], 0), (0, [3], [], 12), (5000, [0, 1, 2], [0, 1], 15), (0, [0], [], 30), (0, [1], [], 30), (90, [2], [], -2147483648), (91, [2], [], 2147483647)], (2086, [1], [2], 0)) := vOk_in fun ρ η h => by
  obtain ⟨f0, f1, f2, f3, f4, f5, f6, f7, f8, f9, f10, f11, f12, f13, f14, f15, f16, f17, f18, f19, f20, f21, f22, f23, f24, f25, f26, f27, f28, f29, f30, _⟩ := h
  exact q_84v_9 (q0 := q0) (n0 := ρ 2) (n1 := ρ 1) (n2 := ρ 0) (n3 := ρ 3) (n4 := ρ 4) (n5 := ρ 5) (n6 := ρ 6) (n7 := ρ 7) (n8 := ρ 8) (n9 := ρ 9) (n10 := ρ 10) (n11 := ρ 11) (H0 := η 0) (H1 := η 1) (H2 := η 2) f30 f29 f28 f27 f26 f25 f24 f23 f22 f21 f20 f19 f18 f17 f16 f15 f14 f13 f12 f11 f10 f9 f8 f7 f6 f5 f4 f3 f2 f1 f0
theorem q_84v_10 {q0 : Nat} {n0 n1 n2 n3 n4 n5 n6 n7 n8 n9 n10 n11 n12 : Int} {H0 H1 H2 H3 : gH} (f0 : n0 ≤ 2147483647) (f1 : (-2147483648) ≤ n0) (f2 : n1 = 30) (f3 : n2 = 30) (f4 : (hLe T0 H0 H1 ∧ hFr s_84v.2.2.2.2 H0 H1 ∧ hWt T0 H1) ∧ (Ab_84v_15 n2 n1 n0 H0 H1 ∧ preb_84v n2 H0) ∧ some q0 = some (mub_84v_15 n2 n1 n0 H0 H1)) (f5 : n3 = 12) (f6 : n0 ≤ n3) (f7 : n4 ≤ 2147483647) (f8 : (-2147483648) ≤ n4) (f9 : n4 = hV H1 (n1).toNat 3) (f10 : n4 = 0) (f11 : n5 ≤ 2147483647) (f12 : (-2147483648) ≤ n5) (f13 : n5 = hV H1 (n1).toNat 2) (f14 : n6 ≤ 1) (f15 : 0 ≤ n6) (f16 : (hLe T0 H1 H2 ∧ hFr s_85v.2.2.2.2 H1 H2 ∧ ((0 : Int) = 0 → H2.length = H1.length) ∧ hWt T0 H2) ∧ postb_85v n6 n5 H1 H2) (f17 : n6 ≠ 0) (f18 : 0 ≤ n7) (f19 : n7 = hV H2 (n1).toNat 8) (f20 : n8 ≤ 2147483647) (f21 : (-2147483648) ≤ n8) (f22 : hK H2 (n7).toNat = 5) (f23 : n8 = hV H2 (n7).toNat 0) (f24 : n9 = 12) (f25 : n8 < n9) (f26 : n10 ≤ 2147483647) (f27 : (-2147483648) ≤ n10) (f28 : n10 = hV H2 (n1).toNat 2) (f29 : n11 = 38) (f30 : n10 ≠ n11) (f31 : (hLe T0 H2 H3 ∧ hFr s_86v.2.2.2.2 H2 H3 ∧ ((0 : Int) = 0 → H3.length = H2.length) ∧ hWt T0 H3) ∧ postb_86v n1 H2 H3) (f32 : n12 = 4) : preb_66v n1 n12 H3 := by
  have pz := f4.2.1.2
  unfold preb_84v at pz
  have ga := f4.2.1.1
  unfold Ab_84v_15 at ga
  have vz : vwC H1 = vwC H0 := vwC_fr f4.1.2.1 (by decide +kernel)
  have s0 := PF_fr f16.1.1 f16.1.2.1 (by decide +kernel) ga.1
  have a0 : absC H2 = (absC H1) := s0.1
  have v0 : vwC H2 = vwC H0 := s0.2.1.trans vz
  have c1 := f31.2
  unfold postb_86v at c1
  rw [v0] at c1
  rw [a0] at c1
  have a1 : absC H3 = (pLoud (vwC H0) (absC H1)) := c1.2.1
  have v1 : vwC H3 = vwC H0 := (vwC_fr f31.1.2.1 (by decide +kernel)).trans v0
  have b0 := kd_at s0.2.2
  rw [v0] at b0
  rw [a0] at b0
  have g0 := f28
  rw [f2] at g0
  rw [show ((30 : Int)).toNat = 30 from rfl] at g0
  have h0 : (absC H1).1 < 0 ∨ ¬ (vwC H0).1 (absC H1).1 = 38 := by
    rcases b0 with q | q
    · exact .inl q
    · right
      rw [q]
      omega
  have gb := ga
  obtain ⟨kz, dz, x10, x113, rc0, rc12, xr, ya⟩ := gb
  have dr0 := DR_fr f16.1.1 f16.1.2.1 (by decide +kernel) dz
  have rc0 : RC H2 = RC H1 := (RC_fr f16.1.2.1 (by decide +kernel) dz).trans (rfl : RC H1 = RC H1)
  have dr1 := DR_fr f31.1.1 f31.1.2.1 (by decide +kernel) dr0.1
  have pe1 := f31.2
  unfold postb_86v at pe1
  have rc1 : RC H3 = RC H1 + 1 := by rw [pe1.2.2.2.2, rc0]
  have r3 := f9
  rw [f2] at r3
  rw [show ((30 : Int)).toNat = 30 from rfl] at r3
  have r2_0 := f13
  rw [f2] at r2_0
  rw [show ((30 : Int)).toNat = 30 from rfl] at r2_0
  have r2_1 := f28
  rw [f2] at r2_1
  rw [show ((30 : Int)).toNat = 30 from rfl] at r2_1
  have t2_1 : hV H2 30 2 = hV H1 30 2 := f16.1.2.1.1 30 2 (by decide +kernel)
  have pc := f16.2
  unfold postb_85v at pc
  have r8 := f19
  rw [f2] at r8
  rw [show ((30 : Int)).toNat = 30 from rfl] at r8
  have ec : n8 = RC H2 := by
    unfold RC
    rw [← r8]
    exact f23
  have ec2 := rc0
  unfold preb_66v
  exact ⟨c1.1, by omega⟩
theorem c_84v_15_7 {q0 : Nat} : vOkm T0 (eP e_84v L_84v A_84v mu_84v (some q0)) 1 ([(0, [12], [], 4), (1086, [1], [2, 3], 0), (41, [10, 11], [], 0), (0, [11], [], 38), (20, [10, 1], [2], 2), (90, [10], [], -2147483648), (91, [10], [], 2147483647), (42, [8, 9], [], 0), (0, [9], [], 12), (20, [8, 7], [2], 0), (23, [7], [2], 5), (90, [8], [], -2147483648), (91, [8], [], 2147483647), (20, [7, 1], [2], 8), (51, [7], [], 0), (31, [6], [], 0), (1085, [6, 5], [1, 2], 0), (90, [6], [], 0), (91, [6], [], 1), (20, [5, 1], [1], 2), (90, [5], [], -2147483648), (91, [5], [], 2147483647), (30, [4], [], 0), (20, [4, 1], [1], 3), (90, [4], [], -2147483648), (91, [4], [], 2147483647), (45, [2, 3], [], 0), (0, [3], [], 12), (5000, [0, 1, 2], [0, 1], 15), (0, [0], [], 30), (0, [1], [], 30), (90, [2], [], -2147483648), (91, [2], [], 2147483647)], (2066, [1, 12], [3], 0)) := vOk_in fun ρ η h => by
  obtain ⟨f0, f1, f2, f3, f4, f5, f6, f7, f8, f9, f10, f11, f12, f13, f14, f15, f16, f17, f18, f19, f20, f21, f22, f23, f24, f25, f26, f27, f28, f29, f30, f31, f32, _⟩ := h
  exact q_84v_10 (q0 := q0) (n0 := ρ 2) (n1 := ρ 1) (n2 := ρ 0) (n3 := ρ 3) (n4 := ρ 4) (n5 := ρ 5) (n6 := ρ 6) (n7 := ρ 7) (n8 := ρ 8) (n9 := ρ 9) (n10 := ρ 10) (n11 := ρ 11) (n12 := ρ 12) (H0 := η 0) (H1 := η 1) (H2 := η 2) (H3 := η 3) f32 f31 f30 f29 f28 f27 f26 f25 f24 f23 f22 f21 f20 f19 f18 f17 f16 f15 f14 f13 f12 f11 f10 f9 f8 f7 f6 f5 f4 f3 f2 f1 f0
theorem q_84v_11 {q0 : Nat} {n0 n1 n2 n3 n4 n5 n6 n7 n8 n9 n10 n11 n12 n13 : Int} {H0 H1 H2 H3 H4 : gH} (f0 : n0 ≤ 2147483647) (f1 : (-2147483648) ≤ n0) (f2 : n1 = 30) (f3 : n2 = 30) (f4 : (hLe T0 H0 H1 ∧ hFr s_84v.2.2.2.2 H0 H1 ∧ hWt T0 H1) ∧ (Ab_84v_15 n2 n1 n0 H0 H1 ∧ preb_84v n2 H0) ∧ some q0 = some (mub_84v_15 n2 n1 n0 H0 H1)) (f5 : n3 = 12) (f6 : n0 ≤ n3) (f7 : n4 ≤ 2147483647) (f8 : (-2147483648) ≤ n4) (f9 : n4 = hV H1 (n1).toNat 3) (f10 : n4 = 0) (f11 : n5 ≤ 2147483647) (f12 : (-2147483648) ≤ n5) (f13 : n5 = hV H1 (n1).toNat 2) (f14 : n6 ≤ 1) (f15 : 0 ≤ n6) (f16 : (hLe T0 H1 H2 ∧ hFr s_85v.2.2.2.2 H1 H2 ∧ ((0 : Int) = 0 → H2.length = H1.length) ∧ hWt T0 H2) ∧ postb_85v n6 n5 H1 H2) (f17 : n6 ≠ 0) (f18 : 0 ≤ n7) (f19 : n7 = hV H2 (n1).toNat 8) (f20 : n8 ≤ 2147483647) (f21 : (-2147483648) ≤ n8) (f22 : hK H2 (n7).toNat = 5) (f23 : n8 = hV H2 (n7).toNat 0) (f24 : n9 = 12) (f25 : n8 < n9) (f26 : n10 ≤ 2147483647) (f27 : (-2147483648) ≤ n10) (f28 : n10 = hV H2 (n1).toNat 2) (f29 : n11 = 38) (f30 : n10 ≠ n11) (f31 : (hLe T0 H2 H3 ∧ hFr s_86v.2.2.2.2 H2 H3 ∧ ((0 : Int) = 0 → H3.length = H2.length) ∧ hWt T0 H3) ∧ postb_86v n1 H2 H3) (f32 : n12 = 4) (f33 : (hLe T0 H3 H4 ∧ hFr s_66v.2.2.2.2 H3 H4 ∧ ((0 : Int) = 0 → H4.length = H3.length) ∧ hWt T0 H4) ∧ postb_66v n1 n12 H3 H4) (f34 : n13 = w32 (n0 + 1)) : Ab_84v_15 n2 n1 n13 H0 H4 ∧ ∀ q, some q0 = some q → mub_84v_15 n2 n1 n13 H0 H4 < q := by
  have pz := f4.2.1.2
  unfold preb_84v at pz
  have ga := f4.2.1.1
  unfold Ab_84v_15 at ga
  have vz : vwC H1 = vwC H0 := vwC_fr f4.1.2.1 (by decide +kernel)
  have s0 := PF_fr f16.1.1 f16.1.2.1 (by decide +kernel) ga.1
  have a0 : absC H2 = (absC H1) := s0.1
  have v0 : vwC H2 = vwC H0 := s0.2.1.trans vz
  have c1 := f31.2
  unfold postb_86v at c1
  rw [v0] at c1
  rw [a0] at c1
  have a1 : absC H3 = (pLoud (vwC H0) (absC H1)) := c1.2.1
  have v1 : vwC H3 = vwC H0 := (vwC_fr f31.1.2.1 (by decide +kernel)).trans v0
  have c2 := f33.2
  unfold postb_66v at c2
  try rw [f32] at c2
  rw [v1] at c2
  rw [a1] at c2
  have a2 : absC H4 = (ptk (vwC H0) 4 (pLoud (vwC H0) (absC H1))) := c2.2
  have v2 : vwC H4 = vwC H0 := (vwC_fr f33.1.2.1 (by decide +kernel)).trans v1
  have b0 := kd_at s0.2.2
  rw [v0] at b0
  rw [a0] at b0
  have g0 := f28
  rw [f2] at g0
  rw [show ((30 : Int)).toNat = 30 from rfl] at g0
  have h0 : (absC H1).1 < 0 ∨ ¬ (vwC H0).1 (absC H1).1 = 38 := by
    rcases b0 with q | q
    · exact .inl q
    · right
      rw [q]
      omega
  have gb := ga
  obtain ⟨kz, dz, x10, x113, rc0, rc12, xr, ya⟩ := gb
  have dr0 := DR_fr f16.1.1 f16.1.2.1 (by decide +kernel) dz
  have rc0 : RC H2 = RC H1 := (RC_fr f16.1.2.1 (by decide +kernel) dz).trans (rfl : RC H1 = RC H1)
  have dr1 := DR_fr f31.1.1 f31.1.2.1 (by decide +kernel) dr0.1
  have pe1 := f31.2
  unfold postb_86v at pe1
  have rc1 : RC H3 = RC H1 + 1 := by rw [pe1.2.2.2.2, rc0]
  have dr2 := DR_fr f33.1.1 f33.1.2.1 (by decide +kernel) dr1.1
  have rc2 : RC H4 = RC H1 + 1 := (RC_fr f33.1.2.1 (by decide +kernel) dr1.1).trans rc1
  have r3 := f9
  rw [f2] at r3
  rw [show ((30 : Int)).toNat = 30 from rfl] at r3
  have r2_0 := f13
  rw [f2] at r2_0
  rw [show ((30 : Int)).toNat = 30 from rfl] at r2_0
  have r2_1 := f28
  rw [f2] at r2_1
  rw [show ((30 : Int)).toNat = 30 from rfl] at r2_1
  have t2_1 : hV H2 30 2 = hV H1 30 2 := f16.1.2.1.1 30 2 (by decide +kernel)
  have pc := f16.2
  unfold postb_85v at pc
  have r8 := f19
  rw [f2] at r8
  rw [show ((30 : Int)).toNat = 30 from rfl] at r8
  have ec : n8 = RC H2 := by
    unfold RC
    rw [← r8]
    exact f23
  have ec2 := rc0
  have wq34 := f34
  unfold w32 at wq34
  have g5 := Option.some.inj f4.2.2
  unfold mub_84v_15 at g5
  unfold Ab_84v_15 mub_84v_15
  have hk : (vwC H0).1 (absC H1).1 = hV H1 30 2 := by
    have u := (kd_at kz).resolve_left (by have := absC_pos kz (by omega); omega)
    rw [vz] at u
    exact u
  have rr := rc2
  have k2 : hV H1 30 2 = 40 := by omega
  have xx := xr (by omega)
  refine ⟨⟨c2.1, dr2.1, by omega, by omega, by omega, by omega, fun w => by omega, ?_⟩, fun q hq => ?_⟩
  · rw [← ya, show 12 - (n0).toNat = (12 - (n13).toNat) + 1 by omega, pRs_step (by omega), a2, if_neg (by omega)]
  · have g6 := Option.some.inj hq
    subst g6
    first
    | omega
    | lia
theorem c_84v_15_8 {q0 : Nat} : vOkm T0 (eP e_84v L_84v A_84v mu_84v (some q0)) 1 ([(10, [13, 2], [], 1), (1066, [1, 12], [3, 4], 0), (0, [12], [], 4), (1086, [1], [2, 3], 0), (41, [10, 11], [], 0), (0, [11], [], 38), (20, [10, 1], [2], 2), (90, [10], [], -2147483648), (91, [10], [], 2147483647), (42, [8, 9], [], 0), (0, [9], [], 12), (20, [8, 7], [2], 0), (23, [7], [2], 5), (90, [8], [], -2147483648), (91, [8], [], 2147483647), (20, [7, 1], [2], 8), (51, [7], [], 0), (31, [6], [], 0), (1085, [6, 5], [1, 2], 0), (90, [6], [], 0), (91, [6], [], 1), (20, [5, 1], [1], 2), (90, [5], [], -2147483648), (91, [5], [], 2147483647), (30, [4], [], 0), (20, [4, 1], [1], 3), (90, [4], [], -2147483648), (91, [4], [], 2147483647), (45, [2, 3], [], 0), (0, [3], [], 12), (5000, [0, 1, 2], [0, 1], 15), (0, [0], [], 30), (0, [1], [], 30), (90, [2], [], -2147483648), (91, [2], [], 2147483647)], (4000, [1, 13], [4], 15)) := vOk_in fun ρ η h => by
  obtain ⟨f0, f1, f2, f3, f4, f5, f6, f7, f8, f9, f10, f11, f12, f13, f14, f15, f16, f17, f18, f19, f20, f21, f22, f23, f24, f25, f26, f27, f28, f29, f30, f31, f32, f33, f34, _⟩ := h
  exact q_84v_11 (q0 := q0) (n0 := ρ 2) (n1 := ρ 1) (n2 := ρ 0) (n3 := ρ 3) (n4 := ρ 4) (n5 := ρ 5) (n6 := ρ 6) (n7 := ρ 7) (n8 := ρ 8) (n9 := ρ 9) (n10 := ρ 10) (n11 := ρ 11) (n12 := ρ 12) (n13 := ρ 13) (H0 := η 0) (H1 := η 1) (H2 := η 2) (H3 := η 3) (H4 := η 4) f34 f33 f32 f31 f30 f29 f28 f27 f26 f25 f24 f23 f22 f21 f20 f19 f18 f17 f16 f15 f14 f13 f12 f11 f10 f9 f8 f7 f6 f5 f4 f3 f2 f1 f0
theorem q_84v_12 {q0 : Nat} {n0 n1 n2 n3 n4 n5 n6 n7 n8 n9 n10 n11 : Int} {H0 H1 H2 : gH} (f0 : n0 ≤ 2147483647) (f1 : (-2147483648) ≤ n0) (f2 : n1 = 30) (f3 : n2 = 30) (f4 : (hLe T0 H0 H1 ∧ hFr s_84v.2.2.2.2 H0 H1 ∧ hWt T0 H1) ∧ (Ab_84v_15 n2 n1 n0 H0 H1 ∧ preb_84v n2 H0) ∧ some q0 = some (mub_84v_15 n2 n1 n0 H0 H1)) (f5 : n3 = 12) (f6 : n0 ≤ n3) (f7 : n4 ≤ 2147483647) (f8 : (-2147483648) ≤ n4) (f9 : n4 = hV H1 (n1).toNat 3) (f10 : n4 = 0) (f11 : n5 ≤ 2147483647) (f12 : (-2147483648) ≤ n5) (f13 : n5 = hV H1 (n1).toNat 2) (f14 : n6 ≤ 1) (f15 : 0 ≤ n6) (f16 : (hLe T0 H1 H2 ∧ hFr s_85v.2.2.2.2 H1 H2 ∧ ((0 : Int) = 0 → H2.length = H1.length) ∧ hWt T0 H2) ∧ postb_85v n6 n5 H1 H2) (f17 : n6 ≠ 0) (f18 : 0 ≤ n7) (f19 : n7 = hV H2 (n1).toNat 8) (f20 : n8 ≤ 2147483647) (f21 : (-2147483648) ≤ n8) (f22 : hK H2 (n7).toNat = 5) (f23 : n8 = hV H2 (n7).toNat 0) (f24 : n9 = 12) (f25 : n8 < n9) (f26 : n10 ≤ 2147483647) (f27 : (-2147483648) ≤ n10) (f28 : n10 = hV H2 (n1).toNat 2) (f29 : n11 = 38) (f30 : n10 = n11) : preb_87v n1 H2 := by
  have pz := f4.2.1.2
  unfold preb_84v at pz
  have ga := f4.2.1.1
  unfold Ab_84v_15 at ga
  have vz : vwC H1 = vwC H0 := vwC_fr f4.1.2.1 (by decide +kernel)
  have s0 := PF_fr f16.1.1 f16.1.2.1 (by decide +kernel) ga.1
  have a0 : absC H2 = (absC H1) := s0.1
  have v0 : vwC H2 = vwC H0 := s0.2.1.trans vz
  have b0 := kd_at s0.2.2
  rw [v0] at b0
  rw [a0] at b0
  have g0 := f28
  rw [f2] at g0
  rw [show ((30 : Int)).toNat = 30 from rfl] at g0
  have h0 : (absC H1).1 < 0 ∨ (vwC H0).1 (absC H1).1 = 38 := by
    rcases b0 with q | q
    · exact .inl q
    · right
      rw [q]
      omega
  have gb := ga
  obtain ⟨kz, dz, x10, x113, rc0, rc12, xr, ya⟩ := gb
  have dr0 := DR_fr f16.1.1 f16.1.2.1 (by decide +kernel) dz
  have rc0 : RC H2 = RC H1 := (RC_fr f16.1.2.1 (by decide +kernel) dz).trans (rfl : RC H1 = RC H1)
  have r3 := f9
  rw [f2] at r3
  rw [show ((30 : Int)).toNat = 30 from rfl] at r3
  have r2_0 := f13
  rw [f2] at r2_0
  rw [show ((30 : Int)).toNat = 30 from rfl] at r2_0
  have r2_1 := f28
  rw [f2] at r2_1
  rw [show ((30 : Int)).toNat = 30 from rfl] at r2_1
  have t2_1 : hV H2 30 2 = hV H1 30 2 := f16.1.2.1.1 30 2 (by decide +kernel)
  have pc := f16.2
  unfold postb_85v at pc
  have r8 := f19
  rw [f2] at r8
  rw [show ((30 : Int)).toNat = 30 from rfl] at r8
  have ec : n8 = RC H2 := by
    unfold RC
    rw [← r8]
    exact f23
  have ec2 := rc0
  unfold preb_87v
  exact ⟨s0.2.2, dr0.1, by omega, by omega⟩
theorem c_84v_15_9 {q0 : Nat} : vOkm T0 (eP e_84v L_84v A_84v mu_84v (some q0)) 1 ([(40, [10, 11], [], 0), (0, [11], [], 38), (20, [10, 1], [2], 2), (90, [10], [], -2147483648), (91, [10], [], 2147483647), (42, [8, 9], [], 0), (0, [9], [], 12), (20, [8, 7], [2], 0), (23, [7], [2], 5), (90, [8], [], -2147483648), (91, [8], [], 2147483647), (20, [7, 1], [2], 8), (51, [7], [], 0), (31, [6], [], 0), (1085, [6, 5], [1, 2], 0), (90, [6], [], 0), (91, [6], [], 1), (20, [5, 1], [1], 2), (90, [5], [], -2147483648), (91, [5], [], 2147483647), (30, [4], [], 0), (20, [4, 1], [1], 3), (90, [4], [], -2147483648), (91, [4], [], 2147483647), (45, [2, 3], [], 0), (0, [3], [], 12), (5000, [0, 1, 2], [0, 1], 15), (0, [0], [], 30), (0, [1], [], 30), (90, [2], [], -2147483648), (91, [2], [], 2147483647)], (2087, [1], [2], 0)) := vOk_in fun ρ η h => by
  obtain ⟨f0, f1, f2, f3, f4, f5, f6, f7, f8, f9, f10, f11, f12, f13, f14, f15, f16, f17, f18, f19, f20, f21, f22, f23, f24, f25, f26, f27, f28, f29, f30, _⟩ := h
  exact q_84v_12 (q0 := q0) (n0 := ρ 2) (n1 := ρ 1) (n2 := ρ 0) (n3 := ρ 3) (n4 := ρ 4) (n5 := ρ 5) (n6 := ρ 6) (n7 := ρ 7) (n8 := ρ 8) (n9 := ρ 9) (n10 := ρ 10) (n11 := ρ 11) (H0 := η 0) (H1 := η 1) (H2 := η 2) f30 f29 f28 f27 f26 f25 f24 f23 f22 f21 f20 f19 f18 f17 f16 f15 f14 f13 f12 f11 f10 f9 f8 f7 f6 f5 f4 f3 f2 f1 f0
theorem q_84v_13 {q0 : Nat} {n0 n1 n2 n3 n4 n5 n6 n7 n8 n9 n10 n11 n12 : Int} {H0 H1 H2 H3 : gH} (f0 : n0 ≤ 2147483647) (f1 : (-2147483648) ≤ n0) (f2 : n1 = 30) (f3 : n2 = 30) (f4 : (hLe T0 H0 H1 ∧ hFr s_84v.2.2.2.2 H0 H1 ∧ hWt T0 H1) ∧ (Ab_84v_15 n2 n1 n0 H0 H1 ∧ preb_84v n2 H0) ∧ some q0 = some (mub_84v_15 n2 n1 n0 H0 H1)) (f5 : n3 = 12) (f6 : n0 ≤ n3) (f7 : n4 ≤ 2147483647) (f8 : (-2147483648) ≤ n4) (f9 : n4 = hV H1 (n1).toNat 3) (f10 : n4 = 0) (f11 : n5 ≤ 2147483647) (f12 : (-2147483648) ≤ n5) (f13 : n5 = hV H1 (n1).toNat 2) (f14 : n6 ≤ 1) (f15 : 0 ≤ n6) (f16 : (hLe T0 H1 H2 ∧ hFr s_85v.2.2.2.2 H1 H2 ∧ ((0 : Int) = 0 → H2.length = H1.length) ∧ hWt T0 H2) ∧ postb_85v n6 n5 H1 H2) (f17 : n6 ≠ 0) (f18 : 0 ≤ n7) (f19 : n7 = hV H2 (n1).toNat 8) (f20 : n8 ≤ 2147483647) (f21 : (-2147483648) ≤ n8) (f22 : hK H2 (n7).toNat = 5) (f23 : n8 = hV H2 (n7).toNat 0) (f24 : n9 = 12) (f25 : n8 < n9) (f26 : n10 ≤ 2147483647) (f27 : (-2147483648) ≤ n10) (f28 : n10 = hV H2 (n1).toNat 2) (f29 : n11 = 38) (f30 : n10 = n11) (f31 : (hLe T0 H2 H3 ∧ hFr s_87v.2.2.2.2 H2 H3 ∧ ((0 : Int) = 0 → H3.length = H2.length) ∧ hWt T0 H3) ∧ postb_87v n1 H2 H3) (f32 : n12 = 4) : preb_66v n1 n12 H3 := by
  have pz := f4.2.1.2
  unfold preb_84v at pz
  have ga := f4.2.1.1
  unfold Ab_84v_15 at ga
  have vz : vwC H1 = vwC H0 := vwC_fr f4.1.2.1 (by decide +kernel)
  have s0 := PF_fr f16.1.1 f16.1.2.1 (by decide +kernel) ga.1
  have a0 : absC H2 = (absC H1) := s0.1
  have v0 : vwC H2 = vwC H0 := s0.2.1.trans vz
  have c1 := f31.2
  unfold postb_87v at c1
  rw [v0] at c1
  rw [a0] at c1
  have a1 : absC H3 = (pRight (vwC H0) (absC H1)) := c1.2.1
  have v1 : vwC H3 = vwC H0 := (vwC_fr f31.1.2.1 (by decide +kernel)).trans v0
  have b0 := kd_at s0.2.2
  rw [v0] at b0
  rw [a0] at b0
  have g0 := f28
  rw [f2] at g0
  rw [show ((30 : Int)).toNat = 30 from rfl] at g0
  have h0 : (absC H1).1 < 0 ∨ (vwC H0).1 (absC H1).1 = 38 := by
    rcases b0 with q | q
    · exact .inl q
    · right
      rw [q]
      omega
  have gb := ga
  obtain ⟨kz, dz, x10, x113, rc0, rc12, xr, ya⟩ := gb
  have dr0 := DR_fr f16.1.1 f16.1.2.1 (by decide +kernel) dz
  have rc0 : RC H2 = RC H1 := (RC_fr f16.1.2.1 (by decide +kernel) dz).trans (rfl : RC H1 = RC H1)
  have dr1 := DR_fr f31.1.1 f31.1.2.1 (by decide +kernel) dr0.1
  have pe1 := f31.2
  unfold postb_87v at pe1
  have rc1 : RC H3 = RC H1 + 1 := by rw [pe1.2.2.2.2, rc0]
  have r3 := f9
  rw [f2] at r3
  rw [show ((30 : Int)).toNat = 30 from rfl] at r3
  have r2_0 := f13
  rw [f2] at r2_0
  rw [show ((30 : Int)).toNat = 30 from rfl] at r2_0
  have r2_1 := f28
  rw [f2] at r2_1
  rw [show ((30 : Int)).toNat = 30 from rfl] at r2_1
  have t2_1 : hV H2 30 2 = hV H1 30 2 := f16.1.2.1.1 30 2 (by decide +kernel)
  have pc := f16.2
  unfold postb_85v at pc
  have r8 := f19
  rw [f2] at r8
  rw [show ((30 : Int)).toNat = 30 from rfl] at r8
  have ec : n8 = RC H2 := by
    unfold RC
    rw [← r8]
    exact f23
  have ec2 := rc0
  unfold preb_66v
  exact ⟨c1.1, by omega⟩
theorem c_84v_15_10 {q0 : Nat} : vOkm T0 (eP e_84v L_84v A_84v mu_84v (some q0)) 1 ([(0, [12], [], 4), (1087, [1], [2, 3], 0), (40, [10, 11], [], 0), (0, [11], [], 38), (20, [10, 1], [2], 2), (90, [10], [], -2147483648), (91, [10], [], 2147483647), (42, [8, 9], [], 0), (0, [9], [], 12), (20, [8, 7], [2], 0), (23, [7], [2], 5), (90, [8], [], -2147483648), (91, [8], [], 2147483647), (20, [7, 1], [2], 8), (51, [7], [], 0), (31, [6], [], 0), (1085, [6, 5], [1, 2], 0), (90, [6], [], 0), (91, [6], [], 1), (20, [5, 1], [1], 2), (90, [5], [], -2147483648), (91, [5], [], 2147483647), (30, [4], [], 0), (20, [4, 1], [1], 3), (90, [4], [], -2147483648), (91, [4], [], 2147483647), (45, [2, 3], [], 0), (0, [3], [], 12), (5000, [0, 1, 2], [0, 1], 15), (0, [0], [], 30), (0, [1], [], 30), (90, [2], [], -2147483648), (91, [2], [], 2147483647)], (2066, [1, 12], [3], 0)) := vOk_in fun ρ η h => by
  obtain ⟨f0, f1, f2, f3, f4, f5, f6, f7, f8, f9, f10, f11, f12, f13, f14, f15, f16, f17, f18, f19, f20, f21, f22, f23, f24, f25, f26, f27, f28, f29, f30, f31, f32, _⟩ := h
  exact q_84v_13 (q0 := q0) (n0 := ρ 2) (n1 := ρ 1) (n2 := ρ 0) (n3 := ρ 3) (n4 := ρ 4) (n5 := ρ 5) (n6 := ρ 6) (n7 := ρ 7) (n8 := ρ 8) (n9 := ρ 9) (n10 := ρ 10) (n11 := ρ 11) (n12 := ρ 12) (H0 := η 0) (H1 := η 1) (H2 := η 2) (H3 := η 3) f32 f31 f30 f29 f28 f27 f26 f25 f24 f23 f22 f21 f20 f19 f18 f17 f16 f15 f14 f13 f12 f11 f10 f9 f8 f7 f6 f5 f4 f3 f2 f1 f0
theorem q_84v_14 {q0 : Nat} {n0 n1 n2 n3 n4 n5 n6 n7 n8 n9 n10 n11 n12 n13 : Int} {H0 H1 H2 H3 H4 : gH} (f0 : n0 ≤ 2147483647) (f1 : (-2147483648) ≤ n0) (f2 : n1 = 30) (f3 : n2 = 30) (f4 : (hLe T0 H0 H1 ∧ hFr s_84v.2.2.2.2 H0 H1 ∧ hWt T0 H1) ∧ (Ab_84v_15 n2 n1 n0 H0 H1 ∧ preb_84v n2 H0) ∧ some q0 = some (mub_84v_15 n2 n1 n0 H0 H1)) (f5 : n3 = 12) (f6 : n0 ≤ n3) (f7 : n4 ≤ 2147483647) (f8 : (-2147483648) ≤ n4) (f9 : n4 = hV H1 (n1).toNat 3) (f10 : n4 = 0) (f11 : n5 ≤ 2147483647) (f12 : (-2147483648) ≤ n5) (f13 : n5 = hV H1 (n1).toNat 2) (f14 : n6 ≤ 1) (f15 : 0 ≤ n6) (f16 : (hLe T0 H1 H2 ∧ hFr s_85v.2.2.2.2 H1 H2 ∧ ((0 : Int) = 0 → H2.length = H1.length) ∧ hWt T0 H2) ∧ postb_85v n6 n5 H1 H2) (f17 : n6 ≠ 0) (f18 : 0 ≤ n7) (f19 : n7 = hV H2 (n1).toNat 8) (f20 : n8 ≤ 2147483647) (f21 : (-2147483648) ≤ n8) (f22 : hK H2 (n7).toNat = 5) (f23 : n8 = hV H2 (n7).toNat 0) (f24 : n9 = 12) (f25 : n8 < n9) (f26 : n10 ≤ 2147483647) (f27 : (-2147483648) ≤ n10) (f28 : n10 = hV H2 (n1).toNat 2) (f29 : n11 = 38) (f30 : n10 = n11) (f31 : (hLe T0 H2 H3 ∧ hFr s_87v.2.2.2.2 H2 H3 ∧ ((0 : Int) = 0 → H3.length = H2.length) ∧ hWt T0 H3) ∧ postb_87v n1 H2 H3) (f32 : n12 = 4) (f33 : (hLe T0 H3 H4 ∧ hFr s_66v.2.2.2.2 H3 H4 ∧ ((0 : Int) = 0 → H4.length = H3.length) ∧ hWt T0 H4) ∧ postb_66v n1 n12 H3 H4) (f34 : n13 = w32 (n0 + 1)) : Ab_84v_15 n2 n1 n13 H0 H4 ∧ ∀ q, some q0 = some q → mub_84v_15 n2 n1 n13 H0 H4 < q := by
  have pz := f4.2.1.2
  unfold preb_84v at pz
  have ga := f4.2.1.1
  unfold Ab_84v_15 at ga
  have vz : vwC H1 = vwC H0 := vwC_fr f4.1.2.1 (by decide +kernel)
  have s0 := PF_fr f16.1.1 f16.1.2.1 (by decide +kernel) ga.1
  have a0 : absC H2 = (absC H1) := s0.1
  have v0 : vwC H2 = vwC H0 := s0.2.1.trans vz
  have c1 := f31.2
  unfold postb_87v at c1
  rw [v0] at c1
  rw [a0] at c1
  have a1 : absC H3 = (pRight (vwC H0) (absC H1)) := c1.2.1
  have v1 : vwC H3 = vwC H0 := (vwC_fr f31.1.2.1 (by decide +kernel)).trans v0
  have c2 := f33.2
  unfold postb_66v at c2
  try rw [f32] at c2
  rw [v1] at c2
  rw [a1] at c2
  have a2 : absC H4 = (ptk (vwC H0) 4 (pRight (vwC H0) (absC H1))) := c2.2
  have v2 : vwC H4 = vwC H0 := (vwC_fr f33.1.2.1 (by decide +kernel)).trans v1
  have b0 := kd_at s0.2.2
  rw [v0] at b0
  rw [a0] at b0
  have g0 := f28
  rw [f2] at g0
  rw [show ((30 : Int)).toNat = 30 from rfl] at g0
  have h0 : (absC H1).1 < 0 ∨ (vwC H0).1 (absC H1).1 = 38 := by
    rcases b0 with q | q
    · exact .inl q
    · right
      rw [q]
      omega
  have gb := ga
  obtain ⟨kz, dz, x10, x113, rc0, rc12, xr, ya⟩ := gb
  have dr0 := DR_fr f16.1.1 f16.1.2.1 (by decide +kernel) dz
  have rc0 : RC H2 = RC H1 := (RC_fr f16.1.2.1 (by decide +kernel) dz).trans (rfl : RC H1 = RC H1)
  have dr1 := DR_fr f31.1.1 f31.1.2.1 (by decide +kernel) dr0.1
  have pe1 := f31.2
  unfold postb_87v at pe1
  have rc1 : RC H3 = RC H1 + 1 := by rw [pe1.2.2.2.2, rc0]
  have dr2 := DR_fr f33.1.1 f33.1.2.1 (by decide +kernel) dr1.1
  have rc2 : RC H4 = RC H1 + 1 := (RC_fr f33.1.2.1 (by decide +kernel) dr1.1).trans rc1
  have r3 := f9
  rw [f2] at r3
  rw [show ((30 : Int)).toNat = 30 from rfl] at r3
  have r2_0 := f13
  rw [f2] at r2_0
  rw [show ((30 : Int)).toNat = 30 from rfl] at r2_0
  have r2_1 := f28
  rw [f2] at r2_1
  rw [show ((30 : Int)).toNat = 30 from rfl] at r2_1
  have t2_1 : hV H2 30 2 = hV H1 30 2 := f16.1.2.1.1 30 2 (by decide +kernel)
  have pc := f16.2
  unfold postb_85v at pc
  have r8 := f19
  rw [f2] at r8
  rw [show ((30 : Int)).toNat = 30 from rfl] at r8
  have ec : n8 = RC H2 := by
    unfold RC
    rw [← r8]
    exact f23
  have ec2 := rc0
  have wq34 := f34
  unfold w32 at wq34
  have g5 := Option.some.inj f4.2.2
  unfold mub_84v_15 at g5
  unfold Ab_84v_15 mub_84v_15
  have hk : (vwC H0).1 (absC H1).1 = hV H1 30 2 := by
    have u := (kd_at kz).resolve_left (by have := absC_pos kz (by omega); omega)
    rw [vz] at u
    exact u
  have rr := rc2
  have k2 : hV H1 30 2 = 38 := by omega
  have xx := xr (by omega)
  refine ⟨⟨c2.1, dr2.1, by omega, by omega, by omega, by omega, fun w => by omega, ?_⟩, fun q hq => ?_⟩
  · rw [← ya, show 12 - (n0).toNat = (12 - (n13).toNat) + 1 by omega, pRs_step (by omega), a2, if_pos (by omega)]
  · have g6 := Option.some.inj hq
    subst g6
    first
    | omega
    | lia
theorem c_84v_15_11 {q0 : Nat} : vOkm T0 (eP e_84v L_84v A_84v mu_84v (some q0)) 1 ([(10, [13, 2], [], 1), (1066, [1, 12], [3, 4], 0), (0, [12], [], 4), (1087, [1], [2, 3], 0), (40, [10, 11], [], 0), (0, [11], [], 38), (20, [10, 1], [2], 2), (90, [10], [], -2147483648), (91, [10], [], 2147483647), (42, [8, 9], [], 0), (0, [9], [], 12), (20, [8, 7], [2], 0), (23, [7], [2], 5), (90, [8], [], -2147483648), (91, [8], [], 2147483647), (20, [7, 1], [2], 8), (51, [7], [], 0), (31, [6], [], 0), (1085, [6, 5], [1, 2], 0), (90, [6], [], 0), (91, [6], [], 1), (20, [5, 1], [1], 2), (90, [5], [], -2147483648), (91, [5], [], 2147483647), (30, [4], [], 0), (20, [4, 1], [1], 3), (90, [4], [], -2147483648), (91, [4], [], 2147483647), (45, [2, 3], [], 0), (0, [3], [], 12), (5000, [0, 1, 2], [0, 1], 15), (0, [0], [], 30), (0, [1], [], 30), (90, [2], [], -2147483648), (91, [2], [], 2147483647)], (4000, [1, 13], [4], 15)) := vOk_in fun ρ η h => by
  obtain ⟨f0, f1, f2, f3, f4, f5, f6, f7, f8, f9, f10, f11, f12, f13, f14, f15, f16, f17, f18, f19, f20, f21, f22, f23, f24, f25, f26, f27, f28, f29, f30, f31, f32, f33, f34, _⟩ := h
  exact q_84v_14 (q0 := q0) (n0 := ρ 2) (n1 := ρ 1) (n2 := ρ 0) (n3 := ρ 3) (n4 := ρ 4) (n5 := ρ 5) (n6 := ρ 6) (n7 := ρ 7) (n8 := ρ 8) (n9 := ρ 9) (n10 := ρ 10) (n11 := ρ 11) (n12 := ρ 12) (n13 := ρ 13) (H0 := η 0) (H1 := η 1) (H2 := η 2) (H3 := η 3) (H4 := η 4) f34 f33 f32 f31 f30 f29 f28 f27 f26 f25 f24 f23 f22 f21 f20 f19 f18 f17 f16 f15 f14 f13 f12 f11 f10 f9 f8 f7 f6 f5 f4 f3 f2 f1 f0
theorem q_84v_15 {q0 : Nat} {n0 n1 n2 n3 n4 n5 n6 n7 n8 n9 n10 : Int} {H0 H1 H2 : gH} (f0 : n0 ≤ 2147483647) (f1 : (-2147483648) ≤ n0) (f2 : n1 = 30) (f3 : n2 = 30) (f4 : (hLe T0 H0 H1 ∧ hFr s_84v.2.2.2.2 H0 H1 ∧ hWt T0 H1) ∧ (Ab_84v_15 n2 n1 n0 H0 H1 ∧ preb_84v n2 H0) ∧ some q0 = some (mub_84v_15 n2 n1 n0 H0 H1)) (f5 : n3 = 12) (f6 : n0 ≤ n3) (f7 : n4 ≤ 2147483647) (f8 : (-2147483648) ≤ n4) (f9 : n4 = hV H1 (n1).toNat 3) (f10 : n4 = 0) (f11 : n5 ≤ 2147483647) (f12 : (-2147483648) ≤ n5) (f13 : n5 = hV H1 (n1).toNat 2) (f14 : n6 ≤ 1) (f15 : 0 ≤ n6) (f16 : (hLe T0 H1 H2 ∧ hFr s_85v.2.2.2.2 H1 H2 ∧ ((0 : Int) = 0 → H2.length = H1.length) ∧ hWt T0 H2) ∧ postb_85v n6 n5 H1 H2) (f17 : n6 ≠ 0) (f18 : 0 ≤ n7) (f19 : n7 = hV H2 (n1).toNat 8) (f20 : n8 ≤ 2147483647) (f21 : (-2147483648) ≤ n8) (f22 : hK H2 (n7).toNat = 5) (f23 : n8 = hV H2 (n7).toNat 0) (f24 : n9 = 12) (f25 : n9 ≤ n8) (f26 : n10 = 2) : preb_64v n1 n10 H2 := by
  have pz := f4.2.1.2
  unfold preb_84v at pz
  have ga := f4.2.1.1
  unfold Ab_84v_15 at ga
  have vz : vwC H1 = vwC H0 := vwC_fr f4.1.2.1 (by decide +kernel)
  have s0 := PF_fr f16.1.1 f16.1.2.1 (by decide +kernel) ga.1
  have a0 : absC H2 = (absC H1) := s0.1
  have v0 : vwC H2 = vwC H0 := s0.2.1.trans vz
  have gb := ga
  obtain ⟨kz, dz, x10, x113, rc0, rc12, xr, ya⟩ := gb
  have dr0 := DR_fr f16.1.1 f16.1.2.1 (by decide +kernel) dz
  have rc0 : RC H2 = RC H1 := (RC_fr f16.1.2.1 (by decide +kernel) dz).trans (rfl : RC H1 = RC H1)
  have r3 := f9
  rw [f2] at r3
  rw [show ((30 : Int)).toNat = 30 from rfl] at r3
  have r2_0 := f13
  rw [f2] at r2_0
  rw [show ((30 : Int)).toNat = 30 from rfl] at r2_0
  have pc := f16.2
  unfold postb_85v at pc
  have r8 := f19
  rw [f2] at r8
  rw [show ((30 : Int)).toNat = 30 from rfl] at r8
  have ec : n8 = RC H2 := by
    unfold RC
    rw [← r8]
    exact f23
  have ec2 := rc0
  unfold preb_64v
  exact ⟨s0.2.2, by omega⟩
theorem c_84v_15_12 {q0 : Nat} : vOkm T0 (eP e_84v L_84v A_84v mu_84v (some q0)) 1 ([(0, [10], [], 2), (43, [8, 9], [], 0), (0, [9], [], 12), (20, [8, 7], [2], 0), (23, [7], [2], 5), (90, [8], [], -2147483648), (91, [8], [], 2147483647), (20, [7, 1], [2], 8), (51, [7], [], 0), (31, [6], [], 0), (1085, [6, 5], [1, 2], 0), (90, [6], [], 0), (91, [6], [], 1), (20, [5, 1], [1], 2), (90, [5], [], -2147483648), (91, [5], [], 2147483647), (30, [4], [], 0), (20, [4, 1], [1], 3), (90, [4], [], -2147483648), (91, [4], [], 2147483647), (45, [2, 3], [], 0), (0, [3], [], 12), (5000, [0, 1, 2], [0, 1], 15), (0, [0], [], 30), (0, [1], [], 30), (90, [2], [], -2147483648), (91, [2], [], 2147483647)], (2064, [1, 10], [2], 0)) := vOk_in fun ρ η h => by
  obtain ⟨f0, f1, f2, f3, f4, f5, f6, f7, f8, f9, f10, f11, f12, f13, f14, f15, f16, f17, f18, f19, f20, f21, f22, f23, f24, f25, f26, _⟩ := h
  exact q_84v_15 (q0 := q0) (n0 := ρ 2) (n1 := ρ 1) (n2 := ρ 0) (n3 := ρ 3) (n4 := ρ 4) (n5 := ρ 5) (n6 := ρ 6) (n7 := ρ 7) (n8 := ρ 8) (n9 := ρ 9) (n10 := ρ 10) (H0 := η 0) (H1 := η 1) (H2 := η 2) f26 f25 f24 f23 f22 f21 f20 f19 f18 f17 f16 f15 f14 f13 f12 f11 f10 f9 f8 f7 f6 f5 f4 f3 f2 f1 f0
theorem q_84v_16 {q0 : Nat} {n0 n1 n2 n3 n4 n5 n6 n7 n8 n9 n10 n11 : Int} {H0 H1 H2 H3 : gH} (f0 : n0 ≤ 2147483647) (f1 : (-2147483648) ≤ n0) (f2 : n1 = 30) (f3 : n2 = 30) (f4 : (hLe T0 H0 H1 ∧ hFr s_84v.2.2.2.2 H0 H1 ∧ hWt T0 H1) ∧ (Ab_84v_15 n2 n1 n0 H0 H1 ∧ preb_84v n2 H0) ∧ some q0 = some (mub_84v_15 n2 n1 n0 H0 H1)) (f5 : n3 = 12) (f6 : n0 ≤ n3) (f7 : n4 ≤ 2147483647) (f8 : (-2147483648) ≤ n4) (f9 : n4 = hV H1 (n1).toNat 3) (f10 : n4 = 0) (f11 : n5 ≤ 2147483647) (f12 : (-2147483648) ≤ n5) (f13 : n5 = hV H1 (n1).toNat 2) (f14 : n6 ≤ 1) (f15 : 0 ≤ n6) (f16 : (hLe T0 H1 H2 ∧ hFr s_85v.2.2.2.2 H1 H2 ∧ ((0 : Int) = 0 → H2.length = H1.length) ∧ hWt T0 H2) ∧ postb_85v n6 n5 H1 H2) (f17 : n6 ≠ 0) (f18 : 0 ≤ n7) (f19 : n7 = hV H2 (n1).toNat 8) (f20 : n8 ≤ 2147483647) (f21 : (-2147483648) ≤ n8) (f22 : hK H2 (n7).toNat = 5) (f23 : n8 = hV H2 (n7).toNat 0) (f24 : n9 = 12) (f25 : n9 ≤ n8) (f26 : n10 = 2) (f27 : (hLe T0 H2 H3 ∧ hFr s_64v.2.2.2.2 H2 H3 ∧ ((0 : Int) = 0 → H3.length = H2.length) ∧ hWt T0 H3) ∧ postb_64v n1 n10 H2 H3) (f28 : n11 = 4) : preb_66v n1 n11 H3 := by
  have pz := f4.2.1.2
  unfold preb_84v at pz
  have ga := f4.2.1.1
  unfold Ab_84v_15 at ga
  have vz : vwC H1 = vwC H0 := vwC_fr f4.1.2.1 (by decide +kernel)
  have s0 := PF_fr f16.1.1 f16.1.2.1 (by decide +kernel) ga.1
  have a0 : absC H2 = (absC H1) := s0.1
  have v0 : vwC H2 = vwC H0 := s0.2.1.trans vz
  have c1 := f27.2
  unfold postb_64v at c1
  try rw [f26] at c1
  rw [v0] at c1
  rw [a0] at c1
  have a1 : absC H3 = (pfail (vwC H0) 2 (absC H1)) := c1.2
  have v1 : vwC H3 = vwC H0 := (vwC_fr f27.1.2.1 (by decide +kernel)).trans v0
  have gb := ga
  obtain ⟨kz, dz, x10, x113, rc0, rc12, xr, ya⟩ := gb
  have dr0 := DR_fr f16.1.1 f16.1.2.1 (by decide +kernel) dz
  have rc0 : RC H2 = RC H1 := (RC_fr f16.1.2.1 (by decide +kernel) dz).trans (rfl : RC H1 = RC H1)
  have dr1 := DR_fr f27.1.1 f27.1.2.1 (by decide +kernel) dr0.1
  have rc1 : RC H3 = RC H1 := (RC_fr f27.1.2.1 (by decide +kernel) dr0.1).trans rc0
  have r3 := f9
  rw [f2] at r3
  rw [show ((30 : Int)).toNat = 30 from rfl] at r3
  have r2_0 := f13
  rw [f2] at r2_0
  rw [show ((30 : Int)).toNat = 30 from rfl] at r2_0
  have pc := f16.2
  unfold postb_85v at pc
  have r8 := f19
  rw [f2] at r8
  rw [show ((30 : Int)).toNat = 30 from rfl] at r8
  have ec : n8 = RC H2 := by
    unfold RC
    rw [← r8]
    exact f23
  have ec2 := rc0
  unfold preb_66v
  exact ⟨c1.1, by omega⟩
theorem c_84v_15_13 {q0 : Nat} : vOkm T0 (eP e_84v L_84v A_84v mu_84v (some q0)) 1 ([(0, [11], [], 4), (1064, [1, 10], [2, 3], 0), (0, [10], [], 2), (43, [8, 9], [], 0), (0, [9], [], 12), (20, [8, 7], [2], 0), (23, [7], [2], 5), (90, [8], [], -2147483648), (91, [8], [], 2147483647), (20, [7, 1], [2], 8), (51, [7], [], 0), (31, [6], [], 0), (1085, [6, 5], [1, 2], 0), (90, [6], [], 0), (91, [6], [], 1), (20, [5, 1], [1], 2), (90, [5], [], -2147483648), (91, [5], [], 2147483647), (30, [4], [], 0), (20, [4, 1], [1], 3), (90, [4], [], -2147483648), (91, [4], [], 2147483647), (45, [2, 3], [], 0), (0, [3], [], 12), (5000, [0, 1, 2], [0, 1], 15), (0, [0], [], 30), (0, [1], [], 30), (90, [2], [], -2147483648), (91, [2], [], 2147483647)], (2066, [1, 11], [3], 0)) := vOk_in fun ρ η h => by
  obtain ⟨f0, f1, f2, f3, f4, f5, f6, f7, f8, f9, f10, f11, f12, f13, f14, f15, f16, f17, f18, f19, f20, f21, f22, f23, f24, f25, f26, f27, f28, _⟩ := h
  exact q_84v_16 (q0 := q0) (n0 := ρ 2) (n1 := ρ 1) (n2 := ρ 0) (n3 := ρ 3) (n4 := ρ 4) (n5 := ρ 5) (n6 := ρ 6) (n7 := ρ 7) (n8 := ρ 8) (n9 := ρ 9) (n10 := ρ 10) (n11 := ρ 11) (H0 := η 0) (H1 := η 1) (H2 := η 2) (H3 := η 3) f28 f27 f26 f25 f24 f23 f22 f21 f20 f19 f18 f17 f16 f15 f14 f13 f12 f11 f10 f9 f8 f7 f6 f5 f4 f3 f2 f1 f0
theorem q_84v_17 {q0 : Nat} {n0 n1 n2 n3 n4 n5 n6 n7 n8 n9 n10 n11 n12 : Int} {H0 H1 H2 H3 H4 : gH} (f0 : n0 ≤ 2147483647) (f1 : (-2147483648) ≤ n0) (f2 : n1 = 30) (f3 : n2 = 30) (f4 : (hLe T0 H0 H1 ∧ hFr s_84v.2.2.2.2 H0 H1 ∧ hWt T0 H1) ∧ (Ab_84v_15 n2 n1 n0 H0 H1 ∧ preb_84v n2 H0) ∧ some q0 = some (mub_84v_15 n2 n1 n0 H0 H1)) (f5 : n3 = 12) (f6 : n0 ≤ n3) (f7 : n4 ≤ 2147483647) (f8 : (-2147483648) ≤ n4) (f9 : n4 = hV H1 (n1).toNat 3) (f10 : n4 = 0) (f11 : n5 ≤ 2147483647) (f12 : (-2147483648) ≤ n5) (f13 : n5 = hV H1 (n1).toNat 2) (f14 : n6 ≤ 1) (f15 : 0 ≤ n6) (f16 : (hLe T0 H1 H2 ∧ hFr s_85v.2.2.2.2 H1 H2 ∧ ((0 : Int) = 0 → H2.length = H1.length) ∧ hWt T0 H2) ∧ postb_85v n6 n5 H1 H2) (f17 : n6 ≠ 0) (f18 : 0 ≤ n7) (f19 : n7 = hV H2 (n1).toNat 8) (f20 : n8 ≤ 2147483647) (f21 : (-2147483648) ≤ n8) (f22 : hK H2 (n7).toNat = 5) (f23 : n8 = hV H2 (n7).toNat 0) (f24 : n9 = 12) (f25 : n9 ≤ n8) (f26 : n10 = 2) (f27 : (hLe T0 H2 H3 ∧ hFr s_64v.2.2.2.2 H2 H3 ∧ ((0 : Int) = 0 → H3.length = H2.length) ∧ hWt T0 H3) ∧ postb_64v n1 n10 H2 H3) (f28 : n11 = 4) (f29 : (hLe T0 H3 H4 ∧ hFr s_66v.2.2.2.2 H3 H4 ∧ ((0 : Int) = 0 → H4.length = H3.length) ∧ hWt T0 H4) ∧ postb_66v n1 n11 H3 H4) (f30 : n12 = w32 (n0 + 1)) : Ab_84v_15 n2 n1 n12 H0 H4 ∧ ∀ q, some q0 = some q → mub_84v_15 n2 n1 n12 H0 H4 < q := by
  have pz := f4.2.1.2
  unfold preb_84v at pz
  have ga := f4.2.1.1
  unfold Ab_84v_15 at ga
  have vz : vwC H1 = vwC H0 := vwC_fr f4.1.2.1 (by decide +kernel)
  have s0 := PF_fr f16.1.1 f16.1.2.1 (by decide +kernel) ga.1
  have a0 : absC H2 = (absC H1) := s0.1
  have v0 : vwC H2 = vwC H0 := s0.2.1.trans vz
  have c1 := f27.2
  unfold postb_64v at c1
  try rw [f26] at c1
  rw [v0] at c1
  rw [a0] at c1
  have a1 : absC H3 = (pfail (vwC H0) 2 (absC H1)) := c1.2
  have v1 : vwC H3 = vwC H0 := (vwC_fr f27.1.2.1 (by decide +kernel)).trans v0
  have c2 := f29.2
  unfold postb_66v at c2
  try rw [f28] at c2
  rw [v1] at c2
  rw [a1] at c2
  have a2 : absC H4 = (ptk (vwC H0) 4 (pfail (vwC H0) 2 (absC H1))) := c2.2
  have v2 : vwC H4 = vwC H0 := (vwC_fr f29.1.2.1 (by decide +kernel)).trans v1
  have gb := ga
  obtain ⟨kz, dz, x10, x113, rc0, rc12, xr, ya⟩ := gb
  have dr0 := DR_fr f16.1.1 f16.1.2.1 (by decide +kernel) dz
  have rc0 : RC H2 = RC H1 := (RC_fr f16.1.2.1 (by decide +kernel) dz).trans (rfl : RC H1 = RC H1)
  have dr1 := DR_fr f27.1.1 f27.1.2.1 (by decide +kernel) dr0.1
  have rc1 : RC H3 = RC H1 := (RC_fr f27.1.2.1 (by decide +kernel) dr0.1).trans rc0
  have dr2 := DR_fr f29.1.1 f29.1.2.1 (by decide +kernel) dr1.1
  have rc2 : RC H4 = RC H1 := (RC_fr f29.1.2.1 (by decide +kernel) dr1.1).trans rc1
  have r3 := f9
  rw [f2] at r3
  rw [show ((30 : Int)).toNat = 30 from rfl] at r3
  have r2_0 := f13
  rw [f2] at r2_0
  rw [show ((30 : Int)).toNat = 30 from rfl] at r2_0
  have pc := f16.2
  unfold postb_85v at pc
  have r8 := f19
  rw [f2] at r8
  rw [show ((30 : Int)).toNat = 30 from rfl] at r8
  have ec : n8 = RC H2 := by
    unfold RC
    rw [← r8]
    exact f23
  have ec2 := rc0
  have wq30 := f30
  unfold w32 at wq30
  have g5 := Option.some.inj f4.2.2
  unfold mub_84v_15 at g5
  unfold Ab_84v_15 mub_84v_15
  have hk : (vwC H0).1 (absC H1).1 = hV H1 30 2 := by
    have u := (kd_at kz).resolve_left (by have := absC_pos kz (by omega); omega)
    rw [vz] at u
    exact u
  have hn : (pfail (vwC H0) 2 (absC H1)).1 < 0 := pfail_lt pz.1 (by decide)
  rw [ptk_neg hn pfail_ok] at a2
  have ff := fault_of c2.1 (by rw [a2]; exact hn)
  have rr := rc2
  have x12 : n0 = 12 := by
    have := xr (by omega)
    omega
  refine ⟨⟨c2.1, dr2.1, by omega, by omega, by omega, by omega, fun w => absurd w ff, ?_⟩, fun q hq => ?_⟩
  · rw [← ya, show (n0).toNat = 12 by omega, a2, pRs_neg (vwC_ok H0) hn, Nat.sub_self]
    exact (if_pos (by omega)).symm
  · have g6 := Option.some.inj hq
    subst g6
    first
    | omega
    | lia
theorem c_84v_15_14 {q0 : Nat} : vOkm T0 (eP e_84v L_84v A_84v mu_84v (some q0)) 1 ([(10, [12, 2], [], 1), (1066, [1, 11], [3, 4], 0), (0, [11], [], 4), (1064, [1, 10], [2, 3], 0), (0, [10], [], 2), (43, [8, 9], [], 0), (0, [9], [], 12), (20, [8, 7], [2], 0), (23, [7], [2], 5), (90, [8], [], -2147483648), (91, [8], [], 2147483647), (20, [7, 1], [2], 8), (51, [7], [], 0), (31, [6], [], 0), (1085, [6, 5], [1, 2], 0), (90, [6], [], 0), (91, [6], [], 1), (20, [5, 1], [1], 2), (90, [5], [], -2147483648), (91, [5], [], 2147483647), (30, [4], [], 0), (20, [4, 1], [1], 3), (90, [4], [], -2147483648), (91, [4], [], 2147483647), (45, [2, 3], [], 0), (0, [3], [], 12), (5000, [0, 1, 2], [0, 1], 15), (0, [0], [], 30), (0, [1], [], 30), (90, [2], [], -2147483648), (91, [2], [], 2147483647)], (4000, [1, 12], [4], 15)) := vOk_in fun ρ η h => by
  obtain ⟨f0, f1, f2, f3, f4, f5, f6, f7, f8, f9, f10, f11, f12, f13, f14, f15, f16, f17, f18, f19, f20, f21, f22, f23, f24, f25, f26, f27, f28, f29, f30, _⟩ := h
  exact q_84v_17 (q0 := q0) (n0 := ρ 2) (n1 := ρ 1) (n2 := ρ 0) (n3 := ρ 3) (n4 := ρ 4) (n5 := ρ 5) (n6 := ρ 6) (n7 := ρ 7) (n8 := ρ 8) (n9 := ρ 9) (n10 := ρ 10) (n11 := ρ 11) (n12 := ρ 12) (H0 := η 0) (H1 := η 1) (H2 := η 2) (H3 := η 3) (H4 := η 4) f30 f29 f28 f27 f26 f25 f24 f23 f22 f21 f20 f19 f18 f17 f16 f15 f14 f13 f12 f11 f10 f9 f8 f7 f6 f5 f4 f3 f2 f1 f0
def p_84v_15 : List vG := [([(0, [4], [], 17), (44, [2, 3], [], 0), (0, [3], [], 12), (5000, [0, 1, 2], [0, 1], 15), (0, [0], [], 30), (0, [1], [], 30), (90, [2], [], -2147483648), (91, [2], [], 2147483647)], (2066, [1, 4], [1], 0)),
  ([(1066, [1, 4], [1, 2], 0), (0, [4], [], 17), (44, [2, 3], [], 0), (0, [3], [], 12), (5000, [0, 1, 2], [0, 1], 15), (0, [0], [], 30), (0, [1], [], 30), (90, [2], [], -2147483648), (91, [2], [], 2147483647)], (3000, [], [2], 95)),
  ([(0, [5], [], 17), (31, [4], [], 0), (20, [4, 1], [1], 3), (90, [4], [], -2147483648), (91, [4], [], 2147483647), (45, [2, 3], [], 0), (0, [3], [], 12), (5000, [0, 1, 2], [0, 1], 15), (0, [0], [], 30), (0, [1], [], 30), (90, [2], [], -2147483648), (91, [2], [], 2147483647)], (2066, [1, 5], [1], 0)),
  ([(1066, [1, 5], [1, 2], 0), (0, [5], [], 17), (31, [4], [], 0), (20, [4, 1], [1], 3), (90, [4], [], -2147483648), (91, [4], [], 2147483647), (45, [2, 3], [], 0), (0, [3], [], 12), (5000, [0, 1, 2], [0, 1], 15), (0, [0], [], 30), (0, [1], [], 30), (90, [2], [], -2147483648), (91, [2], [], 2147483647)], (3000, [], [2], 95)),
  ([(0, [7], [], 17), (30, [6], [], 0), (1085, [6, 5], [1, 2], 0), (90, [6], [], 0), (91, [6], [], 1), (20, [5, 1], [1], 2), (90, [5], [], -2147483648), (91, [5], [], 2147483647), (30, [4], [], 0), (20, [4, 1], [1], 3), (90, [4], [], -2147483648), (91, [4], [], 2147483647), (45, [2, 3], [], 0), (0, [3], [], 12), (5000, [0, 1, 2], [0, 1], 15), (0, [0], [], 30), (0, [1], [], 30), (90, [2], [], -2147483648), (91, [2], [], 2147483647)], (2066, [1, 7], [2], 0)),
  ([(1066, [1, 7], [2, 3], 0), (0, [7], [], 17), (30, [6], [], 0), (1085, [6, 5], [1, 2], 0), (90, [6], [], 0), (91, [6], [], 1), (20, [5, 1], [1], 2), (90, [5], [], -2147483648), (91, [5], [], 2147483647), (30, [4], [], 0), (20, [4, 1], [1], 3), (90, [4], [], -2147483648), (91, [4], [], 2147483647), (45, [2, 3], [], 0), (0, [3], [], 12), (5000, [0, 1, 2], [0, 1], 15), (0, [0], [], 30), (0, [1], [], 30), (90, [2], [], -2147483648), (91, [2], [], 2147483647)], (3000, [], [3], 95)),
  ([(41, [10, 11], [], 0), (0, [11], [], 38), (20, [10, 1], [2], 2), (90, [10], [], -2147483648), (91, [10], [], 2147483647), (42, [8, 9], [], 0), (0, [9], [], 12), (20, [8, 7], [2], 0), (23, [7], [2], 5), (90, [8], [], -2147483648), (91, [8], [], 2147483647), (20, [7, 1], [2], 8), (51, [7], [], 0), (31, [6], [], 0), (1085, [6, 5], [1, 2], 0), (90, [6], [], 0), (91, [6], [], 1), (20, [5, 1], [1], 2), (90, [5], [], -2147483648), (91, [5], [], 2147483647), (30, [4], [], 0), (20, [4, 1], [1], 3), (90, [4], [], -2147483648), (91, [4], [], 2147483647), (45, [2, 3], [], 0), (0, [3], [], 12), (5000, [0, 1, 2], [0, 1], 15), (0, [0], [], 30), (0, [1], [], 30), (90, [2], [], -2147483648), (91, [2], [], 2147483647)], (2086, [1], [2], 0)),
  ([(0, [12], [], 4), (1086, [1], [2, 3], 0), (41, [10, 11], [], 0), (0, [11], [], 38), (20, [10, 1], [2], 2), (90, [10], [], -2147483648), (91, [10], [], 2147483647), (42, [8, 9], [], 0), (0, [9], [], 12), (20, [8, 7], [2], 0), (23, [7], [2], 5), (90, [8], [], -2147483648), (91, [8], [], 2147483647), (20, [7, 1], [2], 8), (51, [7], [], 0), (31, [6], [], 0), (1085, [6, 5], [1, 2], 0), (90, [6], [], 0), (91, [6], [], 1), (20, [5, 1], [1], 2), (90, [5], [], -2147483648), (91, [5], [], 2147483647), (30, [4], [], 0), (20, [4, 1], [1], 3), (90, [4], [], -2147483648), (91, [4], [], 2147483647), (45, [2, 3], [], 0), (0, [3], [], 12), (5000, [0, 1, 2], [0, 1], 15), (0, [0], [], 30), (0, [1], [], 30), (90, [2], [], -2147483648), (91, [2], [], 2147483647)], (2066, [1, 12], [3], 0)),
  ([(10, [13, 2], [], 1), (1066, [1, 12], [3, 4], 0), (0, [12], [], 4), (1086, [1], [2, 3], 0), (41, [10, 11], [], 0), (0, [11], [], 38), (20, [10, 1], [2], 2), (90, [10], [], -2147483648), (91, [10], [], 2147483647), (42, [8, 9], [], 0), (0, [9], [], 12), (20, [8, 7], [2], 0), (23, [7], [2], 5), (90, [8], [], -2147483648), (91, [8], [], 2147483647), (20, [7, 1], [2], 8), (51, [7], [], 0), (31, [6], [], 0), (1085, [6, 5], [1, 2], 0), (90, [6], [], 0), (91, [6], [], 1), (20, [5, 1], [1], 2), (90, [5], [], -2147483648), (91, [5], [], 2147483647), (30, [4], [], 0), (20, [4, 1], [1], 3), (90, [4], [], -2147483648), (91, [4], [], 2147483647), (45, [2, 3], [], 0), (0, [3], [], 12), (5000, [0, 1, 2], [0, 1], 15), (0, [0], [], 30), (0, [1], [], 30), (90, [2], [], -2147483648), (91, [2], [], 2147483647)], (4000, [1, 13], [4], 15)),
  ([(40, [10, 11], [], 0), (0, [11], [], 38), (20, [10, 1], [2], 2), (90, [10], [], -2147483648), (91, [10], [], 2147483647), (42, [8, 9], [], 0), (0, [9], [], 12), (20, [8, 7], [2], 0), (23, [7], [2], 5), (90, [8], [], -2147483648), (91, [8], [], 2147483647), (20, [7, 1], [2], 8), (51, [7], [], 0), (31, [6], [], 0), (1085, [6, 5], [1, 2], 0), (90, [6], [], 0), (91, [6], [], 1), (20, [5, 1], [1], 2), (90, [5], [], -2147483648), (91, [5], [], 2147483647), (30, [4], [], 0), (20, [4, 1], [1], 3), (90, [4], [], -2147483648), (91, [4], [], 2147483647), (45, [2, 3], [], 0), (0, [3], [], 12), (5000, [0, 1, 2], [0, 1], 15), (0, [0], [], 30), (0, [1], [], 30), (90, [2], [], -2147483648), (91, [2], [], 2147483647)], (2087, [1], [2], 0)),
  ([(0, [12], [], 4), (1087, [1], [2, 3], 0), (40, [10, 11], [], 0), (0, [11], [], 38), (20, [10, 1], [2], 2), (90, [10], [], -2147483648), (91, [10], [], 2147483647), (42, [8, 9], [], 0), (0, [9], [], 12), (20, [8, 7], [2], 0), (23, [7], [2], 5), (90, [8], [], -2147483648), (91, [8], [], 2147483647), (20, [7, 1], [2], 8), (51, [7], [], 0), (31, [6], [], 0), (1085, [6, 5], [1, 2], 0), (90, [6], [], 0), (91, [6], [], 1), (20, [5, 1], [1], 2), (90, [5], [], -2147483648), (91, [5], [], 2147483647), (30, [4], [], 0), (20, [4, 1], [1], 3), (90, [4], [], -2147483648), (91, [4], [], 2147483647), (45, [2, 3], [], 0), (0, [3], [], 12), (5000, [0, 1, 2], [0, 1], 15), (0, [0], [], 30), (0, [1], [], 30), (90, [2], [], -2147483648), (91, [2], [], 2147483647)], (2066, [1, 12], [3], 0)),
  ([(10, [13, 2], [], 1), (1066, [1, 12], [3, 4], 0), (0, [12], [], 4), (1087, [1], [2, 3], 0), (40, [10, 11], [], 0), (0, [11], [], 38), (20, [10, 1], [2], 2), (90, [10], [], -2147483648), (91, [10], [], 2147483647), (42, [8, 9], [], 0), (0, [9], [], 12), (20, [8, 7], [2], 0), (23, [7], [2], 5), (90, [8], [], -2147483648), (91, [8], [], 2147483647), (20, [7, 1], [2], 8), (51, [7], [], 0), (31, [6], [], 0), (1085, [6, 5], [1, 2], 0), (90, [6], [], 0), (91, [6], [], 1), (20, [5, 1], [1], 2), (90, [5], [], -2147483648), (91, [5], [], 2147483647), (30, [4], [], 0), (20, [4, 1], [1], 3), (90, [4], [], -2147483648), (91, [4], [], 2147483647), (45, [2, 3], [], 0), (0, [3], [], 12), (5000, [0, 1, 2], [0, 1], 15), (0, [0], [], 30), (0, [1], [], 30), (90, [2], [], -2147483648), (91, [2], [], 2147483647)], (4000, [1, 13], [4], 15)),
  ([(0, [10], [], 2), (43, [8, 9], [], 0), (0, [9], [], 12), (20, [8, 7], [2], 0), (23, [7], [2], 5), (90, [8], [], -2147483648), (91, [8], [], 2147483647), (20, [7, 1], [2], 8), (51, [7], [], 0), (31, [6], [], 0), (1085, [6, 5], [1, 2], 0), (90, [6], [], 0), (91, [6], [], 1), (20, [5, 1], [1], 2), (90, [5], [], -2147483648), (91, [5], [], 2147483647), (30, [4], [], 0), (20, [4, 1], [1], 3), (90, [4], [], -2147483648), (91, [4], [], 2147483647), (45, [2, 3], [], 0), (0, [3], [], 12), (5000, [0, 1, 2], [0, 1], 15), (0, [0], [], 30), (0, [1], [], 30), (90, [2], [], -2147483648), (91, [2], [], 2147483647)], (2064, [1, 10], [2], 0)),
  ([(0, [11], [], 4), (1064, [1, 10], [2, 3], 0), (0, [10], [], 2), (43, [8, 9], [], 0), (0, [9], [], 12), (20, [8, 7], [2], 0), (23, [7], [2], 5), (90, [8], [], -2147483648), (91, [8], [], 2147483647), (20, [7, 1], [2], 8), (51, [7], [], 0), (31, [6], [], 0), (1085, [6, 5], [1, 2], 0), (90, [6], [], 0), (91, [6], [], 1), (20, [5, 1], [1], 2), (90, [5], [], -2147483648), (91, [5], [], 2147483647), (30, [4], [], 0), (20, [4, 1], [1], 3), (90, [4], [], -2147483648), (91, [4], [], 2147483647), (45, [2, 3], [], 0), (0, [3], [], 12), (5000, [0, 1, 2], [0, 1], 15), (0, [0], [], 30), (0, [1], [], 30), (90, [2], [], -2147483648), (91, [2], [], 2147483647)], (2066, [1, 11], [3], 0)),
  ([(10, [12, 2], [], 1), (1066, [1, 11], [3, 4], 0), (0, [11], [], 4), (1064, [1, 10], [2, 3], 0), (0, [10], [], 2), (43, [8, 9], [], 0), (0, [9], [], 12), (20, [8, 7], [2], 0), (23, [7], [2], 5), (90, [8], [], -2147483648), (91, [8], [], 2147483647), (20, [7, 1], [2], 8), (51, [7], [], 0), (31, [6], [], 0), (1085, [6, 5], [1, 2], 0), (90, [6], [], 0), (91, [6], [], 1), (20, [5, 1], [1], 2), (90, [5], [], -2147483648), (91, [5], [], 2147483647), (30, [4], [], 0), (20, [4, 1], [1], 3), (90, [4], [], -2147483648), (91, [4], [], 2147483647), (45, [2, 3], [], 0), (0, [3], [], 12), (5000, [0, 1, 2], [0, 1], 15), (0, [0], [], 30), (0, [1], [], 30), (90, [2], [], -2147483648), (91, [2], [], 2147483647)], (4000, [1, 12], [4], 15))]
theorem r_84v_15 : vCovO false (eRc e_84v L_84v cs_84v 2000 (15, [(0, (3, 4, 30, 0)), (1, (0, -2147483648, 2147483647, 0))])) p_84v_15 = true := by decide +kernel
theorem m_84v (d : Nat) : eC e_84v (d + 6) := eC_ok (e := e_84v) (L := L_84v) (cs := cs_84v) (n := 2000) (d := d + 5) (A := A_84v) (μ := mu_84v) (tp := false) (p0 := p_84v_s) rfl ⟨m_64v (d + 4), ⟨m_66v (d + 3), ⟨m_85v (d + 4), ⟨m_86v (d + 1), ⟨m_87v d, ⟨m_97v (d + 4), trivial⟩⟩⟩⟩⟩⟩ rfl (.inl rfl) (by decide +kernel) (fun z => nomatch z) r_84v_s (allC c_84v_s_0 (allC c_84v_s_1 (allC c_84v_s_2 allN))) (allC (.inl ⟨p_84v_15, r_84v_15, fun q0 => (allC c_84v_15_0 (allC c_84v_15_1 (allC c_84v_15_2 (allC c_84v_15_3 (allC c_84v_15_4 (allC c_84v_15_5 (allC c_84v_15_6 (allC c_84v_15_7 (allC c_84v_15_8 (allC c_84v_15_9 (allC c_84v_15_10 (allC c_84v_15_11 (allC c_84v_15_12 (allC c_84v_15_13 (allC c_84v_15_14 allN)))))))))))))))⟩) allN)
