/- Reader.readSum ()V -/
noncomputable def s_92v : vM := ([(3, 4, 30, 0)], (9, 0, 0, 0), 1, 0, [(4, 1), (4, 2), (4, 3), (4, 4), (4, 15), (5, 2), (100, 0), (740, 0)])
def preb_92v (a0 : Int) (h : gH) : Prop := KI h
def pre_92v : List Int → gH → Prop := fun xs h => match xs with
  | [a0] => preb_92v a0 h
  | _ => False
def postb_92v (a0 : Int) (h0 h : gH) : Prop := KI h ∧ absC h = pExp (vwC h0) (absC h0)
def post_92v : List Int → gH → gH → Prop := fun xs h0 h => match xs with
  | [a0] => postb_92v a0 h0 h
  | _ => True
noncomputable def e_92v : vE := (92, s_92v, pre_92v, post_92v)
noncomputable def L_92v : List vE := [e_64v, e_66v, e_93, e_94, e_95, e_98, e_123v]
def cs_92v : List vC := [(14, [(0, (3, 4, 30, 0)), (1, (0, -2147483648, 2147483647, 0)), (2, (0, -2147483648, 2147483647, 0)), (3, (0, -2147483648, 2147483647, 0)), (4, (0, -2147483648, 2147483647, 0))]), (228, [(0, (3, 4, 30, 0)), (1, (0, -2147483648, 2147483647, 0)), (2, (0, -2147483648, 2147483647, 0)), (3, (0, -2147483648, 2147483647, 0)), (4, (0, -2147483648, 2147483647, 0)), (5, (0, -2147483648, 2147483647, 0))])]
def Ab_92v_14 (a0 x0 x1 x2 x3 x4 : Int) (h0 h : gH) : Prop := KI h ∧ 0 ≤ x4 ∧ 0 ≤ x1 ∧ x1 ≤ 7 ∧ (x2 = 0 ∨ x2 = 1) ∧ (x3 = 0 ∨ x3 = 1) ∧ (hV h 30 3 = 0 → (absC h0).1 + x4 + x3 ≤ hV h 30 1 + 1 ∧ x1 ≤ 6 ∧ 0 ≤ (absC h0).1) ∧ (x3 = 1 → pE (vwC h0) ((502 - (absC h0).1).toNat - (x4).toNat) x2 x1 (absC h) = pE (vwC h0) (502 - (absC h0).1).toNat 1 0 (absC h0)) ∧ (x3 = 0 → (if 0 < x1 then pfail (vwC h0) 1 (absC h) else absC h) = pE (vwC h0) (502 - (absC h0).1).toNat 1 0 (absC h0))
def mub_92v_14 (a0 x0 x1 x2 x3 x4 : Int) (h0 h : gH) : Nat := 2 * (502 - x4).toNat + 1
def Ab_92v_228 (a0 x0 x1 x2 x3 x4 x5 : Int) (h0 h : gH) : Prop := KI h ∧ hV h 30 3 = 0 ∧ 0 ≤ x4 ∧ x4 ≤ 500 ∧ 0 ≤ x1 ∧ x1 ≤ 7 ∧ (x2 = 0 ∨ x2 = 1) ∧ (x3 = 0 ∨ x3 = 1) ∧ ((absC h0).1 + x4 ≤ hV h 30 1 ∧ 0 ≤ (absC h0).1) ∧ (6 < x1 → pfail (vwC h0) 2 (absC h) = pE (vwC h0) (502 - (absC h0).1).toNat 1 0 (absC h0)) ∧ (x1 ≤ 6 → x3 = 1 → ¬ x5 = 0 ∧ pE (vwC h0) ((502 - (absC h0).1).toNat - (x4).toNat - 1) x2 x1 (ptk (vwC h0) x5 (absC h)) = pE (vwC h0) (502 - (absC h0).1).toNat 1 0 (absC h0)) ∧ (x1 ≤ 6 → x3 = 0 → (if 0 < x1 then pfail (vwC h0) 1 (absC h) else absC h) = pE (vwC h0) (502 - (absC h0).1).toNat 1 0 (absC h0))
def mub_92v_228 (a0 x0 x1 x2 x3 x4 x5 : Int) (h0 h : gH) : Nat := 2 * (502 - x4).toNat
def A_92v : Int → List Int → gH → gH → Prop := fun c xs h0 h => match c.toNat with
  | 14 => (match xs with
    | [a0, x0, x1, x2, x3, x4] => Ab_92v_14 a0 x0 x1 x2 x3 x4 h0 h
    | _ => False)
  | 228 => (match xs with
    | [a0, x0, x1, x2, x3, x4, x5] => Ab_92v_228 a0 x0 x1 x2 x3 x4 x5 h0 h
    | _ => False)
  | _ => True
def mu_92v : Int → List Int → gH → gH → Nat := fun c xs h0 h => match c.toNat with
  | 14 => (match xs with
    | [a0, x0, x1, x2, x3, x4] => mub_92v_14 a0 x0 x1 x2 x3 x4 h0 h
    | _ => 0)
  | 228 => (match xs with
    | [a0, x0, x1, x2, x3, x4, x5] => mub_92v_228 a0 x0 x1 x2 x3 x4 x5 h0 h
    | _ => 0)
  | _ => 0
theorem q_92v_0 {n0 n1 n2 n3 n4 n5 n6 : Int} {H0 H1 : gH} (f0 : n0 = 30) (f1 : hWt T0 H0 ∧ preb_92v n0 H0) (f2 : n1 = 0) (f3 : n2 = 1) (f4 : n3 = 1) (f5 : n4 = 0) (f6 : n5 = 15) (f7 : hUpd H1 H0 n0 n5 n4) (f8 : n6 = 0) : Ab_92v_14 n0 n0 n1 n2 n3 n6 H0 H1 ∧ ∀ q, none = some q → mub_92v_14 n0 n0 n1 n2 n3 n6 H0 H1 < q := by
  have pz := f1.2
  unfold preb_92v at pz
  have s0 := PF_30 f7 f0 (by omega) pz
  have a0 : absC H1 = (absC H0) := s0.1
  have v0 : vwC H1 = vwC H0 := s0.2.1
  unfold Ab_92v_14
  refine ⟨⟨s0.2.2, by omega, by omega, by omega, by omega, by omega, fun hf => ?_, fun _ => ?_, fun q => absurd q (by omega)⟩, fun q hq => nomatch hq⟩
  · have u := absC_pos s0.2.2 hf
    rw [a0] at u
    omega
  · rw [a0, show (n6).toNat = 0 by omega, Nat.sub_zero, show n2 = 1 by omega, show n1 = 0 by omega]
theorem c_92v_s_0 : vOkm T0 (eP e_92v L_92v A_92v mu_92v none) 1 ([(0, [6], [], 0), (80, [0, 5, 4], [1, 0], 0), (0, [5], [], 15), (0, [4], [], 0), (0, [3], [], 1), (0, [2], [], 1), (0, [1], [], 0), (6000, [0], [0], 0), (0, [0], [], 30)], (4000, [0, 1, 2, 3, 6], [1], 14)) := vOk_in fun ρ η h => by
  obtain ⟨f0, f1, f2, f3, f4, f5, f6, f7, f8, _⟩ := h
  exact q_92v_0 (n0 := ρ 0) (n1 := ρ 1) (n2 := ρ 2) (n3 := ρ 3) (n4 := ρ 4) (n5 := ρ 5) (n6 := ρ 6) (H0 := η 0) (H1 := η 1) f8 f7 f6 f5 f4 f3 f2 f1 f0
def p_92v_s : List vG := [([(0, [6], [], 0), (80, [0, 5, 4], [1, 0], 0), (0, [5], [], 15), (0, [4], [], 0), (0, [3], [], 1), (0, [2], [], 1), (0, [1], [], 0), (6000, [0], [0], 0), (0, [0], [], 30)], (4000, [0, 1, 2, 3, 6], [1], 14))]
theorem r_92v_s : vCovO false (eR0 e_92v L_92v cs_92v 2000) p_92v_s = true := by decide +kernel
theorem q_92v_1 {q0 : Nat} {n0 n1 n2 n3 n4 n5 n6 n7 : Int} {H0 H1 H2 : gH} (f0 : n0 ≤ 2147483647) (f1 : (-2147483648) ≤ n0) (f2 : n1 ≤ 2147483647) (f3 : (-2147483648) ≤ n1) (f4 : n2 ≤ 2147483647) (f5 : (-2147483648) ≤ n2) (f6 : n3 ≤ 2147483647) (f7 : (-2147483648) ≤ n3) (f8 : n4 = 30) (f9 : n5 = 30) (f10 : (hLe T0 H0 H1 ∧ hFr s_92v.2.2.2.2 H0 H1 ∧ hWt T0 H1) ∧ (Ab_92v_14 n5 n4 n3 n2 n1 n0 H0 H1 ∧ preb_92v n5 H0) ∧ some q0 = some (mub_92v_14 n5 n4 n3 n2 n1 n0 H0 H1)) (f11 : n6 = 500) (f12 : n6 < n0) (f13 : n3 ≤ 0) (f14 : n7 = 1) (f15 : (hLe T0 H1 H2 ∧ hFr s_95.2.2.2.2 H1 H2 ∧ ((0 : Int) = 0 → H2.length = H1.length) ∧ hWt T0 H2) ∧ True) : postb_92v n5 H0 H2 := by
  have pz := f10.2.1.2
  unfold preb_92v at pz
  have ga := f10.2.1.1
  unfold Ab_92v_14 at ga
  have vz : vwC H1 = vwC H0 := vwC_fr f10.1.2.1 (by decide +kernel)
  have s0 := PF_fr f15.1.1 f15.1.2.1 (by decide +kernel) ga.1
  have a0 : absC H2 = (absC H1) := s0.1
  have v0 : vwC H2 = vwC H0 := s0.2.1.trans vz
  have gb := ga
  obtain ⟨_, s0_, o0, o7, w01, m01, xn, ya, yb⟩ := gb
  unfold postb_92v pExp
  refine ⟨s0.2.2, ?_⟩
  rw [a0]
  by_cases hf : hV H1 30 3 = 0
  · have u := xn hf
    have nw := ga.1.2.2.2.1.2.1
    have ap := (absC_pos ga.1 hf).1
    have y := yb (by omega)
    rw [if_neg (by omega)] at y
    exact y
  · have hn := absC_neg ga.1 hf
    have hk := absC_ok ga.1
    rcases m01 with q | q
    · have y := yb q
      rw [pfail_neg hn hk] at y
      rw [← y]
      split <;> rfl
    · have y := ya q
      rw [pE_neg (vwC_ok H0) hn hk] at y
      exact y
theorem c_92v_14_0 {q0 : Nat} : vOkm T0 (eP e_92v L_92v A_92v mu_92v (some q0)) 1 ([(1095, [1, 7], [1, 2], 0), (0, [7], [], 1), (35, [2], [], 0), (44, [5, 6], [], 0), (0, [6], [], 500), (5000, [0, 1, 2, 3, 4, 5], [0, 1], 14), (0, [0], [], 30), (0, [1], [], 30), (90, [2], [], -2147483648), (91, [2], [], 2147483647), (90, [3], [], -2147483648), (91, [3], [], 2147483647), (90, [4], [], -2147483648), (91, [4], [], 2147483647), (90, [5], [], -2147483648), (91, [5], [], 2147483647)], (3000, [], [2], 272)) := vOk_in fun ρ η h => by
  obtain ⟨f0, f1, f2, f3, f4, f5, f6, f7, f8, f9, f10, f11, f12, f13, f14, f15, _⟩ := h
  exact q_92v_1 (q0 := q0) (n0 := ρ 5) (n1 := ρ 4) (n2 := ρ 3) (n3 := ρ 2) (n4 := ρ 1) (n5 := ρ 0) (n6 := ρ 6) (n7 := ρ 7) (H0 := η 0) (H1 := η 1) (H2 := η 2) f15 f14 f13 f12 f11 f10 f9 f8 f7 f6 f5 f4 f3 f2 f1 f0
theorem q_92v_2 {q0 : Nat} {n0 n1 n2 n3 n4 n5 n6 n7 : Int} {H0 H1 : gH} (f0 : n0 ≤ 2147483647) (f1 : (-2147483648) ≤ n0) (f2 : n1 ≤ 2147483647) (f3 : (-2147483648) ≤ n1) (f4 : n2 ≤ 2147483647) (f5 : (-2147483648) ≤ n2) (f6 : n3 ≤ 2147483647) (f7 : (-2147483648) ≤ n3) (f8 : n4 = 30) (f9 : n5 = 30) (f10 : (hLe T0 H0 H1 ∧ hFr s_92v.2.2.2.2 H0 H1 ∧ hWt T0 H1) ∧ (Ab_92v_14 n5 n4 n3 n2 n1 n0 H0 H1 ∧ preb_92v n5 H0) ∧ some q0 = some (mub_92v_14 n5 n4 n3 n2 n1 n0 H0 H1)) (f11 : n6 = 500) (f12 : n6 < n0) (f13 : 0 < n3) (f14 : n7 = 1) : preb_64v n4 n7 H1 := by
  have pz := f10.2.1.2
  unfold preb_92v at pz
  have ga := f10.2.1.1
  unfold Ab_92v_14 at ga
  have vz : vwC H1 = vwC H0 := vwC_fr f10.1.2.1 (by decide +kernel)
  have gb := ga
  obtain ⟨_, s0_, o0, o7, w01, m01, xn, ya, yb⟩ := gb
  unfold preb_64v
  exact ⟨ga.1, by omega⟩
theorem c_92v_14_1 {q0 : Nat} : vOkm T0 (eP e_92v L_92v A_92v mu_92v (some q0)) 1 ([(0, [7], [], 1), (34, [2], [], 0), (44, [5, 6], [], 0), (0, [6], [], 500), (5000, [0, 1, 2, 3, 4, 5], [0, 1], 14), (0, [0], [], 30), (0, [1], [], 30), (90, [2], [], -2147483648), (91, [2], [], 2147483647), (90, [3], [], -2147483648), (91, [3], [], 2147483647), (90, [4], [], -2147483648), (91, [4], [], 2147483647), (90, [5], [], -2147483648), (91, [5], [], 2147483647)], (2064, [1, 7], [1], 0)) := vOk_in fun ρ η h => by
  obtain ⟨f0, f1, f2, f3, f4, f5, f6, f7, f8, f9, f10, f11, f12, f13, f14, _⟩ := h
  exact q_92v_2 (q0 := q0) (n0 := ρ 5) (n1 := ρ 4) (n2 := ρ 3) (n3 := ρ 2) (n4 := ρ 1) (n5 := ρ 0) (n6 := ρ 6) (n7 := ρ 7) (H0 := η 0) (H1 := η 1) f14 f13 f12 f11 f10 f9 f8 f7 f6 f5 f4 f3 f2 f1 f0
theorem q_92v_3 {q0 : Nat} {n0 n1 n2 n3 n4 n5 n6 n7 n8 : Int} {H0 H1 H2 H3 : gH} (f0 : n0 ≤ 2147483647) (f1 : (-2147483648) ≤ n0) (f2 : n1 ≤ 2147483647) (f3 : (-2147483648) ≤ n1) (f4 : n2 ≤ 2147483647) (f5 : (-2147483648) ≤ n2) (f6 : n3 ≤ 2147483647) (f7 : (-2147483648) ≤ n3) (f8 : n4 = 30) (f9 : n5 = 30) (f10 : (hLe T0 H0 H1 ∧ hFr s_92v.2.2.2.2 H0 H1 ∧ hWt T0 H1) ∧ (Ab_92v_14 n5 n4 n3 n2 n1 n0 H0 H1 ∧ preb_92v n5 H0) ∧ some q0 = some (mub_92v_14 n5 n4 n3 n2 n1 n0 H0 H1)) (f11 : n6 = 500) (f12 : n6 < n0) (f13 : 0 < n3) (f14 : n7 = 1) (f15 : (hLe T0 H1 H2 ∧ hFr s_64v.2.2.2.2 H1 H2 ∧ ((0 : Int) = 0 → H2.length = H1.length) ∧ hWt T0 H2) ∧ postb_64v n4 n7 H1 H2) (f16 : n8 = 1) (f17 : (hLe T0 H2 H3 ∧ hFr s_95.2.2.2.2 H2 H3 ∧ ((0 : Int) = 0 → H3.length = H2.length) ∧ hWt T0 H3) ∧ True) : postb_92v n5 H0 H3 := by
  have pz := f10.2.1.2
  unfold preb_92v at pz
  have ga := f10.2.1.1
  unfold Ab_92v_14 at ga
  have vz : vwC H1 = vwC H0 := vwC_fr f10.1.2.1 (by decide +kernel)
  have c0 := f15.2
  unfold postb_64v at c0
  try rw [f14] at c0
  rw [vz] at c0
  have a0 : absC H2 = (pfail (vwC H0) 1 (absC H1)) := c0.2
  have v0 : vwC H2 = vwC H0 := (vwC_fr f15.1.2.1 (by decide +kernel)).trans vz
  have s1 := PF_fr f17.1.1 f17.1.2.1 (by decide +kernel) c0.1
  have a1 : absC H3 = (pfail (vwC H0) 1 (absC H1)) := s1.1.trans a0
  have v1 : vwC H3 = vwC H0 := s1.2.1.trans v0
  have gb := ga
  obtain ⟨_, s0_, o0, o7, w01, m01, xn, ya, yb⟩ := gb
  unfold postb_92v pExp
  refine ⟨s1.2.2, ?_⟩
  rw [a1]
  by_cases hf : hV H1 30 3 = 0
  · have u := xn hf
    have nw := ga.1.2.2.2.1.2.1
    have ap := (absC_pos ga.1 hf).1
    have y := yb (by omega)
    rw [if_pos (by omega)] at y
    exact y
  · have hn := absC_neg ga.1 hf
    have hk := absC_ok ga.1
    rw [pfail_neg hn hk]
    rcases m01 with q | q
    · have y := yb q
      rw [pfail_neg hn hk] at y
      rw [← y]
      split <;> rfl
    · have y := ya q
      rw [pE_neg (vwC_ok H0) hn hk] at y
      exact y
theorem c_92v_14_2 {q0 : Nat} : vOkm T0 (eP e_92v L_92v A_92v mu_92v (some q0)) 1 ([(1095, [1, 8], [2, 3], 0), (0, [8], [], 1), (1064, [1, 7], [1, 2], 0), (0, [7], [], 1), (34, [2], [], 0), (44, [5, 6], [], 0), (0, [6], [], 500), (5000, [0, 1, 2, 3, 4, 5], [0, 1], 14), (0, [0], [], 30), (0, [1], [], 30), (90, [2], [], -2147483648), (91, [2], [], 2147483647), (90, [3], [], -2147483648), (91, [3], [], 2147483647), (90, [4], [], -2147483648), (91, [4], [], 2147483647), (90, [5], [], -2147483648), (91, [5], [], 2147483647)], (3000, [], [3], 272)) := vOk_in fun ρ η h => by
  obtain ⟨f0, f1, f2, f3, f4, f5, f6, f7, f8, f9, f10, f11, f12, f13, f14, f15, f16, f17, _⟩ := h
  exact q_92v_3 (q0 := q0) (n0 := ρ 5) (n1 := ρ 4) (n2 := ρ 3) (n3 := ρ 2) (n4 := ρ 1) (n5 := ρ 0) (n6 := ρ 6) (n7 := ρ 7) (n8 := ρ 8) (H0 := η 0) (H1 := η 1) (H2 := η 2) (H3 := η 3) f17 f16 f15 f14 f13 f12 f11 f10 f9 f8 f7 f6 f5 f4 f3 f2 f1 f0
theorem q_92v_4 {q0 : Nat} {n0 n1 n2 n3 n4 n5 n6 n7 n8 : Int} {H0 H1 H2 : gH} (f0 : n0 ≤ 2147483647) (f1 : (-2147483648) ≤ n0) (f2 : n1 ≤ 2147483647) (f3 : (-2147483648) ≤ n1) (f4 : n2 ≤ 2147483647) (f5 : (-2147483648) ≤ n2) (f6 : n3 ≤ 2147483647) (f7 : (-2147483648) ≤ n3) (f8 : n4 = 30) (f9 : n5 = 30) (f10 : (hLe T0 H0 H1 ∧ hFr s_92v.2.2.2.2 H0 H1 ∧ hWt T0 H1) ∧ (Ab_92v_14 n5 n4 n3 n2 n1 n0 H0 H1 ∧ preb_92v n5 H0) ∧ some q0 = some (mub_92v_14 n5 n4 n3 n2 n1 n0 H0 H1)) (f11 : n6 = 500) (f12 : n0 ≤ n6) (f13 : n7 ≤ 2147483647) (f14 : (-2147483648) ≤ n7) (f15 : n7 = hV H1 (n4).toNat 3) (f16 : n7 ≠ 0) (f17 : n3 ≤ 0) (f18 : n8 = 1) (f19 : (hLe T0 H1 H2 ∧ hFr s_95.2.2.2.2 H1 H2 ∧ ((0 : Int) = 0 → H2.length = H1.length) ∧ hWt T0 H2) ∧ True) : postb_92v n5 H0 H2 := by
  have pz := f10.2.1.2
  unfold preb_92v at pz
  have ga := f10.2.1.1
  unfold Ab_92v_14 at ga
  have vz : vwC H1 = vwC H0 := vwC_fr f10.1.2.1 (by decide +kernel)
  have s0 := PF_fr f19.1.1 f19.1.2.1 (by decide +kernel) ga.1
  have a0 : absC H2 = (absC H1) := s0.1
  have v0 : vwC H2 = vwC H0 := s0.2.1.trans vz
  have gb := ga
  obtain ⟨_, s0_, o0, o7, w01, m01, xn, ya, yb⟩ := gb
  unfold postb_92v pExp
  refine ⟨s0.2.2, ?_⟩
  rw [a0]
  by_cases hf : hV H1 30 3 = 0
  · have u := xn hf
    have nw := ga.1.2.2.2.1.2.1
    have ap := (absC_pos ga.1 hf).1
    have rf0 := f15
    rw [f8] at rf0
    rw [show ((30 : Int)).toNat = 30 from rfl] at rf0
    have y := yb (by omega)
    rw [if_neg (by omega)] at y
    exact y
  · have hn := absC_neg ga.1 hf
    have hk := absC_ok ga.1
    rcases m01 with q | q
    · have y := yb q
      rw [pfail_neg hn hk] at y
      rw [← y]
      split <;> rfl
    · have y := ya q
      rw [pE_neg (vwC_ok H0) hn hk] at y
      exact y
theorem c_92v_14_3 {q0 : Nat} : vOkm T0 (eP e_92v L_92v A_92v mu_92v (some q0)) 1 ([(1095, [1, 8], [1, 2], 0), (0, [8], [], 1), (35, [2], [], 0), (31, [7], [], 0), (20, [7, 1], [1], 3), (90, [7], [], -2147483648), (91, [7], [], 2147483647), (45, [5, 6], [], 0), (0, [6], [], 500), (5000, [0, 1, 2, 3, 4, 5], [0, 1], 14), (0, [0], [], 30), (0, [1], [], 30), (90, [2], [], -2147483648), (91, [2], [], 2147483647), (90, [3], [], -2147483648), (91, [3], [], 2147483647), (90, [4], [], -2147483648), (91, [4], [], 2147483647), (90, [5], [], -2147483648), (91, [5], [], 2147483647)], (3000, [], [2], 272)) := vOk_in fun ρ η h => by
  obtain ⟨f0, f1, f2, f3, f4, f5, f6, f7, f8, f9, f10, f11, f12, f13, f14, f15, f16, f17, f18, f19, _⟩ := h
  exact q_92v_4 (q0 := q0) (n0 := ρ 5) (n1 := ρ 4) (n2 := ρ 3) (n3 := ρ 2) (n4 := ρ 1) (n5 := ρ 0) (n6 := ρ 6) (n7 := ρ 7) (n8 := ρ 8) (H0 := η 0) (H1 := η 1) (H2 := η 2) f19 f18 f17 f16 f15 f14 f13 f12 f11 f10 f9 f8 f7 f6 f5 f4 f3 f2 f1 f0
theorem q_92v_5 {q0 : Nat} {n0 n1 n2 n3 n4 n5 n6 n7 n8 : Int} {H0 H1 : gH} (f0 : n0 ≤ 2147483647) (f1 : (-2147483648) ≤ n0) (f2 : n1 ≤ 2147483647) (f3 : (-2147483648) ≤ n1) (f4 : n2 ≤ 2147483647) (f5 : (-2147483648) ≤ n2) (f6 : n3 ≤ 2147483647) (f7 : (-2147483648) ≤ n3) (f8 : n4 = 30) (f9 : n5 = 30) (f10 : (hLe T0 H0 H1 ∧ hFr s_92v.2.2.2.2 H0 H1 ∧ hWt T0 H1) ∧ (Ab_92v_14 n5 n4 n3 n2 n1 n0 H0 H1 ∧ preb_92v n5 H0) ∧ some q0 = some (mub_92v_14 n5 n4 n3 n2 n1 n0 H0 H1)) (f11 : n6 = 500) (f12 : n0 ≤ n6) (f13 : n7 ≤ 2147483647) (f14 : (-2147483648) ≤ n7) (f15 : n7 = hV H1 (n4).toNat 3) (f16 : n7 ≠ 0) (f17 : 0 < n3) (f18 : n8 = 1) : preb_64v n4 n8 H1 := by
  have pz := f10.2.1.2
  unfold preb_92v at pz
  have ga := f10.2.1.1
  unfold Ab_92v_14 at ga
  have vz : vwC H1 = vwC H0 := vwC_fr f10.1.2.1 (by decide +kernel)
  have gb := ga
  obtain ⟨_, s0_, o0, o7, w01, m01, xn, ya, yb⟩ := gb
  unfold preb_64v
  exact ⟨ga.1, by omega⟩
theorem c_92v_14_4 {q0 : Nat} : vOkm T0 (eP e_92v L_92v A_92v mu_92v (some q0)) 1 ([(0, [8], [], 1), (34, [2], [], 0), (31, [7], [], 0), (20, [7, 1], [1], 3), (90, [7], [], -2147483648), (91, [7], [], 2147483647), (45, [5, 6], [], 0), (0, [6], [], 500), (5000, [0, 1, 2, 3, 4, 5], [0, 1], 14), (0, [0], [], 30), (0, [1], [], 30), (90, [2], [], -2147483648), (91, [2], [], 2147483647), (90, [3], [], -2147483648), (91, [3], [], 2147483647), (90, [4], [], -2147483648), (91, [4], [], 2147483647), (90, [5], [], -2147483648), (91, [5], [], 2147483647)], (2064, [1, 8], [1], 0)) := vOk_in fun ρ η h => by
  obtain ⟨f0, f1, f2, f3, f4, f5, f6, f7, f8, f9, f10, f11, f12, f13, f14, f15, f16, f17, f18, _⟩ := h
  exact q_92v_5 (q0 := q0) (n0 := ρ 5) (n1 := ρ 4) (n2 := ρ 3) (n3 := ρ 2) (n4 := ρ 1) (n5 := ρ 0) (n6 := ρ 6) (n7 := ρ 7) (n8 := ρ 8) (H0 := η 0) (H1 := η 1) f18 f17 f16 f15 f14 f13 f12 f11 f10 f9 f8 f7 f6 f5 f4 f3 f2 f1 f0
theorem q_92v_6 {q0 : Nat} {n0 n1 n2 n3 n4 n5 n6 n7 n8 n9 : Int} {H0 H1 H2 H3 : gH} (f0 : n0 ≤ 2147483647) (f1 : (-2147483648) ≤ n0) (f2 : n1 ≤ 2147483647) (f3 : (-2147483648) ≤ n1) (f4 : n2 ≤ 2147483647) (f5 : (-2147483648) ≤ n2) (f6 : n3 ≤ 2147483647) (f7 : (-2147483648) ≤ n3) (f8 : n4 = 30) (f9 : n5 = 30) (f10 : (hLe T0 H0 H1 ∧ hFr s_92v.2.2.2.2 H0 H1 ∧ hWt T0 H1) ∧ (Ab_92v_14 n5 n4 n3 n2 n1 n0 H0 H1 ∧ preb_92v n5 H0) ∧ some q0 = some (mub_92v_14 n5 n4 n3 n2 n1 n0 H0 H1)) (f11 : n6 = 500) (f12 : n0 ≤ n6) (f13 : n7 ≤ 2147483647) (f14 : (-2147483648) ≤ n7) (f15 : n7 = hV H1 (n4).toNat 3) (f16 : n7 ≠ 0) (f17 : 0 < n3) (f18 : n8 = 1) (f19 : (hLe T0 H1 H2 ∧ hFr s_64v.2.2.2.2 H1 H2 ∧ ((0 : Int) = 0 → H2.length = H1.length) ∧ hWt T0 H2) ∧ postb_64v n4 n8 H1 H2) (f20 : n9 = 1) (f21 : (hLe T0 H2 H3 ∧ hFr s_95.2.2.2.2 H2 H3 ∧ ((0 : Int) = 0 → H3.length = H2.length) ∧ hWt T0 H3) ∧ True) : postb_92v n5 H0 H3 := by
  have pz := f10.2.1.2
  unfold preb_92v at pz
  have ga := f10.2.1.1
  unfold Ab_92v_14 at ga
  have vz : vwC H1 = vwC H0 := vwC_fr f10.1.2.1 (by decide +kernel)
  have c0 := f19.2
  unfold postb_64v at c0
  try rw [f18] at c0
  rw [vz] at c0
  have a0 : absC H2 = (pfail (vwC H0) 1 (absC H1)) := c0.2
  have v0 : vwC H2 = vwC H0 := (vwC_fr f19.1.2.1 (by decide +kernel)).trans vz
  have s1 := PF_fr f21.1.1 f21.1.2.1 (by decide +kernel) c0.1
  have a1 : absC H3 = (pfail (vwC H0) 1 (absC H1)) := s1.1.trans a0
  have v1 : vwC H3 = vwC H0 := s1.2.1.trans v0
  have gb := ga
  obtain ⟨_, s0_, o0, o7, w01, m01, xn, ya, yb⟩ := gb
  unfold postb_92v pExp
  refine ⟨s1.2.2, ?_⟩
  rw [a1]
  by_cases hf : hV H1 30 3 = 0
  · have u := xn hf
    have nw := ga.1.2.2.2.1.2.1
    have ap := (absC_pos ga.1 hf).1
    have rf0 := f15
    rw [f8] at rf0
    rw [show ((30 : Int)).toNat = 30 from rfl] at rf0
    have y := yb (by omega)
    rw [if_pos (by omega)] at y
    exact y
  · have hn := absC_neg ga.1 hf
    have hk := absC_ok ga.1
    rw [pfail_neg hn hk]
    rcases m01 with q | q
    · have y := yb q
      rw [pfail_neg hn hk] at y
      rw [← y]
      split <;> rfl
    · have y := ya q
      rw [pE_neg (vwC_ok H0) hn hk] at y
      exact y
theorem c_92v_14_5 {q0 : Nat} : vOkm T0 (eP e_92v L_92v A_92v mu_92v (some q0)) 1 ([(1095, [1, 9], [2, 3], 0), (0, [9], [], 1), (1064, [1, 8], [1, 2], 0), (0, [8], [], 1), (34, [2], [], 0), (31, [7], [], 0), (20, [7, 1], [1], 3), (90, [7], [], -2147483648), (91, [7], [], 2147483647), (45, [5, 6], [], 0), (0, [6], [], 500), (5000, [0, 1, 2, 3, 4, 5], [0, 1], 14), (0, [0], [], 30), (0, [1], [], 30), (90, [2], [], -2147483648), (91, [2], [], 2147483647), (90, [3], [], -2147483648), (91, [3], [], 2147483647), (90, [4], [], -2147483648), (91, [4], [], 2147483647), (90, [5], [], -2147483648), (91, [5], [], 2147483647)], (3000, [], [3], 272)) := vOk_in fun ρ η h => by
  obtain ⟨f0, f1, f2, f3, f4, f5, f6, f7, f8, f9, f10, f11, f12, f13, f14, f15, f16, f17, f18, f19, f20, f21, _⟩ := h
  exact q_92v_6 (q0 := q0) (n0 := ρ 5) (n1 := ρ 4) (n2 := ρ 3) (n3 := ρ 2) (n4 := ρ 1) (n5 := ρ 0) (n6 := ρ 6) (n7 := ρ 7) (n8 := ρ 8) (n9 := ρ 9) (H0 := η 0) (H1 := η 1) (H2 := η 2) (H3 := η 3) f21 f20 f19 f18 f17 f16 f15 f14 f13 f12 f11 f10 f9 f8 f7 f6 f5 f4 f3 f2 f1 f0
theorem q_92v_7 {q0 : Nat} {n0 n1 n2 n3 n4 n5 n6 n7 n8 : Int} {H0 H1 H2 : gH} (f0 : n0 ≤ 2147483647) (f1 : (-2147483648) ≤ n0) (f2 : n1 ≤ 2147483647) (f3 : (-2147483648) ≤ n1) (f4 : n2 ≤ 2147483647) (f5 : (-2147483648) ≤ n2) (f6 : n3 ≤ 2147483647) (f7 : (-2147483648) ≤ n3) (f8 : n4 = 30) (f9 : n5 = 30) (f10 : (hLe T0 H0 H1 ∧ hFr s_92v.2.2.2.2 H0 H1 ∧ hWt T0 H1) ∧ (Ab_92v_14 n5 n4 n3 n2 n1 n0 H0 H1 ∧ preb_92v n5 H0) ∧ some q0 = some (mub_92v_14 n5 n4 n3 n2 n1 n0 H0 H1)) (f11 : n6 = 500) (f12 : n0 ≤ n6) (f13 : n7 ≤ 2147483647) (f14 : (-2147483648) ≤ n7) (f15 : n7 = hV H1 (n4).toNat 3) (f16 : n7 = 0) (f17 : n1 = 0) (f18 : n3 ≤ 0) (f19 : n8 = 1) (f20 : (hLe T0 H1 H2 ∧ hFr s_95.2.2.2.2 H1 H2 ∧ ((0 : Int) = 0 → H2.length = H1.length) ∧ hWt T0 H2) ∧ True) : postb_92v n5 H0 H2 := by
  have pz := f10.2.1.2
  unfold preb_92v at pz
  have ga := f10.2.1.1
  unfold Ab_92v_14 at ga
  have vz : vwC H1 = vwC H0 := vwC_fr f10.1.2.1 (by decide +kernel)
  have s0 := PF_fr f20.1.1 f20.1.2.1 (by decide +kernel) ga.1
  have a0 : absC H2 = (absC H1) := s0.1
  have v0 : vwC H2 = vwC H0 := s0.2.1.trans vz
  have gb := ga
  obtain ⟨_, s0_, o0, o7, w01, m01, xn, ya, yb⟩ := gb
  unfold postb_92v pExp
  refine ⟨s0.2.2, ?_⟩
  rw [a0]
  by_cases hf : hV H1 30 3 = 0
  · have u := xn hf
    have nw := ga.1.2.2.2.1.2.1
    have ap := (absC_pos ga.1 hf).1
    have rf0 := f15
    rw [f8] at rf0
    rw [show ((30 : Int)).toNat = 30 from rfl] at rf0
    have y := yb (by omega)
    rw [if_neg (by omega)] at y
    exact y
  · have hn := absC_neg ga.1 hf
    have hk := absC_ok ga.1
    rcases m01 with q | q
    · have y := yb q
      rw [pfail_neg hn hk] at y
      rw [← y]
      split <;> rfl
    · have y := ya q
      rw [pE_neg (vwC_ok H0) hn hk] at y
      exact y
theorem c_92v_14_6 {q0 : Nat} : vOkm T0 (eP e_92v L_92v A_92v mu_92v (some q0)) 1 ([(1095, [1, 8], [1, 2], 0), (0, [8], [], 1), (35, [2], [], 0), (30, [4], [], 0), (30, [7], [], 0), (20, [7, 1], [1], 3), (90, [7], [], -2147483648), (91, [7], [], 2147483647), (45, [5, 6], [], 0), (0, [6], [], 500), (5000, [0, 1, 2, 3, 4, 5], [0, 1], 14), (0, [0], [], 30), (0, [1], [], 30), (90, [2], [], -2147483648), (91, [2], [], 2147483647), (90, [3], [], -2147483648), (91, [3], [], 2147483647), (90, [4], [], -2147483648), (91, [4], [], 2147483647), (90, [5], [], -2147483648), (91, [5], [], 2147483647)], (3000, [], [2], 272)) := vOk_in fun ρ η h => by
  obtain ⟨f0, f1, f2, f3, f4, f5, f6, f7, f8, f9, f10, f11, f12, f13, f14, f15, f16, f17, f18, f19, f20, _⟩ := h
  exact q_92v_7 (q0 := q0) (n0 := ρ 5) (n1 := ρ 4) (n2 := ρ 3) (n3 := ρ 2) (n4 := ρ 1) (n5 := ρ 0) (n6 := ρ 6) (n7 := ρ 7) (n8 := ρ 8) (H0 := η 0) (H1 := η 1) (H2 := η 2) f20 f19 f18 f17 f16 f15 f14 f13 f12 f11 f10 f9 f8 f7 f6 f5 f4 f3 f2 f1 f0
theorem q_92v_8 {q0 : Nat} {n0 n1 n2 n3 n4 n5 n6 n7 n8 : Int} {H0 H1 : gH} (f0 : n0 ≤ 2147483647) (f1 : (-2147483648) ≤ n0) (f2 : n1 ≤ 2147483647) (f3 : (-2147483648) ≤ n1) (f4 : n2 ≤ 2147483647) (f5 : (-2147483648) ≤ n2) (f6 : n3 ≤ 2147483647) (f7 : (-2147483648) ≤ n3) (f8 : n4 = 30) (f9 : n5 = 30) (f10 : (hLe T0 H0 H1 ∧ hFr s_92v.2.2.2.2 H0 H1 ∧ hWt T0 H1) ∧ (Ab_92v_14 n5 n4 n3 n2 n1 n0 H0 H1 ∧ preb_92v n5 H0) ∧ some q0 = some (mub_92v_14 n5 n4 n3 n2 n1 n0 H0 H1)) (f11 : n6 = 500) (f12 : n0 ≤ n6) (f13 : n7 ≤ 2147483647) (f14 : (-2147483648) ≤ n7) (f15 : n7 = hV H1 (n4).toNat 3) (f16 : n7 = 0) (f17 : n1 = 0) (f18 : 0 < n3) (f19 : n8 = 1) : preb_64v n4 n8 H1 := by
  have pz := f10.2.1.2
  unfold preb_92v at pz
  have ga := f10.2.1.1
  unfold Ab_92v_14 at ga
  have vz : vwC H1 = vwC H0 := vwC_fr f10.1.2.1 (by decide +kernel)
  have gb := ga
  obtain ⟨_, s0_, o0, o7, w01, m01, xn, ya, yb⟩ := gb
  unfold preb_64v
  exact ⟨ga.1, by omega⟩
theorem c_92v_14_7 {q0 : Nat} : vOkm T0 (eP e_92v L_92v A_92v mu_92v (some q0)) 1 ([(0, [8], [], 1), (34, [2], [], 0), (30, [4], [], 0), (30, [7], [], 0), (20, [7, 1], [1], 3), (90, [7], [], -2147483648), (91, [7], [], 2147483647), (45, [5, 6], [], 0), (0, [6], [], 500), (5000, [0, 1, 2, 3, 4, 5], [0, 1], 14), (0, [0], [], 30), (0, [1], [], 30), (90, [2], [], -2147483648), (91, [2], [], 2147483647), (90, [3], [], -2147483648), (91, [3], [], 2147483647), (90, [4], [], -2147483648), (91, [4], [], 2147483647), (90, [5], [], -2147483648), (91, [5], [], 2147483647)], (2064, [1, 8], [1], 0)) := vOk_in fun ρ η h => by
  obtain ⟨f0, f1, f2, f3, f4, f5, f6, f7, f8, f9, f10, f11, f12, f13, f14, f15, f16, f17, f18, f19, _⟩ := h
  exact q_92v_8 (q0 := q0) (n0 := ρ 5) (n1 := ρ 4) (n2 := ρ 3) (n3 := ρ 2) (n4 := ρ 1) (n5 := ρ 0) (n6 := ρ 6) (n7 := ρ 7) (n8 := ρ 8) (H0 := η 0) (H1 := η 1) f19 f18 f17 f16 f15 f14 f13 f12 f11 f10 f9 f8 f7 f6 f5 f4 f3 f2 f1 f0
theorem q_92v_9 {q0 : Nat} {n0 n1 n2 n3 n4 n5 n6 n7 n8 n9 : Int} {H0 H1 H2 H3 : gH} (f0 : n0 ≤ 2147483647) (f1 : (-2147483648) ≤ n0) (f2 : n1 ≤ 2147483647) (f3 : (-2147483648) ≤ n1) (f4 : n2 ≤ 2147483647) (f5 : (-2147483648) ≤ n2) (f6 : n3 ≤ 2147483647) (f7 : (-2147483648) ≤ n3) (f8 : n4 = 30) (f9 : n5 = 30) (f10 : (hLe T0 H0 H1 ∧ hFr s_92v.2.2.2.2 H0 H1 ∧ hWt T0 H1) ∧ (Ab_92v_14 n5 n4 n3 n2 n1 n0 H0 H1 ∧ preb_92v n5 H0) ∧ some q0 = some (mub_92v_14 n5 n4 n3 n2 n1 n0 H0 H1)) (f11 : n6 = 500) (f12 : n0 ≤ n6) (f13 : n7 ≤ 2147483647) (f14 : (-2147483648) ≤ n7) (f15 : n7 = hV H1 (n4).toNat 3) (f16 : n7 = 0) (f17 : n1 = 0) (f18 : 0 < n3) (f19 : n8 = 1) (f20 : (hLe T0 H1 H2 ∧ hFr s_64v.2.2.2.2 H1 H2 ∧ ((0 : Int) = 0 → H2.length = H1.length) ∧ hWt T0 H2) ∧ postb_64v n4 n8 H1 H2) (f21 : n9 = 1) (f22 : (hLe T0 H2 H3 ∧ hFr s_95.2.2.2.2 H2 H3 ∧ ((0 : Int) = 0 → H3.length = H2.length) ∧ hWt T0 H3) ∧ True) : postb_92v n5 H0 H3 := by
  have pz := f10.2.1.2
  unfold preb_92v at pz
  have ga := f10.2.1.1
  unfold Ab_92v_14 at ga
  have vz : vwC H1 = vwC H0 := vwC_fr f10.1.2.1 (by decide +kernel)
  have c0 := f20.2
  unfold postb_64v at c0
  try rw [f19] at c0
  rw [vz] at c0
  have a0 : absC H2 = (pfail (vwC H0) 1 (absC H1)) := c0.2
  have v0 : vwC H2 = vwC H0 := (vwC_fr f20.1.2.1 (by decide +kernel)).trans vz
  have s1 := PF_fr f22.1.1 f22.1.2.1 (by decide +kernel) c0.1
  have a1 : absC H3 = (pfail (vwC H0) 1 (absC H1)) := s1.1.trans a0
  have v1 : vwC H3 = vwC H0 := s1.2.1.trans v0
  have gb := ga
  obtain ⟨_, s0_, o0, o7, w01, m01, xn, ya, yb⟩ := gb
  unfold postb_92v pExp
  refine ⟨s1.2.2, ?_⟩
  rw [a1]
  by_cases hf : hV H1 30 3 = 0
  · have u := xn hf
    have nw := ga.1.2.2.2.1.2.1
    have ap := (absC_pos ga.1 hf).1
    have rf0 := f15
    rw [f8] at rf0
    rw [show ((30 : Int)).toNat = 30 from rfl] at rf0
    have y := yb (by omega)
    rw [if_pos (by omega)] at y
    exact y
  · have hn := absC_neg ga.1 hf
    have hk := absC_ok ga.1
    rw [pfail_neg hn hk]
    rcases m01 with q | q
    · have y := yb q
      rw [pfail_neg hn hk] at y
      rw [← y]
      split <;> rfl
    · have y := ya q
      rw [pE_neg (vwC_ok H0) hn hk] at y
      exact y
theorem c_92v_14_8 {q0 : Nat} : vOkm T0 (eP e_92v L_92v A_92v mu_92v (some q0)) 1 ([(1095, [1, 9], [2, 3], 0), (0, [9], [], 1), (1064, [1, 8], [1, 2], 0), (0, [8], [], 1), (34, [2], [], 0), (30, [4], [], 0), (30, [7], [], 0), (20, [7, 1], [1], 3), (90, [7], [], -2147483648), (91, [7], [], 2147483647), (45, [5, 6], [], 0), (0, [6], [], 500), (5000, [0, 1, 2, 3, 4, 5], [0, 1], 14), (0, [0], [], 30), (0, [1], [], 30), (90, [2], [], -2147483648), (91, [2], [], 2147483647), (90, [3], [], -2147483648), (91, [3], [], 2147483647), (90, [4], [], -2147483648), (91, [4], [], 2147483647), (90, [5], [], -2147483648), (91, [5], [], 2147483647)], (3000, [], [3], 272)) := vOk_in fun ρ η h => by
  obtain ⟨f0, f1, f2, f3, f4, f5, f6, f7, f8, f9, f10, f11, f12, f13, f14, f15, f16, f17, f18, f19, f20, f21, f22, _⟩ := h
  exact q_92v_9 (q0 := q0) (n0 := ρ 5) (n1 := ρ 4) (n2 := ρ 3) (n3 := ρ 2) (n4 := ρ 1) (n5 := ρ 0) (n6 := ρ 6) (n7 := ρ 7) (n8 := ρ 8) (n9 := ρ 9) (H0 := η 0) (H1 := η 1) (H2 := η 2) (H3 := η 3) f22 f21 f20 f19 f18 f17 f16 f15 f14 f13 f12 f11 f10 f9 f8 f7 f6 f5 f4 f3 f2 f1 f0
theorem q_92v_10 {q0 : Nat} {n0 n1 n2 n3 n4 n5 n6 n7 n8 n9 n10 n11 n12 n13 : Int} {H0 H1 : gH} (f0 : n0 ≤ 2147483647) (f1 : (-2147483648) ≤ n0) (f2 : n1 ≤ 2147483647) (f3 : (-2147483648) ≤ n1) (f4 : n2 ≤ 2147483647) (f5 : (-2147483648) ≤ n2) (f6 : n3 ≤ 2147483647) (f7 : (-2147483648) ≤ n3) (f8 : n4 = 30) (f9 : n5 = 30) (f10 : (hLe T0 H0 H1 ∧ hFr s_92v.2.2.2.2 H0 H1 ∧ hWt T0 H1) ∧ (Ab_92v_14 n5 n4 n3 n2 n1 n0 H0 H1 ∧ preb_92v n5 H0) ∧ some q0 = some (mub_92v_14 n5 n4 n3 n2 n1 n0 H0 H1)) (f11 : n6 = 500) (f12 : n0 ≤ n6) (f13 : n7 ≤ 2147483647) (f14 : (-2147483648) ≤ n7) (f15 : n7 = hV H1 (n4).toNat 3) (f16 : n7 = 0) (f17 : n1 ≠ 0) (f18 : n8 ≤ 2147483647) (f19 : (-2147483648) ≤ n8) (f20 : n8 = hV H1 (n4).toNat 2) (f21 : n2 = 0) (f22 : n2 = 0) (f23 : n9 ≤ 2147483647) (f24 : (-2147483648) ≤ n9) (f25 : n9 = hV H1 (n4).toNat 2) (f26 : n10 = 11) (f27 : n9 ≠ n10) (f28 : n11 ≤ 2147483647) (f29 : (-2147483648) ≤ n11) (f30 : n11 = hV H1 (n4).toNat 2) (f31 : n12 = 6) (f32 : n11 < n12) (f33 : n13 = 0) : Ab_92v_228 n5 n4 n3 n2 n13 n0 n8 H0 H1 ∧ ∀ q, some q0 = some q → mub_92v_228 n5 n4 n3 n2 n13 n0 n8 H0 H1 < q := by
  have pz := f10.2.1.2
  unfold preb_92v at pz
  have ga := f10.2.1.1
  unfold Ab_92v_14 at ga
  have vz : vwC H1 = vwC H0 := vwC_fr f10.1.2.1 (by decide +kernel)
  have gb := ga
  obtain ⟨_, s0_, o0, o7, w01, m01, xn, ya, yb⟩ := gb
  have rf := f15
  rw [f8] at rf
  rw [show ((30 : Int)).toNat = 30 from rfl] at rf
  have kr0 := f20
  rw [f8] at kr0
  rw [show ((30 : Int)).toNat = 30 from rfl] at kr0
  have kr1 := f25
  rw [f8] at kr1
  rw [show ((30 : Int)).toNat = 30 from rfl] at kr1
  have kr2 := f30
  rw [f8] at kr2
  rw [show ((30 : Int)).toNat = 30 from rfl] at kr2
  have ap := absC_pos ga.1 (by omega)
  have hv : (vwC H0).1 (absC H1).1 = hV H1 30 2 := by
    have u := (kd_at ga.1).resolve_left (by omega)
    rw [vz] at u
    exact u
  have u := xn (by omega)
  have nw := ga.1.2.2.2.1.2.1
  have y := ya (by omega)
  rw [show (502 - (absC H0).1).toNat - (n0).toNat = ((502 - (absC H0).1).toNat - (n0).toNat - 1) + 1 by omega] at y
  rw [show n2 = 0 by omega, pE_0 hv] at y
  have w3 : hV H1 30 3 = 0 := by omega
  have w1 : hV H1 30 1 = hV H1 30 1 := rfl
  rw [if_neg (by omega), if_neg (by omega)] at y
  have g5 := Option.some.inj f10.2.2
  unfold mub_92v_14 at g5
  unfold Ab_92v_228 mub_92v_228
  refine ⟨⟨ga.1, w3, by omega, by omega, by omega, by omega, by omega, by omega, by omega, fun h6 => ?_, fun h6 h7 => ?_, fun h6 h7 => ?_⟩, fun q hq => ?_⟩
  · exact absurd h6 (by omega)
  · exact absurd h7 (by omega)
  · skip
    rw [show n3 = n3 by omega]
    exact y
  · have g6 := Option.some.inj hq
    subst g6
    omega
theorem c_92v_14_9 {q0 : Nat} : vOkm T0 (eP e_92v L_92v A_92v mu_92v (some q0)) 1 ([(0, [13], [], 0), (42, [11, 12], [], 0), (0, [12], [], 6), (20, [11, 1], [1], 2), (90, [11], [], -2147483648), (91, [11], [], 2147483647), (41, [9, 10], [], 0), (0, [10], [], 11), (20, [9, 1], [1], 2), (90, [9], [], -2147483648), (91, [9], [], 2147483647), (30, [3], [], 0), (30, [3], [], 0), (20, [8, 1], [1], 2), (90, [8], [], -2147483648), (91, [8], [], 2147483647), (31, [4], [], 0), (30, [7], [], 0), (20, [7, 1], [1], 3), (90, [7], [], -2147483648), (91, [7], [], 2147483647), (45, [5, 6], [], 0), (0, [6], [], 500), (5000, [0, 1, 2, 3, 4, 5], [0, 1], 14), (0, [0], [], 30), (0, [1], [], 30), (90, [2], [], -2147483648), (91, [2], [], 2147483647), (90, [3], [], -2147483648), (91, [3], [], 2147483647), (90, [4], [], -2147483648), (91, [4], [], 2147483647), (90, [5], [], -2147483648), (91, [5], [], 2147483647)], (4000, [1, 2, 3, 13, 5, 8], [1], 228)) := vOk_in fun ρ η h => by
  obtain ⟨f0, f1, f2, f3, f4, f5, f6, f7, f8, f9, f10, f11, f12, f13, f14, f15, f16, f17, f18, f19, f20, f21, f22, f23, f24, f25, f26, f27, f28, f29, f30, f31, f32, f33, _⟩ := h
  exact q_92v_10 (q0 := q0) (n0 := ρ 5) (n1 := ρ 4) (n2 := ρ 3) (n3 := ρ 2) (n4 := ρ 1) (n5 := ρ 0) (n6 := ρ 6) (n7 := ρ 7) (n8 := ρ 8) (n9 := ρ 9) (n10 := ρ 10) (n11 := ρ 11) (n12 := ρ 12) (n13 := ρ 13) (H0 := η 0) (H1 := η 1) f33 f32 f31 f30 f29 f28 f27 f26 f25 f24 f23 f22 f21 f20 f19 f18 f17 f16 f15 f14 f13 f12 f11 f10 f9 f8 f7 f6 f5 f4 f3 f2 f1 f0
theorem q_92v_11 {q0 : Nat} {n0 n1 n2 n3 n4 n5 n6 n7 n8 n9 n10 n11 n12 n13 n14 n15 : Int} {H0 H1 : gH} (f0 : n0 ≤ 2147483647) (f1 : (-2147483648) ≤ n0) (f2 : n1 ≤ 2147483647) (f3 : (-2147483648) ≤ n1) (f4 : n2 ≤ 2147483647) (f5 : (-2147483648) ≤ n2) (f6 : n3 ≤ 2147483647) (f7 : (-2147483648) ≤ n3) (f8 : n4 = 30) (f9 : n5 = 30) (f10 : (hLe T0 H0 H1 ∧ hFr s_92v.2.2.2.2 H0 H1 ∧ hWt T0 H1) ∧ (Ab_92v_14 n5 n4 n3 n2 n1 n0 H0 H1 ∧ preb_92v n5 H0) ∧ some q0 = some (mub_92v_14 n5 n4 n3 n2 n1 n0 H0 H1)) (f11 : n6 = 500) (f12 : n0 ≤ n6) (f13 : n7 ≤ 2147483647) (f14 : (-2147483648) ≤ n7) (f15 : n7 = hV H1 (n4).toNat 3) (f16 : n7 = 0) (f17 : n1 ≠ 0) (f18 : n8 ≤ 2147483647) (f19 : (-2147483648) ≤ n8) (f20 : n8 = hV H1 (n4).toNat 2) (f21 : n2 = 0) (f22 : n2 = 0) (f23 : n9 ≤ 2147483647) (f24 : (-2147483648) ≤ n9) (f25 : n9 = hV H1 (n4).toNat 2) (f26 : n10 = 11) (f27 : n9 ≠ n10) (f28 : n11 ≤ 2147483647) (f29 : (-2147483648) ≤ n11) (f30 : n11 = hV H1 (n4).toNat 2) (f31 : n12 = 6) (f32 : n12 ≤ n11) (f33 : n13 ≤ 2147483647) (f34 : (-2147483648) ≤ n13) (f35 : n13 = hV H1 (n4).toNat 2) (f36 : n14 = 9) (f37 : n14 < n13) (f38 : n15 = 0) : Ab_92v_228 n5 n4 n3 n2 n15 n0 n8 H0 H1 ∧ ∀ q, some q0 = some q → mub_92v_228 n5 n4 n3 n2 n15 n0 n8 H0 H1 < q := by
  have pz := f10.2.1.2
  unfold preb_92v at pz
  have ga := f10.2.1.1
  unfold Ab_92v_14 at ga
  have vz : vwC H1 = vwC H0 := vwC_fr f10.1.2.1 (by decide +kernel)
  have gb := ga
  obtain ⟨_, s0_, o0, o7, w01, m01, xn, ya, yb⟩ := gb
  have rf := f15
  rw [f8] at rf
  rw [show ((30 : Int)).toNat = 30 from rfl] at rf
  have kr0 := f20
  rw [f8] at kr0
  rw [show ((30 : Int)).toNat = 30 from rfl] at kr0
  have kr1 := f25
  rw [f8] at kr1
  rw [show ((30 : Int)).toNat = 30 from rfl] at kr1
  have kr2 := f30
  rw [f8] at kr2
  rw [show ((30 : Int)).toNat = 30 from rfl] at kr2
  have kr3 := f35
  rw [f8] at kr3
  rw [show ((30 : Int)).toNat = 30 from rfl] at kr3
  have ap := absC_pos ga.1 (by omega)
  have hv : (vwC H0).1 (absC H1).1 = hV H1 30 2 := by
    have u := (kd_at ga.1).resolve_left (by omega)
    rw [vz] at u
    exact u
  have u := xn (by omega)
  have nw := ga.1.2.2.2.1.2.1
  have y := ya (by omega)
  rw [show (502 - (absC H0).1).toNat - (n0).toNat = ((502 - (absC H0).1).toNat - (n0).toNat - 1) + 1 by omega] at y
  rw [show n2 = 0 by omega, pE_0 hv] at y
  have w3 : hV H1 30 3 = 0 := by omega
  have w1 : hV H1 30 1 = hV H1 30 1 := rfl
  rw [if_neg (by omega), if_neg (by omega)] at y
  have g5 := Option.some.inj f10.2.2
  unfold mub_92v_14 at g5
  unfold Ab_92v_228 mub_92v_228
  refine ⟨⟨ga.1, w3, by omega, by omega, by omega, by omega, by omega, by omega, by omega, fun h6 => ?_, fun h6 h7 => ?_, fun h6 h7 => ?_⟩, fun q hq => ?_⟩
  · exact absurd h6 (by omega)
  · exact absurd h7 (by omega)
  · skip
    rw [show n3 = n3 by omega]
    exact y
  · have g6 := Option.some.inj hq
    subst g6
    omega
theorem c_92v_14_10 {q0 : Nat} : vOkm T0 (eP e_92v L_92v A_92v mu_92v (some q0)) 1 ([(0, [15], [], 0), (44, [13, 14], [], 0), (0, [14], [], 9), (20, [13, 1], [1], 2), (90, [13], [], -2147483648), (91, [13], [], 2147483647), (43, [11, 12], [], 0), (0, [12], [], 6), (20, [11, 1], [1], 2), (90, [11], [], -2147483648), (91, [11], [], 2147483647), (41, [9, 10], [], 0), (0, [10], [], 11), (20, [9, 1], [1], 2), (90, [9], [], -2147483648), (91, [9], [], 2147483647), (30, [3], [], 0), (30, [3], [], 0), (20, [8, 1], [1], 2), (90, [8], [], -2147483648), (91, [8], [], 2147483647), (31, [4], [], 0), (30, [7], [], 0), (20, [7, 1], [1], 3), (90, [7], [], -2147483648), (91, [7], [], 2147483647), (45, [5, 6], [], 0), (0, [6], [], 500), (5000, [0, 1, 2, 3, 4, 5], [0, 1], 14), (0, [0], [], 30), (0, [1], [], 30), (90, [2], [], -2147483648), (91, [2], [], 2147483647), (90, [3], [], -2147483648), (91, [3], [], 2147483647), (90, [4], [], -2147483648), (91, [4], [], 2147483647), (90, [5], [], -2147483648), (91, [5], [], 2147483647)], (4000, [1, 2, 3, 15, 5, 8], [1], 228)) := vOk_in fun ρ η h => by
  obtain ⟨f0, f1, f2, f3, f4, f5, f6, f7, f8, f9, f10, f11, f12, f13, f14, f15, f16, f17, f18, f19, f20, f21, f22, f23, f24, f25, f26, f27, f28, f29, f30, f31, f32, f33, f34, f35, f36, f37, f38, _⟩ := h
  exact q_92v_11 (q0 := q0) (n0 := ρ 5) (n1 := ρ 4) (n2 := ρ 3) (n3 := ρ 2) (n4 := ρ 1) (n5 := ρ 0) (n6 := ρ 6) (n7 := ρ 7) (n8 := ρ 8) (n9 := ρ 9) (n10 := ρ 10) (n11 := ρ 11) (n12 := ρ 12) (n13 := ρ 13) (n14 := ρ 14) (n15 := ρ 15) (H0 := η 0) (H1 := η 1) f38 f37 f36 f35 f34 f33 f32 f31 f30 f29 f28 f27 f26 f25 f24 f23 f22 f21 f20 f19 f18 f17 f16 f15 f14 f13 f12 f11 f10 f9 f8 f7 f6 f5 f4 f3 f2 f1 f0
theorem q_92v_12 {q0 : Nat} {n0 n1 n2 n3 n4 n5 n6 n7 n8 n9 n10 n11 n12 n13 n14 n15 n16 n17 n18 : Int} {H0 H1 H2 H3 H4 : gH} (f0 : n0 ≤ 2147483647) (f1 : (-2147483648) ≤ n0) (f2 : n1 ≤ 2147483647) (f3 : (-2147483648) ≤ n1) (f4 : n2 ≤ 2147483647) (f5 : (-2147483648) ≤ n2) (f6 : n3 ≤ 2147483647) (f7 : (-2147483648) ≤ n3) (f8 : n4 = 30) (f9 : n5 = 30) (f10 : (hLe T0 H0 H1 ∧ hFr s_92v.2.2.2.2 H0 H1 ∧ hWt T0 H1) ∧ (Ab_92v_14 n5 n4 n3 n2 n1 n0 H0 H1 ∧ preb_92v n5 H0) ∧ some q0 = some (mub_92v_14 n5 n4 n3 n2 n1 n0 H0 H1)) (f11 : n6 = 500) (f12 : n0 ≤ n6) (f13 : n7 ≤ 2147483647) (f14 : (-2147483648) ≤ n7) (f15 : n7 = hV H1 (n4).toNat 3) (f16 : n7 = 0) (f17 : n1 ≠ 0) (f18 : n8 ≤ 2147483647) (f19 : (-2147483648) ≤ n8) (f20 : n8 = hV H1 (n4).toNat 2) (f21 : n2 = 0) (f22 : n2 = 0) (f23 : n9 ≤ 2147483647) (f24 : (-2147483648) ≤ n9) (f25 : n9 = hV H1 (n4).toNat 2) (f26 : n10 = 11) (f27 : n9 ≠ n10) (f28 : n11 ≤ 2147483647) (f29 : (-2147483648) ≤ n11) (f30 : n11 = hV H1 (n4).toNat 2) (f31 : n12 = 6) (f32 : n12 ≤ n11) (f33 : n13 ≤ 2147483647) (f34 : (-2147483648) ≤ n13) (f35 : n13 = hV H1 (n4).toNat 2) (f36 : n14 = 9) (f37 : n13 ≤ n14) (f38 : n15 ≤ 2147483647) (f39 : (-2147483648) ≤ n15) (f40 : n15 = hV H1 (n4).toNat 2) (f41 : n16 ≤ 2147483647) (f42 : (-2147483648) ≤ n16) (f43 : (hLe T0 H1 H2 ∧ hFr s_93.2.2.2.2 H1 H2 ∧ ((0 : Int) = 0 → H2.length = H1.length) ∧ hWt T0 H2) ∧ True) (f44 : (hLe T0 H2 H3 ∧ hFr s_95.2.2.2.2 H2 H3 ∧ ((0 : Int) = 0 → H3.length = H2.length) ∧ hWt T0 H3) ∧ True) (f45 : n17 ≤ 2147483647) (f46 : (-2147483648) ≤ n17) (f47 : n17 = hV H3 (n4).toNat 2) (f48 : (hLe T0 H3 H4 ∧ hFr s_94.2.2.2.2 H3 H4 ∧ ((0 : Int) = 0 → H4.length = H3.length) ∧ hWt T0 H4) ∧ True) (f49 : n18 = 1) : Ab_92v_228 n5 n4 n3 n18 n1 n0 n8 H0 H4 ∧ ∀ q, some q0 = some q → mub_92v_228 n5 n4 n3 n18 n1 n0 n8 H0 H4 < q := by
  have pz := f10.2.1.2
  unfold preb_92v at pz
  have ga := f10.2.1.1
  unfold Ab_92v_14 at ga
  have vz : vwC H1 = vwC H0 := vwC_fr f10.1.2.1 (by decide +kernel)
  have s0 := PF_fr f43.1.1 f43.1.2.1 (by decide +kernel) ga.1
  have a0 : absC H2 = (absC H1) := s0.1
  have v0 : vwC H2 = vwC H0 := s0.2.1.trans vz
  have s1 := PF_fr f44.1.1 f44.1.2.1 (by decide +kernel) s0.2.2
  have a1 : absC H3 = (absC H1) := s1.1.trans a0
  have v1 : vwC H3 = vwC H0 := s1.2.1.trans v0
  have s2 := PF_fr f48.1.1 f48.1.2.1 (by decide +kernel) s1.2.2
  have a2 : absC H4 = (absC H1) := s2.1.trans a1
  have v2 : vwC H4 = vwC H0 := s2.2.1.trans v1
  have gb := ga
  obtain ⟨_, s0_, o0, o7, w01, m01, xn, ya, yb⟩ := gb
  have rf := f15
  rw [f8] at rf
  rw [show ((30 : Int)).toNat = 30 from rfl] at rf
  have kr0 := f20
  rw [f8] at kr0
  rw [show ((30 : Int)).toNat = 30 from rfl] at kr0
  have kr1 := f25
  rw [f8] at kr1
  rw [show ((30 : Int)).toNat = 30 from rfl] at kr1
  have kr2 := f30
  rw [f8] at kr2
  rw [show ((30 : Int)).toNat = 30 from rfl] at kr2
  have kr3 := f35
  rw [f8] at kr3
  rw [show ((30 : Int)).toNat = 30 from rfl] at kr3
  have kr4 := f40
  rw [f8] at kr4
  rw [show ((30 : Int)).toNat = 30 from rfl] at kr4
  have kr5 := f47
  rw [f8] at kr5
  rw [show ((30 : Int)).toNat = 30 from rfl] at kr5
  rw [show hV H3 30 2 = hV H1 30 2 from (f44.1.2.1.1 30 2 (by decide +kernel)).trans (f43.1.2.1.1 30 2 (by decide +kernel))] at kr5
  have ap := absC_pos ga.1 (by omega)
  have hv : (vwC H0).1 (absC H1).1 = hV H1 30 2 := by
    have u := (kd_at ga.1).resolve_left (by omega)
    rw [vz] at u
    exact u
  have u := xn (by omega)
  have nw := ga.1.2.2.2.1.2.1
  have y := ya (by omega)
  rw [show (502 - (absC H0).1).toNat - (n0).toNat = ((502 - (absC H0).1).toNat - (n0).toNat - 1) + 1 by omega] at y
  rw [show n2 = 0 by omega, pE_0 hv] at y
  have w3 : hV H4 30 3 = 0 := ((f48.1.2.1.1 30 3 (by decide +kernel)).trans ((f44.1.2.1.1 30 3 (by decide +kernel)).trans (f43.1.2.1.1 30 3 (by decide +kernel)))).trans (by omega)
  have w1 : hV H4 30 1 = hV H1 30 1 := (f48.1.2.1.1 30 1 (by decide +kernel)).trans ((f44.1.2.1.1 30 1 (by decide +kernel)).trans (f43.1.2.1.1 30 1 (by decide +kernel)))
  rw [if_neg (by omega), if_pos (by omega)] at y
  have g5 := Option.some.inj f10.2.2
  unfold mub_92v_14 at g5
  unfold Ab_92v_228 mub_92v_228
  refine ⟨⟨s2.2.2, w3, by omega, by omega, by omega, by omega, by omega, by omega, by omega, fun h6 => ?_, fun h6 h7 => ?_, fun h6 h7 => ?_⟩, fun q hq => ?_⟩
  · exact absurd h6 (by omega)
  · rw [a2]
    rw [show n8 = hV H1 30 2 by omega, show n18 = 1 by omega, show n3 = n3 by omega]
    exact ⟨by omega, y⟩
  · exact absurd h7 (by omega)
  · have g6 := Option.some.inj hq
    subst g6
    omega
theorem c_92v_14_11 {q0 : Nat} : vOkm T0 (eP e_92v L_92v A_92v mu_92v (some q0)) 1 ([(0, [18], [], 1), (1094, [1, 17], [3, 4], 0), (20, [17, 1], [3], 2), (90, [17], [], -2147483648), (91, [17], [], 2147483647), (1095, [1, 16], [2, 3], 0), (1093, [16, 15], [1, 2], 0), (90, [16], [], -2147483648), (91, [16], [], 2147483647), (20, [15, 1], [1], 2), (90, [15], [], -2147483648), (91, [15], [], 2147483647), (45, [13, 14], [], 0), (0, [14], [], 9), (20, [13, 1], [1], 2), (90, [13], [], -2147483648), (91, [13], [], 2147483647), (43, [11, 12], [], 0), (0, [12], [], 6), (20, [11, 1], [1], 2), (90, [11], [], -2147483648), (91, [11], [], 2147483647), (41, [9, 10], [], 0), (0, [10], [], 11), (20, [9, 1], [1], 2), (90, [9], [], -2147483648), (91, [9], [], 2147483647), (30, [3], [], 0), (30, [3], [], 0), (20, [8, 1], [1], 2), (90, [8], [], -2147483648), (91, [8], [], 2147483647), (31, [4], [], 0), (30, [7], [], 0), (20, [7, 1], [1], 3), (90, [7], [], -2147483648), (91, [7], [], 2147483647), (45, [5, 6], [], 0), (0, [6], [], 500), (5000, [0, 1, 2, 3, 4, 5], [0, 1], 14), (0, [0], [], 30), (0, [1], [], 30), (90, [2], [], -2147483648), (91, [2], [], 2147483647), (90, [3], [], -2147483648), (91, [3], [], 2147483647), (90, [4], [], -2147483648), (91, [4], [], 2147483647), (90, [5], [], -2147483648), (91, [5], [], 2147483647)], (4000, [1, 2, 18, 4, 5, 8], [4], 228)) := vOk_in fun ρ η h => by
  obtain ⟨f0, f1, f2, f3, f4, f5, f6, f7, f8, f9, f10, f11, f12, f13, f14, f15, f16, f17, f18, f19, f20, f21, f22, f23, f24, f25, f26, f27, f28, f29, f30, f31, f32, f33, f34, f35, f36, f37, f38, f39, f40, f41, f42, f43, f44, f45, f46, f47, f48, f49, _⟩ := h
  exact q_92v_12 (q0 := q0) (n0 := ρ 5) (n1 := ρ 4) (n2 := ρ 3) (n3 := ρ 2) (n4 := ρ 1) (n5 := ρ 0) (n6 := ρ 6) (n7 := ρ 7) (n8 := ρ 8) (n9 := ρ 9) (n10 := ρ 10) (n11 := ρ 11) (n12 := ρ 12) (n13 := ρ 13) (n14 := ρ 14) (n15 := ρ 15) (n16 := ρ 16) (n17 := ρ 17) (n18 := ρ 18) (H0 := η 0) (H1 := η 1) (H2 := η 2) (H3 := η 3) (H4 := η 4) f49 f48 f47 f46 f45 f44 f43 f42 f41 f40 f39 f38 f37 f36 f35 f34 f33 f32 f31 f30 f29 f28 f27 f26 f25 f24 f23 f22 f21 f20 f19 f18 f17 f16 f15 f14 f13 f12 f11 f10 f9 f8 f7 f6 f5 f4 f3 f2 f1 f0
theorem q_92v_13 {q0 : Nat} {n0 n1 n2 n3 n4 n5 n6 n7 n8 n9 n10 n11 n12 n13 : Int} {H0 H1 : gH} (f0 : n0 ≤ 2147483647) (f1 : (-2147483648) ≤ n0) (f2 : n1 ≤ 2147483647) (f3 : (-2147483648) ≤ n1) (f4 : n2 ≤ 2147483647) (f5 : (-2147483648) ≤ n2) (f6 : n3 ≤ 2147483647) (f7 : (-2147483648) ≤ n3) (f8 : n4 = 30) (f9 : n5 = 30) (f10 : (hLe T0 H0 H1 ∧ hFr s_92v.2.2.2.2 H0 H1 ∧ hWt T0 H1) ∧ (Ab_92v_14 n5 n4 n3 n2 n1 n0 H0 H1 ∧ preb_92v n5 H0) ∧ some q0 = some (mub_92v_14 n5 n4 n3 n2 n1 n0 H0 H1)) (f11 : n6 = 500) (f12 : n0 ≤ n6) (f13 : n7 ≤ 2147483647) (f14 : (-2147483648) ≤ n7) (f15 : n7 = hV H1 (n4).toNat 3) (f16 : n7 = 0) (f17 : n1 ≠ 0) (f18 : n8 ≤ 2147483647) (f19 : (-2147483648) ≤ n8) (f20 : n8 = hV H1 (n4).toNat 2) (f21 : n2 = 0) (f22 : n2 = 0) (f23 : n9 ≤ 2147483647) (f24 : (-2147483648) ≤ n9) (f25 : n9 = hV H1 (n4).toNat 2) (f26 : n10 = 11) (f27 : n9 = n10) (f28 : n3 ≤ 0) (f29 : n11 ≤ 2147483647) (f30 : (-2147483648) ≤ n11) (f31 : n11 = hV H1 (n4).toNat 2) (f32 : n12 = 6) (f33 : n11 < n12) (f34 : n13 = 0) : Ab_92v_228 n5 n4 n3 n2 n13 n0 n8 H0 H1 ∧ ∀ q, some q0 = some q → mub_92v_228 n5 n4 n3 n2 n13 n0 n8 H0 H1 < q := by
  have pz := f10.2.1.2
  unfold preb_92v at pz
  have ga := f10.2.1.1
  unfold Ab_92v_14 at ga
  have vz : vwC H1 = vwC H0 := vwC_fr f10.1.2.1 (by decide +kernel)
  have gb := ga
  obtain ⟨_, s0_, o0, o7, w01, m01, xn, ya, yb⟩ := gb
  have rf := f15
  rw [f8] at rf
  rw [show ((30 : Int)).toNat = 30 from rfl] at rf
  have kr0 := f20
  rw [f8] at kr0
  rw [show ((30 : Int)).toNat = 30 from rfl] at kr0
  have kr1 := f25
  rw [f8] at kr1
  rw [show ((30 : Int)).toNat = 30 from rfl] at kr1
  have kr2 := f31
  rw [f8] at kr2
  rw [show ((30 : Int)).toNat = 30 from rfl] at kr2
  have ap := absC_pos ga.1 (by omega)
  have hv : (vwC H0).1 (absC H1).1 = hV H1 30 2 := by
    have u := (kd_at ga.1).resolve_left (by omega)
    rw [vz] at u
    exact u
  have u := xn (by omega)
  have nw := ga.1.2.2.2.1.2.1
  have y := ya (by omega)
  rw [show (502 - (absC H0).1).toNat - (n0).toNat = ((502 - (absC H0).1).toNat - (n0).toNat - 1) + 1 by omega] at y
  rw [show n2 = 0 by omega, pE_0 hv] at y
  have w3 : hV H1 30 3 = 0 := by omega
  have w1 : hV H1 30 1 = hV H1 30 1 := rfl
  rw [if_neg (by omega), if_neg (by omega)] at y
  have g5 := Option.some.inj f10.2.2
  unfold mub_92v_14 at g5
  unfold Ab_92v_228 mub_92v_228
  refine ⟨⟨ga.1, w3, by omega, by omega, by omega, by omega, by omega, by omega, by omega, fun h6 => ?_, fun h6 h7 => ?_, fun h6 h7 => ?_⟩, fun q hq => ?_⟩
  · exact absurd h6 (by omega)
  · exact absurd h7 (by omega)
  · skip
    rw [show n3 = n3 by omega]
    exact y
  · have g6 := Option.some.inj hq
    subst g6
    omega
theorem c_92v_14_12 {q0 : Nat} : vOkm T0 (eP e_92v L_92v A_92v mu_92v (some q0)) 1 ([(0, [13], [], 0), (42, [11, 12], [], 0), (0, [12], [], 6), (20, [11, 1], [1], 2), (90, [11], [], -2147483648), (91, [11], [], 2147483647), (35, [2], [], 0), (40, [9, 10], [], 0), (0, [10], [], 11), (20, [9, 1], [1], 2), (90, [9], [], -2147483648), (91, [9], [], 2147483647), (30, [3], [], 0), (30, [3], [], 0), (20, [8, 1], [1], 2), (90, [8], [], -2147483648), (91, [8], [], 2147483647), (31, [4], [], 0), (30, [7], [], 0), (20, [7, 1], [1], 3), (90, [7], [], -2147483648), (91, [7], [], 2147483647), (45, [5, 6], [], 0), (0, [6], [], 500), (5000, [0, 1, 2, 3, 4, 5], [0, 1], 14), (0, [0], [], 30), (0, [1], [], 30), (90, [2], [], -2147483648), (91, [2], [], 2147483647), (90, [3], [], -2147483648), (91, [3], [], 2147483647), (90, [4], [], -2147483648), (91, [4], [], 2147483647), (90, [5], [], -2147483648), (91, [5], [], 2147483647)], (4000, [1, 2, 3, 13, 5, 8], [1], 228)) := vOk_in fun ρ η h => by
  obtain ⟨f0, f1, f2, f3, f4, f5, f6, f7, f8, f9, f10, f11, f12, f13, f14, f15, f16, f17, f18, f19, f20, f21, f22, f23, f24, f25, f26, f27, f28, f29, f30, f31, f32, f33, f34, _⟩ := h
  exact q_92v_13 (q0 := q0) (n0 := ρ 5) (n1 := ρ 4) (n2 := ρ 3) (n3 := ρ 2) (n4 := ρ 1) (n5 := ρ 0) (n6 := ρ 6) (n7 := ρ 7) (n8 := ρ 8) (n9 := ρ 9) (n10 := ρ 10) (n11 := ρ 11) (n12 := ρ 12) (n13 := ρ 13) (H0 := η 0) (H1 := η 1) f34 f33 f32 f31 f30 f29 f28 f27 f26 f25 f24 f23 f22 f21 f20 f19 f18 f17 f16 f15 f14 f13 f12 f11 f10 f9 f8 f7 f6 f5 f4 f3 f2 f1 f0
theorem q_92v_14 {q0 : Nat} {n0 n1 n2 n3 n4 n5 n6 n7 n8 n9 n10 n11 n12 n13 n14 n15 : Int} {H0 H1 : gH} (f0 : n0 ≤ 2147483647) (f1 : (-2147483648) ≤ n0) (f2 : n1 ≤ 2147483647) (f3 : (-2147483648) ≤ n1) (f4 : n2 ≤ 2147483647) (f5 : (-2147483648) ≤ n2) (f6 : n3 ≤ 2147483647) (f7 : (-2147483648) ≤ n3) (f8 : n4 = 30) (f9 : n5 = 30) (f10 : (hLe T0 H0 H1 ∧ hFr s_92v.2.2.2.2 H0 H1 ∧ hWt T0 H1) ∧ (Ab_92v_14 n5 n4 n3 n2 n1 n0 H0 H1 ∧ preb_92v n5 H0) ∧ some q0 = some (mub_92v_14 n5 n4 n3 n2 n1 n0 H0 H1)) (f11 : n6 = 500) (f12 : n0 ≤ n6) (f13 : n7 ≤ 2147483647) (f14 : (-2147483648) ≤ n7) (f15 : n7 = hV H1 (n4).toNat 3) (f16 : n7 = 0) (f17 : n1 ≠ 0) (f18 : n8 ≤ 2147483647) (f19 : (-2147483648) ≤ n8) (f20 : n8 = hV H1 (n4).toNat 2) (f21 : n2 = 0) (f22 : n2 = 0) (f23 : n9 ≤ 2147483647) (f24 : (-2147483648) ≤ n9) (f25 : n9 = hV H1 (n4).toNat 2) (f26 : n10 = 11) (f27 : n9 = n10) (f28 : n3 ≤ 0) (f29 : n11 ≤ 2147483647) (f30 : (-2147483648) ≤ n11) (f31 : n11 = hV H1 (n4).toNat 2) (f32 : n12 = 6) (f33 : n12 ≤ n11) (f34 : n13 ≤ 2147483647) (f35 : (-2147483648) ≤ n13) (f36 : n13 = hV H1 (n4).toNat 2) (f37 : n14 = 9) (f38 : n14 < n13) (f39 : n15 = 0) : Ab_92v_228 n5 n4 n3 n2 n15 n0 n8 H0 H1 ∧ ∀ q, some q0 = some q → mub_92v_228 n5 n4 n3 n2 n15 n0 n8 H0 H1 < q := by
  have pz := f10.2.1.2
  unfold preb_92v at pz
  have ga := f10.2.1.1
  unfold Ab_92v_14 at ga
  have vz : vwC H1 = vwC H0 := vwC_fr f10.1.2.1 (by decide +kernel)
  have gb := ga
  obtain ⟨_, s0_, o0, o7, w01, m01, xn, ya, yb⟩ := gb
  have rf := f15
  rw [f8] at rf
  rw [show ((30 : Int)).toNat = 30 from rfl] at rf
  have kr0 := f20
  rw [f8] at kr0
  rw [show ((30 : Int)).toNat = 30 from rfl] at kr0
  have kr1 := f25
  rw [f8] at kr1
  rw [show ((30 : Int)).toNat = 30 from rfl] at kr1
  have kr2 := f31
  rw [f8] at kr2
  rw [show ((30 : Int)).toNat = 30 from rfl] at kr2
  have kr3 := f36
  rw [f8] at kr3
  rw [show ((30 : Int)).toNat = 30 from rfl] at kr3
  have ap := absC_pos ga.1 (by omega)
  have hv : (vwC H0).1 (absC H1).1 = hV H1 30 2 := by
    have u := (kd_at ga.1).resolve_left (by omega)
    rw [vz] at u
    exact u
  have u := xn (by omega)
  have nw := ga.1.2.2.2.1.2.1
  have y := ya (by omega)
  rw [show (502 - (absC H0).1).toNat - (n0).toNat = ((502 - (absC H0).1).toNat - (n0).toNat - 1) + 1 by omega] at y
  rw [show n2 = 0 by omega, pE_0 hv] at y
  have w3 : hV H1 30 3 = 0 := by omega
  have w1 : hV H1 30 1 = hV H1 30 1 := rfl
  rw [if_neg (by omega), if_neg (by omega)] at y
  have g5 := Option.some.inj f10.2.2
  unfold mub_92v_14 at g5
  unfold Ab_92v_228 mub_92v_228
  refine ⟨⟨ga.1, w3, by omega, by omega, by omega, by omega, by omega, by omega, by omega, fun h6 => ?_, fun h6 h7 => ?_, fun h6 h7 => ?_⟩, fun q hq => ?_⟩
  · exact absurd h6 (by omega)
  · exact absurd h7 (by omega)
  · skip
    rw [show n3 = n3 by omega]
    exact y
  · have g6 := Option.some.inj hq
    subst g6
    omega
theorem c_92v_14_13 {q0 : Nat} : vOkm T0 (eP e_92v L_92v A_92v mu_92v (some q0)) 1 ([(0, [15], [], 0), (44, [13, 14], [], 0), (0, [14], [], 9), (20, [13, 1], [1], 2), (90, [13], [], -2147483648), (91, [13], [], 2147483647), (43, [11, 12], [], 0), (0, [12], [], 6), (20, [11, 1], [1], 2), (90, [11], [], -2147483648), (91, [11], [], 2147483647), (35, [2], [], 0), (40, [9, 10], [], 0), (0, [10], [], 11), (20, [9, 1], [1], 2), (90, [9], [], -2147483648), (91, [9], [], 2147483647), (30, [3], [], 0), (30, [3], [], 0), (20, [8, 1], [1], 2), (90, [8], [], -2147483648), (91, [8], [], 2147483647), (31, [4], [], 0), (30, [7], [], 0), (20, [7, 1], [1], 3), (90, [7], [], -2147483648), (91, [7], [], 2147483647), (45, [5, 6], [], 0), (0, [6], [], 500), (5000, [0, 1, 2, 3, 4, 5], [0, 1], 14), (0, [0], [], 30), (0, [1], [], 30), (90, [2], [], -2147483648), (91, [2], [], 2147483647), (90, [3], [], -2147483648), (91, [3], [], 2147483647), (90, [4], [], -2147483648), (91, [4], [], 2147483647), (90, [5], [], -2147483648), (91, [5], [], 2147483647)], (4000, [1, 2, 3, 15, 5, 8], [1], 228)) := vOk_in fun ρ η h => by
  obtain ⟨f0, f1, f2, f3, f4, f5, f6, f7, f8, f9, f10, f11, f12, f13, f14, f15, f16, f17, f18, f19, f20, f21, f22, f23, f24, f25, f26, f27, f28, f29, f30, f31, f32, f33, f34, f35, f36, f37, f38, f39, _⟩ := h
  exact q_92v_14 (q0 := q0) (n0 := ρ 5) (n1 := ρ 4) (n2 := ρ 3) (n3 := ρ 2) (n4 := ρ 1) (n5 := ρ 0) (n6 := ρ 6) (n7 := ρ 7) (n8 := ρ 8) (n9 := ρ 9) (n10 := ρ 10) (n11 := ρ 11) (n12 := ρ 12) (n13 := ρ 13) (n14 := ρ 14) (n15 := ρ 15) (H0 := η 0) (H1 := η 1) f39 f38 f37 f36 f35 f34 f33 f32 f31 f30 f29 f28 f27 f26 f25 f24 f23 f22 f21 f20 f19 f18 f17 f16 f15 f14 f13 f12 f11 f10 f9 f8 f7 f6 f5 f4 f3 f2 f1 f0
theorem q_92v_15 {q0 : Nat} {n0 n1 n2 n3 n4 n5 n6 n7 n8 n9 n10 n11 n12 n13 n14 n15 n16 n17 n18 : Int} {H0 H1 H2 H3 H4 : gH} (f0 : n0 ≤ 2147483647) (f1 : (-2147483648) ≤ n0) (f2 : n1 ≤ 2147483647) (f3 : (-2147483648) ≤ n1) (f4 : n2 ≤ 2147483647) (f5 : (-2147483648) ≤ n2) (f6 : n3 ≤ 2147483647) (f7 : (-2147483648) ≤ n3) (f8 : n4 = 30) (f9 : n5 = 30) (f10 : (hLe T0 H0 H1 ∧ hFr s_92v.2.2.2.2 H0 H1 ∧ hWt T0 H1) ∧ (Ab_92v_14 n5 n4 n3 n2 n1 n0 H0 H1 ∧ preb_92v n5 H0) ∧ some q0 = some (mub_92v_14 n5 n4 n3 n2 n1 n0 H0 H1)) (f11 : n6 = 500) (f12 : n0 ≤ n6) (f13 : n7 ≤ 2147483647) (f14 : (-2147483648) ≤ n7) (f15 : n7 = hV H1 (n4).toNat 3) (f16 : n7 = 0) (f17 : n1 ≠ 0) (f18 : n8 ≤ 2147483647) (f19 : (-2147483648) ≤ n8) (f20 : n8 = hV H1 (n4).toNat 2) (f21 : n2 = 0) (f22 : n2 = 0) (f23 : n9 ≤ 2147483647) (f24 : (-2147483648) ≤ n9) (f25 : n9 = hV H1 (n4).toNat 2) (f26 : n10 = 11) (f27 : n9 = n10) (f28 : n3 ≤ 0) (f29 : n11 ≤ 2147483647) (f30 : (-2147483648) ≤ n11) (f31 : n11 = hV H1 (n4).toNat 2) (f32 : n12 = 6) (f33 : n12 ≤ n11) (f34 : n13 ≤ 2147483647) (f35 : (-2147483648) ≤ n13) (f36 : n13 = hV H1 (n4).toNat 2) (f37 : n14 = 9) (f38 : n13 ≤ n14) (f39 : n15 ≤ 2147483647) (f40 : (-2147483648) ≤ n15) (f41 : n15 = hV H1 (n4).toNat 2) (f42 : n16 ≤ 2147483647) (f43 : (-2147483648) ≤ n16) (f44 : (hLe T0 H1 H2 ∧ hFr s_93.2.2.2.2 H1 H2 ∧ ((0 : Int) = 0 → H2.length = H1.length) ∧ hWt T0 H2) ∧ True) (f45 : (hLe T0 H2 H3 ∧ hFr s_95.2.2.2.2 H2 H3 ∧ ((0 : Int) = 0 → H3.length = H2.length) ∧ hWt T0 H3) ∧ True) (f46 : n17 ≤ 2147483647) (f47 : (-2147483648) ≤ n17) (f48 : n17 = hV H3 (n4).toNat 2) (f49 : (hLe T0 H3 H4 ∧ hFr s_94.2.2.2.2 H3 H4 ∧ ((0 : Int) = 0 → H4.length = H3.length) ∧ hWt T0 H4) ∧ True) (f50 : n18 = 1) : Ab_92v_228 n5 n4 n3 n18 n1 n0 n8 H0 H4 ∧ ∀ q, some q0 = some q → mub_92v_228 n5 n4 n3 n18 n1 n0 n8 H0 H4 < q := by
  have pz := f10.2.1.2
  unfold preb_92v at pz
  have ga := f10.2.1.1
  unfold Ab_92v_14 at ga
  have vz : vwC H1 = vwC H0 := vwC_fr f10.1.2.1 (by decide +kernel)
  have s0 := PF_fr f44.1.1 f44.1.2.1 (by decide +kernel) ga.1
  have a0 : absC H2 = (absC H1) := s0.1
  have v0 : vwC H2 = vwC H0 := s0.2.1.trans vz
  have s1 := PF_fr f45.1.1 f45.1.2.1 (by decide +kernel) s0.2.2
  have a1 : absC H3 = (absC H1) := s1.1.trans a0
  have v1 : vwC H3 = vwC H0 := s1.2.1.trans v0
  have s2 := PF_fr f49.1.1 f49.1.2.1 (by decide +kernel) s1.2.2
  have a2 : absC H4 = (absC H1) := s2.1.trans a1
  have v2 : vwC H4 = vwC H0 := s2.2.1.trans v1
  have gb := ga
  obtain ⟨_, s0_, o0, o7, w01, m01, xn, ya, yb⟩ := gb
  have rf := f15
  rw [f8] at rf
  rw [show ((30 : Int)).toNat = 30 from rfl] at rf
  have kr0 := f20
  rw [f8] at kr0
  rw [show ((30 : Int)).toNat = 30 from rfl] at kr0
  have kr1 := f25
  rw [f8] at kr1
  rw [show ((30 : Int)).toNat = 30 from rfl] at kr1
  have kr2 := f31
  rw [f8] at kr2
  rw [show ((30 : Int)).toNat = 30 from rfl] at kr2
  have kr3 := f36
  rw [f8] at kr3
  rw [show ((30 : Int)).toNat = 30 from rfl] at kr3
  have kr4 := f41
  rw [f8] at kr4
  rw [show ((30 : Int)).toNat = 30 from rfl] at kr4
  have kr5 := f48
  rw [f8] at kr5
  rw [show ((30 : Int)).toNat = 30 from rfl] at kr5
  rw [show hV H3 30 2 = hV H1 30 2 from (f45.1.2.1.1 30 2 (by decide +kernel)).trans (f44.1.2.1.1 30 2 (by decide +kernel))] at kr5
  have ap := absC_pos ga.1 (by omega)
  have hv : (vwC H0).1 (absC H1).1 = hV H1 30 2 := by
    have u := (kd_at ga.1).resolve_left (by omega)
    rw [vz] at u
    exact u
  have u := xn (by omega)
  have nw := ga.1.2.2.2.1.2.1
  have y := ya (by omega)
  rw [show (502 - (absC H0).1).toNat - (n0).toNat = ((502 - (absC H0).1).toNat - (n0).toNat - 1) + 1 by omega] at y
  rw [show n2 = 0 by omega, pE_0 hv] at y
  have w3 : hV H4 30 3 = 0 := ((f49.1.2.1.1 30 3 (by decide +kernel)).trans ((f45.1.2.1.1 30 3 (by decide +kernel)).trans (f44.1.2.1.1 30 3 (by decide +kernel)))).trans (by omega)
  have w1 : hV H4 30 1 = hV H1 30 1 := (f49.1.2.1.1 30 1 (by decide +kernel)).trans ((f45.1.2.1.1 30 1 (by decide +kernel)).trans (f44.1.2.1.1 30 1 (by decide +kernel)))
  rw [if_neg (by omega), if_pos (by omega)] at y
  have g5 := Option.some.inj f10.2.2
  unfold mub_92v_14 at g5
  unfold Ab_92v_228 mub_92v_228
  refine ⟨⟨s2.2.2, w3, by omega, by omega, by omega, by omega, by omega, by omega, by omega, fun h6 => ?_, fun h6 h7 => ?_, fun h6 h7 => ?_⟩, fun q hq => ?_⟩
  · exact absurd h6 (by omega)
  · rw [a2]
    rw [show n8 = hV H1 30 2 by omega, show n18 = 1 by omega, show n3 = n3 by omega]
    exact ⟨by omega, y⟩
  · exact absurd h7 (by omega)
  · have g6 := Option.some.inj hq
    subst g6
    omega
theorem c_92v_14_14 {q0 : Nat} : vOkm T0 (eP e_92v L_92v A_92v mu_92v (some q0)) 1 ([(0, [18], [], 1), (1094, [1, 17], [3, 4], 0), (20, [17, 1], [3], 2), (90, [17], [], -2147483648), (91, [17], [], 2147483647), (1095, [1, 16], [2, 3], 0), (1093, [16, 15], [1, 2], 0), (90, [16], [], -2147483648), (91, [16], [], 2147483647), (20, [15, 1], [1], 2), (90, [15], [], -2147483648), (91, [15], [], 2147483647), (45, [13, 14], [], 0), (0, [14], [], 9), (20, [13, 1], [1], 2), (90, [13], [], -2147483648), (91, [13], [], 2147483647), (43, [11, 12], [], 0), (0, [12], [], 6), (20, [11, 1], [1], 2), (90, [11], [], -2147483648), (91, [11], [], 2147483647), (35, [2], [], 0), (40, [9, 10], [], 0), (0, [10], [], 11), (20, [9, 1], [1], 2), (90, [9], [], -2147483648), (91, [9], [], 2147483647), (30, [3], [], 0), (30, [3], [], 0), (20, [8, 1], [1], 2), (90, [8], [], -2147483648), (91, [8], [], 2147483647), (31, [4], [], 0), (30, [7], [], 0), (20, [7, 1], [1], 3), (90, [7], [], -2147483648), (91, [7], [], 2147483647), (45, [5, 6], [], 0), (0, [6], [], 500), (5000, [0, 1, 2, 3, 4, 5], [0, 1], 14), (0, [0], [], 30), (0, [1], [], 30), (90, [2], [], -2147483648), (91, [2], [], 2147483647), (90, [3], [], -2147483648), (91, [3], [], 2147483647), (90, [4], [], -2147483648), (91, [4], [], 2147483647), (90, [5], [], -2147483648), (91, [5], [], 2147483647)], (4000, [1, 2, 18, 4, 5, 8], [4], 228)) := vOk_in fun ρ η h => by
  obtain ⟨f0, f1, f2, f3, f4, f5, f6, f7, f8, f9, f10, f11, f12, f13, f14, f15, f16, f17, f18, f19, f20, f21, f22, f23, f24, f25, f26, f27, f28, f29, f30, f31, f32, f33, f34, f35, f36, f37, f38, f39, f40, f41, f42, f43, f44, f45, f46, f47, f48, f49, f50, _⟩ := h
  exact q_92v_15 (q0 := q0) (n0 := ρ 5) (n1 := ρ 4) (n2 := ρ 3) (n3 := ρ 2) (n4 := ρ 1) (n5 := ρ 0) (n6 := ρ 6) (n7 := ρ 7) (n8 := ρ 8) (n9 := ρ 9) (n10 := ρ 10) (n11 := ρ 11) (n12 := ρ 12) (n13 := ρ 13) (n14 := ρ 14) (n15 := ρ 15) (n16 := ρ 16) (n17 := ρ 17) (n18 := ρ 18) (H0 := η 0) (H1 := η 1) (H2 := η 2) (H3 := η 3) (H4 := η 4) f50 f49 f48 f47 f46 f45 f44 f43 f42 f41 f40 f39 f38 f37 f36 f35 f34 f33 f32 f31 f30 f29 f28 f27 f26 f25 f24 f23 f22 f21 f20 f19 f18 f17 f16 f15 f14 f13 f12 f11 f10 f9 f8 f7 f6 f5 f4 f3 f2 f1 f0
theorem q_92v_16 {q0 : Nat} {n0 n1 n2 n3 n4 n5 n6 n7 n8 n9 n10 n11 n12 n13 n14 n15 n16 : Int} {H0 H1 H2 H3 : gH} (f0 : n0 ≤ 2147483647) (f1 : (-2147483648) ≤ n0) (f2 : n1 ≤ 2147483647) (f3 : (-2147483648) ≤ n1) (f4 : n2 ≤ 2147483647) (f5 : (-2147483648) ≤ n2) (f6 : n3 ≤ 2147483647) (f7 : (-2147483648) ≤ n3) (f8 : n4 = 30) (f9 : n5 = 30) (f10 : (hLe T0 H0 H1 ∧ hFr s_92v.2.2.2.2 H0 H1 ∧ hWt T0 H1) ∧ (Ab_92v_14 n5 n4 n3 n2 n1 n0 H0 H1 ∧ preb_92v n5 H0) ∧ some q0 = some (mub_92v_14 n5 n4 n3 n2 n1 n0 H0 H1)) (f11 : n6 = 500) (f12 : n0 ≤ n6) (f13 : n7 ≤ 2147483647) (f14 : (-2147483648) ≤ n7) (f15 : n7 = hV H1 (n4).toNat 3) (f16 : n7 = 0) (f17 : n1 ≠ 0) (f18 : n8 ≤ 2147483647) (f19 : (-2147483648) ≤ n8) (f20 : n8 = hV H1 (n4).toNat 2) (f21 : n2 = 0) (f22 : n2 = 0) (f23 : n9 ≤ 2147483647) (f24 : (-2147483648) ≤ n9) (f25 : n9 = hV H1 (n4).toNat 2) (f26 : n10 = 11) (f27 : n9 = n10) (f28 : 0 < n3) (f29 : n11 = 1) (f30 : (hLe T0 H1 H2 ∧ hFr s_95.2.2.2.2 H1 H2 ∧ ((0 : Int) = 0 → H2.length = H1.length) ∧ hWt T0 H2) ∧ True) (f31 : n12 ≤ 2147483647) (f32 : (-2147483648) ≤ n12) (f33 : n12 = hV H2 (n4).toNat 15) (f34 : n13 = 1) (f35 : n14 = w32 (n12 - n13)) (f36 : n15 = 15) (f37 : hUpd H3 H2 n4 n15 n14) (f38 : n16 = w32 (n3 + (-1))) : Ab_92v_228 n5 n4 n16 n2 n1 n0 n8 H0 H3 ∧ ∀ q, some q0 = some q → mub_92v_228 n5 n4 n16 n2 n1 n0 n8 H0 H3 < q := by
  have pz := f10.2.1.2
  unfold preb_92v at pz
  have ga := f10.2.1.1
  unfold Ab_92v_14 at ga
  have vz : vwC H1 = vwC H0 := vwC_fr f10.1.2.1 (by decide +kernel)
  have s0 := PF_fr f30.1.1 f30.1.2.1 (by decide +kernel) ga.1
  have a0 : absC H2 = (absC H1) := s0.1
  have v0 : vwC H2 = vwC H0 := s0.2.1.trans vz
  have s1 := PF_30 f37 f8 (by omega) s0.2.2
  have a1 : absC H3 = (absC H1) := s1.1.trans a0
  have v1 : vwC H3 = vwC H0 := s1.2.1.trans v0
  have gb := ga
  obtain ⟨_, s0_, o0, o7, w01, m01, xn, ya, yb⟩ := gb
  have rf := f15
  rw [f8] at rf
  rw [show ((30 : Int)).toNat = 30 from rfl] at rf
  have kr0 := f20
  rw [f8] at kr0
  rw [show ((30 : Int)).toNat = 30 from rfl] at kr0
  have kr1 := f25
  rw [f8] at kr1
  rw [show ((30 : Int)).toNat = 30 from rfl] at kr1
  have ap := absC_pos ga.1 (by omega)
  have hv : (vwC H0).1 (absC H1).1 = hV H1 30 2 := by
    have u := (kd_at ga.1).resolve_left (by omega)
    rw [vz] at u
    exact u
  have u := xn (by omega)
  have nw := ga.1.2.2.2.1.2.1
  have q38_ := f38
  unfold w32 at q38_
  have y := ya (by omega)
  rw [show (502 - (absC H0).1).toNat - (n0).toNat = ((502 - (absC H0).1).toNat - (n0).toNat - 1) + 1 by omega] at y
  rw [show n2 = 0 by omega, pE_0 hv] at y
  have w3 : hV H3 30 3 = 0 := ((uSlot f37 30 3 (by rw [f36]; decide)).trans (f30.1.2.1.1 30 3 (by decide +kernel))).trans (by omega)
  have w1 : hV H3 30 1 = hV H1 30 1 := (uSlot f37 30 1 (by rw [f36]; decide)).trans (f30.1.2.1.1 30 1 (by decide +kernel))
  rw [if_pos (by omega)] at y
  have g5 := Option.some.inj f10.2.2
  unfold mub_92v_14 at g5
  unfold Ab_92v_228 mub_92v_228
  refine ⟨⟨s1.2.2, w3, by omega, by omega, by omega, by omega, by omega, by omega, by omega, fun h6 => ?_, fun h6 h7 => ?_, fun h6 h7 => ?_⟩, fun q hq => ?_⟩
  · exact absurd h6 (by omega)
  · rw [a1]
    rw [show n8 = 11 by omega, show n2 = 0 by omega, show n16 = n3 - 1 by omega]
    exact ⟨by decide, y⟩
  · exact absurd h7 (by omega)
  · have g6 := Option.some.inj hq
    subst g6
    omega
theorem c_92v_14_15 {q0 : Nat} : vOkm T0 (eP e_92v L_92v A_92v mu_92v (some q0)) 1 ([(10, [16, 2], [], -1), (80, [1, 15, 14], [3, 2], 0), (0, [15], [], 15), (2, [14, 12, 13], [], 0), (0, [13], [], 1), (20, [12, 1], [2], 15), (90, [12], [], -2147483648), (91, [12], [], 2147483647), (1095, [1, 11], [1, 2], 0), (0, [11], [], 1), (34, [2], [], 0), (40, [9, 10], [], 0), (0, [10], [], 11), (20, [9, 1], [1], 2), (90, [9], [], -2147483648), (91, [9], [], 2147483647), (30, [3], [], 0), (30, [3], [], 0), (20, [8, 1], [1], 2), (90, [8], [], -2147483648), (91, [8], [], 2147483647), (31, [4], [], 0), (30, [7], [], 0), (20, [7, 1], [1], 3), (90, [7], [], -2147483648), (91, [7], [], 2147483647), (45, [5, 6], [], 0), (0, [6], [], 500), (5000, [0, 1, 2, 3, 4, 5], [0, 1], 14), (0, [0], [], 30), (0, [1], [], 30), (90, [2], [], -2147483648), (91, [2], [], 2147483647), (90, [3], [], -2147483648), (91, [3], [], 2147483647), (90, [4], [], -2147483648), (91, [4], [], 2147483647), (90, [5], [], -2147483648), (91, [5], [], 2147483647)], (4000, [1, 16, 3, 4, 5, 8], [3], 228)) := vOk_in fun ρ η h => by
  obtain ⟨f0, f1, f2, f3, f4, f5, f6, f7, f8, f9, f10, f11, f12, f13, f14, f15, f16, f17, f18, f19, f20, f21, f22, f23, f24, f25, f26, f27, f28, f29, f30, f31, f32, f33, f34, f35, f36, f37, f38, _⟩ := h
  exact q_92v_16 (q0 := q0) (n0 := ρ 5) (n1 := ρ 4) (n2 := ρ 3) (n3 := ρ 2) (n4 := ρ 1) (n5 := ρ 0) (n6 := ρ 6) (n7 := ρ 7) (n8 := ρ 8) (n9 := ρ 9) (n10 := ρ 10) (n11 := ρ 11) (n12 := ρ 12) (n13 := ρ 13) (n14 := ρ 14) (n15 := ρ 15) (n16 := ρ 16) (H0 := η 0) (H1 := η 1) (H2 := η 2) (H3 := η 3) f38 f37 f36 f35 f34 f33 f32 f31 f30 f29 f28 f27 f26 f25 f24 f23 f22 f21 f20 f19 f18 f17 f16 f15 f14 f13 f12 f11 f10 f9 f8 f7 f6 f5 f4 f3 f2 f1 f0
theorem q_92v_17 {q0 : Nat} {n0 n1 n2 n3 n4 n5 n6 n7 n8 n9 n10 n11 n12 : Int} {H0 H1 : gH} (f0 : n0 ≤ 2147483647) (f1 : (-2147483648) ≤ n0) (f2 : n1 ≤ 2147483647) (f3 : (-2147483648) ≤ n1) (f4 : n2 ≤ 2147483647) (f5 : (-2147483648) ≤ n2) (f6 : n3 ≤ 2147483647) (f7 : (-2147483648) ≤ n3) (f8 : n4 = 30) (f9 : n5 = 30) (f10 : (hLe T0 H0 H1 ∧ hFr s_92v.2.2.2.2 H0 H1 ∧ hWt T0 H1) ∧ (Ab_92v_14 n5 n4 n3 n2 n1 n0 H0 H1 ∧ preb_92v n5 H0) ∧ some q0 = some (mub_92v_14 n5 n4 n3 n2 n1 n0 H0 H1)) (f11 : n6 = 500) (f12 : n0 ≤ n6) (f13 : n7 ≤ 2147483647) (f14 : (-2147483648) ≤ n7) (f15 : n7 = hV H1 (n4).toNat 3) (f16 : n7 = 0) (f17 : n1 ≠ 0) (f18 : n8 ≤ 2147483647) (f19 : (-2147483648) ≤ n8) (f20 : n8 = hV H1 (n4).toNat 2) (f21 : n2 = 0) (f22 : n2 ≠ 0) (f23 : n9 ≤ 2147483647) (f24 : (-2147483648) ≤ n9) (f25 : n9 = hV H1 (n4).toNat 2) (f26 : n10 = 45) (f27 : n9 < n10) (f28 : n11 = 31) (f29 : n11 = hV H1 (n4).toNat 0) (f30 : n12 ≤ 2147483647) (f31 : (-2147483648) ≤ n12) (f32 : n12 = hV H1 (n4).toNat 1) : preb_123v n11 n12 H1 := by
  have pz := f10.2.1.2
  unfold preb_92v at pz
  have ga := f10.2.1.1
  unfold Ab_92v_14 at ga
  have vz : vwC H1 = vwC H0 := vwC_fr f10.1.2.1 (by decide +kernel)
  have gb := ga
  obtain ⟨_, s0_, o0, o7, w01, m01, xn, ya, yb⟩ := gb
  unfold preb_123v
  exact ga.1.1
theorem c_92v_14_16 {q0 : Nat} : vOkm T0 (eP e_92v L_92v A_92v mu_92v (some q0)) 1 ([(20, [14, 1], [1], 1), (90, [14], [], -2147483648), (91, [14], [], 2147483647), (20, [13, 1], [1], 0), (0, [13], [], 31), (42, [9, 10], [], 0), (0, [10], [], 45), (20, [9, 1], [1], 2), (90, [9], [], -2147483648), (91, [9], [], 2147483647), (31, [3], [], 0), (30, [3], [], 0), (20, [8, 1], [1], 2), (90, [8], [], -2147483648), (91, [8], [], 2147483647), (31, [4], [], 0), (30, [7], [], 0), (20, [7, 1], [1], 3), (90, [7], [], -2147483648), (91, [7], [], 2147483647), (45, [5, 6], [], 0), (0, [6], [], 500), (5000, [0, 1, 2, 3, 4, 5], [0, 1], 14), (0, [0], [], 30), (0, [1], [], 30), (90, [2], [], -2147483648), (91, [2], [], 2147483647), (90, [3], [], -2147483648), (91, [3], [], 2147483647), (90, [4], [], -2147483648), (91, [4], [], 2147483647), (90, [5], [], -2147483648), (91, [5], [], 2147483647)], (2123, [13, 14], [1], 0)) := vOk_in fun ρ η h => by
  obtain ⟨f0, f1, f2, f3, f4, f5, f6, f7, f8, f9, f10, f11, f12, f13, f14, f15, f16, f17, f18, f19, f20, f21, f22, f23, f24, f25, f26, f27, f28, f29, f30, f31, f32, _⟩ := h
  exact q_92v_17 (q0 := q0) (n0 := ρ 5) (n1 := ρ 4) (n2 := ρ 3) (n3 := ρ 2) (n4 := ρ 1) (n5 := ρ 0) (n6 := ρ 6) (n7 := ρ 7) (n8 := ρ 8) (n9 := ρ 9) (n10 := ρ 10) (n11 := ρ 13) (n12 := ρ 14) (H0 := η 0) (H1 := η 1) f32 f31 f30 f29 f28 f27 f26 f25 f24 f23 f22 f21 f20 f19 f18 f17 f16 f15 f14 f13 f12 f11 f10 f9 f8 f7 f6 f5 f4 f3 f2 f1 f0
theorem q_92v_18 {q0 : Nat} {n0 n1 n2 n3 n4 n5 n6 n7 n8 n9 n10 n11 n12 n13 n14 n15 n16 n17 : Int} {H0 H1 H2 H3 : gH} (f0 : n0 ≤ 2147483647) (f1 : (-2147483648) ≤ n0) (f2 : n1 ≤ 2147483647) (f3 : (-2147483648) ≤ n1) (f4 : n2 ≤ 2147483647) (f5 : (-2147483648) ≤ n2) (f6 : n3 ≤ 2147483647) (f7 : (-2147483648) ≤ n3) (f8 : n4 = 30) (f9 : n5 = 30) (f10 : (hLe T0 H0 H1 ∧ hFr s_92v.2.2.2.2 H0 H1 ∧ hWt T0 H1) ∧ (Ab_92v_14 n5 n4 n3 n2 n1 n0 H0 H1 ∧ preb_92v n5 H0) ∧ some q0 = some (mub_92v_14 n5 n4 n3 n2 n1 n0 H0 H1)) (f11 : n6 = 500) (f12 : n0 ≤ n6) (f13 : n7 ≤ 2147483647) (f14 : (-2147483648) ≤ n7) (f15 : n7 = hV H1 (n4).toNat 3) (f16 : n7 = 0) (f17 : n1 ≠ 0) (f18 : n8 ≤ 2147483647) (f19 : (-2147483648) ≤ n8) (f20 : n8 = hV H1 (n4).toNat 2) (f21 : n2 = 0) (f22 : n2 ≠ 0) (f23 : n9 ≤ 2147483647) (f24 : (-2147483648) ≤ n9) (f25 : n9 = hV H1 (n4).toNat 2) (f26 : n10 = 45) (f27 : n9 < n10) (f28 : 0 ≤ n11) (f29 : n11 = hV H1 (n4).toNat 8) (f30 : n12 = 31) (f31 : n12 = hV H1 (n4).toNat 0) (f32 : n13 ≤ 2147483647) (f33 : (-2147483648) ≤ n13) (f34 : n13 = hV H1 (n4).toNat 1) (f35 : (hLe T0 H1 H2 ∧ hFr s_123v.2.2.2.2 H1 H2 ∧ ((0 : Int) = 0 → H2.length = H1.length) ∧ hWt T0 H2) ∧ postb_123v n14 n12 n13 H1 H2) (f36 : n15 = (Int64.ofInt n14).toInt32.toInt) (f37 : (hLe T0 H2 H3 ∧ hFr s_98.2.2.2.2 H2 H3 ∧ ((0 : Int) = 0 → H3.length = H2.length) ∧ hWt T0 H3) ∧ True) (f38 : n16 = 3) (f39 : n17 = 0) : Ab_92v_228 n5 n4 n3 n17 n1 n0 n16 H0 H3 ∧ ∀ q, some q0 = some q → mub_92v_228 n5 n4 n3 n17 n1 n0 n16 H0 H3 < q := by
  have pz := f10.2.1.2
  unfold preb_92v at pz
  have ga := f10.2.1.1
  unfold Ab_92v_14 at ga
  have vz : vwC H1 = vwC H0 := vwC_fr f10.1.2.1 (by decide +kernel)
  have s0 := PF_fr f35.1.1 f35.1.2.1 (by decide +kernel) ga.1
  have a0 : absC H2 = (absC H1) := s0.1
  have v0 : vwC H2 = vwC H0 := s0.2.1.trans vz
  have s1 := PF_fr f37.1.1 f37.1.2.1 (by decide +kernel) s0.2.2
  have a1 : absC H3 = (absC H1) := s1.1.trans a0
  have v1 : vwC H3 = vwC H0 := s1.2.1.trans v0
  have gb := ga
  obtain ⟨_, s0_, o0, o7, w01, m01, xn, ya, yb⟩ := gb
  have rf := f15
  rw [f8] at rf
  rw [show ((30 : Int)).toNat = 30 from rfl] at rf
  have kr0 := f20
  rw [f8] at kr0
  rw [show ((30 : Int)).toNat = 30 from rfl] at kr0
  have kr1 := f25
  rw [f8] at kr1
  rw [show ((30 : Int)).toNat = 30 from rfl] at kr1
  have ap := absC_pos ga.1 (by omega)
  have hv : (vwC H0).1 (absC H1).1 = hV H1 30 2 := by
    have u := (kd_at ga.1).resolve_left (by omega)
    rw [vz] at u
    exact u
  have u := xn (by omega)
  have nw := ga.1.2.2.2.1.2.1
  have y := ya (by omega)
  rw [show (502 - (absC H0).1).toNat - (n0).toNat = ((502 - (absC H0).1).toNat - (n0).toNat - 1) + 1 by omega] at y
  rw [show n2 = 1 by omega, pE_1 hv] at y
  have w3 : hV H3 30 3 = 0 := ((f37.1.2.1.1 30 3 (by decide +kernel)).trans (f35.1.2.1.1 30 3 (by decide +kernel))).trans (by omega)
  have w1 : hV H3 30 1 = hV H1 30 1 := (f37.1.2.1.1 30 1 (by decide +kernel)).trans (f35.1.2.1.1 30 1 (by decide +kernel))
  rw [if_neg (by omega)] at y
  have g5 := Option.some.inj f10.2.2
  unfold mub_92v_14 at g5
  unfold Ab_92v_228 mub_92v_228
  refine ⟨⟨s1.2.2, w3, by omega, by omega, by omega, by omega, by omega, by omega, by omega, fun h6 => ?_, fun h6 h7 => ?_, fun h6 h7 => ?_⟩, fun q hq => ?_⟩
  · exact absurd h6 (by omega)
  · rw [a1]
    rw [show n17 = 0 by omega]
    by_cases kk : hV H1 30 2 = 3 ∨ (45 ≤ hV H1 30 2 ∧ hV H1 30 2 ≤ 49)
    · rw [if_pos kk] at y
      rw [show n16 = hV H1 30 2 by omega, show n3 = n3 by omega]
      exact ⟨by omega, y⟩
    · rw [if_neg kk] at y
      have tk := take_kind (c := 3) ga.1 (by omega)
      rw [vz] at tk
      rw [show n16 = 3 by omega, tk, pE_neg (vwC_ok H0) (pfail_lt pz (by decide)) pfail_ok]
      exact ⟨by decide, y⟩
  · exact absurd h7 (by omega)
  · have g6 := Option.some.inj hq
    subst g6
    omega
theorem c_92v_14_17 {q0 : Nat} : vOkm T0 (eP e_92v L_92v A_92v mu_92v (some q0)) 1 ([(0, [18], [], 0), (0, [17], [], 3), (1098, [12, 16], [2, 3], 0), (18, [16, 15], [], 0), (1123, [15, 13, 14], [1, 2], 0), (20, [14, 1], [1], 1), (90, [14], [], -2147483648), (91, [14], [], 2147483647), (20, [13, 1], [1], 0), (0, [13], [], 31), (20, [12, 1], [1], 8), (51, [12], [], 0), (42, [9, 10], [], 0), (0, [10], [], 45), (20, [9, 1], [1], 2), (90, [9], [], -2147483648), (91, [9], [], 2147483647), (31, [3], [], 0), (30, [3], [], 0), (20, [8, 1], [1], 2), (90, [8], [], -2147483648), (91, [8], [], 2147483647), (31, [4], [], 0), (30, [7], [], 0), (20, [7, 1], [1], 3), (90, [7], [], -2147483648), (91, [7], [], 2147483647), (45, [5, 6], [], 0), (0, [6], [], 500), (5000, [0, 1, 2, 3, 4, 5], [0, 1], 14), (0, [0], [], 30), (0, [1], [], 30), (90, [2], [], -2147483648), (91, [2], [], 2147483647), (90, [3], [], -2147483648), (91, [3], [], 2147483647), (90, [4], [], -2147483648), (91, [4], [], 2147483647), (90, [5], [], -2147483648), (91, [5], [], 2147483647)], (4000, [1, 2, 18, 4, 5, 17], [3], 228)) := vOk_in fun ρ η h => by
  obtain ⟨f0, f1, f2, f3, f4, f5, f6, f7, f8, f9, f10, f11, f12, f13, f14, f15, f16, f17, f18, f19, f20, f21, f22, f23, f24, f25, f26, f27, f28, f29, f30, f31, f32, f33, f34, f35, f36, f37, f38, f39, _⟩ := h
  exact q_92v_18 (q0 := q0) (n0 := ρ 5) (n1 := ρ 4) (n2 := ρ 3) (n3 := ρ 2) (n4 := ρ 1) (n5 := ρ 0) (n6 := ρ 6) (n7 := ρ 7) (n8 := ρ 8) (n9 := ρ 9) (n10 := ρ 10) (n11 := ρ 12) (n12 := ρ 13) (n13 := ρ 14) (n14 := ρ 15) (n15 := ρ 16) (n16 := ρ 17) (n17 := ρ 18) (H0 := η 0) (H1 := η 1) (H2 := η 2) (H3 := η 3) f39 f38 f37 f36 f35 f34 f33 f32 f31 f30 f29 f28 f27 f26 f25 f24 f23 f22 f21 f20 f19 f18 f17 f16 f15 f14 f13 f12 f11 f10 f9 f8 f7 f6 f5 f4 f3 f2 f1 f0
theorem q_92v_19 {q0 : Nat} {n0 n1 n2 n3 n4 n5 n6 n7 n8 n9 n10 n11 n12 n13 n14 n15 n16 n17 n18 : Int} {H0 H1 H2 H3 : gH} (f0 : n0 ≤ 2147483647) (f1 : (-2147483648) ≤ n0) (f2 : n1 ≤ 2147483647) (f3 : (-2147483648) ≤ n1) (f4 : n2 ≤ 2147483647) (f5 : (-2147483648) ≤ n2) (f6 : n3 ≤ 2147483647) (f7 : (-2147483648) ≤ n3) (f8 : n4 = 30) (f9 : n5 = 30) (f10 : (hLe T0 H0 H1 ∧ hFr s_92v.2.2.2.2 H0 H1 ∧ hWt T0 H1) ∧ (Ab_92v_14 n5 n4 n3 n2 n1 n0 H0 H1 ∧ preb_92v n5 H0) ∧ some q0 = some (mub_92v_14 n5 n4 n3 n2 n1 n0 H0 H1)) (f11 : n6 = 500) (f12 : n0 ≤ n6) (f13 : n7 ≤ 2147483647) (f14 : (-2147483648) ≤ n7) (f15 : n7 = hV H1 (n4).toNat 3) (f16 : n7 = 0) (f17 : n1 ≠ 0) (f18 : n8 ≤ 2147483647) (f19 : (-2147483648) ≤ n8) (f20 : n8 = hV H1 (n4).toNat 2) (f21 : n2 = 0) (f22 : n2 ≠ 0) (f23 : n9 ≤ 2147483647) (f24 : (-2147483648) ≤ n9) (f25 : n9 = hV H1 (n4).toNat 2) (f26 : n10 = 45) (f27 : n9 < n10) (f28 : n11 = 0) (f29 : 0 ≤ n12) (f30 : n12 = hV H1 (n4).toNat 8) (f31 : n11 = 0) (f32 : n13 = 31) (f33 : n13 = hV H1 (n4).toNat 0) (f34 : n14 ≤ 2147483647) (f35 : (-2147483648) ≤ n14) (f36 : n14 = hV H1 (n4).toNat 1) (f37 : (hLe T0 H1 H2 ∧ hFr s_123v.2.2.2.2 H1 H2 ∧ ((0 : Int) = 0 → H2.length = H1.length) ∧ hWt T0 H2) ∧ postb_123v n15 n13 n14 H1 H2) (f38 : n16 = (Int64.ofInt n15).toInt32.toInt) (f39 : (hLe T0 H2 H3 ∧ hFr s_98.2.2.2.2 H2 H3 ∧ ((0 : Int) = 0 → H3.length = H2.length) ∧ hWt T0 H3) ∧ True) (f40 : n11 ≠ 0) (f41 : n17 ≤ 2147483647) (f42 : (-2147483648) ≤ n17) (f43 : n17 = hV H3 (n4).toNat 2) (f44 : n18 = 0) : Ab_92v_228 n5 n4 n3 n18 n1 n0 n17 H0 H3 ∧ ∀ q, some q0 = some q → mub_92v_228 n5 n4 n3 n18 n1 n0 n17 H0 H3 < q := by
  exfalso
  omega
theorem c_92v_14_18 {q0 : Nat} : vOkm T0 (eP e_92v L_92v A_92v mu_92v (some q0)) 1 ([(0, [18], [], 0), (20, [17, 1], [3], 2), (90, [17], [], -2147483648), (91, [17], [], 2147483647), (31, [11], [], 0), (1098, [12, 16], [2, 3], 0), (18, [16, 15], [], 0), (1123, [15, 13, 14], [1, 2], 0), (20, [14, 1], [1], 1), (90, [14], [], -2147483648), (91, [14], [], 2147483647), (20, [13, 1], [1], 0), (0, [13], [], 31), (30, [11], [], 0), (20, [12, 1], [1], 8), (51, [12], [], 0), (0, [11], [], 0), (42, [9, 10], [], 0), (0, [10], [], 45), (20, [9, 1], [1], 2), (90, [9], [], -2147483648), (91, [9], [], 2147483647), (31, [3], [], 0), (30, [3], [], 0), (20, [8, 1], [1], 2), (90, [8], [], -2147483648), (91, [8], [], 2147483647), (31, [4], [], 0), (30, [7], [], 0), (20, [7, 1], [1], 3), (90, [7], [], -2147483648), (91, [7], [], 2147483647), (45, [5, 6], [], 0), (0, [6], [], 500), (5000, [0, 1, 2, 3, 4, 5], [0, 1], 14), (0, [0], [], 30), (0, [1], [], 30), (90, [2], [], -2147483648), (91, [2], [], 2147483647), (90, [3], [], -2147483648), (91, [3], [], 2147483647), (90, [4], [], -2147483648), (91, [4], [], 2147483647), (90, [5], [], -2147483648), (91, [5], [], 2147483647)], (4000, [1, 2, 18, 4, 5, 17], [3], 228)) := vOk_in fun ρ η h => by
  obtain ⟨f0, f1, f2, f3, f4, f5, f6, f7, f8, f9, f10, f11, f12, f13, f14, f15, f16, f17, f18, f19, f20, f21, f22, f23, f24, f25, f26, f27, f28, f29, f30, f31, f32, f33, f34, f35, f36, f37, f38, f39, f40, f41, f42, f43, f44, _⟩ := h
  exact q_92v_19 (q0 := q0) (n0 := ρ 5) (n1 := ρ 4) (n2 := ρ 3) (n3 := ρ 2) (n4 := ρ 1) (n5 := ρ 0) (n6 := ρ 6) (n7 := ρ 7) (n8 := ρ 8) (n9 := ρ 9) (n10 := ρ 10) (n11 := ρ 11) (n12 := ρ 12) (n13 := ρ 13) (n14 := ρ 14) (n15 := ρ 15) (n16 := ρ 16) (n17 := ρ 17) (n18 := ρ 18) (H0 := η 0) (H1 := η 1) (H2 := η 2) (H3 := η 3) f44 f43 f42 f41 f40 f39 f38 f37 f36 f35 f34 f33 f32 f31 f30 f29 f28 f27 f26 f25 f24 f23 f22 f21 f20 f19 f18 f17 f16 f15 f14 f13 f12 f11 f10 f9 f8 f7 f6 f5 f4 f3 f2 f1 f0
theorem q_92v_20 {q0 : Nat} {n0 n1 n2 n3 n4 n5 n6 n7 n8 n9 n10 n11 n12 n13 n14 n15 n16 n17 : Int} {H0 H1 H2 : gH} (f0 : n0 ≤ 2147483647) (f1 : (-2147483648) ≤ n0) (f2 : n1 ≤ 2147483647) (f3 : (-2147483648) ≤ n1) (f4 : n2 ≤ 2147483647) (f5 : (-2147483648) ≤ n2) (f6 : n3 ≤ 2147483647) (f7 : (-2147483648) ≤ n3) (f8 : n4 = 30) (f9 : n5 = 30) (f10 : (hLe T0 H0 H1 ∧ hFr s_92v.2.2.2.2 H0 H1 ∧ hWt T0 H1) ∧ (Ab_92v_14 n5 n4 n3 n2 n1 n0 H0 H1 ∧ preb_92v n5 H0) ∧ some q0 = some (mub_92v_14 n5 n4 n3 n2 n1 n0 H0 H1)) (f11 : n6 = 500) (f12 : n0 ≤ n6) (f13 : n7 ≤ 2147483647) (f14 : (-2147483648) ≤ n7) (f15 : n7 = hV H1 (n4).toNat 3) (f16 : n7 = 0) (f17 : n1 ≠ 0) (f18 : n8 ≤ 2147483647) (f19 : (-2147483648) ≤ n8) (f20 : n8 = hV H1 (n4).toNat 2) (f21 : n2 = 0) (f22 : n2 ≠ 0) (f23 : n9 ≤ 2147483647) (f24 : (-2147483648) ≤ n9) (f25 : n9 = hV H1 (n4).toNat 2) (f26 : n10 = 45) (f27 : n9 < n10) (f28 : n11 = 0) (f29 : 0 ≤ n12) (f30 : n12 = hV H1 (n4).toNat 8) (f31 : n11 ≠ 0) (f32 : n13 = 10000) (f33 : n14 ≤ 2147483647) (f34 : (-2147483648) ≤ n14) (f35 : n14 = hV H1 (n4).toNat 2) (f36 : n15 = w32 (n13 + n14)) (f37 : (hLe T0 H1 H2 ∧ hFr s_98.2.2.2.2 H1 H2 ∧ ((0 : Int) = 0 → H2.length = H1.length) ∧ hWt T0 H2) ∧ True) (f38 : n11 = 0) (f39 : n16 = 3) (f40 : n17 = 0) : Ab_92v_228 n5 n4 n3 n17 n1 n0 n16 H0 H2 ∧ ∀ q, some q0 = some q → mub_92v_228 n5 n4 n3 n17 n1 n0 n16 H0 H2 < q := by
  exfalso
  omega
theorem c_92v_14_19 {q0 : Nat} : vOkm T0 (eP e_92v L_92v A_92v mu_92v (some q0)) 1 ([(0, [17], [], 0), (0, [16], [], 3), (30, [11], [], 0), (1098, [12, 15], [1, 2], 0), (1, [15, 13, 14], [], 0), (20, [14, 1], [1], 2), (90, [14], [], -2147483648), (91, [14], [], 2147483647), (0, [13], [], 10000), (31, [11], [], 0), (20, [12, 1], [1], 8), (51, [12], [], 0), (0, [11], [], 0), (42, [9, 10], [], 0), (0, [10], [], 45), (20, [9, 1], [1], 2), (90, [9], [], -2147483648), (91, [9], [], 2147483647), (31, [3], [], 0), (30, [3], [], 0), (20, [8, 1], [1], 2), (90, [8], [], -2147483648), (91, [8], [], 2147483647), (31, [4], [], 0), (30, [7], [], 0), (20, [7, 1], [1], 3), (90, [7], [], -2147483648), (91, [7], [], 2147483647), (45, [5, 6], [], 0), (0, [6], [], 500), (5000, [0, 1, 2, 3, 4, 5], [0, 1], 14), (0, [0], [], 30), (0, [1], [], 30), (90, [2], [], -2147483648), (91, [2], [], 2147483647), (90, [3], [], -2147483648), (91, [3], [], 2147483647), (90, [4], [], -2147483648), (91, [4], [], 2147483647), (90, [5], [], -2147483648), (91, [5], [], 2147483647)], (4000, [1, 2, 17, 4, 5, 16], [2], 228)) := vOk_in fun ρ η h => by
  obtain ⟨f0, f1, f2, f3, f4, f5, f6, f7, f8, f9, f10, f11, f12, f13, f14, f15, f16, f17, f18, f19, f20, f21, f22, f23, f24, f25, f26, f27, f28, f29, f30, f31, f32, f33, f34, f35, f36, f37, f38, f39, f40, _⟩ := h
  exact q_92v_20 (q0 := q0) (n0 := ρ 5) (n1 := ρ 4) (n2 := ρ 3) (n3 := ρ 2) (n4 := ρ 1) (n5 := ρ 0) (n6 := ρ 6) (n7 := ρ 7) (n8 := ρ 8) (n9 := ρ 9) (n10 := ρ 10) (n11 := ρ 11) (n12 := ρ 12) (n13 := ρ 13) (n14 := ρ 14) (n15 := ρ 15) (n16 := ρ 16) (n17 := ρ 17) (H0 := η 0) (H1 := η 1) (H2 := η 2) f40 f39 f38 f37 f36 f35 f34 f33 f32 f31 f30 f29 f28 f27 f26 f25 f24 f23 f22 f21 f20 f19 f18 f17 f16 f15 f14 f13 f12 f11 f10 f9 f8 f7 f6 f5 f4 f3 f2 f1 f0
theorem q_92v_21 {q0 : Nat} {n0 n1 n2 n3 n4 n5 n6 n7 n8 n9 n10 n11 n12 n13 n14 n15 n16 n17 : Int} {H0 H1 H2 : gH} (f0 : n0 ≤ 2147483647) (f1 : (-2147483648) ≤ n0) (f2 : n1 ≤ 2147483647) (f3 : (-2147483648) ≤ n1) (f4 : n2 ≤ 2147483647) (f5 : (-2147483648) ≤ n2) (f6 : n3 ≤ 2147483647) (f7 : (-2147483648) ≤ n3) (f8 : n4 = 30) (f9 : n5 = 30) (f10 : (hLe T0 H0 H1 ∧ hFr s_92v.2.2.2.2 H0 H1 ∧ hWt T0 H1) ∧ (Ab_92v_14 n5 n4 n3 n2 n1 n0 H0 H1 ∧ preb_92v n5 H0) ∧ some q0 = some (mub_92v_14 n5 n4 n3 n2 n1 n0 H0 H1)) (f11 : n6 = 500) (f12 : n0 ≤ n6) (f13 : n7 ≤ 2147483647) (f14 : (-2147483648) ≤ n7) (f15 : n7 = hV H1 (n4).toNat 3) (f16 : n7 = 0) (f17 : n1 ≠ 0) (f18 : n8 ≤ 2147483647) (f19 : (-2147483648) ≤ n8) (f20 : n8 = hV H1 (n4).toNat 2) (f21 : n2 = 0) (f22 : n2 ≠ 0) (f23 : n9 ≤ 2147483647) (f24 : (-2147483648) ≤ n9) (f25 : n9 = hV H1 (n4).toNat 2) (f26 : n10 = 45) (f27 : n9 < n10) (f28 : n11 = 0) (f29 : 0 ≤ n12) (f30 : n12 = hV H1 (n4).toNat 8) (f31 : n11 ≠ 0) (f32 : n13 = 10000) (f33 : n14 ≤ 2147483647) (f34 : (-2147483648) ≤ n14) (f35 : n14 = hV H1 (n4).toNat 2) (f36 : n15 = w32 (n13 + n14)) (f37 : (hLe T0 H1 H2 ∧ hFr s_98.2.2.2.2 H1 H2 ∧ ((0 : Int) = 0 → H2.length = H1.length) ∧ hWt T0 H2) ∧ True) (f38 : n11 ≠ 0) (f39 : n16 ≤ 2147483647) (f40 : (-2147483648) ≤ n16) (f41 : n16 = hV H2 (n4).toNat 2) (f42 : n17 = 0) : Ab_92v_228 n5 n4 n3 n17 n1 n0 n16 H0 H2 ∧ ∀ q, some q0 = some q → mub_92v_228 n5 n4 n3 n17 n1 n0 n16 H0 H2 < q := by
  exfalso
  omega
theorem c_92v_14_20 {q0 : Nat} : vOkm T0 (eP e_92v L_92v A_92v mu_92v (some q0)) 1 ([(0, [17], [], 0), (20, [16, 1], [2], 2), (90, [16], [], -2147483648), (91, [16], [], 2147483647), (31, [11], [], 0), (1098, [12, 15], [1, 2], 0), (1, [15, 13, 14], [], 0), (20, [14, 1], [1], 2), (90, [14], [], -2147483648), (91, [14], [], 2147483647), (0, [13], [], 10000), (31, [11], [], 0), (20, [12, 1], [1], 8), (51, [12], [], 0), (0, [11], [], 0), (42, [9, 10], [], 0), (0, [10], [], 45), (20, [9, 1], [1], 2), (90, [9], [], -2147483648), (91, [9], [], 2147483647), (31, [3], [], 0), (30, [3], [], 0), (20, [8, 1], [1], 2), (90, [8], [], -2147483648), (91, [8], [], 2147483647), (31, [4], [], 0), (30, [7], [], 0), (20, [7, 1], [1], 3), (90, [7], [], -2147483648), (91, [7], [], 2147483647), (45, [5, 6], [], 0), (0, [6], [], 500), (5000, [0, 1, 2, 3, 4, 5], [0, 1], 14), (0, [0], [], 30), (0, [1], [], 30), (90, [2], [], -2147483648), (91, [2], [], 2147483647), (90, [3], [], -2147483648), (91, [3], [], 2147483647), (90, [4], [], -2147483648), (91, [4], [], 2147483647), (90, [5], [], -2147483648), (91, [5], [], 2147483647)], (4000, [1, 2, 17, 4, 5, 16], [2], 228)) := vOk_in fun ρ η h => by
  obtain ⟨f0, f1, f2, f3, f4, f5, f6, f7, f8, f9, f10, f11, f12, f13, f14, f15, f16, f17, f18, f19, f20, f21, f22, f23, f24, f25, f26, f27, f28, f29, f30, f31, f32, f33, f34, f35, f36, f37, f38, f39, f40, f41, f42, _⟩ := h
  exact q_92v_21 (q0 := q0) (n0 := ρ 5) (n1 := ρ 4) (n2 := ρ 3) (n3 := ρ 2) (n4 := ρ 1) (n5 := ρ 0) (n6 := ρ 6) (n7 := ρ 7) (n8 := ρ 8) (n9 := ρ 9) (n10 := ρ 10) (n11 := ρ 11) (n12 := ρ 12) (n13 := ρ 13) (n14 := ρ 14) (n15 := ρ 15) (n16 := ρ 16) (n17 := ρ 17) (H0 := η 0) (H1 := η 1) (H2 := η 2) f42 f41 f40 f39 f38 f37 f36 f35 f34 f33 f32 f31 f30 f29 f28 f27 f26 f25 f24 f23 f22 f21 f20 f19 f18 f17 f16 f15 f14 f13 f12 f11 f10 f9 f8 f7 f6 f5 f4 f3 f2 f1 f0
theorem q_92v_22 {q0 : Nat} {n0 n1 n2 n3 n4 n5 n6 n7 n8 n9 n10 n11 n12 n13 n14 : Int} {H0 H1 : gH} (f0 : n0 ≤ 2147483647) (f1 : (-2147483648) ≤ n0) (f2 : n1 ≤ 2147483647) (f3 : (-2147483648) ≤ n1) (f4 : n2 ≤ 2147483647) (f5 : (-2147483648) ≤ n2) (f6 : n3 ≤ 2147483647) (f7 : (-2147483648) ≤ n3) (f8 : n4 = 30) (f9 : n5 = 30) (f10 : (hLe T0 H0 H1 ∧ hFr s_92v.2.2.2.2 H0 H1 ∧ hWt T0 H1) ∧ (Ab_92v_14 n5 n4 n3 n2 n1 n0 H0 H1 ∧ preb_92v n5 H0) ∧ some q0 = some (mub_92v_14 n5 n4 n3 n2 n1 n0 H0 H1)) (f11 : n6 = 500) (f12 : n0 ≤ n6) (f13 : n7 ≤ 2147483647) (f14 : (-2147483648) ≤ n7) (f15 : n7 = hV H1 (n4).toNat 3) (f16 : n7 = 0) (f17 : n1 ≠ 0) (f18 : n8 ≤ 2147483647) (f19 : (-2147483648) ≤ n8) (f20 : n8 = hV H1 (n4).toNat 2) (f21 : n2 = 0) (f22 : n2 ≠ 0) (f23 : n9 ≤ 2147483647) (f24 : (-2147483648) ≤ n9) (f25 : n9 = hV H1 (n4).toNat 2) (f26 : n10 = 45) (f27 : n10 ≤ n9) (f28 : n11 ≤ 2147483647) (f29 : (-2147483648) ≤ n11) (f30 : n11 = hV H1 (n4).toNat 2) (f31 : n12 = 49) (f32 : n12 < n11) (f33 : n13 = 31) (f34 : n13 = hV H1 (n4).toNat 0) (f35 : n14 ≤ 2147483647) (f36 : (-2147483648) ≤ n14) (f37 : n14 = hV H1 (n4).toNat 1) : preb_123v n13 n14 H1 := by
  have pz := f10.2.1.2
  unfold preb_92v at pz
  have ga := f10.2.1.1
  unfold Ab_92v_14 at ga
  have vz : vwC H1 = vwC H0 := vwC_fr f10.1.2.1 (by decide +kernel)
  have gb := ga
  obtain ⟨_, s0_, o0, o7, w01, m01, xn, ya, yb⟩ := gb
  unfold preb_123v
  exact ga.1.1
theorem c_92v_14_21 {q0 : Nat} : vOkm T0 (eP e_92v L_92v A_92v mu_92v (some q0)) 1 ([(20, [16, 1], [1], 1), (90, [16], [], -2147483648), (91, [16], [], 2147483647), (20, [15, 1], [1], 0), (0, [15], [], 31), (44, [11, 12], [], 0), (0, [12], [], 49), (20, [11, 1], [1], 2), (90, [11], [], -2147483648), (91, [11], [], 2147483647), (43, [9, 10], [], 0), (0, [10], [], 45), (20, [9, 1], [1], 2), (90, [9], [], -2147483648), (91, [9], [], 2147483647), (31, [3], [], 0), (30, [3], [], 0), (20, [8, 1], [1], 2), (90, [8], [], -2147483648), (91, [8], [], 2147483647), (31, [4], [], 0), (30, [7], [], 0), (20, [7, 1], [1], 3), (90, [7], [], -2147483648), (91, [7], [], 2147483647), (45, [5, 6], [], 0), (0, [6], [], 500), (5000, [0, 1, 2, 3, 4, 5], [0, 1], 14), (0, [0], [], 30), (0, [1], [], 30), (90, [2], [], -2147483648), (91, [2], [], 2147483647), (90, [3], [], -2147483648), (91, [3], [], 2147483647), (90, [4], [], -2147483648), (91, [4], [], 2147483647), (90, [5], [], -2147483648), (91, [5], [], 2147483647)], (2123, [15, 16], [1], 0)) := vOk_in fun ρ η h => by
  obtain ⟨f0, f1, f2, f3, f4, f5, f6, f7, f8, f9, f10, f11, f12, f13, f14, f15, f16, f17, f18, f19, f20, f21, f22, f23, f24, f25, f26, f27, f28, f29, f30, f31, f32, f33, f34, f35, f36, f37, _⟩ := h
  exact q_92v_22 (q0 := q0) (n0 := ρ 5) (n1 := ρ 4) (n2 := ρ 3) (n3 := ρ 2) (n4 := ρ 1) (n5 := ρ 0) (n6 := ρ 6) (n7 := ρ 7) (n8 := ρ 8) (n9 := ρ 9) (n10 := ρ 10) (n11 := ρ 11) (n12 := ρ 12) (n13 := ρ 15) (n14 := ρ 16) (H0 := η 0) (H1 := η 1) f37 f36 f35 f34 f33 f32 f31 f30 f29 f28 f27 f26 f25 f24 f23 f22 f21 f20 f19 f18 f17 f16 f15 f14 f13 f12 f11 f10 f9 f8 f7 f6 f5 f4 f3 f2 f1 f0
theorem q_92v_23 {q0 : Nat} {n0 n1 n2 n3 n4 n5 n6 n7 n8 n9 n10 n11 n12 n13 n14 n15 n16 n17 n18 n19 : Int} {H0 H1 H2 H3 : gH} (f0 : n0 ≤ 2147483647) (f1 : (-2147483648) ≤ n0) (f2 : n1 ≤ 2147483647) (f3 : (-2147483648) ≤ n1) (f4 : n2 ≤ 2147483647) (f5 : (-2147483648) ≤ n2) (f6 : n3 ≤ 2147483647) (f7 : (-2147483648) ≤ n3) (f8 : n4 = 30) (f9 : n5 = 30) (f10 : (hLe T0 H0 H1 ∧ hFr s_92v.2.2.2.2 H0 H1 ∧ hWt T0 H1) ∧ (Ab_92v_14 n5 n4 n3 n2 n1 n0 H0 H1 ∧ preb_92v n5 H0) ∧ some q0 = some (mub_92v_14 n5 n4 n3 n2 n1 n0 H0 H1)) (f11 : n6 = 500) (f12 : n0 ≤ n6) (f13 : n7 ≤ 2147483647) (f14 : (-2147483648) ≤ n7) (f15 : n7 = hV H1 (n4).toNat 3) (f16 : n7 = 0) (f17 : n1 ≠ 0) (f18 : n8 ≤ 2147483647) (f19 : (-2147483648) ≤ n8) (f20 : n8 = hV H1 (n4).toNat 2) (f21 : n2 = 0) (f22 : n2 ≠ 0) (f23 : n9 ≤ 2147483647) (f24 : (-2147483648) ≤ n9) (f25 : n9 = hV H1 (n4).toNat 2) (f26 : n10 = 45) (f27 : n10 ≤ n9) (f28 : n11 ≤ 2147483647) (f29 : (-2147483648) ≤ n11) (f30 : n11 = hV H1 (n4).toNat 2) (f31 : n12 = 49) (f32 : n12 < n11) (f33 : 0 ≤ n13) (f34 : n13 = hV H1 (n4).toNat 8) (f35 : n14 = 31) (f36 : n14 = hV H1 (n4).toNat 0) (f37 : n15 ≤ 2147483647) (f38 : (-2147483648) ≤ n15) (f39 : n15 = hV H1 (n4).toNat 1) (f40 : (hLe T0 H1 H2 ∧ hFr s_123v.2.2.2.2 H1 H2 ∧ ((0 : Int) = 0 → H2.length = H1.length) ∧ hWt T0 H2) ∧ postb_123v n16 n14 n15 H1 H2) (f41 : n17 = (Int64.ofInt n16).toInt32.toInt) (f42 : (hLe T0 H2 H3 ∧ hFr s_98.2.2.2.2 H2 H3 ∧ ((0 : Int) = 0 → H3.length = H2.length) ∧ hWt T0 H3) ∧ True) (f43 : n18 = 3) (f44 : n19 = 0) : Ab_92v_228 n5 n4 n3 n19 n1 n0 n18 H0 H3 ∧ ∀ q, some q0 = some q → mub_92v_228 n5 n4 n3 n19 n1 n0 n18 H0 H3 < q := by
  have pz := f10.2.1.2
  unfold preb_92v at pz
  have ga := f10.2.1.1
  unfold Ab_92v_14 at ga
  have vz : vwC H1 = vwC H0 := vwC_fr f10.1.2.1 (by decide +kernel)
  have s0 := PF_fr f40.1.1 f40.1.2.1 (by decide +kernel) ga.1
  have a0 : absC H2 = (absC H1) := s0.1
  have v0 : vwC H2 = vwC H0 := s0.2.1.trans vz
  have s1 := PF_fr f42.1.1 f42.1.2.1 (by decide +kernel) s0.2.2
  have a1 : absC H3 = (absC H1) := s1.1.trans a0
  have v1 : vwC H3 = vwC H0 := s1.2.1.trans v0
  have gb := ga
  obtain ⟨_, s0_, o0, o7, w01, m01, xn, ya, yb⟩ := gb
  have rf := f15
  rw [f8] at rf
  rw [show ((30 : Int)).toNat = 30 from rfl] at rf
  have kr0 := f20
  rw [f8] at kr0
  rw [show ((30 : Int)).toNat = 30 from rfl] at kr0
  have kr1 := f25
  rw [f8] at kr1
  rw [show ((30 : Int)).toNat = 30 from rfl] at kr1
  have kr2 := f30
  rw [f8] at kr2
  rw [show ((30 : Int)).toNat = 30 from rfl] at kr2
  have ap := absC_pos ga.1 (by omega)
  have hv : (vwC H0).1 (absC H1).1 = hV H1 30 2 := by
    have u := (kd_at ga.1).resolve_left (by omega)
    rw [vz] at u
    exact u
  have u := xn (by omega)
  have nw := ga.1.2.2.2.1.2.1
  have y := ya (by omega)
  rw [show (502 - (absC H0).1).toNat - (n0).toNat = ((502 - (absC H0).1).toNat - (n0).toNat - 1) + 1 by omega] at y
  rw [show n2 = 1 by omega, pE_1 hv] at y
  have w3 : hV H3 30 3 = 0 := ((f42.1.2.1.1 30 3 (by decide +kernel)).trans (f40.1.2.1.1 30 3 (by decide +kernel))).trans (by omega)
  have w1 : hV H3 30 1 = hV H1 30 1 := (f42.1.2.1.1 30 1 (by decide +kernel)).trans (f40.1.2.1.1 30 1 (by decide +kernel))
  rw [if_neg (by omega)] at y
  have g5 := Option.some.inj f10.2.2
  unfold mub_92v_14 at g5
  unfold Ab_92v_228 mub_92v_228
  refine ⟨⟨s1.2.2, w3, by omega, by omega, by omega, by omega, by omega, by omega, by omega, fun h6 => ?_, fun h6 h7 => ?_, fun h6 h7 => ?_⟩, fun q hq => ?_⟩
  · exact absurd h6 (by omega)
  · rw [a1]
    rw [show n19 = 0 by omega]
    by_cases kk : hV H1 30 2 = 3 ∨ (45 ≤ hV H1 30 2 ∧ hV H1 30 2 ≤ 49)
    · rw [if_pos kk] at y
      rw [show n18 = hV H1 30 2 by omega, show n3 = n3 by omega]
      exact ⟨by omega, y⟩
    · rw [if_neg kk] at y
      have tk := take_kind (c := 3) ga.1 (by omega)
      rw [vz] at tk
      rw [show n18 = 3 by omega, tk, pE_neg (vwC_ok H0) (pfail_lt pz (by decide)) pfail_ok]
      exact ⟨by decide, y⟩
  · exact absurd h7 (by omega)
  · have g6 := Option.some.inj hq
    subst g6
    omega
theorem c_92v_14_22 {q0 : Nat} : vOkm T0 (eP e_92v L_92v A_92v mu_92v (some q0)) 1 ([(0, [20], [], 0), (0, [19], [], 3), (1098, [14, 18], [2, 3], 0), (18, [18, 17], [], 0), (1123, [17, 15, 16], [1, 2], 0), (20, [16, 1], [1], 1), (90, [16], [], -2147483648), (91, [16], [], 2147483647), (20, [15, 1], [1], 0), (0, [15], [], 31), (20, [14, 1], [1], 8), (51, [14], [], 0), (44, [11, 12], [], 0), (0, [12], [], 49), (20, [11, 1], [1], 2), (90, [11], [], -2147483648), (91, [11], [], 2147483647), (43, [9, 10], [], 0), (0, [10], [], 45), (20, [9, 1], [1], 2), (90, [9], [], -2147483648), (91, [9], [], 2147483647), (31, [3], [], 0), (30, [3], [], 0), (20, [8, 1], [1], 2), (90, [8], [], -2147483648), (91, [8], [], 2147483647), (31, [4], [], 0), (30, [7], [], 0), (20, [7, 1], [1], 3), (90, [7], [], -2147483648), (91, [7], [], 2147483647), (45, [5, 6], [], 0), (0, [6], [], 500), (5000, [0, 1, 2, 3, 4, 5], [0, 1], 14), (0, [0], [], 30), (0, [1], [], 30), (90, [2], [], -2147483648), (91, [2], [], 2147483647), (90, [3], [], -2147483648), (91, [3], [], 2147483647), (90, [4], [], -2147483648), (91, [4], [], 2147483647), (90, [5], [], -2147483648), (91, [5], [], 2147483647)], (4000, [1, 2, 20, 4, 5, 19], [3], 228)) := vOk_in fun ρ η h => by
  obtain ⟨f0, f1, f2, f3, f4, f5, f6, f7, f8, f9, f10, f11, f12, f13, f14, f15, f16, f17, f18, f19, f20, f21, f22, f23, f24, f25, f26, f27, f28, f29, f30, f31, f32, f33, f34, f35, f36, f37, f38, f39, f40, f41, f42, f43, f44, _⟩ := h
  exact q_92v_23 (q0 := q0) (n0 := ρ 5) (n1 := ρ 4) (n2 := ρ 3) (n3 := ρ 2) (n4 := ρ 1) (n5 := ρ 0) (n6 := ρ 6) (n7 := ρ 7) (n8 := ρ 8) (n9 := ρ 9) (n10 := ρ 10) (n11 := ρ 11) (n12 := ρ 12) (n13 := ρ 14) (n14 := ρ 15) (n15 := ρ 16) (n16 := ρ 17) (n17 := ρ 18) (n18 := ρ 19) (n19 := ρ 20) (H0 := η 0) (H1 := η 1) (H2 := η 2) (H3 := η 3) f44 f43 f42 f41 f40 f39 f38 f37 f36 f35 f34 f33 f32 f31 f30 f29 f28 f27 f26 f25 f24 f23 f22 f21 f20 f19 f18 f17 f16 f15 f14 f13 f12 f11 f10 f9 f8 f7 f6 f5 f4 f3 f2 f1 f0
theorem q_92v_24 {q0 : Nat} {n0 n1 n2 n3 n4 n5 n6 n7 n8 n9 n10 n11 n12 n13 n14 n15 n16 n17 n18 n19 n20 : Int} {H0 H1 H2 H3 : gH} (f0 : n0 ≤ 2147483647) (f1 : (-2147483648) ≤ n0) (f2 : n1 ≤ 2147483647) (f3 : (-2147483648) ≤ n1) (f4 : n2 ≤ 2147483647) (f5 : (-2147483648) ≤ n2) (f6 : n3 ≤ 2147483647) (f7 : (-2147483648) ≤ n3) (f8 : n4 = 30) (f9 : n5 = 30) (f10 : (hLe T0 H0 H1 ∧ hFr s_92v.2.2.2.2 H0 H1 ∧ hWt T0 H1) ∧ (Ab_92v_14 n5 n4 n3 n2 n1 n0 H0 H1 ∧ preb_92v n5 H0) ∧ some q0 = some (mub_92v_14 n5 n4 n3 n2 n1 n0 H0 H1)) (f11 : n6 = 500) (f12 : n0 ≤ n6) (f13 : n7 ≤ 2147483647) (f14 : (-2147483648) ≤ n7) (f15 : n7 = hV H1 (n4).toNat 3) (f16 : n7 = 0) (f17 : n1 ≠ 0) (f18 : n8 ≤ 2147483647) (f19 : (-2147483648) ≤ n8) (f20 : n8 = hV H1 (n4).toNat 2) (f21 : n2 = 0) (f22 : n2 ≠ 0) (f23 : n9 ≤ 2147483647) (f24 : (-2147483648) ≤ n9) (f25 : n9 = hV H1 (n4).toNat 2) (f26 : n10 = 45) (f27 : n10 ≤ n9) (f28 : n11 ≤ 2147483647) (f29 : (-2147483648) ≤ n11) (f30 : n11 = hV H1 (n4).toNat 2) (f31 : n12 = 49) (f32 : n12 < n11) (f33 : n13 = 0) (f34 : 0 ≤ n14) (f35 : n14 = hV H1 (n4).toNat 8) (f36 : n13 = 0) (f37 : n15 = 31) (f38 : n15 = hV H1 (n4).toNat 0) (f39 : n16 ≤ 2147483647) (f40 : (-2147483648) ≤ n16) (f41 : n16 = hV H1 (n4).toNat 1) (f42 : (hLe T0 H1 H2 ∧ hFr s_123v.2.2.2.2 H1 H2 ∧ ((0 : Int) = 0 → H2.length = H1.length) ∧ hWt T0 H2) ∧ postb_123v n17 n15 n16 H1 H2) (f43 : n18 = (Int64.ofInt n17).toInt32.toInt) (f44 : (hLe T0 H2 H3 ∧ hFr s_98.2.2.2.2 H2 H3 ∧ ((0 : Int) = 0 → H3.length = H2.length) ∧ hWt T0 H3) ∧ True) (f45 : n13 ≠ 0) (f46 : n19 ≤ 2147483647) (f47 : (-2147483648) ≤ n19) (f48 : n19 = hV H3 (n4).toNat 2) (f49 : n20 = 0) : Ab_92v_228 n5 n4 n3 n20 n1 n0 n19 H0 H3 ∧ ∀ q, some q0 = some q → mub_92v_228 n5 n4 n3 n20 n1 n0 n19 H0 H3 < q := by
  exfalso
  omega
theorem c_92v_14_23 {q0 : Nat} : vOkm T0 (eP e_92v L_92v A_92v mu_92v (some q0)) 1 ([(0, [20], [], 0), (20, [19, 1], [3], 2), (90, [19], [], -2147483648), (91, [19], [], 2147483647), (31, [13], [], 0), (1098, [14, 18], [2, 3], 0), (18, [18, 17], [], 0), (1123, [17, 15, 16], [1, 2], 0), (20, [16, 1], [1], 1), (90, [16], [], -2147483648), (91, [16], [], 2147483647), (20, [15, 1], [1], 0), (0, [15], [], 31), (30, [13], [], 0), (20, [14, 1], [1], 8), (51, [14], [], 0), (0, [13], [], 0), (44, [11, 12], [], 0), (0, [12], [], 49), (20, [11, 1], [1], 2), (90, [11], [], -2147483648), (91, [11], [], 2147483647), (43, [9, 10], [], 0), (0, [10], [], 45), (20, [9, 1], [1], 2), (90, [9], [], -2147483648), (91, [9], [], 2147483647), (31, [3], [], 0), (30, [3], [], 0), (20, [8, 1], [1], 2), (90, [8], [], -2147483648), (91, [8], [], 2147483647), (31, [4], [], 0), (30, [7], [], 0), (20, [7, 1], [1], 3), (90, [7], [], -2147483648), (91, [7], [], 2147483647), (45, [5, 6], [], 0), (0, [6], [], 500), (5000, [0, 1, 2, 3, 4, 5], [0, 1], 14), (0, [0], [], 30), (0, [1], [], 30), (90, [2], [], -2147483648), (91, [2], [], 2147483647), (90, [3], [], -2147483648), (91, [3], [], 2147483647), (90, [4], [], -2147483648), (91, [4], [], 2147483647), (90, [5], [], -2147483648), (91, [5], [], 2147483647)], (4000, [1, 2, 20, 4, 5, 19], [3], 228)) := vOk_in fun ρ η h => by
  obtain ⟨f0, f1, f2, f3, f4, f5, f6, f7, f8, f9, f10, f11, f12, f13, f14, f15, f16, f17, f18, f19, f20, f21, f22, f23, f24, f25, f26, f27, f28, f29, f30, f31, f32, f33, f34, f35, f36, f37, f38, f39, f40, f41, f42, f43, f44, f45, f46, f47, f48, f49, _⟩ := h
  exact q_92v_24 (q0 := q0) (n0 := ρ 5) (n1 := ρ 4) (n2 := ρ 3) (n3 := ρ 2) (n4 := ρ 1) (n5 := ρ 0) (n6 := ρ 6) (n7 := ρ 7) (n8 := ρ 8) (n9 := ρ 9) (n10 := ρ 10) (n11 := ρ 11) (n12 := ρ 12) (n13 := ρ 13) (n14 := ρ 14) (n15 := ρ 15) (n16 := ρ 16) (n17 := ρ 17) (n18 := ρ 18) (n19 := ρ 19) (n20 := ρ 20) (H0 := η 0) (H1 := η 1) (H2 := η 2) (H3 := η 3) f49 f48 f47 f46 f45 f44 f43 f42 f41 f40 f39 f38 f37 f36 f35 f34 f33 f32 f31 f30 f29 f28 f27 f26 f25 f24 f23 f22 f21 f20 f19 f18 f17 f16 f15 f14 f13 f12 f11 f10 f9 f8 f7 f6 f5 f4 f3 f2 f1 f0
theorem q_92v_25 {q0 : Nat} {n0 n1 n2 n3 n4 n5 n6 n7 n8 n9 n10 n11 n12 n13 n14 n15 n16 n17 n18 n19 : Int} {H0 H1 H2 : gH} (f0 : n0 ≤ 2147483647) (f1 : (-2147483648) ≤ n0) (f2 : n1 ≤ 2147483647) (f3 : (-2147483648) ≤ n1) (f4 : n2 ≤ 2147483647) (f5 : (-2147483648) ≤ n2) (f6 : n3 ≤ 2147483647) (f7 : (-2147483648) ≤ n3) (f8 : n4 = 30) (f9 : n5 = 30) (f10 : (hLe T0 H0 H1 ∧ hFr s_92v.2.2.2.2 H0 H1 ∧ hWt T0 H1) ∧ (Ab_92v_14 n5 n4 n3 n2 n1 n0 H0 H1 ∧ preb_92v n5 H0) ∧ some q0 = some (mub_92v_14 n5 n4 n3 n2 n1 n0 H0 H1)) (f11 : n6 = 500) (f12 : n0 ≤ n6) (f13 : n7 ≤ 2147483647) (f14 : (-2147483648) ≤ n7) (f15 : n7 = hV H1 (n4).toNat 3) (f16 : n7 = 0) (f17 : n1 ≠ 0) (f18 : n8 ≤ 2147483647) (f19 : (-2147483648) ≤ n8) (f20 : n8 = hV H1 (n4).toNat 2) (f21 : n2 = 0) (f22 : n2 ≠ 0) (f23 : n9 ≤ 2147483647) (f24 : (-2147483648) ≤ n9) (f25 : n9 = hV H1 (n4).toNat 2) (f26 : n10 = 45) (f27 : n10 ≤ n9) (f28 : n11 ≤ 2147483647) (f29 : (-2147483648) ≤ n11) (f30 : n11 = hV H1 (n4).toNat 2) (f31 : n12 = 49) (f32 : n12 < n11) (f33 : n13 = 0) (f34 : 0 ≤ n14) (f35 : n14 = hV H1 (n4).toNat 8) (f36 : n13 ≠ 0) (f37 : n15 = 10000) (f38 : n16 ≤ 2147483647) (f39 : (-2147483648) ≤ n16) (f40 : n16 = hV H1 (n4).toNat 2) (f41 : n17 = w32 (n15 + n16)) (f42 : (hLe T0 H1 H2 ∧ hFr s_98.2.2.2.2 H1 H2 ∧ ((0 : Int) = 0 → H2.length = H1.length) ∧ hWt T0 H2) ∧ True) (f43 : n13 = 0) (f44 : n18 = 3) (f45 : n19 = 0) : Ab_92v_228 n5 n4 n3 n19 n1 n0 n18 H0 H2 ∧ ∀ q, some q0 = some q → mub_92v_228 n5 n4 n3 n19 n1 n0 n18 H0 H2 < q := by
  exfalso
  omega
theorem c_92v_14_24 {q0 : Nat} : vOkm T0 (eP e_92v L_92v A_92v mu_92v (some q0)) 1 ([(0, [19], [], 0), (0, [18], [], 3), (30, [13], [], 0), (1098, [14, 17], [1, 2], 0), (1, [17, 15, 16], [], 0), (20, [16, 1], [1], 2), (90, [16], [], -2147483648), (91, [16], [], 2147483647), (0, [15], [], 10000), (31, [13], [], 0), (20, [14, 1], [1], 8), (51, [14], [], 0), (0, [13], [], 0), (44, [11, 12], [], 0), (0, [12], [], 49), (20, [11, 1], [1], 2), (90, [11], [], -2147483648), (91, [11], [], 2147483647), (43, [9, 10], [], 0), (0, [10], [], 45), (20, [9, 1], [1], 2), (90, [9], [], -2147483648), (91, [9], [], 2147483647), (31, [3], [], 0), (30, [3], [], 0), (20, [8, 1], [1], 2), (90, [8], [], -2147483648), (91, [8], [], 2147483647), (31, [4], [], 0), (30, [7], [], 0), (20, [7, 1], [1], 3), (90, [7], [], -2147483648), (91, [7], [], 2147483647), (45, [5, 6], [], 0), (0, [6], [], 500), (5000, [0, 1, 2, 3, 4, 5], [0, 1], 14), (0, [0], [], 30), (0, [1], [], 30), (90, [2], [], -2147483648), (91, [2], [], 2147483647), (90, [3], [], -2147483648), (91, [3], [], 2147483647), (90, [4], [], -2147483648), (91, [4], [], 2147483647), (90, [5], [], -2147483648), (91, [5], [], 2147483647)], (4000, [1, 2, 19, 4, 5, 18], [2], 228)) := vOk_in fun ρ η h => by
  obtain ⟨f0, f1, f2, f3, f4, f5, f6, f7, f8, f9, f10, f11, f12, f13, f14, f15, f16, f17, f18, f19, f20, f21, f22, f23, f24, f25, f26, f27, f28, f29, f30, f31, f32, f33, f34, f35, f36, f37, f38, f39, f40, f41, f42, f43, f44, f45, _⟩ := h
  exact q_92v_25 (q0 := q0) (n0 := ρ 5) (n1 := ρ 4) (n2 := ρ 3) (n3 := ρ 2) (n4 := ρ 1) (n5 := ρ 0) (n6 := ρ 6) (n7 := ρ 7) (n8 := ρ 8) (n9 := ρ 9) (n10 := ρ 10) (n11 := ρ 11) (n12 := ρ 12) (n13 := ρ 13) (n14 := ρ 14) (n15 := ρ 15) (n16 := ρ 16) (n17 := ρ 17) (n18 := ρ 18) (n19 := ρ 19) (H0 := η 0) (H1 := η 1) (H2 := η 2) f45 f44 f43 f42 f41 f40 f39 f38 f37 f36 f35 f34 f33 f32 f31 f30 f29 f28 f27 f26 f25 f24 f23 f22 f21 f20 f19 f18 f17 f16 f15 f14 f13 f12 f11 f10 f9 f8 f7 f6 f5 f4 f3 f2 f1 f0
theorem q_92v_26 {q0 : Nat} {n0 n1 n2 n3 n4 n5 n6 n7 n8 n9 n10 n11 n12 n13 n14 n15 n16 n17 n18 n19 : Int} {H0 H1 H2 : gH} (f0 : n0 ≤ 2147483647) (f1 : (-2147483648) ≤ n0) (f2 : n1 ≤ 2147483647) (f3 : (-2147483648) ≤ n1) (f4 : n2 ≤ 2147483647) (f5 : (-2147483648) ≤ n2) (f6 : n3 ≤ 2147483647) (f7 : (-2147483648) ≤ n3) (f8 : n4 = 30) (f9 : n5 = 30) (f10 : (hLe T0 H0 H1 ∧ hFr s_92v.2.2.2.2 H0 H1 ∧ hWt T0 H1) ∧ (Ab_92v_14 n5 n4 n3 n2 n1 n0 H0 H1 ∧ preb_92v n5 H0) ∧ some q0 = some (mub_92v_14 n5 n4 n3 n2 n1 n0 H0 H1)) (f11 : n6 = 500) (f12 : n0 ≤ n6) (f13 : n7 ≤ 2147483647) (f14 : (-2147483648) ≤ n7) (f15 : n7 = hV H1 (n4).toNat 3) (f16 : n7 = 0) (f17 : n1 ≠ 0) (f18 : n8 ≤ 2147483647) (f19 : (-2147483648) ≤ n8) (f20 : n8 = hV H1 (n4).toNat 2) (f21 : n2 = 0) (f22 : n2 ≠ 0) (f23 : n9 ≤ 2147483647) (f24 : (-2147483648) ≤ n9) (f25 : n9 = hV H1 (n4).toNat 2) (f26 : n10 = 45) (f27 : n10 ≤ n9) (f28 : n11 ≤ 2147483647) (f29 : (-2147483648) ≤ n11) (f30 : n11 = hV H1 (n4).toNat 2) (f31 : n12 = 49) (f32 : n12 < n11) (f33 : n13 = 0) (f34 : 0 ≤ n14) (f35 : n14 = hV H1 (n4).toNat 8) (f36 : n13 ≠ 0) (f37 : n15 = 10000) (f38 : n16 ≤ 2147483647) (f39 : (-2147483648) ≤ n16) (f40 : n16 = hV H1 (n4).toNat 2) (f41 : n17 = w32 (n15 + n16)) (f42 : (hLe T0 H1 H2 ∧ hFr s_98.2.2.2.2 H1 H2 ∧ ((0 : Int) = 0 → H2.length = H1.length) ∧ hWt T0 H2) ∧ True) (f43 : n13 ≠ 0) (f44 : n18 ≤ 2147483647) (f45 : (-2147483648) ≤ n18) (f46 : n18 = hV H2 (n4).toNat 2) (f47 : n19 = 0) : Ab_92v_228 n5 n4 n3 n19 n1 n0 n18 H0 H2 ∧ ∀ q, some q0 = some q → mub_92v_228 n5 n4 n3 n19 n1 n0 n18 H0 H2 < q := by
  exfalso
  omega
theorem c_92v_14_25 {q0 : Nat} : vOkm T0 (eP e_92v L_92v A_92v mu_92v (some q0)) 1 ([(0, [19], [], 0), (20, [18, 1], [2], 2), (90, [18], [], -2147483648), (91, [18], [], 2147483647), (31, [13], [], 0), (1098, [14, 17], [1, 2], 0), (1, [17, 15, 16], [], 0), (20, [16, 1], [1], 2), (90, [16], [], -2147483648), (91, [16], [], 2147483647), (0, [15], [], 10000), (31, [13], [], 0), (20, [14, 1], [1], 8), (51, [14], [], 0), (0, [13], [], 0), (44, [11, 12], [], 0), (0, [12], [], 49), (20, [11, 1], [1], 2), (90, [11], [], -2147483648), (91, [11], [], 2147483647), (43, [9, 10], [], 0), (0, [10], [], 45), (20, [9, 1], [1], 2), (90, [9], [], -2147483648), (91, [9], [], 2147483647), (31, [3], [], 0), (30, [3], [], 0), (20, [8, 1], [1], 2), (90, [8], [], -2147483648), (91, [8], [], 2147483647), (31, [4], [], 0), (30, [7], [], 0), (20, [7, 1], [1], 3), (90, [7], [], -2147483648), (91, [7], [], 2147483647), (45, [5, 6], [], 0), (0, [6], [], 500), (5000, [0, 1, 2, 3, 4, 5], [0, 1], 14), (0, [0], [], 30), (0, [1], [], 30), (90, [2], [], -2147483648), (91, [2], [], 2147483647), (90, [3], [], -2147483648), (91, [3], [], 2147483647), (90, [4], [], -2147483648), (91, [4], [], 2147483647), (90, [5], [], -2147483648), (91, [5], [], 2147483647)], (4000, [1, 2, 19, 4, 5, 18], [2], 228)) := vOk_in fun ρ η h => by
  obtain ⟨f0, f1, f2, f3, f4, f5, f6, f7, f8, f9, f10, f11, f12, f13, f14, f15, f16, f17, f18, f19, f20, f21, f22, f23, f24, f25, f26, f27, f28, f29, f30, f31, f32, f33, f34, f35, f36, f37, f38, f39, f40, f41, f42, f43, f44, f45, f46, f47, _⟩ := h
  exact q_92v_26 (q0 := q0) (n0 := ρ 5) (n1 := ρ 4) (n2 := ρ 3) (n3 := ρ 2) (n4 := ρ 1) (n5 := ρ 0) (n6 := ρ 6) (n7 := ρ 7) (n8 := ρ 8) (n9 := ρ 9) (n10 := ρ 10) (n11 := ρ 11) (n12 := ρ 12) (n13 := ρ 13) (n14 := ρ 14) (n15 := ρ 15) (n16 := ρ 16) (n17 := ρ 17) (n18 := ρ 18) (n19 := ρ 19) (H0 := η 0) (H1 := η 1) (H2 := η 2) f47 f46 f45 f44 f43 f42 f41 f40 f39 f38 f37 f36 f35 f34 f33 f32 f31 f30 f29 f28 f27 f26 f25 f24 f23 f22 f21 f20 f19 f18 f17 f16 f15 f14 f13 f12 f11 f10 f9 f8 f7 f6 f5 f4 f3 f2 f1 f0
theorem q_92v_27 {q0 : Nat} {n0 n1 n2 n3 n4 n5 n6 n7 n8 n9 n10 n11 n12 n13 n14 n15 : Int} {H0 H1 : gH} (f0 : n0 ≤ 2147483647) (f1 : (-2147483648) ≤ n0) (f2 : n1 ≤ 2147483647) (f3 : (-2147483648) ≤ n1) (f4 : n2 ≤ 2147483647) (f5 : (-2147483648) ≤ n2) (f6 : n3 ≤ 2147483647) (f7 : (-2147483648) ≤ n3) (f8 : n4 = 30) (f9 : n5 = 30) (f10 : (hLe T0 H0 H1 ∧ hFr s_92v.2.2.2.2 H0 H1 ∧ hWt T0 H1) ∧ (Ab_92v_14 n5 n4 n3 n2 n1 n0 H0 H1 ∧ preb_92v n5 H0) ∧ some q0 = some (mub_92v_14 n5 n4 n3 n2 n1 n0 H0 H1)) (f11 : n6 = 500) (f12 : n0 ≤ n6) (f13 : n7 ≤ 2147483647) (f14 : (-2147483648) ≤ n7) (f15 : n7 = hV H1 (n4).toNat 3) (f16 : n7 = 0) (f17 : n1 ≠ 0) (f18 : n8 ≤ 2147483647) (f19 : (-2147483648) ≤ n8) (f20 : n8 = hV H1 (n4).toNat 2) (f21 : n2 = 0) (f22 : n2 ≠ 0) (f23 : n9 ≤ 2147483647) (f24 : (-2147483648) ≤ n9) (f25 : n9 = hV H1 (n4).toNat 2) (f26 : n10 = 45) (f27 : n10 ≤ n9) (f28 : n11 ≤ 2147483647) (f29 : (-2147483648) ≤ n11) (f30 : n11 = hV H1 (n4).toNat 2) (f31 : n12 = 49) (f32 : n11 ≤ n12) (f33 : n13 = 1) (f34 : n13 = 0) (f35 : n14 = 31) (f36 : n14 = hV H1 (n4).toNat 0) (f37 : n15 ≤ 2147483647) (f38 : (-2147483648) ≤ n15) (f39 : n15 = hV H1 (n4).toNat 1) : preb_123v n14 n15 H1 := by
  exfalso
  omega
theorem c_92v_14_26 {q0 : Nat} : vOkm T0 (eP e_92v L_92v A_92v mu_92v (some q0)) 1 ([(20, [16, 1], [1], 1), (90, [16], [], -2147483648), (91, [16], [], 2147483647), (20, [15, 1], [1], 0), (0, [15], [], 31), (30, [13], [], 0), (0, [13], [], 1), (45, [11, 12], [], 0), (0, [12], [], 49), (20, [11, 1], [1], 2), (90, [11], [], -2147483648), (91, [11], [], 2147483647), (43, [9, 10], [], 0), (0, [10], [], 45), (20, [9, 1], [1], 2), (90, [9], [], -2147483648), (91, [9], [], 2147483647), (31, [3], [], 0), (30, [3], [], 0), (20, [8, 1], [1], 2), (90, [8], [], -2147483648), (91, [8], [], 2147483647), (31, [4], [], 0), (30, [7], [], 0), (20, [7, 1], [1], 3), (90, [7], [], -2147483648), (91, [7], [], 2147483647), (45, [5, 6], [], 0), (0, [6], [], 500), (5000, [0, 1, 2, 3, 4, 5], [0, 1], 14), (0, [0], [], 30), (0, [1], [], 30), (90, [2], [], -2147483648), (91, [2], [], 2147483647), (90, [3], [], -2147483648), (91, [3], [], 2147483647), (90, [4], [], -2147483648), (91, [4], [], 2147483647), (90, [5], [], -2147483648), (91, [5], [], 2147483647)], (2123, [15, 16], [1], 0)) := vOk_in fun ρ η h => by
  obtain ⟨f0, f1, f2, f3, f4, f5, f6, f7, f8, f9, f10, f11, f12, f13, f14, f15, f16, f17, f18, f19, f20, f21, f22, f23, f24, f25, f26, f27, f28, f29, f30, f31, f32, f33, f34, f35, f36, f37, f38, f39, _⟩ := h
  exact q_92v_27 (q0 := q0) (n0 := ρ 5) (n1 := ρ 4) (n2 := ρ 3) (n3 := ρ 2) (n4 := ρ 1) (n5 := ρ 0) (n6 := ρ 6) (n7 := ρ 7) (n8 := ρ 8) (n9 := ρ 9) (n10 := ρ 10) (n11 := ρ 11) (n12 := ρ 12) (n13 := ρ 13) (n14 := ρ 15) (n15 := ρ 16) (H0 := η 0) (H1 := η 1) f39 f38 f37 f36 f35 f34 f33 f32 f31 f30 f29 f28 f27 f26 f25 f24 f23 f22 f21 f20 f19 f18 f17 f16 f15 f14 f13 f12 f11 f10 f9 f8 f7 f6 f5 f4 f3 f2 f1 f0
theorem q_92v_28 {q0 : Nat} {n0 n1 n2 n3 n4 n5 n6 n7 n8 n9 n10 n11 n12 n13 n14 n15 n16 n17 n18 n19 n20 : Int} {H0 H1 H2 H3 : gH} (f0 : n0 ≤ 2147483647) (f1 : (-2147483648) ≤ n0) (f2 : n1 ≤ 2147483647) (f3 : (-2147483648) ≤ n1) (f4 : n2 ≤ 2147483647) (f5 : (-2147483648) ≤ n2) (f6 : n3 ≤ 2147483647) (f7 : (-2147483648) ≤ n3) (f8 : n4 = 30) (f9 : n5 = 30) (f10 : (hLe T0 H0 H1 ∧ hFr s_92v.2.2.2.2 H0 H1 ∧ hWt T0 H1) ∧ (Ab_92v_14 n5 n4 n3 n2 n1 n0 H0 H1 ∧ preb_92v n5 H0) ∧ some q0 = some (mub_92v_14 n5 n4 n3 n2 n1 n0 H0 H1)) (f11 : n6 = 500) (f12 : n0 ≤ n6) (f13 : n7 ≤ 2147483647) (f14 : (-2147483648) ≤ n7) (f15 : n7 = hV H1 (n4).toNat 3) (f16 : n7 = 0) (f17 : n1 ≠ 0) (f18 : n8 ≤ 2147483647) (f19 : (-2147483648) ≤ n8) (f20 : n8 = hV H1 (n4).toNat 2) (f21 : n2 = 0) (f22 : n2 ≠ 0) (f23 : n9 ≤ 2147483647) (f24 : (-2147483648) ≤ n9) (f25 : n9 = hV H1 (n4).toNat 2) (f26 : n10 = 45) (f27 : n10 ≤ n9) (f28 : n11 ≤ 2147483647) (f29 : (-2147483648) ≤ n11) (f30 : n11 = hV H1 (n4).toNat 2) (f31 : n12 = 49) (f32 : n11 ≤ n12) (f33 : n13 = 1) (f34 : 0 ≤ n14) (f35 : n14 = hV H1 (n4).toNat 8) (f36 : n13 = 0) (f37 : n15 = 31) (f38 : n15 = hV H1 (n4).toNat 0) (f39 : n16 ≤ 2147483647) (f40 : (-2147483648) ≤ n16) (f41 : n16 = hV H1 (n4).toNat 1) (f42 : (hLe T0 H1 H2 ∧ hFr s_123v.2.2.2.2 H1 H2 ∧ ((0 : Int) = 0 → H2.length = H1.length) ∧ hWt T0 H2) ∧ postb_123v n17 n15 n16 H1 H2) (f43 : n18 = (Int64.ofInt n17).toInt32.toInt) (f44 : (hLe T0 H2 H3 ∧ hFr s_98.2.2.2.2 H2 H3 ∧ ((0 : Int) = 0 → H3.length = H2.length) ∧ hWt T0 H3) ∧ True) (f45 : n13 = 0) (f46 : n19 = 3) (f47 : n20 = 0) : Ab_92v_228 n5 n4 n3 n20 n1 n0 n19 H0 H3 ∧ ∀ q, some q0 = some q → mub_92v_228 n5 n4 n3 n20 n1 n0 n19 H0 H3 < q := by
  exfalso
  omega
theorem c_92v_14_27 {q0 : Nat} : vOkm T0 (eP e_92v L_92v A_92v mu_92v (some q0)) 1 ([(0, [20], [], 0), (0, [19], [], 3), (30, [13], [], 0), (1098, [14, 18], [2, 3], 0), (18, [18, 17], [], 0), (1123, [17, 15, 16], [1, 2], 0), (20, [16, 1], [1], 1), (90, [16], [], -2147483648), (91, [16], [], 2147483647), (20, [15, 1], [1], 0), (0, [15], [], 31), (30, [13], [], 0), (20, [14, 1], [1], 8), (51, [14], [], 0), (0, [13], [], 1), (45, [11, 12], [], 0), (0, [12], [], 49), (20, [11, 1], [1], 2), (90, [11], [], -2147483648), (91, [11], [], 2147483647), (43, [9, 10], [], 0), (0, [10], [], 45), (20, [9, 1], [1], 2), (90, [9], [], -2147483648), (91, [9], [], 2147483647), (31, [3], [], 0), (30, [3], [], 0), (20, [8, 1], [1], 2), (90, [8], [], -2147483648), (91, [8], [], 2147483647), (31, [4], [], 0), (30, [7], [], 0), (20, [7, 1], [1], 3), (90, [7], [], -2147483648), (91, [7], [], 2147483647), (45, [5, 6], [], 0), (0, [6], [], 500), (5000, [0, 1, 2, 3, 4, 5], [0, 1], 14), (0, [0], [], 30), (0, [1], [], 30), (90, [2], [], -2147483648), (91, [2], [], 2147483647), (90, [3], [], -2147483648), (91, [3], [], 2147483647), (90, [4], [], -2147483648), (91, [4], [], 2147483647), (90, [5], [], -2147483648), (91, [5], [], 2147483647)], (4000, [1, 2, 20, 4, 5, 19], [3], 228)) := vOk_in fun ρ η h => by
  obtain ⟨f0, f1, f2, f3, f4, f5, f6, f7, f8, f9, f10, f11, f12, f13, f14, f15, f16, f17, f18, f19, f20, f21, f22, f23, f24, f25, f26, f27, f28, f29, f30, f31, f32, f33, f34, f35, f36, f37, f38, f39, f40, f41, f42, f43, f44, f45, f46, f47, _⟩ := h
  exact q_92v_28 (q0 := q0) (n0 := ρ 5) (n1 := ρ 4) (n2 := ρ 3) (n3 := ρ 2) (n4 := ρ 1) (n5 := ρ 0) (n6 := ρ 6) (n7 := ρ 7) (n8 := ρ 8) (n9 := ρ 9) (n10 := ρ 10) (n11 := ρ 11) (n12 := ρ 12) (n13 := ρ 13) (n14 := ρ 14) (n15 := ρ 15) (n16 := ρ 16) (n17 := ρ 17) (n18 := ρ 18) (n19 := ρ 19) (n20 := ρ 20) (H0 := η 0) (H1 := η 1) (H2 := η 2) (H3 := η 3) f47 f46 f45 f44 f43 f42 f41 f40 f39 f38 f37 f36 f35 f34 f33 f32 f31 f30 f29 f28 f27 f26 f25 f24 f23 f22 f21 f20 f19 f18 f17 f16 f15 f14 f13 f12 f11 f10 f9 f8 f7 f6 f5 f4 f3 f2 f1 f0
theorem q_92v_29 {q0 : Nat} {n0 n1 n2 n3 n4 n5 n6 n7 n8 n9 n10 n11 n12 n13 n14 n15 n16 n17 n18 n19 n20 : Int} {H0 H1 H2 H3 : gH} (f0 : n0 ≤ 2147483647) (f1 : (-2147483648) ≤ n0) (f2 : n1 ≤ 2147483647) (f3 : (-2147483648) ≤ n1) (f4 : n2 ≤ 2147483647) (f5 : (-2147483648) ≤ n2) (f6 : n3 ≤ 2147483647) (f7 : (-2147483648) ≤ n3) (f8 : n4 = 30) (f9 : n5 = 30) (f10 : (hLe T0 H0 H1 ∧ hFr s_92v.2.2.2.2 H0 H1 ∧ hWt T0 H1) ∧ (Ab_92v_14 n5 n4 n3 n2 n1 n0 H0 H1 ∧ preb_92v n5 H0) ∧ some q0 = some (mub_92v_14 n5 n4 n3 n2 n1 n0 H0 H1)) (f11 : n6 = 500) (f12 : n0 ≤ n6) (f13 : n7 ≤ 2147483647) (f14 : (-2147483648) ≤ n7) (f15 : n7 = hV H1 (n4).toNat 3) (f16 : n7 = 0) (f17 : n1 ≠ 0) (f18 : n8 ≤ 2147483647) (f19 : (-2147483648) ≤ n8) (f20 : n8 = hV H1 (n4).toNat 2) (f21 : n2 = 0) (f22 : n2 ≠ 0) (f23 : n9 ≤ 2147483647) (f24 : (-2147483648) ≤ n9) (f25 : n9 = hV H1 (n4).toNat 2) (f26 : n10 = 45) (f27 : n10 ≤ n9) (f28 : n11 ≤ 2147483647) (f29 : (-2147483648) ≤ n11) (f30 : n11 = hV H1 (n4).toNat 2) (f31 : n12 = 49) (f32 : n11 ≤ n12) (f33 : n13 = 1) (f34 : 0 ≤ n14) (f35 : n14 = hV H1 (n4).toNat 8) (f36 : n13 = 0) (f37 : n15 = 31) (f38 : n15 = hV H1 (n4).toNat 0) (f39 : n16 ≤ 2147483647) (f40 : (-2147483648) ≤ n16) (f41 : n16 = hV H1 (n4).toNat 1) (f42 : (hLe T0 H1 H2 ∧ hFr s_123v.2.2.2.2 H1 H2 ∧ ((0 : Int) = 0 → H2.length = H1.length) ∧ hWt T0 H2) ∧ postb_123v n17 n15 n16 H1 H2) (f43 : n18 = (Int64.ofInt n17).toInt32.toInt) (f44 : (hLe T0 H2 H3 ∧ hFr s_98.2.2.2.2 H2 H3 ∧ ((0 : Int) = 0 → H3.length = H2.length) ∧ hWt T0 H3) ∧ True) (f45 : n13 ≠ 0) (f46 : n19 ≤ 2147483647) (f47 : (-2147483648) ≤ n19) (f48 : n19 = hV H3 (n4).toNat 2) (f49 : n20 = 0) : Ab_92v_228 n5 n4 n3 n20 n1 n0 n19 H0 H3 ∧ ∀ q, some q0 = some q → mub_92v_228 n5 n4 n3 n20 n1 n0 n19 H0 H3 < q := by
  exfalso
  omega
theorem c_92v_14_28 {q0 : Nat} : vOkm T0 (eP e_92v L_92v A_92v mu_92v (some q0)) 1 ([(0, [20], [], 0), (20, [19, 1], [3], 2), (90, [19], [], -2147483648), (91, [19], [], 2147483647), (31, [13], [], 0), (1098, [14, 18], [2, 3], 0), (18, [18, 17], [], 0), (1123, [17, 15, 16], [1, 2], 0), (20, [16, 1], [1], 1), (90, [16], [], -2147483648), (91, [16], [], 2147483647), (20, [15, 1], [1], 0), (0, [15], [], 31), (30, [13], [], 0), (20, [14, 1], [1], 8), (51, [14], [], 0), (0, [13], [], 1), (45, [11, 12], [], 0), (0, [12], [], 49), (20, [11, 1], [1], 2), (90, [11], [], -2147483648), (91, [11], [], 2147483647), (43, [9, 10], [], 0), (0, [10], [], 45), (20, [9, 1], [1], 2), (90, [9], [], -2147483648), (91, [9], [], 2147483647), (31, [3], [], 0), (30, [3], [], 0), (20, [8, 1], [1], 2), (90, [8], [], -2147483648), (91, [8], [], 2147483647), (31, [4], [], 0), (30, [7], [], 0), (20, [7, 1], [1], 3), (90, [7], [], -2147483648), (91, [7], [], 2147483647), (45, [5, 6], [], 0), (0, [6], [], 500), (5000, [0, 1, 2, 3, 4, 5], [0, 1], 14), (0, [0], [], 30), (0, [1], [], 30), (90, [2], [], -2147483648), (91, [2], [], 2147483647), (90, [3], [], -2147483648), (91, [3], [], 2147483647), (90, [4], [], -2147483648), (91, [4], [], 2147483647), (90, [5], [], -2147483648), (91, [5], [], 2147483647)], (4000, [1, 2, 20, 4, 5, 19], [3], 228)) := vOk_in fun ρ η h => by
  obtain ⟨f0, f1, f2, f3, f4, f5, f6, f7, f8, f9, f10, f11, f12, f13, f14, f15, f16, f17, f18, f19, f20, f21, f22, f23, f24, f25, f26, f27, f28, f29, f30, f31, f32, f33, f34, f35, f36, f37, f38, f39, f40, f41, f42, f43, f44, f45, f46, f47, f48, f49, _⟩ := h
  exact q_92v_29 (q0 := q0) (n0 := ρ 5) (n1 := ρ 4) (n2 := ρ 3) (n3 := ρ 2) (n4 := ρ 1) (n5 := ρ 0) (n6 := ρ 6) (n7 := ρ 7) (n8 := ρ 8) (n9 := ρ 9) (n10 := ρ 10) (n11 := ρ 11) (n12 := ρ 12) (n13 := ρ 13) (n14 := ρ 14) (n15 := ρ 15) (n16 := ρ 16) (n17 := ρ 17) (n18 := ρ 18) (n19 := ρ 19) (n20 := ρ 20) (H0 := η 0) (H1 := η 1) (H2 := η 2) (H3 := η 3) f49 f48 f47 f46 f45 f44 f43 f42 f41 f40 f39 f38 f37 f36 f35 f34 f33 f32 f31 f30 f29 f28 f27 f26 f25 f24 f23 f22 f21 f20 f19 f18 f17 f16 f15 f14 f13 f12 f11 f10 f9 f8 f7 f6 f5 f4 f3 f2 f1 f0
theorem q_92v_30 {q0 : Nat} {n0 n1 n2 n3 n4 n5 n6 n7 n8 n9 n10 n11 n12 n13 n14 n15 n16 n17 n18 n19 : Int} {H0 H1 H2 : gH} (f0 : n0 ≤ 2147483647) (f1 : (-2147483648) ≤ n0) (f2 : n1 ≤ 2147483647) (f3 : (-2147483648) ≤ n1) (f4 : n2 ≤ 2147483647) (f5 : (-2147483648) ≤ n2) (f6 : n3 ≤ 2147483647) (f7 : (-2147483648) ≤ n3) (f8 : n4 = 30) (f9 : n5 = 30) (f10 : (hLe T0 H0 H1 ∧ hFr s_92v.2.2.2.2 H0 H1 ∧ hWt T0 H1) ∧ (Ab_92v_14 n5 n4 n3 n2 n1 n0 H0 H1 ∧ preb_92v n5 H0) ∧ some q0 = some (mub_92v_14 n5 n4 n3 n2 n1 n0 H0 H1)) (f11 : n6 = 500) (f12 : n0 ≤ n6) (f13 : n7 ≤ 2147483647) (f14 : (-2147483648) ≤ n7) (f15 : n7 = hV H1 (n4).toNat 3) (f16 : n7 = 0) (f17 : n1 ≠ 0) (f18 : n8 ≤ 2147483647) (f19 : (-2147483648) ≤ n8) (f20 : n8 = hV H1 (n4).toNat 2) (f21 : n2 = 0) (f22 : n2 ≠ 0) (f23 : n9 ≤ 2147483647) (f24 : (-2147483648) ≤ n9) (f25 : n9 = hV H1 (n4).toNat 2) (f26 : n10 = 45) (f27 : n10 ≤ n9) (f28 : n11 ≤ 2147483647) (f29 : (-2147483648) ≤ n11) (f30 : n11 = hV H1 (n4).toNat 2) (f31 : n12 = 49) (f32 : n11 ≤ n12) (f33 : n13 = 1) (f34 : 0 ≤ n14) (f35 : n14 = hV H1 (n4).toNat 8) (f36 : n13 ≠ 0) (f37 : n15 = 10000) (f38 : n16 ≤ 2147483647) (f39 : (-2147483648) ≤ n16) (f40 : n16 = hV H1 (n4).toNat 2) (f41 : n17 = w32 (n15 + n16)) (f42 : (hLe T0 H1 H2 ∧ hFr s_98.2.2.2.2 H1 H2 ∧ ((0 : Int) = 0 → H2.length = H1.length) ∧ hWt T0 H2) ∧ True) (f43 : n13 = 0) (f44 : n18 = 3) (f45 : n19 = 0) : Ab_92v_228 n5 n4 n3 n19 n1 n0 n18 H0 H2 ∧ ∀ q, some q0 = some q → mub_92v_228 n5 n4 n3 n19 n1 n0 n18 H0 H2 < q := by
  exfalso
  omega
theorem c_92v_14_29 {q0 : Nat} : vOkm T0 (eP e_92v L_92v A_92v mu_92v (some q0)) 1 ([(0, [19], [], 0), (0, [18], [], 3), (30, [13], [], 0), (1098, [14, 17], [1, 2], 0), (1, [17, 15, 16], [], 0), (20, [16, 1], [1], 2), (90, [16], [], -2147483648), (91, [16], [], 2147483647), (0, [15], [], 10000), (31, [13], [], 0), (20, [14, 1], [1], 8), (51, [14], [], 0), (0, [13], [], 1), (45, [11, 12], [], 0), (0, [12], [], 49), (20, [11, 1], [1], 2), (90, [11], [], -2147483648), (91, [11], [], 2147483647), (43, [9, 10], [], 0), (0, [10], [], 45), (20, [9, 1], [1], 2), (90, [9], [], -2147483648), (91, [9], [], 2147483647), (31, [3], [], 0), (30, [3], [], 0), (20, [8, 1], [1], 2), (90, [8], [], -2147483648), (91, [8], [], 2147483647), (31, [4], [], 0), (30, [7], [], 0), (20, [7, 1], [1], 3), (90, [7], [], -2147483648), (91, [7], [], 2147483647), (45, [5, 6], [], 0), (0, [6], [], 500), (5000, [0, 1, 2, 3, 4, 5], [0, 1], 14), (0, [0], [], 30), (0, [1], [], 30), (90, [2], [], -2147483648), (91, [2], [], 2147483647), (90, [3], [], -2147483648), (91, [3], [], 2147483647), (90, [4], [], -2147483648), (91, [4], [], 2147483647), (90, [5], [], -2147483648), (91, [5], [], 2147483647)], (4000, [1, 2, 19, 4, 5, 18], [2], 228)) := vOk_in fun ρ η h => by
  obtain ⟨f0, f1, f2, f3, f4, f5, f6, f7, f8, f9, f10, f11, f12, f13, f14, f15, f16, f17, f18, f19, f20, f21, f22, f23, f24, f25, f26, f27, f28, f29, f30, f31, f32, f33, f34, f35, f36, f37, f38, f39, f40, f41, f42, f43, f44, f45, _⟩ := h
  exact q_92v_30 (q0 := q0) (n0 := ρ 5) (n1 := ρ 4) (n2 := ρ 3) (n3 := ρ 2) (n4 := ρ 1) (n5 := ρ 0) (n6 := ρ 6) (n7 := ρ 7) (n8 := ρ 8) (n9 := ρ 9) (n10 := ρ 10) (n11 := ρ 11) (n12 := ρ 12) (n13 := ρ 13) (n14 := ρ 14) (n15 := ρ 15) (n16 := ρ 16) (n17 := ρ 17) (n18 := ρ 18) (n19 := ρ 19) (H0 := η 0) (H1 := η 1) (H2 := η 2) f45 f44 f43 f42 f41 f40 f39 f38 f37 f36 f35 f34 f33 f32 f31 f30 f29 f28 f27 f26 f25 f24 f23 f22 f21 f20 f19 f18 f17 f16 f15 f14 f13 f12 f11 f10 f9 f8 f7 f6 f5 f4 f3 f2 f1 f0
theorem q_92v_31 {q0 : Nat} {n0 n1 n2 n3 n4 n5 n6 n7 n8 n9 n10 n11 n12 n13 n14 n15 n16 n17 n18 : Int} {H0 H1 H2 : gH} (f0 : n0 ≤ 2147483647) (f1 : (-2147483648) ≤ n0) (f2 : n1 ≤ 2147483647) (f3 : (-2147483648) ≤ n1) (f4 : n2 ≤ 2147483647) (f5 : (-2147483648) ≤ n2) (f6 : n3 ≤ 2147483647) (f7 : (-2147483648) ≤ n3) (f8 : n4 = 30) (f9 : n5 = 30) (f10 : (hLe T0 H0 H1 ∧ hFr s_92v.2.2.2.2 H0 H1 ∧ hWt T0 H1) ∧ (Ab_92v_14 n5 n4 n3 n2 n1 n0 H0 H1 ∧ preb_92v n5 H0) ∧ some q0 = some (mub_92v_14 n5 n4 n3 n2 n1 n0 H0 H1)) (f11 : n6 = 500) (f12 : n0 ≤ n6) (f13 : n7 ≤ 2147483647) (f14 : (-2147483648) ≤ n7) (f15 : n7 = hV H1 (n4).toNat 3) (f16 : n7 = 0) (f17 : n1 ≠ 0) (f18 : n8 ≤ 2147483647) (f19 : (-2147483648) ≤ n8) (f20 : n8 = hV H1 (n4).toNat 2) (f21 : n2 = 0) (f22 : n2 ≠ 0) (f23 : n9 ≤ 2147483647) (f24 : (-2147483648) ≤ n9) (f25 : n9 = hV H1 (n4).toNat 2) (f26 : n10 = 45) (f27 : n10 ≤ n9) (f28 : n11 ≤ 2147483647) (f29 : (-2147483648) ≤ n11) (f30 : n11 = hV H1 (n4).toNat 2) (f31 : n12 = 49) (f32 : n11 ≤ n12) (f33 : 0 ≤ n13) (f34 : n13 = hV H1 (n4).toNat 8) (f35 : n14 = 10000) (f36 : n15 ≤ 2147483647) (f37 : (-2147483648) ≤ n15) (f38 : n15 = hV H1 (n4).toNat 2) (f39 : n16 = w32 (n14 + n15)) (f40 : (hLe T0 H1 H2 ∧ hFr s_98.2.2.2.2 H1 H2 ∧ ((0 : Int) = 0 → H2.length = H1.length) ∧ hWt T0 H2) ∧ True) (f41 : n17 ≤ 2147483647) (f42 : (-2147483648) ≤ n17) (f43 : n17 = hV H2 (n4).toNat 2) (f44 : n18 = 0) : Ab_92v_228 n5 n4 n3 n18 n1 n0 n17 H0 H2 ∧ ∀ q, some q0 = some q → mub_92v_228 n5 n4 n3 n18 n1 n0 n17 H0 H2 < q := by
  have pz := f10.2.1.2
  unfold preb_92v at pz
  have ga := f10.2.1.1
  unfold Ab_92v_14 at ga
  have vz : vwC H1 = vwC H0 := vwC_fr f10.1.2.1 (by decide +kernel)
  have s0 := PF_fr f40.1.1 f40.1.2.1 (by decide +kernel) ga.1
  have a0 : absC H2 = (absC H1) := s0.1
  have v0 : vwC H2 = vwC H0 := s0.2.1.trans vz
  have gb := ga
  obtain ⟨_, s0_, o0, o7, w01, m01, xn, ya, yb⟩ := gb
  have rf := f15
  rw [f8] at rf
  rw [show ((30 : Int)).toNat = 30 from rfl] at rf
  have kr0 := f20
  rw [f8] at kr0
  rw [show ((30 : Int)).toNat = 30 from rfl] at kr0
  have kr1 := f25
  rw [f8] at kr1
  rw [show ((30 : Int)).toNat = 30 from rfl] at kr1
  have kr2 := f30
  rw [f8] at kr2
  rw [show ((30 : Int)).toNat = 30 from rfl] at kr2
  have kr3 := f38
  rw [f8] at kr3
  rw [show ((30 : Int)).toNat = 30 from rfl] at kr3
  have kr4 := f43
  rw [f8] at kr4
  rw [show ((30 : Int)).toNat = 30 from rfl] at kr4
  rw [show hV H2 30 2 = hV H1 30 2 from f40.1.2.1.1 30 2 (by decide +kernel)] at kr4
  have ap := absC_pos ga.1 (by omega)
  have hv : (vwC H0).1 (absC H1).1 = hV H1 30 2 := by
    have u := (kd_at ga.1).resolve_left (by omega)
    rw [vz] at u
    exact u
  have u := xn (by omega)
  have nw := ga.1.2.2.2.1.2.1
  have q39_ := f39
  unfold w32 at q39_
  have y := ya (by omega)
  rw [show (502 - (absC H0).1).toNat - (n0).toNat = ((502 - (absC H0).1).toNat - (n0).toNat - 1) + 1 by omega] at y
  rw [show n2 = 1 by omega, pE_1 hv] at y
  have w3 : hV H2 30 3 = 0 := (f40.1.2.1.1 30 3 (by decide +kernel)).trans (by omega)
  have w1 : hV H2 30 1 = hV H1 30 1 := f40.1.2.1.1 30 1 (by decide +kernel)
  rw [if_neg (by omega)] at y
  have g5 := Option.some.inj f10.2.2
  unfold mub_92v_14 at g5
  unfold Ab_92v_228 mub_92v_228
  refine ⟨⟨s0.2.2, w3, by omega, by omega, by omega, by omega, by omega, by omega, by omega, fun h6 => ?_, fun h6 h7 => ?_, fun h6 h7 => ?_⟩, fun q hq => ?_⟩
  · exact absurd h6 (by omega)
  · rw [a0]
    rw [show n18 = 0 by omega]
    by_cases kk : hV H1 30 2 = 3 ∨ (45 ≤ hV H1 30 2 ∧ hV H1 30 2 ≤ 49)
    · rw [if_pos kk] at y
      rw [show n17 = hV H1 30 2 by omega, show n3 = n3 by omega]
      exact ⟨by omega, y⟩
    · rw [if_neg kk] at y
      have tk := take_kind (c := 3) ga.1 (by omega)
      rw [vz] at tk
      rw [show n17 = 3 by omega, tk, pE_neg (vwC_ok H0) (pfail_lt pz (by decide)) pfail_ok]
      exact ⟨by decide, y⟩
  · exact absurd h7 (by omega)
  · have g6 := Option.some.inj hq
    subst g6
    omega
theorem c_92v_14_30 {q0 : Nat} : vOkm T0 (eP e_92v L_92v A_92v mu_92v (some q0)) 1 ([(0, [19], [], 0), (20, [18, 1], [2], 2), (90, [18], [], -2147483648), (91, [18], [], 2147483647), (1098, [14, 17], [1, 2], 0), (1, [17, 15, 16], [], 0), (20, [16, 1], [1], 2), (90, [16], [], -2147483648), (91, [16], [], 2147483647), (0, [15], [], 10000), (20, [14, 1], [1], 8), (51, [14], [], 0), (45, [11, 12], [], 0), (0, [12], [], 49), (20, [11, 1], [1], 2), (90, [11], [], -2147483648), (91, [11], [], 2147483647), (43, [9, 10], [], 0), (0, [10], [], 45), (20, [9, 1], [1], 2), (90, [9], [], -2147483648), (91, [9], [], 2147483647), (31, [3], [], 0), (30, [3], [], 0), (20, [8, 1], [1], 2), (90, [8], [], -2147483648), (91, [8], [], 2147483647), (31, [4], [], 0), (30, [7], [], 0), (20, [7, 1], [1], 3), (90, [7], [], -2147483648), (91, [7], [], 2147483647), (45, [5, 6], [], 0), (0, [6], [], 500), (5000, [0, 1, 2, 3, 4, 5], [0, 1], 14), (0, [0], [], 30), (0, [1], [], 30), (90, [2], [], -2147483648), (91, [2], [], 2147483647), (90, [3], [], -2147483648), (91, [3], [], 2147483647), (90, [4], [], -2147483648), (91, [4], [], 2147483647), (90, [5], [], -2147483648), (91, [5], [], 2147483647)], (4000, [1, 2, 19, 4, 5, 18], [2], 228)) := vOk_in fun ρ η h => by
  obtain ⟨f0, f1, f2, f3, f4, f5, f6, f7, f8, f9, f10, f11, f12, f13, f14, f15, f16, f17, f18, f19, f20, f21, f22, f23, f24, f25, f26, f27, f28, f29, f30, f31, f32, f33, f34, f35, f36, f37, f38, f39, f40, f41, f42, f43, f44, _⟩ := h
  exact q_92v_31 (q0 := q0) (n0 := ρ 5) (n1 := ρ 4) (n2 := ρ 3) (n3 := ρ 2) (n4 := ρ 1) (n5 := ρ 0) (n6 := ρ 6) (n7 := ρ 7) (n8 := ρ 8) (n9 := ρ 9) (n10 := ρ 10) (n11 := ρ 11) (n12 := ρ 12) (n13 := ρ 14) (n14 := ρ 15) (n15 := ρ 16) (n16 := ρ 17) (n17 := ρ 18) (n18 := ρ 19) (H0 := η 0) (H1 := η 1) (H2 := η 2) f44 f43 f42 f41 f40 f39 f38 f37 f36 f35 f34 f33 f32 f31 f30 f29 f28 f27 f26 f25 f24 f23 f22 f21 f20 f19 f18 f17 f16 f15 f14 f13 f12 f11 f10 f9 f8 f7 f6 f5 f4 f3 f2 f1 f0
theorem q_92v_32 {q0 : Nat} {n0 n1 n2 n3 n4 n5 n6 n7 n8 n9 n10 n11 n12 n13 n14 n15 : Int} {H0 H1 : gH} (f0 : n0 ≤ 2147483647) (f1 : (-2147483648) ≤ n0) (f2 : n1 ≤ 2147483647) (f3 : (-2147483648) ≤ n1) (f4 : n2 ≤ 2147483647) (f5 : (-2147483648) ≤ n2) (f6 : n3 ≤ 2147483647) (f7 : (-2147483648) ≤ n3) (f8 : n4 = 30) (f9 : n5 = 30) (f10 : (hLe T0 H0 H1 ∧ hFr s_92v.2.2.2.2 H0 H1 ∧ hWt T0 H1) ∧ (Ab_92v_14 n5 n4 n3 n2 n1 n0 H0 H1 ∧ preb_92v n5 H0) ∧ some q0 = some (mub_92v_14 n5 n4 n3 n2 n1 n0 H0 H1)) (f11 : n6 = 500) (f12 : n0 ≤ n6) (f13 : n7 ≤ 2147483647) (f14 : (-2147483648) ≤ n7) (f15 : n7 = hV H1 (n4).toNat 3) (f16 : n7 = 0) (f17 : n1 ≠ 0) (f18 : n8 ≤ 2147483647) (f19 : (-2147483648) ≤ n8) (f20 : n8 = hV H1 (n4).toNat 2) (f21 : n2 ≠ 0) (f22 : n9 ≤ 2147483647) (f23 : (-2147483648) ≤ n9) (f24 : n9 = hV H1 (n4).toNat 2) (f25 : n10 = 10) (f26 : n9 ≠ n10) (f27 : n2 = 0) (f28 : n11 ≤ 2147483647) (f29 : (-2147483648) ≤ n11) (f30 : n11 = hV H1 (n4).toNat 2) (f31 : n12 = 11) (f32 : n11 ≠ n12) (f33 : n13 ≤ 2147483647) (f34 : (-2147483648) ≤ n13) (f35 : n13 = hV H1 (n4).toNat 2) (f36 : n14 = 6) (f37 : n13 < n14) (f38 : n15 = 0) : Ab_92v_228 n5 n4 n3 n2 n15 n0 n8 H0 H1 ∧ ∀ q, some q0 = some q → mub_92v_228 n5 n4 n3 n2 n15 n0 n8 H0 H1 < q := by
  have pz := f10.2.1.2
  unfold preb_92v at pz
  have ga := f10.2.1.1
  unfold Ab_92v_14 at ga
  have vz : vwC H1 = vwC H0 := vwC_fr f10.1.2.1 (by decide +kernel)
  have gb := ga
  obtain ⟨_, s0_, o0, o7, w01, m01, xn, ya, yb⟩ := gb
  have rf := f15
  rw [f8] at rf
  rw [show ((30 : Int)).toNat = 30 from rfl] at rf
  have kr0 := f20
  rw [f8] at kr0
  rw [show ((30 : Int)).toNat = 30 from rfl] at kr0
  have kr1 := f24
  rw [f8] at kr1
  rw [show ((30 : Int)).toNat = 30 from rfl] at kr1
  have kr2 := f30
  rw [f8] at kr2
  rw [show ((30 : Int)).toNat = 30 from rfl] at kr2
  have kr3 := f35
  rw [f8] at kr3
  rw [show ((30 : Int)).toNat = 30 from rfl] at kr3
  have ap := absC_pos ga.1 (by omega)
  have hv : (vwC H0).1 (absC H1).1 = hV H1 30 2 := by
    have u := (kd_at ga.1).resolve_left (by omega)
    rw [vz] at u
    exact u
  have u := xn (by omega)
  have nw := ga.1.2.2.2.1.2.1
  have y := ya (by omega)
  rw [show (502 - (absC H0).1).toNat - (n0).toNat = ((502 - (absC H0).1).toNat - (n0).toNat - 1) + 1 by omega] at y
  rw [show n2 = 1 by omega, pE_1 hv] at y
  have w3 : hV H1 30 3 = 0 := by omega
  have w1 : hV H1 30 1 = hV H1 30 1 := rfl
  rw [if_neg (by omega)] at y
  have g5 := Option.some.inj f10.2.2
  unfold mub_92v_14 at g5
  unfold Ab_92v_228 mub_92v_228
  refine ⟨⟨ga.1, w3, by omega, by omega, by omega, by omega, by omega, by omega, by omega, fun h6 => ?_, fun h6 h7 => ?_, fun h6 h7 => ?_⟩, fun q hq => ?_⟩
  · exact absurd h6 (by omega)
  · skip
    rw [show n2 = 0 by omega]
    by_cases kk : hV H1 30 2 = 3 ∨ (45 ≤ hV H1 30 2 ∧ hV H1 30 2 ≤ 49)
    · rw [if_pos kk] at y
      rw [show n8 = hV H1 30 2 by omega, show n3 = n3 by omega]
      exact ⟨by omega, y⟩
    · rw [if_neg kk] at y
      have tk := take_kind (c := 3) ga.1 (by omega)
      rw [vz] at tk
      rw [show n8 = 3 by omega, tk, pE_neg (vwC_ok H0) (pfail_lt pz (by decide)) pfail_ok]
      exact ⟨by decide, y⟩
  · exact absurd h7 (by omega)
  · have g6 := Option.some.inj hq
    subst g6
    omega
theorem c_92v_14_31 {q0 : Nat} : vOkm T0 (eP e_92v L_92v A_92v mu_92v (some q0)) 1 ([(0, [15], [], 0), (42, [13, 14], [], 0), (0, [14], [], 6), (20, [13, 1], [1], 2), (90, [13], [], -2147483648), (91, [13], [], 2147483647), (41, [11, 12], [], 0), (0, [12], [], 11), (20, [11, 1], [1], 2), (90, [11], [], -2147483648), (91, [11], [], 2147483647), (30, [3], [], 0), (41, [9, 10], [], 0), (0, [10], [], 10), (20, [9, 1], [1], 2), (90, [9], [], -2147483648), (91, [9], [], 2147483647), (31, [3], [], 0), (20, [8, 1], [1], 2), (90, [8], [], -2147483648), (91, [8], [], 2147483647), (31, [4], [], 0), (30, [7], [], 0), (20, [7, 1], [1], 3), (90, [7], [], -2147483648), (91, [7], [], 2147483647), (45, [5, 6], [], 0), (0, [6], [], 500), (5000, [0, 1, 2, 3, 4, 5], [0, 1], 14), (0, [0], [], 30), (0, [1], [], 30), (90, [2], [], -2147483648), (91, [2], [], 2147483647), (90, [3], [], -2147483648), (91, [3], [], 2147483647), (90, [4], [], -2147483648), (91, [4], [], 2147483647), (90, [5], [], -2147483648), (91, [5], [], 2147483647)], (4000, [1, 2, 3, 15, 5, 8], [1], 228)) := vOk_in fun ρ η h => by
  obtain ⟨f0, f1, f2, f3, f4, f5, f6, f7, f8, f9, f10, f11, f12, f13, f14, f15, f16, f17, f18, f19, f20, f21, f22, f23, f24, f25, f26, f27, f28, f29, f30, f31, f32, f33, f34, f35, f36, f37, f38, _⟩ := h
  exact q_92v_32 (q0 := q0) (n0 := ρ 5) (n1 := ρ 4) (n2 := ρ 3) (n3 := ρ 2) (n4 := ρ 1) (n5 := ρ 0) (n6 := ρ 6) (n7 := ρ 7) (n8 := ρ 8) (n9 := ρ 9) (n10 := ρ 10) (n11 := ρ 11) (n12 := ρ 12) (n13 := ρ 13) (n14 := ρ 14) (n15 := ρ 15) (H0 := η 0) (H1 := η 1) f38 f37 f36 f35 f34 f33 f32 f31 f30 f29 f28 f27 f26 f25 f24 f23 f22 f21 f20 f19 f18 f17 f16 f15 f14 f13 f12 f11 f10 f9 f8 f7 f6 f5 f4 f3 f2 f1 f0
theorem q_92v_33 {q0 : Nat} {n0 n1 n2 n3 n4 n5 n6 n7 n8 n9 n10 n11 n12 n13 n14 n15 n16 n17 : Int} {H0 H1 : gH} (f0 : n0 ≤ 2147483647) (f1 : (-2147483648) ≤ n0) (f2 : n1 ≤ 2147483647) (f3 : (-2147483648) ≤ n1) (f4 : n2 ≤ 2147483647) (f5 : (-2147483648) ≤ n2) (f6 : n3 ≤ 2147483647) (f7 : (-2147483648) ≤ n3) (f8 : n4 = 30) (f9 : n5 = 30) (f10 : (hLe T0 H0 H1 ∧ hFr s_92v.2.2.2.2 H0 H1 ∧ hWt T0 H1) ∧ (Ab_92v_14 n5 n4 n3 n2 n1 n0 H0 H1 ∧ preb_92v n5 H0) ∧ some q0 = some (mub_92v_14 n5 n4 n3 n2 n1 n0 H0 H1)) (f11 : n6 = 500) (f12 : n0 ≤ n6) (f13 : n7 ≤ 2147483647) (f14 : (-2147483648) ≤ n7) (f15 : n7 = hV H1 (n4).toNat 3) (f16 : n7 = 0) (f17 : n1 ≠ 0) (f18 : n8 ≤ 2147483647) (f19 : (-2147483648) ≤ n8) (f20 : n8 = hV H1 (n4).toNat 2) (f21 : n2 ≠ 0) (f22 : n9 ≤ 2147483647) (f23 : (-2147483648) ≤ n9) (f24 : n9 = hV H1 (n4).toNat 2) (f25 : n10 = 10) (f26 : n9 ≠ n10) (f27 : n2 = 0) (f28 : n11 ≤ 2147483647) (f29 : (-2147483648) ≤ n11) (f30 : n11 = hV H1 (n4).toNat 2) (f31 : n12 = 11) (f32 : n11 ≠ n12) (f33 : n13 ≤ 2147483647) (f34 : (-2147483648) ≤ n13) (f35 : n13 = hV H1 (n4).toNat 2) (f36 : n14 = 6) (f37 : n14 ≤ n13) (f38 : n15 ≤ 2147483647) (f39 : (-2147483648) ≤ n15) (f40 : n15 = hV H1 (n4).toNat 2) (f41 : n16 = 9) (f42 : n16 < n15) (f43 : n17 = 0) : Ab_92v_228 n5 n4 n3 n2 n17 n0 n8 H0 H1 ∧ ∀ q, some q0 = some q → mub_92v_228 n5 n4 n3 n2 n17 n0 n8 H0 H1 < q := by
  have pz := f10.2.1.2
  unfold preb_92v at pz
  have ga := f10.2.1.1
  unfold Ab_92v_14 at ga
  have vz : vwC H1 = vwC H0 := vwC_fr f10.1.2.1 (by decide +kernel)
  have gb := ga
  obtain ⟨_, s0_, o0, o7, w01, m01, xn, ya, yb⟩ := gb
  have rf := f15
  rw [f8] at rf
  rw [show ((30 : Int)).toNat = 30 from rfl] at rf
  have kr0 := f20
  rw [f8] at kr0
  rw [show ((30 : Int)).toNat = 30 from rfl] at kr0
  have kr1 := f24
  rw [f8] at kr1
  rw [show ((30 : Int)).toNat = 30 from rfl] at kr1
  have kr2 := f30
  rw [f8] at kr2
  rw [show ((30 : Int)).toNat = 30 from rfl] at kr2
  have kr3 := f35
  rw [f8] at kr3
  rw [show ((30 : Int)).toNat = 30 from rfl] at kr3
  have kr4 := f40
  rw [f8] at kr4
  rw [show ((30 : Int)).toNat = 30 from rfl] at kr4
  have ap := absC_pos ga.1 (by omega)
  have hv : (vwC H0).1 (absC H1).1 = hV H1 30 2 := by
    have u := (kd_at ga.1).resolve_left (by omega)
    rw [vz] at u
    exact u
  have u := xn (by omega)
  have nw := ga.1.2.2.2.1.2.1
  have y := ya (by omega)
  rw [show (502 - (absC H0).1).toNat - (n0).toNat = ((502 - (absC H0).1).toNat - (n0).toNat - 1) + 1 by omega] at y
  rw [show n2 = 1 by omega, pE_1 hv] at y
  have w3 : hV H1 30 3 = 0 := by omega
  have w1 : hV H1 30 1 = hV H1 30 1 := rfl
  rw [if_neg (by omega)] at y
  have g5 := Option.some.inj f10.2.2
  unfold mub_92v_14 at g5
  unfold Ab_92v_228 mub_92v_228
  refine ⟨⟨ga.1, w3, by omega, by omega, by omega, by omega, by omega, by omega, by omega, fun h6 => ?_, fun h6 h7 => ?_, fun h6 h7 => ?_⟩, fun q hq => ?_⟩
  · exact absurd h6 (by omega)
  · skip
    rw [show n2 = 0 by omega]
    by_cases kk : hV H1 30 2 = 3 ∨ (45 ≤ hV H1 30 2 ∧ hV H1 30 2 ≤ 49)
    · rw [if_pos kk] at y
      rw [show n8 = hV H1 30 2 by omega, show n3 = n3 by omega]
      exact ⟨by omega, y⟩
    · rw [if_neg kk] at y
      have tk := take_kind (c := 3) ga.1 (by omega)
      rw [vz] at tk
      rw [show n8 = 3 by omega, tk, pE_neg (vwC_ok H0) (pfail_lt pz (by decide)) pfail_ok]
      exact ⟨by decide, y⟩
  · exact absurd h7 (by omega)
  · have g6 := Option.some.inj hq
    subst g6
    omega
theorem c_92v_14_32 {q0 : Nat} : vOkm T0 (eP e_92v L_92v A_92v mu_92v (some q0)) 1 ([(0, [17], [], 0), (44, [15, 16], [], 0), (0, [16], [], 9), (20, [15, 1], [1], 2), (90, [15], [], -2147483648), (91, [15], [], 2147483647), (43, [13, 14], [], 0), (0, [14], [], 6), (20, [13, 1], [1], 2), (90, [13], [], -2147483648), (91, [13], [], 2147483647), (41, [11, 12], [], 0), (0, [12], [], 11), (20, [11, 1], [1], 2), (90, [11], [], -2147483648), (91, [11], [], 2147483647), (30, [3], [], 0), (41, [9, 10], [], 0), (0, [10], [], 10), (20, [9, 1], [1], 2), (90, [9], [], -2147483648), (91, [9], [], 2147483647), (31, [3], [], 0), (20, [8, 1], [1], 2), (90, [8], [], -2147483648), (91, [8], [], 2147483647), (31, [4], [], 0), (30, [7], [], 0), (20, [7, 1], [1], 3), (90, [7], [], -2147483648), (91, [7], [], 2147483647), (45, [5, 6], [], 0), (0, [6], [], 500), (5000, [0, 1, 2, 3, 4, 5], [0, 1], 14), (0, [0], [], 30), (0, [1], [], 30), (90, [2], [], -2147483648), (91, [2], [], 2147483647), (90, [3], [], -2147483648), (91, [3], [], 2147483647), (90, [4], [], -2147483648), (91, [4], [], 2147483647), (90, [5], [], -2147483648), (91, [5], [], 2147483647)], (4000, [1, 2, 3, 17, 5, 8], [1], 228)) := vOk_in fun ρ η h => by
  obtain ⟨f0, f1, f2, f3, f4, f5, f6, f7, f8, f9, f10, f11, f12, f13, f14, f15, f16, f17, f18, f19, f20, f21, f22, f23, f24, f25, f26, f27, f28, f29, f30, f31, f32, f33, f34, f35, f36, f37, f38, f39, f40, f41, f42, f43, _⟩ := h
  exact q_92v_33 (q0 := q0) (n0 := ρ 5) (n1 := ρ 4) (n2 := ρ 3) (n3 := ρ 2) (n4 := ρ 1) (n5 := ρ 0) (n6 := ρ 6) (n7 := ρ 7) (n8 := ρ 8) (n9 := ρ 9) (n10 := ρ 10) (n11 := ρ 11) (n12 := ρ 12) (n13 := ρ 13) (n14 := ρ 14) (n15 := ρ 15) (n16 := ρ 16) (n17 := ρ 17) (H0 := η 0) (H1 := η 1) f43 f42 f41 f40 f39 f38 f37 f36 f35 f34 f33 f32 f31 f30 f29 f28 f27 f26 f25 f24 f23 f22 f21 f20 f19 f18 f17 f16 f15 f14 f13 f12 f11 f10 f9 f8 f7 f6 f5 f4 f3 f2 f1 f0
theorem q_92v_34 {q0 : Nat} {n0 n1 n2 n3 n4 n5 n6 n7 n8 n9 n10 n11 n12 n13 n14 n15 n16 n17 n18 n19 n20 : Int} {H0 H1 H2 H3 H4 : gH} (f0 : n0 ≤ 2147483647) (f1 : (-2147483648) ≤ n0) (f2 : n1 ≤ 2147483647) (f3 : (-2147483648) ≤ n1) (f4 : n2 ≤ 2147483647) (f5 : (-2147483648) ≤ n2) (f6 : n3 ≤ 2147483647) (f7 : (-2147483648) ≤ n3) (f8 : n4 = 30) (f9 : n5 = 30) (f10 : (hLe T0 H0 H1 ∧ hFr s_92v.2.2.2.2 H0 H1 ∧ hWt T0 H1) ∧ (Ab_92v_14 n5 n4 n3 n2 n1 n0 H0 H1 ∧ preb_92v n5 H0) ∧ some q0 = some (mub_92v_14 n5 n4 n3 n2 n1 n0 H0 H1)) (f11 : n6 = 500) (f12 : n0 ≤ n6) (f13 : n7 ≤ 2147483647) (f14 : (-2147483648) ≤ n7) (f15 : n7 = hV H1 (n4).toNat 3) (f16 : n7 = 0) (f17 : n1 ≠ 0) (f18 : n8 ≤ 2147483647) (f19 : (-2147483648) ≤ n8) (f20 : n8 = hV H1 (n4).toNat 2) (f21 : n2 ≠ 0) (f22 : n9 ≤ 2147483647) (f23 : (-2147483648) ≤ n9) (f24 : n9 = hV H1 (n4).toNat 2) (f25 : n10 = 10) (f26 : n9 ≠ n10) (f27 : n2 = 0) (f28 : n11 ≤ 2147483647) (f29 : (-2147483648) ≤ n11) (f30 : n11 = hV H1 (n4).toNat 2) (f31 : n12 = 11) (f32 : n11 ≠ n12) (f33 : n13 ≤ 2147483647) (f34 : (-2147483648) ≤ n13) (f35 : n13 = hV H1 (n4).toNat 2) (f36 : n14 = 6) (f37 : n14 ≤ n13) (f38 : n15 ≤ 2147483647) (f39 : (-2147483648) ≤ n15) (f40 : n15 = hV H1 (n4).toNat 2) (f41 : n16 = 9) (f42 : n15 ≤ n16) (f43 : n17 ≤ 2147483647) (f44 : (-2147483648) ≤ n17) (f45 : n17 = hV H1 (n4).toNat 2) (f46 : n18 ≤ 2147483647) (f47 : (-2147483648) ≤ n18) (f48 : (hLe T0 H1 H2 ∧ hFr s_93.2.2.2.2 H1 H2 ∧ ((0 : Int) = 0 → H2.length = H1.length) ∧ hWt T0 H2) ∧ True) (f49 : (hLe T0 H2 H3 ∧ hFr s_95.2.2.2.2 H2 H3 ∧ ((0 : Int) = 0 → H3.length = H2.length) ∧ hWt T0 H3) ∧ True) (f50 : n19 ≤ 2147483647) (f51 : (-2147483648) ≤ n19) (f52 : n19 = hV H3 (n4).toNat 2) (f53 : (hLe T0 H3 H4 ∧ hFr s_94.2.2.2.2 H3 H4 ∧ ((0 : Int) = 0 → H4.length = H3.length) ∧ hWt T0 H4) ∧ True) (f54 : n20 = 1) : Ab_92v_228 n5 n4 n3 n20 n1 n0 n8 H0 H4 ∧ ∀ q, some q0 = some q → mub_92v_228 n5 n4 n3 n20 n1 n0 n8 H0 H4 < q := by
  have pz := f10.2.1.2
  unfold preb_92v at pz
  have ga := f10.2.1.1
  unfold Ab_92v_14 at ga
  have vz : vwC H1 = vwC H0 := vwC_fr f10.1.2.1 (by decide +kernel)
  have s0 := PF_fr f48.1.1 f48.1.2.1 (by decide +kernel) ga.1
  have a0 : absC H2 = (absC H1) := s0.1
  have v0 : vwC H2 = vwC H0 := s0.2.1.trans vz
  have s1 := PF_fr f49.1.1 f49.1.2.1 (by decide +kernel) s0.2.2
  have a1 : absC H3 = (absC H1) := s1.1.trans a0
  have v1 : vwC H3 = vwC H0 := s1.2.1.trans v0
  have s2 := PF_fr f53.1.1 f53.1.2.1 (by decide +kernel) s1.2.2
  have a2 : absC H4 = (absC H1) := s2.1.trans a1
  have v2 : vwC H4 = vwC H0 := s2.2.1.trans v1
  have gb := ga
  obtain ⟨_, s0_, o0, o7, w01, m01, xn, ya, yb⟩ := gb
  have rf := f15
  rw [f8] at rf
  rw [show ((30 : Int)).toNat = 30 from rfl] at rf
  have kr0 := f20
  rw [f8] at kr0
  rw [show ((30 : Int)).toNat = 30 from rfl] at kr0
  have kr1 := f24
  rw [f8] at kr1
  rw [show ((30 : Int)).toNat = 30 from rfl] at kr1
  have kr2 := f30
  rw [f8] at kr2
  rw [show ((30 : Int)).toNat = 30 from rfl] at kr2
  have kr3 := f35
  rw [f8] at kr3
  rw [show ((30 : Int)).toNat = 30 from rfl] at kr3
  have kr4 := f40
  rw [f8] at kr4
  rw [show ((30 : Int)).toNat = 30 from rfl] at kr4
  have kr5 := f45
  rw [f8] at kr5
  rw [show ((30 : Int)).toNat = 30 from rfl] at kr5
  have kr6 := f52
  rw [f8] at kr6
  rw [show ((30 : Int)).toNat = 30 from rfl] at kr6
  rw [show hV H3 30 2 = hV H1 30 2 from (f49.1.2.1.1 30 2 (by decide +kernel)).trans (f48.1.2.1.1 30 2 (by decide +kernel))] at kr6
  have ap := absC_pos ga.1 (by omega)
  have hv : (vwC H0).1 (absC H1).1 = hV H1 30 2 := by
    have u := (kd_at ga.1).resolve_left (by omega)
    rw [vz] at u
    exact u
  have u := xn (by omega)
  have nw := ga.1.2.2.2.1.2.1
  have y := ya (by omega)
  rw [show (502 - (absC H0).1).toNat - (n0).toNat = ((502 - (absC H0).1).toNat - (n0).toNat - 1) + 1 by omega] at y
  rw [show n2 = 1 by omega, pE_1 hv] at y
  have w3 : hV H4 30 3 = 0 := ((f53.1.2.1.1 30 3 (by decide +kernel)).trans ((f49.1.2.1.1 30 3 (by decide +kernel)).trans (f48.1.2.1.1 30 3 (by decide +kernel)))).trans (by omega)
  have w1 : hV H4 30 1 = hV H1 30 1 := (f53.1.2.1.1 30 1 (by decide +kernel)).trans ((f49.1.2.1.1 30 1 (by decide +kernel)).trans (f48.1.2.1.1 30 1 (by decide +kernel)))
  rw [if_pos (by omega)] at y
  have g5 := Option.some.inj f10.2.2
  unfold mub_92v_14 at g5
  unfold Ab_92v_228 mub_92v_228
  refine ⟨⟨s2.2.2, w3, by omega, by omega, by omega, by omega, by omega, by omega, by omega, fun h6 => ?_, fun h6 h7 => ?_, fun h6 h7 => ?_⟩, fun q hq => ?_⟩
  · rw [if_pos (by omega)] at y
    rw [a2]
    exact y
  · rw [if_neg (by omega)] at y
    rw [a2]
    rw [show n8 = 10 by omega, show n20 = 1 by omega, show n3 = n3 + 1 by omega]
    exact ⟨by decide, y⟩
  · exact absurd h7 (by omega)
  · have g6 := Option.some.inj hq
    subst g6
    omega
theorem c_92v_14_33 {q0 : Nat} : vOkm T0 (eP e_92v L_92v A_92v mu_92v (some q0)) 1 ([(0, [20], [], 1), (1094, [1, 19], [3, 4], 0), (20, [19, 1], [3], 2), (90, [19], [], -2147483648), (91, [19], [], 2147483647), (1095, [1, 18], [2, 3], 0), (1093, [18, 17], [1, 2], 0), (90, [18], [], -2147483648), (91, [18], [], 2147483647), (20, [17, 1], [1], 2), (90, [17], [], -2147483648), (91, [17], [], 2147483647), (45, [15, 16], [], 0), (0, [16], [], 9), (20, [15, 1], [1], 2), (90, [15], [], -2147483648), (91, [15], [], 2147483647), (43, [13, 14], [], 0), (0, [14], [], 6), (20, [13, 1], [1], 2), (90, [13], [], -2147483648), (91, [13], [], 2147483647), (41, [11, 12], [], 0), (0, [12], [], 11), (20, [11, 1], [1], 2), (90, [11], [], -2147483648), (91, [11], [], 2147483647), (30, [3], [], 0), (41, [9, 10], [], 0), (0, [10], [], 10), (20, [9, 1], [1], 2), (90, [9], [], -2147483648), (91, [9], [], 2147483647), (31, [3], [], 0), (20, [8, 1], [1], 2), (90, [8], [], -2147483648), (91, [8], [], 2147483647), (31, [4], [], 0), (30, [7], [], 0), (20, [7, 1], [1], 3), (90, [7], [], -2147483648), (91, [7], [], 2147483647), (45, [5, 6], [], 0), (0, [6], [], 500), (5000, [0, 1, 2, 3, 4, 5], [0, 1], 14), (0, [0], [], 30), (0, [1], [], 30), (90, [2], [], -2147483648), (91, [2], [], 2147483647), (90, [3], [], -2147483648), (91, [3], [], 2147483647), (90, [4], [], -2147483648), (91, [4], [], 2147483647), (90, [5], [], -2147483648), (91, [5], [], 2147483647)], (4000, [1, 2, 20, 4, 5, 8], [4], 228)) := vOk_in fun ρ η h => by
  obtain ⟨f0, f1, f2, f3, f4, f5, f6, f7, f8, f9, f10, f11, f12, f13, f14, f15, f16, f17, f18, f19, f20, f21, f22, f23, f24, f25, f26, f27, f28, f29, f30, f31, f32, f33, f34, f35, f36, f37, f38, f39, f40, f41, f42, f43, f44, f45, f46, f47, f48, f49, f50, f51, f52, f53, f54, _⟩ := h
  exact q_92v_34 (q0 := q0) (n0 := ρ 5) (n1 := ρ 4) (n2 := ρ 3) (n3 := ρ 2) (n4 := ρ 1) (n5 := ρ 0) (n6 := ρ 6) (n7 := ρ 7) (n8 := ρ 8) (n9 := ρ 9) (n10 := ρ 10) (n11 := ρ 11) (n12 := ρ 12) (n13 := ρ 13) (n14 := ρ 14) (n15 := ρ 15) (n16 := ρ 16) (n17 := ρ 17) (n18 := ρ 18) (n19 := ρ 19) (n20 := ρ 20) (H0 := η 0) (H1 := η 1) (H2 := η 2) (H3 := η 3) (H4 := η 4) f54 f53 f52 f51 f50 f49 f48 f47 f46 f45 f44 f43 f42 f41 f40 f39 f38 f37 f36 f35 f34 f33 f32 f31 f30 f29 f28 f27 f26 f25 f24 f23 f22 f21 f20 f19 f18 f17 f16 f15 f14 f13 f12 f11 f10 f9 f8 f7 f6 f5 f4 f3 f2 f1 f0
theorem q_92v_35 {q0 : Nat} {n0 n1 n2 n3 n4 n5 n6 n7 n8 n9 n10 n11 n12 n13 n14 n15 : Int} {H0 H1 : gH} (f0 : n0 ≤ 2147483647) (f1 : (-2147483648) ≤ n0) (f2 : n1 ≤ 2147483647) (f3 : (-2147483648) ≤ n1) (f4 : n2 ≤ 2147483647) (f5 : (-2147483648) ≤ n2) (f6 : n3 ≤ 2147483647) (f7 : (-2147483648) ≤ n3) (f8 : n4 = 30) (f9 : n5 = 30) (f10 : (hLe T0 H0 H1 ∧ hFr s_92v.2.2.2.2 H0 H1 ∧ hWt T0 H1) ∧ (Ab_92v_14 n5 n4 n3 n2 n1 n0 H0 H1 ∧ preb_92v n5 H0) ∧ some q0 = some (mub_92v_14 n5 n4 n3 n2 n1 n0 H0 H1)) (f11 : n6 = 500) (f12 : n0 ≤ n6) (f13 : n7 ≤ 2147483647) (f14 : (-2147483648) ≤ n7) (f15 : n7 = hV H1 (n4).toNat 3) (f16 : n7 = 0) (f17 : n1 ≠ 0) (f18 : n8 ≤ 2147483647) (f19 : (-2147483648) ≤ n8) (f20 : n8 = hV H1 (n4).toNat 2) (f21 : n2 ≠ 0) (f22 : n9 ≤ 2147483647) (f23 : (-2147483648) ≤ n9) (f24 : n9 = hV H1 (n4).toNat 2) (f25 : n10 = 10) (f26 : n9 ≠ n10) (f27 : n2 = 0) (f28 : n11 ≤ 2147483647) (f29 : (-2147483648) ≤ n11) (f30 : n11 = hV H1 (n4).toNat 2) (f31 : n12 = 11) (f32 : n11 = n12) (f33 : n3 ≤ 0) (f34 : n13 ≤ 2147483647) (f35 : (-2147483648) ≤ n13) (f36 : n13 = hV H1 (n4).toNat 2) (f37 : n14 = 6) (f38 : n13 < n14) (f39 : n15 = 0) : Ab_92v_228 n5 n4 n3 n2 n15 n0 n8 H0 H1 ∧ ∀ q, some q0 = some q → mub_92v_228 n5 n4 n3 n2 n15 n0 n8 H0 H1 < q := by
  have pz := f10.2.1.2
  unfold preb_92v at pz
  have ga := f10.2.1.1
  unfold Ab_92v_14 at ga
  have vz : vwC H1 = vwC H0 := vwC_fr f10.1.2.1 (by decide +kernel)
  have gb := ga
  obtain ⟨_, s0_, o0, o7, w01, m01, xn, ya, yb⟩ := gb
  have rf := f15
  rw [f8] at rf
  rw [show ((30 : Int)).toNat = 30 from rfl] at rf
  have kr0 := f20
  rw [f8] at kr0
  rw [show ((30 : Int)).toNat = 30 from rfl] at kr0
  have kr1 := f24
  rw [f8] at kr1
  rw [show ((30 : Int)).toNat = 30 from rfl] at kr1
  have kr2 := f30
  rw [f8] at kr2
  rw [show ((30 : Int)).toNat = 30 from rfl] at kr2
  have kr3 := f36
  rw [f8] at kr3
  rw [show ((30 : Int)).toNat = 30 from rfl] at kr3
  have ap := absC_pos ga.1 (by omega)
  have hv : (vwC H0).1 (absC H1).1 = hV H1 30 2 := by
    have u := (kd_at ga.1).resolve_left (by omega)
    rw [vz] at u
    exact u
  have u := xn (by omega)
  have nw := ga.1.2.2.2.1.2.1
  have y := ya (by omega)
  rw [show (502 - (absC H0).1).toNat - (n0).toNat = ((502 - (absC H0).1).toNat - (n0).toNat - 1) + 1 by omega] at y
  rw [show n2 = 1 by omega, pE_1 hv] at y
  have w3 : hV H1 30 3 = 0 := by omega
  have w1 : hV H1 30 1 = hV H1 30 1 := rfl
  rw [if_neg (by omega)] at y
  have g5 := Option.some.inj f10.2.2
  unfold mub_92v_14 at g5
  unfold Ab_92v_228 mub_92v_228
  refine ⟨⟨ga.1, w3, by omega, by omega, by omega, by omega, by omega, by omega, by omega, fun h6 => ?_, fun h6 h7 => ?_, fun h6 h7 => ?_⟩, fun q hq => ?_⟩
  · exact absurd h6 (by omega)
  · skip
    rw [show n2 = 0 by omega]
    by_cases kk : hV H1 30 2 = 3 ∨ (45 ≤ hV H1 30 2 ∧ hV H1 30 2 ≤ 49)
    · rw [if_pos kk] at y
      rw [show n8 = hV H1 30 2 by omega, show n3 = n3 by omega]
      exact ⟨by omega, y⟩
    · rw [if_neg kk] at y
      have tk := take_kind (c := 3) ga.1 (by omega)
      rw [vz] at tk
      rw [show n8 = 3 by omega, tk, pE_neg (vwC_ok H0) (pfail_lt pz (by decide)) pfail_ok]
      exact ⟨by decide, y⟩
  · exact absurd h7 (by omega)
  · have g6 := Option.some.inj hq
    subst g6
    omega
theorem c_92v_14_34 {q0 : Nat} : vOkm T0 (eP e_92v L_92v A_92v mu_92v (some q0)) 1 ([(0, [15], [], 0), (42, [13, 14], [], 0), (0, [14], [], 6), (20, [13, 1], [1], 2), (90, [13], [], -2147483648), (91, [13], [], 2147483647), (35, [2], [], 0), (40, [11, 12], [], 0), (0, [12], [], 11), (20, [11, 1], [1], 2), (90, [11], [], -2147483648), (91, [11], [], 2147483647), (30, [3], [], 0), (41, [9, 10], [], 0), (0, [10], [], 10), (20, [9, 1], [1], 2), (90, [9], [], -2147483648), (91, [9], [], 2147483647), (31, [3], [], 0), (20, [8, 1], [1], 2), (90, [8], [], -2147483648), (91, [8], [], 2147483647), (31, [4], [], 0), (30, [7], [], 0), (20, [7, 1], [1], 3), (90, [7], [], -2147483648), (91, [7], [], 2147483647), (45, [5, 6], [], 0), (0, [6], [], 500), (5000, [0, 1, 2, 3, 4, 5], [0, 1], 14), (0, [0], [], 30), (0, [1], [], 30), (90, [2], [], -2147483648), (91, [2], [], 2147483647), (90, [3], [], -2147483648), (91, [3], [], 2147483647), (90, [4], [], -2147483648), (91, [4], [], 2147483647), (90, [5], [], -2147483648), (91, [5], [], 2147483647)], (4000, [1, 2, 3, 15, 5, 8], [1], 228)) := vOk_in fun ρ η h => by
  obtain ⟨f0, f1, f2, f3, f4, f5, f6, f7, f8, f9, f10, f11, f12, f13, f14, f15, f16, f17, f18, f19, f20, f21, f22, f23, f24, f25, f26, f27, f28, f29, f30, f31, f32, f33, f34, f35, f36, f37, f38, f39, _⟩ := h
  exact q_92v_35 (q0 := q0) (n0 := ρ 5) (n1 := ρ 4) (n2 := ρ 3) (n3 := ρ 2) (n4 := ρ 1) (n5 := ρ 0) (n6 := ρ 6) (n7 := ρ 7) (n8 := ρ 8) (n9 := ρ 9) (n10 := ρ 10) (n11 := ρ 11) (n12 := ρ 12) (n13 := ρ 13) (n14 := ρ 14) (n15 := ρ 15) (H0 := η 0) (H1 := η 1) f39 f38 f37 f36 f35 f34 f33 f32 f31 f30 f29 f28 f27 f26 f25 f24 f23 f22 f21 f20 f19 f18 f17 f16 f15 f14 f13 f12 f11 f10 f9 f8 f7 f6 f5 f4 f3 f2 f1 f0
theorem q_92v_36 {q0 : Nat} {n0 n1 n2 n3 n4 n5 n6 n7 n8 n9 n10 n11 n12 n13 n14 n15 n16 n17 : Int} {H0 H1 : gH} (f0 : n0 ≤ 2147483647) (f1 : (-2147483648) ≤ n0) (f2 : n1 ≤ 2147483647) (f3 : (-2147483648) ≤ n1) (f4 : n2 ≤ 2147483647) (f5 : (-2147483648) ≤ n2) (f6 : n3 ≤ 2147483647) (f7 : (-2147483648) ≤ n3) (f8 : n4 = 30) (f9 : n5 = 30) (f10 : (hLe T0 H0 H1 ∧ hFr s_92v.2.2.2.2 H0 H1 ∧ hWt T0 H1) ∧ (Ab_92v_14 n5 n4 n3 n2 n1 n0 H0 H1 ∧ preb_92v n5 H0) ∧ some q0 = some (mub_92v_14 n5 n4 n3 n2 n1 n0 H0 H1)) (f11 : n6 = 500) (f12 : n0 ≤ n6) (f13 : n7 ≤ 2147483647) (f14 : (-2147483648) ≤ n7) (f15 : n7 = hV H1 (n4).toNat 3) (f16 : n7 = 0) (f17 : n1 ≠ 0) (f18 : n8 ≤ 2147483647) (f19 : (-2147483648) ≤ n8) (f20 : n8 = hV H1 (n4).toNat 2) (f21 : n2 ≠ 0) (f22 : n9 ≤ 2147483647) (f23 : (-2147483648) ≤ n9) (f24 : n9 = hV H1 (n4).toNat 2) (f25 : n10 = 10) (f26 : n9 ≠ n10) (f27 : n2 = 0) (f28 : n11 ≤ 2147483647) (f29 : (-2147483648) ≤ n11) (f30 : n11 = hV H1 (n4).toNat 2) (f31 : n12 = 11) (f32 : n11 = n12) (f33 : n3 ≤ 0) (f34 : n13 ≤ 2147483647) (f35 : (-2147483648) ≤ n13) (f36 : n13 = hV H1 (n4).toNat 2) (f37 : n14 = 6) (f38 : n14 ≤ n13) (f39 : n15 ≤ 2147483647) (f40 : (-2147483648) ≤ n15) (f41 : n15 = hV H1 (n4).toNat 2) (f42 : n16 = 9) (f43 : n16 < n15) (f44 : n17 = 0) : Ab_92v_228 n5 n4 n3 n2 n17 n0 n8 H0 H1 ∧ ∀ q, some q0 = some q → mub_92v_228 n5 n4 n3 n2 n17 n0 n8 H0 H1 < q := by
  have pz := f10.2.1.2
  unfold preb_92v at pz
  have ga := f10.2.1.1
  unfold Ab_92v_14 at ga
  have vz : vwC H1 = vwC H0 := vwC_fr f10.1.2.1 (by decide +kernel)
  have gb := ga
  obtain ⟨_, s0_, o0, o7, w01, m01, xn, ya, yb⟩ := gb
  have rf := f15
  rw [f8] at rf
  rw [show ((30 : Int)).toNat = 30 from rfl] at rf
  have kr0 := f20
  rw [f8] at kr0
  rw [show ((30 : Int)).toNat = 30 from rfl] at kr0
  have kr1 := f24
  rw [f8] at kr1
  rw [show ((30 : Int)).toNat = 30 from rfl] at kr1
  have kr2 := f30
  rw [f8] at kr2
  rw [show ((30 : Int)).toNat = 30 from rfl] at kr2
  have kr3 := f36
  rw [f8] at kr3
  rw [show ((30 : Int)).toNat = 30 from rfl] at kr3
  have kr4 := f41
  rw [f8] at kr4
  rw [show ((30 : Int)).toNat = 30 from rfl] at kr4
  have ap := absC_pos ga.1 (by omega)
  have hv : (vwC H0).1 (absC H1).1 = hV H1 30 2 := by
    have u := (kd_at ga.1).resolve_left (by omega)
    rw [vz] at u
    exact u
  have u := xn (by omega)
  have nw := ga.1.2.2.2.1.2.1
  have y := ya (by omega)
  rw [show (502 - (absC H0).1).toNat - (n0).toNat = ((502 - (absC H0).1).toNat - (n0).toNat - 1) + 1 by omega] at y
  rw [show n2 = 1 by omega, pE_1 hv] at y
  have w3 : hV H1 30 3 = 0 := by omega
  have w1 : hV H1 30 1 = hV H1 30 1 := rfl
  rw [if_neg (by omega)] at y
  have g5 := Option.some.inj f10.2.2
  unfold mub_92v_14 at g5
  unfold Ab_92v_228 mub_92v_228
  refine ⟨⟨ga.1, w3, by omega, by omega, by omega, by omega, by omega, by omega, by omega, fun h6 => ?_, fun h6 h7 => ?_, fun h6 h7 => ?_⟩, fun q hq => ?_⟩
  · exact absurd h6 (by omega)
  · skip
    rw [show n2 = 0 by omega]
    by_cases kk : hV H1 30 2 = 3 ∨ (45 ≤ hV H1 30 2 ∧ hV H1 30 2 ≤ 49)
    · rw [if_pos kk] at y
      rw [show n8 = hV H1 30 2 by omega, show n3 = n3 by omega]
      exact ⟨by omega, y⟩
    · rw [if_neg kk] at y
      have tk := take_kind (c := 3) ga.1 (by omega)
      rw [vz] at tk
      rw [show n8 = 3 by omega, tk, pE_neg (vwC_ok H0) (pfail_lt pz (by decide)) pfail_ok]
      exact ⟨by decide, y⟩
  · exact absurd h7 (by omega)
  · have g6 := Option.some.inj hq
    subst g6
    omega
theorem c_92v_14_35 {q0 : Nat} : vOkm T0 (eP e_92v L_92v A_92v mu_92v (some q0)) 1 ([(0, [17], [], 0), (44, [15, 16], [], 0), (0, [16], [], 9), (20, [15, 1], [1], 2), (90, [15], [], -2147483648), (91, [15], [], 2147483647), (43, [13, 14], [], 0), (0, [14], [], 6), (20, [13, 1], [1], 2), (90, [13], [], -2147483648), (91, [13], [], 2147483647), (35, [2], [], 0), (40, [11, 12], [], 0), (0, [12], [], 11), (20, [11, 1], [1], 2), (90, [11], [], -2147483648), (91, [11], [], 2147483647), (30, [3], [], 0), (41, [9, 10], [], 0), (0, [10], [], 10), (20, [9, 1], [1], 2), (90, [9], [], -2147483648), (91, [9], [], 2147483647), (31, [3], [], 0), (20, [8, 1], [1], 2), (90, [8], [], -2147483648), (91, [8], [], 2147483647), (31, [4], [], 0), (30, [7], [], 0), (20, [7, 1], [1], 3), (90, [7], [], -2147483648), (91, [7], [], 2147483647), (45, [5, 6], [], 0), (0, [6], [], 500), (5000, [0, 1, 2, 3, 4, 5], [0, 1], 14), (0, [0], [], 30), (0, [1], [], 30), (90, [2], [], -2147483648), (91, [2], [], 2147483647), (90, [3], [], -2147483648), (91, [3], [], 2147483647), (90, [4], [], -2147483648), (91, [4], [], 2147483647), (90, [5], [], -2147483648), (91, [5], [], 2147483647)], (4000, [1, 2, 3, 17, 5, 8], [1], 228)) := vOk_in fun ρ η h => by
  obtain ⟨f0, f1, f2, f3, f4, f5, f6, f7, f8, f9, f10, f11, f12, f13, f14, f15, f16, f17, f18, f19, f20, f21, f22, f23, f24, f25, f26, f27, f28, f29, f30, f31, f32, f33, f34, f35, f36, f37, f38, f39, f40, f41, f42, f43, f44, _⟩ := h
  exact q_92v_36 (q0 := q0) (n0 := ρ 5) (n1 := ρ 4) (n2 := ρ 3) (n3 := ρ 2) (n4 := ρ 1) (n5 := ρ 0) (n6 := ρ 6) (n7 := ρ 7) (n8 := ρ 8) (n9 := ρ 9) (n10 := ρ 10) (n11 := ρ 11) (n12 := ρ 12) (n13 := ρ 13) (n14 := ρ 14) (n15 := ρ 15) (n16 := ρ 16) (n17 := ρ 17) (H0 := η 0) (H1 := η 1) f44 f43 f42 f41 f40 f39 f38 f37 f36 f35 f34 f33 f32 f31 f30 f29 f28 f27 f26 f25 f24 f23 f22 f21 f20 f19 f18 f17 f16 f15 f14 f13 f12 f11 f10 f9 f8 f7 f6 f5 f4 f3 f2 f1 f0
theorem q_92v_37 {q0 : Nat} {n0 n1 n2 n3 n4 n5 n6 n7 n8 n9 n10 n11 n12 n13 n14 n15 n16 n17 n18 n19 n20 : Int} {H0 H1 H2 H3 H4 : gH} (f0 : n0 ≤ 2147483647) (f1 : (-2147483648) ≤ n0) (f2 : n1 ≤ 2147483647) (f3 : (-2147483648) ≤ n1) (f4 : n2 ≤ 2147483647) (f5 : (-2147483648) ≤ n2) (f6 : n3 ≤ 2147483647) (f7 : (-2147483648) ≤ n3) (f8 : n4 = 30) (f9 : n5 = 30) (f10 : (hLe T0 H0 H1 ∧ hFr s_92v.2.2.2.2 H0 H1 ∧ hWt T0 H1) ∧ (Ab_92v_14 n5 n4 n3 n2 n1 n0 H0 H1 ∧ preb_92v n5 H0) ∧ some q0 = some (mub_92v_14 n5 n4 n3 n2 n1 n0 H0 H1)) (f11 : n6 = 500) (f12 : n0 ≤ n6) (f13 : n7 ≤ 2147483647) (f14 : (-2147483648) ≤ n7) (f15 : n7 = hV H1 (n4).toNat 3) (f16 : n7 = 0) (f17 : n1 ≠ 0) (f18 : n8 ≤ 2147483647) (f19 : (-2147483648) ≤ n8) (f20 : n8 = hV H1 (n4).toNat 2) (f21 : n2 ≠ 0) (f22 : n9 ≤ 2147483647) (f23 : (-2147483648) ≤ n9) (f24 : n9 = hV H1 (n4).toNat 2) (f25 : n10 = 10) (f26 : n9 ≠ n10) (f27 : n2 = 0) (f28 : n11 ≤ 2147483647) (f29 : (-2147483648) ≤ n11) (f30 : n11 = hV H1 (n4).toNat 2) (f31 : n12 = 11) (f32 : n11 = n12) (f33 : n3 ≤ 0) (f34 : n13 ≤ 2147483647) (f35 : (-2147483648) ≤ n13) (f36 : n13 = hV H1 (n4).toNat 2) (f37 : n14 = 6) (f38 : n14 ≤ n13) (f39 : n15 ≤ 2147483647) (f40 : (-2147483648) ≤ n15) (f41 : n15 = hV H1 (n4).toNat 2) (f42 : n16 = 9) (f43 : n15 ≤ n16) (f44 : n17 ≤ 2147483647) (f45 : (-2147483648) ≤ n17) (f46 : n17 = hV H1 (n4).toNat 2) (f47 : n18 ≤ 2147483647) (f48 : (-2147483648) ≤ n18) (f49 : (hLe T0 H1 H2 ∧ hFr s_93.2.2.2.2 H1 H2 ∧ ((0 : Int) = 0 → H2.length = H1.length) ∧ hWt T0 H2) ∧ True) (f50 : (hLe T0 H2 H3 ∧ hFr s_95.2.2.2.2 H2 H3 ∧ ((0 : Int) = 0 → H3.length = H2.length) ∧ hWt T0 H3) ∧ True) (f51 : n19 ≤ 2147483647) (f52 : (-2147483648) ≤ n19) (f53 : n19 = hV H3 (n4).toNat 2) (f54 : (hLe T0 H3 H4 ∧ hFr s_94.2.2.2.2 H3 H4 ∧ ((0 : Int) = 0 → H4.length = H3.length) ∧ hWt T0 H4) ∧ True) (f55 : n20 = 1) : Ab_92v_228 n5 n4 n3 n20 n1 n0 n8 H0 H4 ∧ ∀ q, some q0 = some q → mub_92v_228 n5 n4 n3 n20 n1 n0 n8 H0 H4 < q := by
  have pz := f10.2.1.2
  unfold preb_92v at pz
  have ga := f10.2.1.1
  unfold Ab_92v_14 at ga
  have vz : vwC H1 = vwC H0 := vwC_fr f10.1.2.1 (by decide +kernel)
  have s0 := PF_fr f49.1.1 f49.1.2.1 (by decide +kernel) ga.1
  have a0 : absC H2 = (absC H1) := s0.1
  have v0 : vwC H2 = vwC H0 := s0.2.1.trans vz
  have s1 := PF_fr f50.1.1 f50.1.2.1 (by decide +kernel) s0.2.2
  have a1 : absC H3 = (absC H1) := s1.1.trans a0
  have v1 : vwC H3 = vwC H0 := s1.2.1.trans v0
  have s2 := PF_fr f54.1.1 f54.1.2.1 (by decide +kernel) s1.2.2
  have a2 : absC H4 = (absC H1) := s2.1.trans a1
  have v2 : vwC H4 = vwC H0 := s2.2.1.trans v1
  have gb := ga
  obtain ⟨_, s0_, o0, o7, w01, m01, xn, ya, yb⟩ := gb
  have rf := f15
  rw [f8] at rf
  rw [show ((30 : Int)).toNat = 30 from rfl] at rf
  have kr0 := f20
  rw [f8] at kr0
  rw [show ((30 : Int)).toNat = 30 from rfl] at kr0
  have kr1 := f24
  rw [f8] at kr1
  rw [show ((30 : Int)).toNat = 30 from rfl] at kr1
  have kr2 := f30
  rw [f8] at kr2
  rw [show ((30 : Int)).toNat = 30 from rfl] at kr2
  have kr3 := f36
  rw [f8] at kr3
  rw [show ((30 : Int)).toNat = 30 from rfl] at kr3
  have kr4 := f41
  rw [f8] at kr4
  rw [show ((30 : Int)).toNat = 30 from rfl] at kr4
  have kr5 := f46
  rw [f8] at kr5
  rw [show ((30 : Int)).toNat = 30 from rfl] at kr5
  have kr6 := f53
  rw [f8] at kr6
  rw [show ((30 : Int)).toNat = 30 from rfl] at kr6
  rw [show hV H3 30 2 = hV H1 30 2 from (f50.1.2.1.1 30 2 (by decide +kernel)).trans (f49.1.2.1.1 30 2 (by decide +kernel))] at kr6
  have ap := absC_pos ga.1 (by omega)
  have hv : (vwC H0).1 (absC H1).1 = hV H1 30 2 := by
    have u := (kd_at ga.1).resolve_left (by omega)
    rw [vz] at u
    exact u
  have u := xn (by omega)
  have nw := ga.1.2.2.2.1.2.1
  have y := ya (by omega)
  rw [show (502 - (absC H0).1).toNat - (n0).toNat = ((502 - (absC H0).1).toNat - (n0).toNat - 1) + 1 by omega] at y
  rw [show n2 = 1 by omega, pE_1 hv] at y
  have w3 : hV H4 30 3 = 0 := ((f54.1.2.1.1 30 3 (by decide +kernel)).trans ((f50.1.2.1.1 30 3 (by decide +kernel)).trans (f49.1.2.1.1 30 3 (by decide +kernel)))).trans (by omega)
  have w1 : hV H4 30 1 = hV H1 30 1 := (f54.1.2.1.1 30 1 (by decide +kernel)).trans ((f50.1.2.1.1 30 1 (by decide +kernel)).trans (f49.1.2.1.1 30 1 (by decide +kernel)))
  rw [if_pos (by omega)] at y
  have g5 := Option.some.inj f10.2.2
  unfold mub_92v_14 at g5
  unfold Ab_92v_228 mub_92v_228
  refine ⟨⟨s2.2.2, w3, by omega, by omega, by omega, by omega, by omega, by omega, by omega, fun h6 => ?_, fun h6 h7 => ?_, fun h6 h7 => ?_⟩, fun q hq => ?_⟩
  · rw [if_pos (by omega)] at y
    rw [a2]
    exact y
  · rw [if_neg (by omega)] at y
    rw [a2]
    rw [show n8 = 10 by omega, show n20 = 1 by omega, show n3 = n3 + 1 by omega]
    exact ⟨by decide, y⟩
  · exact absurd h7 (by omega)
  · have g6 := Option.some.inj hq
    subst g6
    omega
theorem c_92v_14_36 {q0 : Nat} : vOkm T0 (eP e_92v L_92v A_92v mu_92v (some q0)) 1 ([(0, [20], [], 1), (1094, [1, 19], [3, 4], 0), (20, [19, 1], [3], 2), (90, [19], [], -2147483648), (91, [19], [], 2147483647), (1095, [1, 18], [2, 3], 0), (1093, [18, 17], [1, 2], 0), (90, [18], [], -2147483648), (91, [18], [], 2147483647), (20, [17, 1], [1], 2), (90, [17], [], -2147483648), (91, [17], [], 2147483647), (45, [15, 16], [], 0), (0, [16], [], 9), (20, [15, 1], [1], 2), (90, [15], [], -2147483648), (91, [15], [], 2147483647), (43, [13, 14], [], 0), (0, [14], [], 6), (20, [13, 1], [1], 2), (90, [13], [], -2147483648), (91, [13], [], 2147483647), (35, [2], [], 0), (40, [11, 12], [], 0), (0, [12], [], 11), (20, [11, 1], [1], 2), (90, [11], [], -2147483648), (91, [11], [], 2147483647), (30, [3], [], 0), (41, [9, 10], [], 0), (0, [10], [], 10), (20, [9, 1], [1], 2), (90, [9], [], -2147483648), (91, [9], [], 2147483647), (31, [3], [], 0), (20, [8, 1], [1], 2), (90, [8], [], -2147483648), (91, [8], [], 2147483647), (31, [4], [], 0), (30, [7], [], 0), (20, [7, 1], [1], 3), (90, [7], [], -2147483648), (91, [7], [], 2147483647), (45, [5, 6], [], 0), (0, [6], [], 500), (5000, [0, 1, 2, 3, 4, 5], [0, 1], 14), (0, [0], [], 30), (0, [1], [], 30), (90, [2], [], -2147483648), (91, [2], [], 2147483647), (90, [3], [], -2147483648), (91, [3], [], 2147483647), (90, [4], [], -2147483648), (91, [4], [], 2147483647), (90, [5], [], -2147483648), (91, [5], [], 2147483647)], (4000, [1, 2, 20, 4, 5, 8], [4], 228)) := vOk_in fun ρ η h => by
  obtain ⟨f0, f1, f2, f3, f4, f5, f6, f7, f8, f9, f10, f11, f12, f13, f14, f15, f16, f17, f18, f19, f20, f21, f22, f23, f24, f25, f26, f27, f28, f29, f30, f31, f32, f33, f34, f35, f36, f37, f38, f39, f40, f41, f42, f43, f44, f45, f46, f47, f48, f49, f50, f51, f52, f53, f54, f55, _⟩ := h
  exact q_92v_37 (q0 := q0) (n0 := ρ 5) (n1 := ρ 4) (n2 := ρ 3) (n3 := ρ 2) (n4 := ρ 1) (n5 := ρ 0) (n6 := ρ 6) (n7 := ρ 7) (n8 := ρ 8) (n9 := ρ 9) (n10 := ρ 10) (n11 := ρ 11) (n12 := ρ 12) (n13 := ρ 13) (n14 := ρ 14) (n15 := ρ 15) (n16 := ρ 16) (n17 := ρ 17) (n18 := ρ 18) (n19 := ρ 19) (n20 := ρ 20) (H0 := η 0) (H1 := η 1) (H2 := η 2) (H3 := η 3) (H4 := η 4) f55 f54 f53 f52 f51 f50 f49 f48 f47 f46 f45 f44 f43 f42 f41 f40 f39 f38 f37 f36 f35 f34 f33 f32 f31 f30 f29 f28 f27 f26 f25 f24 f23 f22 f21 f20 f19 f18 f17 f16 f15 f14 f13 f12 f11 f10 f9 f8 f7 f6 f5 f4 f3 f2 f1 f0
theorem q_92v_38 {q0 : Nat} {n0 n1 n2 n3 n4 n5 n6 n7 n8 n9 n10 n11 n12 n13 n14 n15 n16 n17 n18 : Int} {H0 H1 H2 H3 : gH} (f0 : n0 ≤ 2147483647) (f1 : (-2147483648) ≤ n0) (f2 : n1 ≤ 2147483647) (f3 : (-2147483648) ≤ n1) (f4 : n2 ≤ 2147483647) (f5 : (-2147483648) ≤ n2) (f6 : n3 ≤ 2147483647) (f7 : (-2147483648) ≤ n3) (f8 : n4 = 30) (f9 : n5 = 30) (f10 : (hLe T0 H0 H1 ∧ hFr s_92v.2.2.2.2 H0 H1 ∧ hWt T0 H1) ∧ (Ab_92v_14 n5 n4 n3 n2 n1 n0 H0 H1 ∧ preb_92v n5 H0) ∧ some q0 = some (mub_92v_14 n5 n4 n3 n2 n1 n0 H0 H1)) (f11 : n6 = 500) (f12 : n0 ≤ n6) (f13 : n7 ≤ 2147483647) (f14 : (-2147483648) ≤ n7) (f15 : n7 = hV H1 (n4).toNat 3) (f16 : n7 = 0) (f17 : n1 ≠ 0) (f18 : n8 ≤ 2147483647) (f19 : (-2147483648) ≤ n8) (f20 : n8 = hV H1 (n4).toNat 2) (f21 : n2 ≠ 0) (f22 : n9 ≤ 2147483647) (f23 : (-2147483648) ≤ n9) (f24 : n9 = hV H1 (n4).toNat 2) (f25 : n10 = 10) (f26 : n9 ≠ n10) (f27 : n2 = 0) (f28 : n11 ≤ 2147483647) (f29 : (-2147483648) ≤ n11) (f30 : n11 = hV H1 (n4).toNat 2) (f31 : n12 = 11) (f32 : n11 = n12) (f33 : 0 < n3) (f34 : n13 = 1) (f35 : (hLe T0 H1 H2 ∧ hFr s_95.2.2.2.2 H1 H2 ∧ ((0 : Int) = 0 → H2.length = H1.length) ∧ hWt T0 H2) ∧ True) (f36 : n14 ≤ 2147483647) (f37 : (-2147483648) ≤ n14) (f38 : n14 = hV H2 (n4).toNat 15) (f39 : n15 = 1) (f40 : n16 = w32 (n14 - n15)) (f41 : n17 = 15) (f42 : hUpd H3 H2 n4 n17 n16) (f43 : n18 = w32 (n3 + (-1))) : Ab_92v_228 n5 n4 n18 n2 n1 n0 n8 H0 H3 ∧ ∀ q, some q0 = some q → mub_92v_228 n5 n4 n18 n2 n1 n0 n8 H0 H3 < q := by
  have pz := f10.2.1.2
  unfold preb_92v at pz
  have ga := f10.2.1.1
  unfold Ab_92v_14 at ga
  have vz : vwC H1 = vwC H0 := vwC_fr f10.1.2.1 (by decide +kernel)
  have s0 := PF_fr f35.1.1 f35.1.2.1 (by decide +kernel) ga.1
  have a0 : absC H2 = (absC H1) := s0.1
  have v0 : vwC H2 = vwC H0 := s0.2.1.trans vz
  have s1 := PF_30 f42 f8 (by omega) s0.2.2
  have a1 : absC H3 = (absC H1) := s1.1.trans a0
  have v1 : vwC H3 = vwC H0 := s1.2.1.trans v0
  have gb := ga
  obtain ⟨_, s0_, o0, o7, w01, m01, xn, ya, yb⟩ := gb
  have rf := f15
  rw [f8] at rf
  rw [show ((30 : Int)).toNat = 30 from rfl] at rf
  have kr0 := f20
  rw [f8] at kr0
  rw [show ((30 : Int)).toNat = 30 from rfl] at kr0
  have kr1 := f24
  rw [f8] at kr1
  rw [show ((30 : Int)).toNat = 30 from rfl] at kr1
  have kr2 := f30
  rw [f8] at kr2
  rw [show ((30 : Int)).toNat = 30 from rfl] at kr2
  have ap := absC_pos ga.1 (by omega)
  have hv : (vwC H0).1 (absC H1).1 = hV H1 30 2 := by
    have u := (kd_at ga.1).resolve_left (by omega)
    rw [vz] at u
    exact u
  have u := xn (by omega)
  have nw := ga.1.2.2.2.1.2.1
  have q43_ := f43
  unfold w32 at q43_
  have y := ya (by omega)
  rw [show (502 - (absC H0).1).toNat - (n0).toNat = ((502 - (absC H0).1).toNat - (n0).toNat - 1) + 1 by omega] at y
  rw [show n2 = 1 by omega, pE_1 hv] at y
  have w3 : hV H3 30 3 = 0 := ((uSlot f42 30 3 (by rw [f41]; decide)).trans (f35.1.2.1.1 30 3 (by decide +kernel))).trans (by omega)
  have w1 : hV H3 30 1 = hV H1 30 1 := (uSlot f42 30 1 (by rw [f41]; decide)).trans (f35.1.2.1.1 30 1 (by decide +kernel))
  rw [if_neg (by omega)] at y
  have g5 := Option.some.inj f10.2.2
  unfold mub_92v_14 at g5
  unfold Ab_92v_228 mub_92v_228
  refine ⟨⟨s1.2.2, w3, by omega, by omega, by omega, by omega, by omega, by omega, by omega, fun h6 => ?_, fun h6 h7 => ?_, fun h6 h7 => ?_⟩, fun q hq => ?_⟩
  · exact absurd h6 (by omega)
  · rw [a1]
    rw [show n2 = 0 by omega]
    by_cases kk : hV H1 30 2 = 3 ∨ (45 ≤ hV H1 30 2 ∧ hV H1 30 2 ≤ 49)
    · rw [if_pos kk] at y
      rw [show n8 = hV H1 30 2 by omega, show n18 = n3 by omega]
      exact ⟨by omega, y⟩
    · rw [if_neg kk] at y
      have tk := take_kind (c := 3) ga.1 (by omega)
      rw [vz] at tk
      rw [show n8 = 3 by omega, tk, pE_neg (vwC_ok H0) (pfail_lt pz (by decide)) pfail_ok]
      exact ⟨by decide, y⟩
  · exact absurd h7 (by omega)
  · have g6 := Option.some.inj hq
    subst g6
    omega
theorem c_92v_14_37 {q0 : Nat} : vOkm T0 (eP e_92v L_92v A_92v mu_92v (some q0)) 1 ([(10, [18, 2], [], -1), (80, [1, 17, 16], [3, 2], 0), (0, [17], [], 15), (2, [16, 14, 15], [], 0), (0, [15], [], 1), (20, [14, 1], [2], 15), (90, [14], [], -2147483648), (91, [14], [], 2147483647), (1095, [1, 13], [1, 2], 0), (0, [13], [], 1), (34, [2], [], 0), (40, [11, 12], [], 0), (0, [12], [], 11), (20, [11, 1], [1], 2), (90, [11], [], -2147483648), (91, [11], [], 2147483647), (30, [3], [], 0), (41, [9, 10], [], 0), (0, [10], [], 10), (20, [9, 1], [1], 2), (90, [9], [], -2147483648), (91, [9], [], 2147483647), (31, [3], [], 0), (20, [8, 1], [1], 2), (90, [8], [], -2147483648), (91, [8], [], 2147483647), (31, [4], [], 0), (30, [7], [], 0), (20, [7, 1], [1], 3), (90, [7], [], -2147483648), (91, [7], [], 2147483647), (45, [5, 6], [], 0), (0, [6], [], 500), (5000, [0, 1, 2, 3, 4, 5], [0, 1], 14), (0, [0], [], 30), (0, [1], [], 30), (90, [2], [], -2147483648), (91, [2], [], 2147483647), (90, [3], [], -2147483648), (91, [3], [], 2147483647), (90, [4], [], -2147483648), (91, [4], [], 2147483647), (90, [5], [], -2147483648), (91, [5], [], 2147483647)], (4000, [1, 18, 3, 4, 5, 8], [3], 228)) := vOk_in fun ρ η h => by
  obtain ⟨f0, f1, f2, f3, f4, f5, f6, f7, f8, f9, f10, f11, f12, f13, f14, f15, f16, f17, f18, f19, f20, f21, f22, f23, f24, f25, f26, f27, f28, f29, f30, f31, f32, f33, f34, f35, f36, f37, f38, f39, f40, f41, f42, f43, _⟩ := h
  exact q_92v_38 (q0 := q0) (n0 := ρ 5) (n1 := ρ 4) (n2 := ρ 3) (n3 := ρ 2) (n4 := ρ 1) (n5 := ρ 0) (n6 := ρ 6) (n7 := ρ 7) (n8 := ρ 8) (n9 := ρ 9) (n10 := ρ 10) (n11 := ρ 11) (n12 := ρ 12) (n13 := ρ 13) (n14 := ρ 14) (n15 := ρ 15) (n16 := ρ 16) (n17 := ρ 17) (n18 := ρ 18) (H0 := η 0) (H1 := η 1) (H2 := η 2) (H3 := η 3) f43 f42 f41 f40 f39 f38 f37 f36 f35 f34 f33 f32 f31 f30 f29 f28 f27 f26 f25 f24 f23 f22 f21 f20 f19 f18 f17 f16 f15 f14 f13 f12 f11 f10 f9 f8 f7 f6 f5 f4 f3 f2 f1 f0
theorem q_92v_39 {q0 : Nat} {n0 n1 n2 n3 n4 n5 n6 n7 n8 n9 n10 n11 n12 n13 n14 : Int} {H0 H1 : gH} (f0 : n0 ≤ 2147483647) (f1 : (-2147483648) ≤ n0) (f2 : n1 ≤ 2147483647) (f3 : (-2147483648) ≤ n1) (f4 : n2 ≤ 2147483647) (f5 : (-2147483648) ≤ n2) (f6 : n3 ≤ 2147483647) (f7 : (-2147483648) ≤ n3) (f8 : n4 = 30) (f9 : n5 = 30) (f10 : (hLe T0 H0 H1 ∧ hFr s_92v.2.2.2.2 H0 H1 ∧ hWt T0 H1) ∧ (Ab_92v_14 n5 n4 n3 n2 n1 n0 H0 H1 ∧ preb_92v n5 H0) ∧ some q0 = some (mub_92v_14 n5 n4 n3 n2 n1 n0 H0 H1)) (f11 : n6 = 500) (f12 : n0 ≤ n6) (f13 : n7 ≤ 2147483647) (f14 : (-2147483648) ≤ n7) (f15 : n7 = hV H1 (n4).toNat 3) (f16 : n7 = 0) (f17 : n1 ≠ 0) (f18 : n8 ≤ 2147483647) (f19 : (-2147483648) ≤ n8) (f20 : n8 = hV H1 (n4).toNat 2) (f21 : n2 ≠ 0) (f22 : n9 ≤ 2147483647) (f23 : (-2147483648) ≤ n9) (f24 : n9 = hV H1 (n4).toNat 2) (f25 : n10 = 10) (f26 : n9 ≠ n10) (f27 : n2 ≠ 0) (f28 : n11 ≤ 2147483647) (f29 : (-2147483648) ≤ n11) (f30 : n11 = hV H1 (n4).toNat 2) (f31 : n12 = 45) (f32 : n11 < n12) (f33 : n13 = 31) (f34 : n13 = hV H1 (n4).toNat 0) (f35 : n14 ≤ 2147483647) (f36 : (-2147483648) ≤ n14) (f37 : n14 = hV H1 (n4).toNat 1) : preb_123v n13 n14 H1 := by
  have pz := f10.2.1.2
  unfold preb_92v at pz
  have ga := f10.2.1.1
  unfold Ab_92v_14 at ga
  have vz : vwC H1 = vwC H0 := vwC_fr f10.1.2.1 (by decide +kernel)
  have gb := ga
  obtain ⟨_, s0_, o0, o7, w01, m01, xn, ya, yb⟩ := gb
  unfold preb_123v
  exact ga.1.1
theorem c_92v_14_38 {q0 : Nat} : vOkm T0 (eP e_92v L_92v A_92v mu_92v (some q0)) 1 ([(20, [16, 1], [1], 1), (90, [16], [], -2147483648), (91, [16], [], 2147483647), (20, [15, 1], [1], 0), (0, [15], [], 31), (42, [11, 12], [], 0), (0, [12], [], 45), (20, [11, 1], [1], 2), (90, [11], [], -2147483648), (91, [11], [], 2147483647), (31, [3], [], 0), (41, [9, 10], [], 0), (0, [10], [], 10), (20, [9, 1], [1], 2), (90, [9], [], -2147483648), (91, [9], [], 2147483647), (31, [3], [], 0), (20, [8, 1], [1], 2), (90, [8], [], -2147483648), (91, [8], [], 2147483647), (31, [4], [], 0), (30, [7], [], 0), (20, [7, 1], [1], 3), (90, [7], [], -2147483648), (91, [7], [], 2147483647), (45, [5, 6], [], 0), (0, [6], [], 500), (5000, [0, 1, 2, 3, 4, 5], [0, 1], 14), (0, [0], [], 30), (0, [1], [], 30), (90, [2], [], -2147483648), (91, [2], [], 2147483647), (90, [3], [], -2147483648), (91, [3], [], 2147483647), (90, [4], [], -2147483648), (91, [4], [], 2147483647), (90, [5], [], -2147483648), (91, [5], [], 2147483647)], (2123, [15, 16], [1], 0)) := vOk_in fun ρ η h => by
  obtain ⟨f0, f1, f2, f3, f4, f5, f6, f7, f8, f9, f10, f11, f12, f13, f14, f15, f16, f17, f18, f19, f20, f21, f22, f23, f24, f25, f26, f27, f28, f29, f30, f31, f32, f33, f34, f35, f36, f37, _⟩ := h
  exact q_92v_39 (q0 := q0) (n0 := ρ 5) (n1 := ρ 4) (n2 := ρ 3) (n3 := ρ 2) (n4 := ρ 1) (n5 := ρ 0) (n6 := ρ 6) (n7 := ρ 7) (n8 := ρ 8) (n9 := ρ 9) (n10 := ρ 10) (n11 := ρ 11) (n12 := ρ 12) (n13 := ρ 15) (n14 := ρ 16) (H0 := η 0) (H1 := η 1) f37 f36 f35 f34 f33 f32 f31 f30 f29 f28 f27 f26 f25 f24 f23 f22 f21 f20 f19 f18 f17 f16 f15 f14 f13 f12 f11 f10 f9 f8 f7 f6 f5 f4 f3 f2 f1 f0
theorem q_92v_40 {q0 : Nat} {n0 n1 n2 n3 n4 n5 n6 n7 n8 n9 n10 n11 n12 n13 n14 n15 n16 n17 n18 n19 : Int} {H0 H1 H2 H3 : gH} (f0 : n0 ≤ 2147483647) (f1 : (-2147483648) ≤ n0) (f2 : n1 ≤ 2147483647) (f3 : (-2147483648) ≤ n1) (f4 : n2 ≤ 2147483647) (f5 : (-2147483648) ≤ n2) (f6 : n3 ≤ 2147483647) (f7 : (-2147483648) ≤ n3) (f8 : n4 = 30) (f9 : n5 = 30) (f10 : (hLe T0 H0 H1 ∧ hFr s_92v.2.2.2.2 H0 H1 ∧ hWt T0 H1) ∧ (Ab_92v_14 n5 n4 n3 n2 n1 n0 H0 H1 ∧ preb_92v n5 H0) ∧ some q0 = some (mub_92v_14 n5 n4 n3 n2 n1 n0 H0 H1)) (f11 : n6 = 500) (f12 : n0 ≤ n6) (f13 : n7 ≤ 2147483647) (f14 : (-2147483648) ≤ n7) (f15 : n7 = hV H1 (n4).toNat 3) (f16 : n7 = 0) (f17 : n1 ≠ 0) (f18 : n8 ≤ 2147483647) (f19 : (-2147483648) ≤ n8) (f20 : n8 = hV H1 (n4).toNat 2) (f21 : n2 ≠ 0) (f22 : n9 ≤ 2147483647) (f23 : (-2147483648) ≤ n9) (f24 : n9 = hV H1 (n4).toNat 2) (f25 : n10 = 10) (f26 : n9 ≠ n10) (f27 : n2 ≠ 0) (f28 : n11 ≤ 2147483647) (f29 : (-2147483648) ≤ n11) (f30 : n11 = hV H1 (n4).toNat 2) (f31 : n12 = 45) (f32 : n11 < n12) (f33 : 0 ≤ n13) (f34 : n13 = hV H1 (n4).toNat 8) (f35 : n14 = 31) (f36 : n14 = hV H1 (n4).toNat 0) (f37 : n15 ≤ 2147483647) (f38 : (-2147483648) ≤ n15) (f39 : n15 = hV H1 (n4).toNat 1) (f40 : (hLe T0 H1 H2 ∧ hFr s_123v.2.2.2.2 H1 H2 ∧ ((0 : Int) = 0 → H2.length = H1.length) ∧ hWt T0 H2) ∧ postb_123v n16 n14 n15 H1 H2) (f41 : n17 = (Int64.ofInt n16).toInt32.toInt) (f42 : (hLe T0 H2 H3 ∧ hFr s_98.2.2.2.2 H2 H3 ∧ ((0 : Int) = 0 → H3.length = H2.length) ∧ hWt T0 H3) ∧ True) (f43 : n18 = 3) (f44 : n19 = 0) : Ab_92v_228 n5 n4 n3 n19 n1 n0 n18 H0 H3 ∧ ∀ q, some q0 = some q → mub_92v_228 n5 n4 n3 n19 n1 n0 n18 H0 H3 < q := by
  have pz := f10.2.1.2
  unfold preb_92v at pz
  have ga := f10.2.1.1
  unfold Ab_92v_14 at ga
  have vz : vwC H1 = vwC H0 := vwC_fr f10.1.2.1 (by decide +kernel)
  have s0 := PF_fr f40.1.1 f40.1.2.1 (by decide +kernel) ga.1
  have a0 : absC H2 = (absC H1) := s0.1
  have v0 : vwC H2 = vwC H0 := s0.2.1.trans vz
  have s1 := PF_fr f42.1.1 f42.1.2.1 (by decide +kernel) s0.2.2
  have a1 : absC H3 = (absC H1) := s1.1.trans a0
  have v1 : vwC H3 = vwC H0 := s1.2.1.trans v0
  have gb := ga
  obtain ⟨_, s0_, o0, o7, w01, m01, xn, ya, yb⟩ := gb
  have rf := f15
  rw [f8] at rf
  rw [show ((30 : Int)).toNat = 30 from rfl] at rf
  have kr0 := f20
  rw [f8] at kr0
  rw [show ((30 : Int)).toNat = 30 from rfl] at kr0
  have kr1 := f24
  rw [f8] at kr1
  rw [show ((30 : Int)).toNat = 30 from rfl] at kr1
  have kr2 := f30
  rw [f8] at kr2
  rw [show ((30 : Int)).toNat = 30 from rfl] at kr2
  have ap := absC_pos ga.1 (by omega)
  have hv : (vwC H0).1 (absC H1).1 = hV H1 30 2 := by
    have u := (kd_at ga.1).resolve_left (by omega)
    rw [vz] at u
    exact u
  have u := xn (by omega)
  have nw := ga.1.2.2.2.1.2.1
  have y := ya (by omega)
  rw [show (502 - (absC H0).1).toNat - (n0).toNat = ((502 - (absC H0).1).toNat - (n0).toNat - 1) + 1 by omega] at y
  rw [show n2 = 1 by omega, pE_1 hv] at y
  have w3 : hV H3 30 3 = 0 := ((f42.1.2.1.1 30 3 (by decide +kernel)).trans (f40.1.2.1.1 30 3 (by decide +kernel))).trans (by omega)
  have w1 : hV H3 30 1 = hV H1 30 1 := (f42.1.2.1.1 30 1 (by decide +kernel)).trans (f40.1.2.1.1 30 1 (by decide +kernel))
  rw [if_neg (by omega)] at y
  have g5 := Option.some.inj f10.2.2
  unfold mub_92v_14 at g5
  unfold Ab_92v_228 mub_92v_228
  refine ⟨⟨s1.2.2, w3, by omega, by omega, by omega, by omega, by omega, by omega, by omega, fun h6 => ?_, fun h6 h7 => ?_, fun h6 h7 => ?_⟩, fun q hq => ?_⟩
  · exact absurd h6 (by omega)
  · rw [a1]
    rw [show n19 = 0 by omega]
    by_cases kk : hV H1 30 2 = 3 ∨ (45 ≤ hV H1 30 2 ∧ hV H1 30 2 ≤ 49)
    · rw [if_pos kk] at y
      rw [show n18 = hV H1 30 2 by omega, show n3 = n3 by omega]
      exact ⟨by omega, y⟩
    · rw [if_neg kk] at y
      have tk := take_kind (c := 3) ga.1 (by omega)
      rw [vz] at tk
      rw [show n18 = 3 by omega, tk, pE_neg (vwC_ok H0) (pfail_lt pz (by decide)) pfail_ok]
      exact ⟨by decide, y⟩
  · exact absurd h7 (by omega)
  · have g6 := Option.some.inj hq
    subst g6
    omega
theorem c_92v_14_39 {q0 : Nat} : vOkm T0 (eP e_92v L_92v A_92v mu_92v (some q0)) 1 ([(0, [20], [], 0), (0, [19], [], 3), (1098, [14, 18], [2, 3], 0), (18, [18, 17], [], 0), (1123, [17, 15, 16], [1, 2], 0), (20, [16, 1], [1], 1), (90, [16], [], -2147483648), (91, [16], [], 2147483647), (20, [15, 1], [1], 0), (0, [15], [], 31), (20, [14, 1], [1], 8), (51, [14], [], 0), (42, [11, 12], [], 0), (0, [12], [], 45), (20, [11, 1], [1], 2), (90, [11], [], -2147483648), (91, [11], [], 2147483647), (31, [3], [], 0), (41, [9, 10], [], 0), (0, [10], [], 10), (20, [9, 1], [1], 2), (90, [9], [], -2147483648), (91, [9], [], 2147483647), (31, [3], [], 0), (20, [8, 1], [1], 2), (90, [8], [], -2147483648), (91, [8], [], 2147483647), (31, [4], [], 0), (30, [7], [], 0), (20, [7, 1], [1], 3), (90, [7], [], -2147483648), (91, [7], [], 2147483647), (45, [5, 6], [], 0), (0, [6], [], 500), (5000, [0, 1, 2, 3, 4, 5], [0, 1], 14), (0, [0], [], 30), (0, [1], [], 30), (90, [2], [], -2147483648), (91, [2], [], 2147483647), (90, [3], [], -2147483648), (91, [3], [], 2147483647), (90, [4], [], -2147483648), (91, [4], [], 2147483647), (90, [5], [], -2147483648), (91, [5], [], 2147483647)], (4000, [1, 2, 20, 4, 5, 19], [3], 228)) := vOk_in fun ρ η h => by
  obtain ⟨f0, f1, f2, f3, f4, f5, f6, f7, f8, f9, f10, f11, f12, f13, f14, f15, f16, f17, f18, f19, f20, f21, f22, f23, f24, f25, f26, f27, f28, f29, f30, f31, f32, f33, f34, f35, f36, f37, f38, f39, f40, f41, f42, f43, f44, _⟩ := h
  exact q_92v_40 (q0 := q0) (n0 := ρ 5) (n1 := ρ 4) (n2 := ρ 3) (n3 := ρ 2) (n4 := ρ 1) (n5 := ρ 0) (n6 := ρ 6) (n7 := ρ 7) (n8 := ρ 8) (n9 := ρ 9) (n10 := ρ 10) (n11 := ρ 11) (n12 := ρ 12) (n13 := ρ 14) (n14 := ρ 15) (n15 := ρ 16) (n16 := ρ 17) (n17 := ρ 18) (n18 := ρ 19) (n19 := ρ 20) (H0 := η 0) (H1 := η 1) (H2 := η 2) (H3 := η 3) f44 f43 f42 f41 f40 f39 f38 f37 f36 f35 f34 f33 f32 f31 f30 f29 f28 f27 f26 f25 f24 f23 f22 f21 f20 f19 f18 f17 f16 f15 f14 f13 f12 f11 f10 f9 f8 f7 f6 f5 f4 f3 f2 f1 f0
theorem q_92v_41 {q0 : Nat} {n0 n1 n2 n3 n4 n5 n6 n7 n8 n9 n10 n11 n12 n13 n14 n15 n16 n17 n18 n19 n20 : Int} {H0 H1 H2 H3 : gH} (f0 : n0 ≤ 2147483647) (f1 : (-2147483648) ≤ n0) (f2 : n1 ≤ 2147483647) (f3 : (-2147483648) ≤ n1) (f4 : n2 ≤ 2147483647) (f5 : (-2147483648) ≤ n2) (f6 : n3 ≤ 2147483647) (f7 : (-2147483648) ≤ n3) (f8 : n4 = 30) (f9 : n5 = 30) (f10 : (hLe T0 H0 H1 ∧ hFr s_92v.2.2.2.2 H0 H1 ∧ hWt T0 H1) ∧ (Ab_92v_14 n5 n4 n3 n2 n1 n0 H0 H1 ∧ preb_92v n5 H0) ∧ some q0 = some (mub_92v_14 n5 n4 n3 n2 n1 n0 H0 H1)) (f11 : n6 = 500) (f12 : n0 ≤ n6) (f13 : n7 ≤ 2147483647) (f14 : (-2147483648) ≤ n7) (f15 : n7 = hV H1 (n4).toNat 3) (f16 : n7 = 0) (f17 : n1 ≠ 0) (f18 : n8 ≤ 2147483647) (f19 : (-2147483648) ≤ n8) (f20 : n8 = hV H1 (n4).toNat 2) (f21 : n2 ≠ 0) (f22 : n9 ≤ 2147483647) (f23 : (-2147483648) ≤ n9) (f24 : n9 = hV H1 (n4).toNat 2) (f25 : n10 = 10) (f26 : n9 ≠ n10) (f27 : n2 ≠ 0) (f28 : n11 ≤ 2147483647) (f29 : (-2147483648) ≤ n11) (f30 : n11 = hV H1 (n4).toNat 2) (f31 : n12 = 45) (f32 : n11 < n12) (f33 : n13 = 0) (f34 : 0 ≤ n14) (f35 : n14 = hV H1 (n4).toNat 8) (f36 : n13 = 0) (f37 : n15 = 31) (f38 : n15 = hV H1 (n4).toNat 0) (f39 : n16 ≤ 2147483647) (f40 : (-2147483648) ≤ n16) (f41 : n16 = hV H1 (n4).toNat 1) (f42 : (hLe T0 H1 H2 ∧ hFr s_123v.2.2.2.2 H1 H2 ∧ ((0 : Int) = 0 → H2.length = H1.length) ∧ hWt T0 H2) ∧ postb_123v n17 n15 n16 H1 H2) (f43 : n18 = (Int64.ofInt n17).toInt32.toInt) (f44 : (hLe T0 H2 H3 ∧ hFr s_98.2.2.2.2 H2 H3 ∧ ((0 : Int) = 0 → H3.length = H2.length) ∧ hWt T0 H3) ∧ True) (f45 : n13 ≠ 0) (f46 : n19 ≤ 2147483647) (f47 : (-2147483648) ≤ n19) (f48 : n19 = hV H3 (n4).toNat 2) (f49 : n20 = 0) : Ab_92v_228 n5 n4 n3 n20 n1 n0 n19 H0 H3 ∧ ∀ q, some q0 = some q → mub_92v_228 n5 n4 n3 n20 n1 n0 n19 H0 H3 < q := by
  exfalso
  omega
theorem c_92v_14_40 {q0 : Nat} : vOkm T0 (eP e_92v L_92v A_92v mu_92v (some q0)) 1 ([(0, [20], [], 0), (20, [19, 1], [3], 2), (90, [19], [], -2147483648), (91, [19], [], 2147483647), (31, [13], [], 0), (1098, [14, 18], [2, 3], 0), (18, [18, 17], [], 0), (1123, [17, 15, 16], [1, 2], 0), (20, [16, 1], [1], 1), (90, [16], [], -2147483648), (91, [16], [], 2147483647), (20, [15, 1], [1], 0), (0, [15], [], 31), (30, [13], [], 0), (20, [14, 1], [1], 8), (51, [14], [], 0), (0, [13], [], 0), (42, [11, 12], [], 0), (0, [12], [], 45), (20, [11, 1], [1], 2), (90, [11], [], -2147483648), (91, [11], [], 2147483647), (31, [3], [], 0), (41, [9, 10], [], 0), (0, [10], [], 10), (20, [9, 1], [1], 2), (90, [9], [], -2147483648), (91, [9], [], 2147483647), (31, [3], [], 0), (20, [8, 1], [1], 2), (90, [8], [], -2147483648), (91, [8], [], 2147483647), (31, [4], [], 0), (30, [7], [], 0), (20, [7, 1], [1], 3), (90, [7], [], -2147483648), (91, [7], [], 2147483647), (45, [5, 6], [], 0), (0, [6], [], 500), (5000, [0, 1, 2, 3, 4, 5], [0, 1], 14), (0, [0], [], 30), (0, [1], [], 30), (90, [2], [], -2147483648), (91, [2], [], 2147483647), (90, [3], [], -2147483648), (91, [3], [], 2147483647), (90, [4], [], -2147483648), (91, [4], [], 2147483647), (90, [5], [], -2147483648), (91, [5], [], 2147483647)], (4000, [1, 2, 20, 4, 5, 19], [3], 228)) := vOk_in fun ρ η h => by
  obtain ⟨f0, f1, f2, f3, f4, f5, f6, f7, f8, f9, f10, f11, f12, f13, f14, f15, f16, f17, f18, f19, f20, f21, f22, f23, f24, f25, f26, f27, f28, f29, f30, f31, f32, f33, f34, f35, f36, f37, f38, f39, f40, f41, f42, f43, f44, f45, f46, f47, f48, f49, _⟩ := h
  exact q_92v_41 (q0 := q0) (n0 := ρ 5) (n1 := ρ 4) (n2 := ρ 3) (n3 := ρ 2) (n4 := ρ 1) (n5 := ρ 0) (n6 := ρ 6) (n7 := ρ 7) (n8 := ρ 8) (n9 := ρ 9) (n10 := ρ 10) (n11 := ρ 11) (n12 := ρ 12) (n13 := ρ 13) (n14 := ρ 14) (n15 := ρ 15) (n16 := ρ 16) (n17 := ρ 17) (n18 := ρ 18) (n19 := ρ 19) (n20 := ρ 20) (H0 := η 0) (H1 := η 1) (H2 := η 2) (H3 := η 3) f49 f48 f47 f46 f45 f44 f43 f42 f41 f40 f39 f38 f37 f36 f35 f34 f33 f32 f31 f30 f29 f28 f27 f26 f25 f24 f23 f22 f21 f20 f19 f18 f17 f16 f15 f14 f13 f12 f11 f10 f9 f8 f7 f6 f5 f4 f3 f2 f1 f0
theorem q_92v_42 {q0 : Nat} {n0 n1 n2 n3 n4 n5 n6 n7 n8 n9 n10 n11 n12 n13 n14 n15 n16 n17 n18 n19 : Int} {H0 H1 H2 : gH} (f0 : n0 ≤ 2147483647) (f1 : (-2147483648) ≤ n0) (f2 : n1 ≤ 2147483647) (f3 : (-2147483648) ≤ n1) (f4 : n2 ≤ 2147483647) (f5 : (-2147483648) ≤ n2) (f6 : n3 ≤ 2147483647) (f7 : (-2147483648) ≤ n3) (f8 : n4 = 30) (f9 : n5 = 30) (f10 : (hLe T0 H0 H1 ∧ hFr s_92v.2.2.2.2 H0 H1 ∧ hWt T0 H1) ∧ (Ab_92v_14 n5 n4 n3 n2 n1 n0 H0 H1 ∧ preb_92v n5 H0) ∧ some q0 = some (mub_92v_14 n5 n4 n3 n2 n1 n0 H0 H1)) (f11 : n6 = 500) (f12 : n0 ≤ n6) (f13 : n7 ≤ 2147483647) (f14 : (-2147483648) ≤ n7) (f15 : n7 = hV H1 (n4).toNat 3) (f16 : n7 = 0) (f17 : n1 ≠ 0) (f18 : n8 ≤ 2147483647) (f19 : (-2147483648) ≤ n8) (f20 : n8 = hV H1 (n4).toNat 2) (f21 : n2 ≠ 0) (f22 : n9 ≤ 2147483647) (f23 : (-2147483648) ≤ n9) (f24 : n9 = hV H1 (n4).toNat 2) (f25 : n10 = 10) (f26 : n9 ≠ n10) (f27 : n2 ≠ 0) (f28 : n11 ≤ 2147483647) (f29 : (-2147483648) ≤ n11) (f30 : n11 = hV H1 (n4).toNat 2) (f31 : n12 = 45) (f32 : n11 < n12) (f33 : n13 = 0) (f34 : 0 ≤ n14) (f35 : n14 = hV H1 (n4).toNat 8) (f36 : n13 ≠ 0) (f37 : n15 = 10000) (f38 : n16 ≤ 2147483647) (f39 : (-2147483648) ≤ n16) (f40 : n16 = hV H1 (n4).toNat 2) (f41 : n17 = w32 (n15 + n16)) (f42 : (hLe T0 H1 H2 ∧ hFr s_98.2.2.2.2 H1 H2 ∧ ((0 : Int) = 0 → H2.length = H1.length) ∧ hWt T0 H2) ∧ True) (f43 : n13 = 0) (f44 : n18 = 3) (f45 : n19 = 0) : Ab_92v_228 n5 n4 n3 n19 n1 n0 n18 H0 H2 ∧ ∀ q, some q0 = some q → mub_92v_228 n5 n4 n3 n19 n1 n0 n18 H0 H2 < q := by
  exfalso
  omega
theorem c_92v_14_41 {q0 : Nat} : vOkm T0 (eP e_92v L_92v A_92v mu_92v (some q0)) 1 ([(0, [19], [], 0), (0, [18], [], 3), (30, [13], [], 0), (1098, [14, 17], [1, 2], 0), (1, [17, 15, 16], [], 0), (20, [16, 1], [1], 2), (90, [16], [], -2147483648), (91, [16], [], 2147483647), (0, [15], [], 10000), (31, [13], [], 0), (20, [14, 1], [1], 8), (51, [14], [], 0), (0, [13], [], 0), (42, [11, 12], [], 0), (0, [12], [], 45), (20, [11, 1], [1], 2), (90, [11], [], -2147483648), (91, [11], [], 2147483647), (31, [3], [], 0), (41, [9, 10], [], 0), (0, [10], [], 10), (20, [9, 1], [1], 2), (90, [9], [], -2147483648), (91, [9], [], 2147483647), (31, [3], [], 0), (20, [8, 1], [1], 2), (90, [8], [], -2147483648), (91, [8], [], 2147483647), (31, [4], [], 0), (30, [7], [], 0), (20, [7, 1], [1], 3), (90, [7], [], -2147483648), (91, [7], [], 2147483647), (45, [5, 6], [], 0), (0, [6], [], 500), (5000, [0, 1, 2, 3, 4, 5], [0, 1], 14), (0, [0], [], 30), (0, [1], [], 30), (90, [2], [], -2147483648), (91, [2], [], 2147483647), (90, [3], [], -2147483648), (91, [3], [], 2147483647), (90, [4], [], -2147483648), (91, [4], [], 2147483647), (90, [5], [], -2147483648), (91, [5], [], 2147483647)], (4000, [1, 2, 19, 4, 5, 18], [2], 228)) := vOk_in fun ρ η h => by
  obtain ⟨f0, f1, f2, f3, f4, f5, f6, f7, f8, f9, f10, f11, f12, f13, f14, f15, f16, f17, f18, f19, f20, f21, f22, f23, f24, f25, f26, f27, f28, f29, f30, f31, f32, f33, f34, f35, f36, f37, f38, f39, f40, f41, f42, f43, f44, f45, _⟩ := h
  exact q_92v_42 (q0 := q0) (n0 := ρ 5) (n1 := ρ 4) (n2 := ρ 3) (n3 := ρ 2) (n4 := ρ 1) (n5 := ρ 0) (n6 := ρ 6) (n7 := ρ 7) (n8 := ρ 8) (n9 := ρ 9) (n10 := ρ 10) (n11 := ρ 11) (n12 := ρ 12) (n13 := ρ 13) (n14 := ρ 14) (n15 := ρ 15) (n16 := ρ 16) (n17 := ρ 17) (n18 := ρ 18) (n19 := ρ 19) (H0 := η 0) (H1 := η 1) (H2 := η 2) f45 f44 f43 f42 f41 f40 f39 f38 f37 f36 f35 f34 f33 f32 f31 f30 f29 f28 f27 f26 f25 f24 f23 f22 f21 f20 f19 f18 f17 f16 f15 f14 f13 f12 f11 f10 f9 f8 f7 f6 f5 f4 f3 f2 f1 f0
theorem q_92v_43 {q0 : Nat} {n0 n1 n2 n3 n4 n5 n6 n7 n8 n9 n10 n11 n12 n13 n14 n15 n16 n17 n18 n19 : Int} {H0 H1 H2 : gH} (f0 : n0 ≤ 2147483647) (f1 : (-2147483648) ≤ n0) (f2 : n1 ≤ 2147483647) (f3 : (-2147483648) ≤ n1) (f4 : n2 ≤ 2147483647) (f5 : (-2147483648) ≤ n2) (f6 : n3 ≤ 2147483647) (f7 : (-2147483648) ≤ n3) (f8 : n4 = 30) (f9 : n5 = 30) (f10 : (hLe T0 H0 H1 ∧ hFr s_92v.2.2.2.2 H0 H1 ∧ hWt T0 H1) ∧ (Ab_92v_14 n5 n4 n3 n2 n1 n0 H0 H1 ∧ preb_92v n5 H0) ∧ some q0 = some (mub_92v_14 n5 n4 n3 n2 n1 n0 H0 H1)) (f11 : n6 = 500) (f12 : n0 ≤ n6) (f13 : n7 ≤ 2147483647) (f14 : (-2147483648) ≤ n7) (f15 : n7 = hV H1 (n4).toNat 3) (f16 : n7 = 0) (f17 : n1 ≠ 0) (f18 : n8 ≤ 2147483647) (f19 : (-2147483648) ≤ n8) (f20 : n8 = hV H1 (n4).toNat 2) (f21 : n2 ≠ 0) (f22 : n9 ≤ 2147483647) (f23 : (-2147483648) ≤ n9) (f24 : n9 = hV H1 (n4).toNat 2) (f25 : n10 = 10) (f26 : n9 ≠ n10) (f27 : n2 ≠ 0) (f28 : n11 ≤ 2147483647) (f29 : (-2147483648) ≤ n11) (f30 : n11 = hV H1 (n4).toNat 2) (f31 : n12 = 45) (f32 : n11 < n12) (f33 : n13 = 0) (f34 : 0 ≤ n14) (f35 : n14 = hV H1 (n4).toNat 8) (f36 : n13 ≠ 0) (f37 : n15 = 10000) (f38 : n16 ≤ 2147483647) (f39 : (-2147483648) ≤ n16) (f40 : n16 = hV H1 (n4).toNat 2) (f41 : n17 = w32 (n15 + n16)) (f42 : (hLe T0 H1 H2 ∧ hFr s_98.2.2.2.2 H1 H2 ∧ ((0 : Int) = 0 → H2.length = H1.length) ∧ hWt T0 H2) ∧ True) (f43 : n13 ≠ 0) (f44 : n18 ≤ 2147483647) (f45 : (-2147483648) ≤ n18) (f46 : n18 = hV H2 (n4).toNat 2) (f47 : n19 = 0) : Ab_92v_228 n5 n4 n3 n19 n1 n0 n18 H0 H2 ∧ ∀ q, some q0 = some q → mub_92v_228 n5 n4 n3 n19 n1 n0 n18 H0 H2 < q := by
  exfalso
  omega
theorem c_92v_14_42 {q0 : Nat} : vOkm T0 (eP e_92v L_92v A_92v mu_92v (some q0)) 1 ([(0, [19], [], 0), (20, [18, 1], [2], 2), (90, [18], [], -2147483648), (91, [18], [], 2147483647), (31, [13], [], 0), (1098, [14, 17], [1, 2], 0), (1, [17, 15, 16], [], 0), (20, [16, 1], [1], 2), (90, [16], [], -2147483648), (91, [16], [], 2147483647), (0, [15], [], 10000), (31, [13], [], 0), (20, [14, 1], [1], 8), (51, [14], [], 0), (0, [13], [], 0), (42, [11, 12], [], 0), (0, [12], [], 45), (20, [11, 1], [1], 2), (90, [11], [], -2147483648), (91, [11], [], 2147483647), (31, [3], [], 0), (41, [9, 10], [], 0), (0, [10], [], 10), (20, [9, 1], [1], 2), (90, [9], [], -2147483648), (91, [9], [], 2147483647), (31, [3], [], 0), (20, [8, 1], [1], 2), (90, [8], [], -2147483648), (91, [8], [], 2147483647), (31, [4], [], 0), (30, [7], [], 0), (20, [7, 1], [1], 3), (90, [7], [], -2147483648), (91, [7], [], 2147483647), (45, [5, 6], [], 0), (0, [6], [], 500), (5000, [0, 1, 2, 3, 4, 5], [0, 1], 14), (0, [0], [], 30), (0, [1], [], 30), (90, [2], [], -2147483648), (91, [2], [], 2147483647), (90, [3], [], -2147483648), (91, [3], [], 2147483647), (90, [4], [], -2147483648), (91, [4], [], 2147483647), (90, [5], [], -2147483648), (91, [5], [], 2147483647)], (4000, [1, 2, 19, 4, 5, 18], [2], 228)) := vOk_in fun ρ η h => by
  obtain ⟨f0, f1, f2, f3, f4, f5, f6, f7, f8, f9, f10, f11, f12, f13, f14, f15, f16, f17, f18, f19, f20, f21, f22, f23, f24, f25, f26, f27, f28, f29, f30, f31, f32, f33, f34, f35, f36, f37, f38, f39, f40, f41, f42, f43, f44, f45, f46, f47, _⟩ := h
  exact q_92v_43 (q0 := q0) (n0 := ρ 5) (n1 := ρ 4) (n2 := ρ 3) (n3 := ρ 2) (n4 := ρ 1) (n5 := ρ 0) (n6 := ρ 6) (n7 := ρ 7) (n8 := ρ 8) (n9 := ρ 9) (n10 := ρ 10) (n11 := ρ 11) (n12 := ρ 12) (n13 := ρ 13) (n14 := ρ 14) (n15 := ρ 15) (n16 := ρ 16) (n17 := ρ 17) (n18 := ρ 18) (n19 := ρ 19) (H0 := η 0) (H1 := η 1) (H2 := η 2) f47 f46 f45 f44 f43 f42 f41 f40 f39 f38 f37 f36 f35 f34 f33 f32 f31 f30 f29 f28 f27 f26 f25 f24 f23 f22 f21 f20 f19 f18 f17 f16 f15 f14 f13 f12 f11 f10 f9 f8 f7 f6 f5 f4 f3 f2 f1 f0
theorem q_92v_44 {q0 : Nat} {n0 n1 n2 n3 n4 n5 n6 n7 n8 n9 n10 n11 n12 n13 n14 n15 n16 : Int} {H0 H1 : gH} (f0 : n0 ≤ 2147483647) (f1 : (-2147483648) ≤ n0) (f2 : n1 ≤ 2147483647) (f3 : (-2147483648) ≤ n1) (f4 : n2 ≤ 2147483647) (f5 : (-2147483648) ≤ n2) (f6 : n3 ≤ 2147483647) (f7 : (-2147483648) ≤ n3) (f8 : n4 = 30) (f9 : n5 = 30) (f10 : (hLe T0 H0 H1 ∧ hFr s_92v.2.2.2.2 H0 H1 ∧ hWt T0 H1) ∧ (Ab_92v_14 n5 n4 n3 n2 n1 n0 H0 H1 ∧ preb_92v n5 H0) ∧ some q0 = some (mub_92v_14 n5 n4 n3 n2 n1 n0 H0 H1)) (f11 : n6 = 500) (f12 : n0 ≤ n6) (f13 : n7 ≤ 2147483647) (f14 : (-2147483648) ≤ n7) (f15 : n7 = hV H1 (n4).toNat 3) (f16 : n7 = 0) (f17 : n1 ≠ 0) (f18 : n8 ≤ 2147483647) (f19 : (-2147483648) ≤ n8) (f20 : n8 = hV H1 (n4).toNat 2) (f21 : n2 ≠ 0) (f22 : n9 ≤ 2147483647) (f23 : (-2147483648) ≤ n9) (f24 : n9 = hV H1 (n4).toNat 2) (f25 : n10 = 10) (f26 : n9 ≠ n10) (f27 : n2 ≠ 0) (f28 : n11 ≤ 2147483647) (f29 : (-2147483648) ≤ n11) (f30 : n11 = hV H1 (n4).toNat 2) (f31 : n12 = 45) (f32 : n12 ≤ n11) (f33 : n13 ≤ 2147483647) (f34 : (-2147483648) ≤ n13) (f35 : n13 = hV H1 (n4).toNat 2) (f36 : n14 = 49) (f37 : n14 < n13) (f38 : n15 = 31) (f39 : n15 = hV H1 (n4).toNat 0) (f40 : n16 ≤ 2147483647) (f41 : (-2147483648) ≤ n16) (f42 : n16 = hV H1 (n4).toNat 1) : preb_123v n15 n16 H1 := by
  have pz := f10.2.1.2
  unfold preb_92v at pz
  have ga := f10.2.1.1
  unfold Ab_92v_14 at ga
  have vz : vwC H1 = vwC H0 := vwC_fr f10.1.2.1 (by decide +kernel)
  have gb := ga
  obtain ⟨_, s0_, o0, o7, w01, m01, xn, ya, yb⟩ := gb
  unfold preb_123v
  exact ga.1.1
theorem c_92v_14_43 {q0 : Nat} : vOkm T0 (eP e_92v L_92v A_92v mu_92v (some q0)) 1 ([(20, [18, 1], [1], 1), (90, [18], [], -2147483648), (91, [18], [], 2147483647), (20, [17, 1], [1], 0), (0, [17], [], 31), (44, [13, 14], [], 0), (0, [14], [], 49), (20, [13, 1], [1], 2), (90, [13], [], -2147483648), (91, [13], [], 2147483647), (43, [11, 12], [], 0), (0, [12], [], 45), (20, [11, 1], [1], 2), (90, [11], [], -2147483648), (91, [11], [], 2147483647), (31, [3], [], 0), (41, [9, 10], [], 0), (0, [10], [], 10), (20, [9, 1], [1], 2), (90, [9], [], -2147483648), (91, [9], [], 2147483647), (31, [3], [], 0), (20, [8, 1], [1], 2), (90, [8], [], -2147483648), (91, [8], [], 2147483647), (31, [4], [], 0), (30, [7], [], 0), (20, [7, 1], [1], 3), (90, [7], [], -2147483648), (91, [7], [], 2147483647), (45, [5, 6], [], 0), (0, [6], [], 500), (5000, [0, 1, 2, 3, 4, 5], [0, 1], 14), (0, [0], [], 30), (0, [1], [], 30), (90, [2], [], -2147483648), (91, [2], [], 2147483647), (90, [3], [], -2147483648), (91, [3], [], 2147483647), (90, [4], [], -2147483648), (91, [4], [], 2147483647), (90, [5], [], -2147483648), (91, [5], [], 2147483647)], (2123, [17, 18], [1], 0)) := vOk_in fun ρ η h => by
  obtain ⟨f0, f1, f2, f3, f4, f5, f6, f7, f8, f9, f10, f11, f12, f13, f14, f15, f16, f17, f18, f19, f20, f21, f22, f23, f24, f25, f26, f27, f28, f29, f30, f31, f32, f33, f34, f35, f36, f37, f38, f39, f40, f41, f42, _⟩ := h
  exact q_92v_44 (q0 := q0) (n0 := ρ 5) (n1 := ρ 4) (n2 := ρ 3) (n3 := ρ 2) (n4 := ρ 1) (n5 := ρ 0) (n6 := ρ 6) (n7 := ρ 7) (n8 := ρ 8) (n9 := ρ 9) (n10 := ρ 10) (n11 := ρ 11) (n12 := ρ 12) (n13 := ρ 13) (n14 := ρ 14) (n15 := ρ 17) (n16 := ρ 18) (H0 := η 0) (H1 := η 1) f42 f41 f40 f39 f38 f37 f36 f35 f34 f33 f32 f31 f30 f29 f28 f27 f26 f25 f24 f23 f22 f21 f20 f19 f18 f17 f16 f15 f14 f13 f12 f11 f10 f9 f8 f7 f6 f5 f4 f3 f2 f1 f0
theorem q_92v_45 {q0 : Nat} {n0 n1 n2 n3 n4 n5 n6 n7 n8 n9 n10 n11 n12 n13 n14 n15 n16 n17 n18 n19 n20 n21 : Int} {H0 H1 H2 H3 : gH} (f0 : n0 ≤ 2147483647) (f1 : (-2147483648) ≤ n0) (f2 : n1 ≤ 2147483647) (f3 : (-2147483648) ≤ n1) (f4 : n2 ≤ 2147483647) (f5 : (-2147483648) ≤ n2) (f6 : n3 ≤ 2147483647) (f7 : (-2147483648) ≤ n3) (f8 : n4 = 30) (f9 : n5 = 30) (f10 : (hLe T0 H0 H1 ∧ hFr s_92v.2.2.2.2 H0 H1 ∧ hWt T0 H1) ∧ (Ab_92v_14 n5 n4 n3 n2 n1 n0 H0 H1 ∧ preb_92v n5 H0) ∧ some q0 = some (mub_92v_14 n5 n4 n3 n2 n1 n0 H0 H1)) (f11 : n6 = 500) (f12 : n0 ≤ n6) (f13 : n7 ≤ 2147483647) (f14 : (-2147483648) ≤ n7) (f15 : n7 = hV H1 (n4).toNat 3) (f16 : n7 = 0) (f17 : n1 ≠ 0) (f18 : n8 ≤ 2147483647) (f19 : (-2147483648) ≤ n8) (f20 : n8 = hV H1 (n4).toNat 2) (f21 : n2 ≠ 0) (f22 : n9 ≤ 2147483647) (f23 : (-2147483648) ≤ n9) (f24 : n9 = hV H1 (n4).toNat 2) (f25 : n10 = 10) (f26 : n9 ≠ n10) (f27 : n2 ≠ 0) (f28 : n11 ≤ 2147483647) (f29 : (-2147483648) ≤ n11) (f30 : n11 = hV H1 (n4).toNat 2) (f31 : n12 = 45) (f32 : n12 ≤ n11) (f33 : n13 ≤ 2147483647) (f34 : (-2147483648) ≤ n13) (f35 : n13 = hV H1 (n4).toNat 2) (f36 : n14 = 49) (f37 : n14 < n13) (f38 : 0 ≤ n15) (f39 : n15 = hV H1 (n4).toNat 8) (f40 : n16 = 31) (f41 : n16 = hV H1 (n4).toNat 0) (f42 : n17 ≤ 2147483647) (f43 : (-2147483648) ≤ n17) (f44 : n17 = hV H1 (n4).toNat 1) (f45 : (hLe T0 H1 H2 ∧ hFr s_123v.2.2.2.2 H1 H2 ∧ ((0 : Int) = 0 → H2.length = H1.length) ∧ hWt T0 H2) ∧ postb_123v n18 n16 n17 H1 H2) (f46 : n19 = (Int64.ofInt n18).toInt32.toInt) (f47 : (hLe T0 H2 H3 ∧ hFr s_98.2.2.2.2 H2 H3 ∧ ((0 : Int) = 0 → H3.length = H2.length) ∧ hWt T0 H3) ∧ True) (f48 : n20 = 3) (f49 : n21 = 0) : Ab_92v_228 n5 n4 n3 n21 n1 n0 n20 H0 H3 ∧ ∀ q, some q0 = some q → mub_92v_228 n5 n4 n3 n21 n1 n0 n20 H0 H3 < q := by
  have pz := f10.2.1.2
  unfold preb_92v at pz
  have ga := f10.2.1.1
  unfold Ab_92v_14 at ga
  have vz : vwC H1 = vwC H0 := vwC_fr f10.1.2.1 (by decide +kernel)
  have s0 := PF_fr f45.1.1 f45.1.2.1 (by decide +kernel) ga.1
  have a0 : absC H2 = (absC H1) := s0.1
  have v0 : vwC H2 = vwC H0 := s0.2.1.trans vz
  have s1 := PF_fr f47.1.1 f47.1.2.1 (by decide +kernel) s0.2.2
  have a1 : absC H3 = (absC H1) := s1.1.trans a0
  have v1 : vwC H3 = vwC H0 := s1.2.1.trans v0
  have gb := ga
  obtain ⟨_, s0_, o0, o7, w01, m01, xn, ya, yb⟩ := gb
  have rf := f15
  rw [f8] at rf
  rw [show ((30 : Int)).toNat = 30 from rfl] at rf
  have kr0 := f20
  rw [f8] at kr0
  rw [show ((30 : Int)).toNat = 30 from rfl] at kr0
  have kr1 := f24
  rw [f8] at kr1
  rw [show ((30 : Int)).toNat = 30 from rfl] at kr1
  have kr2 := f30
  rw [f8] at kr2
  rw [show ((30 : Int)).toNat = 30 from rfl] at kr2
  have kr3 := f35
  rw [f8] at kr3
  rw [show ((30 : Int)).toNat = 30 from rfl] at kr3
  have ap := absC_pos ga.1 (by omega)
  have hv : (vwC H0).1 (absC H1).1 = hV H1 30 2 := by
    have u := (kd_at ga.1).resolve_left (by omega)
    rw [vz] at u
    exact u
  have u := xn (by omega)
  have nw := ga.1.2.2.2.1.2.1
  have y := ya (by omega)
  rw [show (502 - (absC H0).1).toNat - (n0).toNat = ((502 - (absC H0).1).toNat - (n0).toNat - 1) + 1 by omega] at y
  rw [show n2 = 1 by omega, pE_1 hv] at y
  have w3 : hV H3 30 3 = 0 := ((f47.1.2.1.1 30 3 (by decide +kernel)).trans (f45.1.2.1.1 30 3 (by decide +kernel))).trans (by omega)
  have w1 : hV H3 30 1 = hV H1 30 1 := (f47.1.2.1.1 30 1 (by decide +kernel)).trans (f45.1.2.1.1 30 1 (by decide +kernel))
  rw [if_neg (by omega)] at y
  have g5 := Option.some.inj f10.2.2
  unfold mub_92v_14 at g5
  unfold Ab_92v_228 mub_92v_228
  refine ⟨⟨s1.2.2, w3, by omega, by omega, by omega, by omega, by omega, by omega, by omega, fun h6 => ?_, fun h6 h7 => ?_, fun h6 h7 => ?_⟩, fun q hq => ?_⟩
  · exact absurd h6 (by omega)
  · rw [a1]
    rw [show n21 = 0 by omega]
    by_cases kk : hV H1 30 2 = 3 ∨ (45 ≤ hV H1 30 2 ∧ hV H1 30 2 ≤ 49)
    · rw [if_pos kk] at y
      rw [show n20 = hV H1 30 2 by omega, show n3 = n3 by omega]
      exact ⟨by omega, y⟩
    · rw [if_neg kk] at y
      have tk := take_kind (c := 3) ga.1 (by omega)
      rw [vz] at tk
      rw [show n20 = 3 by omega, tk, pE_neg (vwC_ok H0) (pfail_lt pz (by decide)) pfail_ok]
      exact ⟨by decide, y⟩
  · exact absurd h7 (by omega)
  · have g6 := Option.some.inj hq
    subst g6
    omega
theorem c_92v_14_44 {q0 : Nat} : vOkm T0 (eP e_92v L_92v A_92v mu_92v (some q0)) 1 ([(0, [22], [], 0), (0, [21], [], 3), (1098, [16, 20], [2, 3], 0), (18, [20, 19], [], 0), (1123, [19, 17, 18], [1, 2], 0), (20, [18, 1], [1], 1), (90, [18], [], -2147483648), (91, [18], [], 2147483647), (20, [17, 1], [1], 0), (0, [17], [], 31), (20, [16, 1], [1], 8), (51, [16], [], 0), (44, [13, 14], [], 0), (0, [14], [], 49), (20, [13, 1], [1], 2), (90, [13], [], -2147483648), (91, [13], [], 2147483647), (43, [11, 12], [], 0), (0, [12], [], 45), (20, [11, 1], [1], 2), (90, [11], [], -2147483648), (91, [11], [], 2147483647), (31, [3], [], 0), (41, [9, 10], [], 0), (0, [10], [], 10), (20, [9, 1], [1], 2), (90, [9], [], -2147483648), (91, [9], [], 2147483647), (31, [3], [], 0), (20, [8, 1], [1], 2), (90, [8], [], -2147483648), (91, [8], [], 2147483647), (31, [4], [], 0), (30, [7], [], 0), (20, [7, 1], [1], 3), (90, [7], [], -2147483648), (91, [7], [], 2147483647), (45, [5, 6], [], 0), (0, [6], [], 500), (5000, [0, 1, 2, 3, 4, 5], [0, 1], 14), (0, [0], [], 30), (0, [1], [], 30), (90, [2], [], -2147483648), (91, [2], [], 2147483647), (90, [3], [], -2147483648), (91, [3], [], 2147483647), (90, [4], [], -2147483648), (91, [4], [], 2147483647), (90, [5], [], -2147483648), (91, [5], [], 2147483647)], (4000, [1, 2, 22, 4, 5, 21], [3], 228)) := vOk_in fun ρ η h => by
  obtain ⟨f0, f1, f2, f3, f4, f5, f6, f7, f8, f9, f10, f11, f12, f13, f14, f15, f16, f17, f18, f19, f20, f21, f22, f23, f24, f25, f26, f27, f28, f29, f30, f31, f32, f33, f34, f35, f36, f37, f38, f39, f40, f41, f42, f43, f44, f45, f46, f47, f48, f49, _⟩ := h
  exact q_92v_45 (q0 := q0) (n0 := ρ 5) (n1 := ρ 4) (n2 := ρ 3) (n3 := ρ 2) (n4 := ρ 1) (n5 := ρ 0) (n6 := ρ 6) (n7 := ρ 7) (n8 := ρ 8) (n9 := ρ 9) (n10 := ρ 10) (n11 := ρ 11) (n12 := ρ 12) (n13 := ρ 13) (n14 := ρ 14) (n15 := ρ 16) (n16 := ρ 17) (n17 := ρ 18) (n18 := ρ 19) (n19 := ρ 20) (n20 := ρ 21) (n21 := ρ 22) (H0 := η 0) (H1 := η 1) (H2 := η 2) (H3 := η 3) f49 f48 f47 f46 f45 f44 f43 f42 f41 f40 f39 f38 f37 f36 f35 f34 f33 f32 f31 f30 f29 f28 f27 f26 f25 f24 f23 f22 f21 f20 f19 f18 f17 f16 f15 f14 f13 f12 f11 f10 f9 f8 f7 f6 f5 f4 f3 f2 f1 f0
theorem q_92v_46 {q0 : Nat} {n0 n1 n2 n3 n4 n5 n6 n7 n8 n9 n10 n11 n12 n13 n14 n15 n16 n17 n18 n19 n20 n21 n22 : Int} {H0 H1 H2 H3 : gH} (f0 : n0 ≤ 2147483647) (f1 : (-2147483648) ≤ n0) (f2 : n1 ≤ 2147483647) (f3 : (-2147483648) ≤ n1) (f4 : n2 ≤ 2147483647) (f5 : (-2147483648) ≤ n2) (f6 : n3 ≤ 2147483647) (f7 : (-2147483648) ≤ n3) (f8 : n4 = 30) (f9 : n5 = 30) (f10 : (hLe T0 H0 H1 ∧ hFr s_92v.2.2.2.2 H0 H1 ∧ hWt T0 H1) ∧ (Ab_92v_14 n5 n4 n3 n2 n1 n0 H0 H1 ∧ preb_92v n5 H0) ∧ some q0 = some (mub_92v_14 n5 n4 n3 n2 n1 n0 H0 H1)) (f11 : n6 = 500) (f12 : n0 ≤ n6) (f13 : n7 ≤ 2147483647) (f14 : (-2147483648) ≤ n7) (f15 : n7 = hV H1 (n4).toNat 3) (f16 : n7 = 0) (f17 : n1 ≠ 0) (f18 : n8 ≤ 2147483647) (f19 : (-2147483648) ≤ n8) (f20 : n8 = hV H1 (n4).toNat 2) (f21 : n2 ≠ 0) (f22 : n9 ≤ 2147483647) (f23 : (-2147483648) ≤ n9) (f24 : n9 = hV H1 (n4).toNat 2) (f25 : n10 = 10) (f26 : n9 ≠ n10) (f27 : n2 ≠ 0) (f28 : n11 ≤ 2147483647) (f29 : (-2147483648) ≤ n11) (f30 : n11 = hV H1 (n4).toNat 2) (f31 : n12 = 45) (f32 : n12 ≤ n11) (f33 : n13 ≤ 2147483647) (f34 : (-2147483648) ≤ n13) (f35 : n13 = hV H1 (n4).toNat 2) (f36 : n14 = 49) (f37 : n14 < n13) (f38 : n15 = 0) (f39 : 0 ≤ n16) (f40 : n16 = hV H1 (n4).toNat 8) (f41 : n15 = 0) (f42 : n17 = 31) (f43 : n17 = hV H1 (n4).toNat 0) (f44 : n18 ≤ 2147483647) (f45 : (-2147483648) ≤ n18) (f46 : n18 = hV H1 (n4).toNat 1) (f47 : (hLe T0 H1 H2 ∧ hFr s_123v.2.2.2.2 H1 H2 ∧ ((0 : Int) = 0 → H2.length = H1.length) ∧ hWt T0 H2) ∧ postb_123v n19 n17 n18 H1 H2) (f48 : n20 = (Int64.ofInt n19).toInt32.toInt) (f49 : (hLe T0 H2 H3 ∧ hFr s_98.2.2.2.2 H2 H3 ∧ ((0 : Int) = 0 → H3.length = H2.length) ∧ hWt T0 H3) ∧ True) (f50 : n15 ≠ 0) (f51 : n21 ≤ 2147483647) (f52 : (-2147483648) ≤ n21) (f53 : n21 = hV H3 (n4).toNat 2) (f54 : n22 = 0) : Ab_92v_228 n5 n4 n3 n22 n1 n0 n21 H0 H3 ∧ ∀ q, some q0 = some q → mub_92v_228 n5 n4 n3 n22 n1 n0 n21 H0 H3 < q := by
  exfalso
  omega
theorem c_92v_14_45 {q0 : Nat} : vOkm T0 (eP e_92v L_92v A_92v mu_92v (some q0)) 1 ([(0, [22], [], 0), (20, [21, 1], [3], 2), (90, [21], [], -2147483648), (91, [21], [], 2147483647), (31, [15], [], 0), (1098, [16, 20], [2, 3], 0), (18, [20, 19], [], 0), (1123, [19, 17, 18], [1, 2], 0), (20, [18, 1], [1], 1), (90, [18], [], -2147483648), (91, [18], [], 2147483647), (20, [17, 1], [1], 0), (0, [17], [], 31), (30, [15], [], 0), (20, [16, 1], [1], 8), (51, [16], [], 0), (0, [15], [], 0), (44, [13, 14], [], 0), (0, [14], [], 49), (20, [13, 1], [1], 2), (90, [13], [], -2147483648), (91, [13], [], 2147483647), (43, [11, 12], [], 0), (0, [12], [], 45), (20, [11, 1], [1], 2), (90, [11], [], -2147483648), (91, [11], [], 2147483647), (31, [3], [], 0), (41, [9, 10], [], 0), (0, [10], [], 10), (20, [9, 1], [1], 2), (90, [9], [], -2147483648), (91, [9], [], 2147483647), (31, [3], [], 0), (20, [8, 1], [1], 2), (90, [8], [], -2147483648), (91, [8], [], 2147483647), (31, [4], [], 0), (30, [7], [], 0), (20, [7, 1], [1], 3), (90, [7], [], -2147483648), (91, [7], [], 2147483647), (45, [5, 6], [], 0), (0, [6], [], 500), (5000, [0, 1, 2, 3, 4, 5], [0, 1], 14), (0, [0], [], 30), (0, [1], [], 30), (90, [2], [], -2147483648), (91, [2], [], 2147483647), (90, [3], [], -2147483648), (91, [3], [], 2147483647), (90, [4], [], -2147483648), (91, [4], [], 2147483647), (90, [5], [], -2147483648), (91, [5], [], 2147483647)], (4000, [1, 2, 22, 4, 5, 21], [3], 228)) := vOk_in fun ρ η h => by
  obtain ⟨f0, f1, f2, f3, f4, f5, f6, f7, f8, f9, f10, f11, f12, f13, f14, f15, f16, f17, f18, f19, f20, f21, f22, f23, f24, f25, f26, f27, f28, f29, f30, f31, f32, f33, f34, f35, f36, f37, f38, f39, f40, f41, f42, f43, f44, f45, f46, f47, f48, f49, f50, f51, f52, f53, f54, _⟩ := h
  exact q_92v_46 (q0 := q0) (n0 := ρ 5) (n1 := ρ 4) (n2 := ρ 3) (n3 := ρ 2) (n4 := ρ 1) (n5 := ρ 0) (n6 := ρ 6) (n7 := ρ 7) (n8 := ρ 8) (n9 := ρ 9) (n10 := ρ 10) (n11 := ρ 11) (n12 := ρ 12) (n13 := ρ 13) (n14 := ρ 14) (n15 := ρ 15) (n16 := ρ 16) (n17 := ρ 17) (n18 := ρ 18) (n19 := ρ 19) (n20 := ρ 20) (n21 := ρ 21) (n22 := ρ 22) (H0 := η 0) (H1 := η 1) (H2 := η 2) (H3 := η 3) f54 f53 f52 f51 f50 f49 f48 f47 f46 f45 f44 f43 f42 f41 f40 f39 f38 f37 f36 f35 f34 f33 f32 f31 f30 f29 f28 f27 f26 f25 f24 f23 f22 f21 f20 f19 f18 f17 f16 f15 f14 f13 f12 f11 f10 f9 f8 f7 f6 f5 f4 f3 f2 f1 f0
theorem q_92v_47 {q0 : Nat} {n0 n1 n2 n3 n4 n5 n6 n7 n8 n9 n10 n11 n12 n13 n14 n15 n16 n17 n18 n19 n20 n21 : Int} {H0 H1 H2 : gH} (f0 : n0 ≤ 2147483647) (f1 : (-2147483648) ≤ n0) (f2 : n1 ≤ 2147483647) (f3 : (-2147483648) ≤ n1) (f4 : n2 ≤ 2147483647) (f5 : (-2147483648) ≤ n2) (f6 : n3 ≤ 2147483647) (f7 : (-2147483648) ≤ n3) (f8 : n4 = 30) (f9 : n5 = 30) (f10 : (hLe T0 H0 H1 ∧ hFr s_92v.2.2.2.2 H0 H1 ∧ hWt T0 H1) ∧ (Ab_92v_14 n5 n4 n3 n2 n1 n0 H0 H1 ∧ preb_92v n5 H0) ∧ some q0 = some (mub_92v_14 n5 n4 n3 n2 n1 n0 H0 H1)) (f11 : n6 = 500) (f12 : n0 ≤ n6) (f13 : n7 ≤ 2147483647) (f14 : (-2147483648) ≤ n7) (f15 : n7 = hV H1 (n4).toNat 3) (f16 : n7 = 0) (f17 : n1 ≠ 0) (f18 : n8 ≤ 2147483647) (f19 : (-2147483648) ≤ n8) (f20 : n8 = hV H1 (n4).toNat 2) (f21 : n2 ≠ 0) (f22 : n9 ≤ 2147483647) (f23 : (-2147483648) ≤ n9) (f24 : n9 = hV H1 (n4).toNat 2) (f25 : n10 = 10) (f26 : n9 ≠ n10) (f27 : n2 ≠ 0) (f28 : n11 ≤ 2147483647) (f29 : (-2147483648) ≤ n11) (f30 : n11 = hV H1 (n4).toNat 2) (f31 : n12 = 45) (f32 : n12 ≤ n11) (f33 : n13 ≤ 2147483647) (f34 : (-2147483648) ≤ n13) (f35 : n13 = hV H1 (n4).toNat 2) (f36 : n14 = 49) (f37 : n14 < n13) (f38 : n15 = 0) (f39 : 0 ≤ n16) (f40 : n16 = hV H1 (n4).toNat 8) (f41 : n15 ≠ 0) (f42 : n17 = 10000) (f43 : n18 ≤ 2147483647) (f44 : (-2147483648) ≤ n18) (f45 : n18 = hV H1 (n4).toNat 2) (f46 : n19 = w32 (n17 + n18)) (f47 : (hLe T0 H1 H2 ∧ hFr s_98.2.2.2.2 H1 H2 ∧ ((0 : Int) = 0 → H2.length = H1.length) ∧ hWt T0 H2) ∧ True) (f48 : n15 = 0) (f49 : n20 = 3) (f50 : n21 = 0) : Ab_92v_228 n5 n4 n3 n21 n1 n0 n20 H0 H2 ∧ ∀ q, some q0 = some q → mub_92v_228 n5 n4 n3 n21 n1 n0 n20 H0 H2 < q := by
  exfalso
  omega
theorem c_92v_14_46 {q0 : Nat} : vOkm T0 (eP e_92v L_92v A_92v mu_92v (some q0)) 1 ([(0, [21], [], 0), (0, [20], [], 3), (30, [15], [], 0), (1098, [16, 19], [1, 2], 0), (1, [19, 17, 18], [], 0), (20, [18, 1], [1], 2), (90, [18], [], -2147483648), (91, [18], [], 2147483647), (0, [17], [], 10000), (31, [15], [], 0), (20, [16, 1], [1], 8), (51, [16], [], 0), (0, [15], [], 0), (44, [13, 14], [], 0), (0, [14], [], 49), (20, [13, 1], [1], 2), (90, [13], [], -2147483648), (91, [13], [], 2147483647), (43, [11, 12], [], 0), (0, [12], [], 45), (20, [11, 1], [1], 2), (90, [11], [], -2147483648), (91, [11], [], 2147483647), (31, [3], [], 0), (41, [9, 10], [], 0), (0, [10], [], 10), (20, [9, 1], [1], 2), (90, [9], [], -2147483648), (91, [9], [], 2147483647), (31, [3], [], 0), (20, [8, 1], [1], 2), (90, [8], [], -2147483648), (91, [8], [], 2147483647), (31, [4], [], 0), (30, [7], [], 0), (20, [7, 1], [1], 3), (90, [7], [], -2147483648), (91, [7], [], 2147483647), (45, [5, 6], [], 0), (0, [6], [], 500), (5000, [0, 1, 2, 3, 4, 5], [0, 1], 14), (0, [0], [], 30), (0, [1], [], 30), (90, [2], [], -2147483648), (91, [2], [], 2147483647), (90, [3], [], -2147483648), (91, [3], [], 2147483647), (90, [4], [], -2147483648), (91, [4], [], 2147483647), (90, [5], [], -2147483648), (91, [5], [], 2147483647)], (4000, [1, 2, 21, 4, 5, 20], [2], 228)) := vOk_in fun ρ η h => by
  obtain ⟨f0, f1, f2, f3, f4, f5, f6, f7, f8, f9, f10, f11, f12, f13, f14, f15, f16, f17, f18, f19, f20, f21, f22, f23, f24, f25, f26, f27, f28, f29, f30, f31, f32, f33, f34, f35, f36, f37, f38, f39, f40, f41, f42, f43, f44, f45, f46, f47, f48, f49, f50, _⟩ := h
  exact q_92v_47 (q0 := q0) (n0 := ρ 5) (n1 := ρ 4) (n2 := ρ 3) (n3 := ρ 2) (n4 := ρ 1) (n5 := ρ 0) (n6 := ρ 6) (n7 := ρ 7) (n8 := ρ 8) (n9 := ρ 9) (n10 := ρ 10) (n11 := ρ 11) (n12 := ρ 12) (n13 := ρ 13) (n14 := ρ 14) (n15 := ρ 15) (n16 := ρ 16) (n17 := ρ 17) (n18 := ρ 18) (n19 := ρ 19) (n20 := ρ 20) (n21 := ρ 21) (H0 := η 0) (H1 := η 1) (H2 := η 2) f50 f49 f48 f47 f46 f45 f44 f43 f42 f41 f40 f39 f38 f37 f36 f35 f34 f33 f32 f31 f30 f29 f28 f27 f26 f25 f24 f23 f22 f21 f20 f19 f18 f17 f16 f15 f14 f13 f12 f11 f10 f9 f8 f7 f6 f5 f4 f3 f2 f1 f0
theorem q_92v_48 {q0 : Nat} {n0 n1 n2 n3 n4 n5 n6 n7 n8 n9 n10 n11 n12 n13 n14 n15 n16 n17 n18 n19 n20 n21 : Int} {H0 H1 H2 : gH} (f0 : n0 ≤ 2147483647) (f1 : (-2147483648) ≤ n0) (f2 : n1 ≤ 2147483647) (f3 : (-2147483648) ≤ n1) (f4 : n2 ≤ 2147483647) (f5 : (-2147483648) ≤ n2) (f6 : n3 ≤ 2147483647) (f7 : (-2147483648) ≤ n3) (f8 : n4 = 30) (f9 : n5 = 30) (f10 : (hLe T0 H0 H1 ∧ hFr s_92v.2.2.2.2 H0 H1 ∧ hWt T0 H1) ∧ (Ab_92v_14 n5 n4 n3 n2 n1 n0 H0 H1 ∧ preb_92v n5 H0) ∧ some q0 = some (mub_92v_14 n5 n4 n3 n2 n1 n0 H0 H1)) (f11 : n6 = 500) (f12 : n0 ≤ n6) (f13 : n7 ≤ 2147483647) (f14 : (-2147483648) ≤ n7) (f15 : n7 = hV H1 (n4).toNat 3) (f16 : n7 = 0) (f17 : n1 ≠ 0) (f18 : n8 ≤ 2147483647) (f19 : (-2147483648) ≤ n8) (f20 : n8 = hV H1 (n4).toNat 2) (f21 : n2 ≠ 0) (f22 : n9 ≤ 2147483647) (f23 : (-2147483648) ≤ n9) (f24 : n9 = hV H1 (n4).toNat 2) (f25 : n10 = 10) (f26 : n9 ≠ n10) (f27 : n2 ≠ 0) (f28 : n11 ≤ 2147483647) (f29 : (-2147483648) ≤ n11) (f30 : n11 = hV H1 (n4).toNat 2) (f31 : n12 = 45) (f32 : n12 ≤ n11) (f33 : n13 ≤ 2147483647) (f34 : (-2147483648) ≤ n13) (f35 : n13 = hV H1 (n4).toNat 2) (f36 : n14 = 49) (f37 : n14 < n13) (f38 : n15 = 0) (f39 : 0 ≤ n16) (f40 : n16 = hV H1 (n4).toNat 8) (f41 : n15 ≠ 0) (f42 : n17 = 10000) (f43 : n18 ≤ 2147483647) (f44 : (-2147483648) ≤ n18) (f45 : n18 = hV H1 (n4).toNat 2) (f46 : n19 = w32 (n17 + n18)) (f47 : (hLe T0 H1 H2 ∧ hFr s_98.2.2.2.2 H1 H2 ∧ ((0 : Int) = 0 → H2.length = H1.length) ∧ hWt T0 H2) ∧ True) (f48 : n15 ≠ 0) (f49 : n20 ≤ 2147483647) (f50 : (-2147483648) ≤ n20) (f51 : n20 = hV H2 (n4).toNat 2) (f52 : n21 = 0) : Ab_92v_228 n5 n4 n3 n21 n1 n0 n20 H0 H2 ∧ ∀ q, some q0 = some q → mub_92v_228 n5 n4 n3 n21 n1 n0 n20 H0 H2 < q := by
  exfalso
  omega
theorem c_92v_14_47 {q0 : Nat} : vOkm T0 (eP e_92v L_92v A_92v mu_92v (some q0)) 1 ([(0, [21], [], 0), (20, [20, 1], [2], 2), (90, [20], [], -2147483648), (91, [20], [], 2147483647), (31, [15], [], 0), (1098, [16, 19], [1, 2], 0), (1, [19, 17, 18], [], 0), (20, [18, 1], [1], 2), (90, [18], [], -2147483648), (91, [18], [], 2147483647), (0, [17], [], 10000), (31, [15], [], 0), (20, [16, 1], [1], 8), (51, [16], [], 0), (0, [15], [], 0), (44, [13, 14], [], 0), (0, [14], [], 49), (20, [13, 1], [1], 2), (90, [13], [], -2147483648), (91, [13], [], 2147483647), (43, [11, 12], [], 0), (0, [12], [], 45), (20, [11, 1], [1], 2), (90, [11], [], -2147483648), (91, [11], [], 2147483647), (31, [3], [], 0), (41, [9, 10], [], 0), (0, [10], [], 10), (20, [9, 1], [1], 2), (90, [9], [], -2147483648), (91, [9], [], 2147483647), (31, [3], [], 0), (20, [8, 1], [1], 2), (90, [8], [], -2147483648), (91, [8], [], 2147483647), (31, [4], [], 0), (30, [7], [], 0), (20, [7, 1], [1], 3), (90, [7], [], -2147483648), (91, [7], [], 2147483647), (45, [5, 6], [], 0), (0, [6], [], 500), (5000, [0, 1, 2, 3, 4, 5], [0, 1], 14), (0, [0], [], 30), (0, [1], [], 30), (90, [2], [], -2147483648), (91, [2], [], 2147483647), (90, [3], [], -2147483648), (91, [3], [], 2147483647), (90, [4], [], -2147483648), (91, [4], [], 2147483647), (90, [5], [], -2147483648), (91, [5], [], 2147483647)], (4000, [1, 2, 21, 4, 5, 20], [2], 228)) := vOk_in fun ρ η h => by
  obtain ⟨f0, f1, f2, f3, f4, f5, f6, f7, f8, f9, f10, f11, f12, f13, f14, f15, f16, f17, f18, f19, f20, f21, f22, f23, f24, f25, f26, f27, f28, f29, f30, f31, f32, f33, f34, f35, f36, f37, f38, f39, f40, f41, f42, f43, f44, f45, f46, f47, f48, f49, f50, f51, f52, _⟩ := h
  exact q_92v_48 (q0 := q0) (n0 := ρ 5) (n1 := ρ 4) (n2 := ρ 3) (n3 := ρ 2) (n4 := ρ 1) (n5 := ρ 0) (n6 := ρ 6) (n7 := ρ 7) (n8 := ρ 8) (n9 := ρ 9) (n10 := ρ 10) (n11 := ρ 11) (n12 := ρ 12) (n13 := ρ 13) (n14 := ρ 14) (n15 := ρ 15) (n16 := ρ 16) (n17 := ρ 17) (n18 := ρ 18) (n19 := ρ 19) (n20 := ρ 20) (n21 := ρ 21) (H0 := η 0) (H1 := η 1) (H2 := η 2) f52 f51 f50 f49 f48 f47 f46 f45 f44 f43 f42 f41 f40 f39 f38 f37 f36 f35 f34 f33 f32 f31 f30 f29 f28 f27 f26 f25 f24 f23 f22 f21 f20 f19 f18 f17 f16 f15 f14 f13 f12 f11 f10 f9 f8 f7 f6 f5 f4 f3 f2 f1 f0
theorem q_92v_49 {q0 : Nat} {n0 n1 n2 n3 n4 n5 n6 n7 n8 n9 n10 n11 n12 n13 n14 n15 n16 n17 : Int} {H0 H1 : gH} (f0 : n0 ≤ 2147483647) (f1 : (-2147483648) ≤ n0) (f2 : n1 ≤ 2147483647) (f3 : (-2147483648) ≤ n1) (f4 : n2 ≤ 2147483647) (f5 : (-2147483648) ≤ n2) (f6 : n3 ≤ 2147483647) (f7 : (-2147483648) ≤ n3) (f8 : n4 = 30) (f9 : n5 = 30) (f10 : (hLe T0 H0 H1 ∧ hFr s_92v.2.2.2.2 H0 H1 ∧ hWt T0 H1) ∧ (Ab_92v_14 n5 n4 n3 n2 n1 n0 H0 H1 ∧ preb_92v n5 H0) ∧ some q0 = some (mub_92v_14 n5 n4 n3 n2 n1 n0 H0 H1)) (f11 : n6 = 500) (f12 : n0 ≤ n6) (f13 : n7 ≤ 2147483647) (f14 : (-2147483648) ≤ n7) (f15 : n7 = hV H1 (n4).toNat 3) (f16 : n7 = 0) (f17 : n1 ≠ 0) (f18 : n8 ≤ 2147483647) (f19 : (-2147483648) ≤ n8) (f20 : n8 = hV H1 (n4).toNat 2) (f21 : n2 ≠ 0) (f22 : n9 ≤ 2147483647) (f23 : (-2147483648) ≤ n9) (f24 : n9 = hV H1 (n4).toNat 2) (f25 : n10 = 10) (f26 : n9 ≠ n10) (f27 : n2 ≠ 0) (f28 : n11 ≤ 2147483647) (f29 : (-2147483648) ≤ n11) (f30 : n11 = hV H1 (n4).toNat 2) (f31 : n12 = 45) (f32 : n12 ≤ n11) (f33 : n13 ≤ 2147483647) (f34 : (-2147483648) ≤ n13) (f35 : n13 = hV H1 (n4).toNat 2) (f36 : n14 = 49) (f37 : n13 ≤ n14) (f38 : n15 = 1) (f39 : n15 = 0) (f40 : n16 = 31) (f41 : n16 = hV H1 (n4).toNat 0) (f42 : n17 ≤ 2147483647) (f43 : (-2147483648) ≤ n17) (f44 : n17 = hV H1 (n4).toNat 1) : preb_123v n16 n17 H1 := by
  exfalso
  omega
theorem c_92v_14_48 {q0 : Nat} : vOkm T0 (eP e_92v L_92v A_92v mu_92v (some q0)) 1 ([(20, [18, 1], [1], 1), (90, [18], [], -2147483648), (91, [18], [], 2147483647), (20, [17, 1], [1], 0), (0, [17], [], 31), (30, [15], [], 0), (0, [15], [], 1), (45, [13, 14], [], 0), (0, [14], [], 49), (20, [13, 1], [1], 2), (90, [13], [], -2147483648), (91, [13], [], 2147483647), (43, [11, 12], [], 0), (0, [12], [], 45), (20, [11, 1], [1], 2), (90, [11], [], -2147483648), (91, [11], [], 2147483647), (31, [3], [], 0), (41, [9, 10], [], 0), (0, [10], [], 10), (20, [9, 1], [1], 2), (90, [9], [], -2147483648), (91, [9], [], 2147483647), (31, [3], [], 0), (20, [8, 1], [1], 2), (90, [8], [], -2147483648), (91, [8], [], 2147483647), (31, [4], [], 0), (30, [7], [], 0), (20, [7, 1], [1], 3), (90, [7], [], -2147483648), (91, [7], [], 2147483647), (45, [5, 6], [], 0), (0, [6], [], 500), (5000, [0, 1, 2, 3, 4, 5], [0, 1], 14), (0, [0], [], 30), (0, [1], [], 30), (90, [2], [], -2147483648), (91, [2], [], 2147483647), (90, [3], [], -2147483648), (91, [3], [], 2147483647), (90, [4], [], -2147483648), (91, [4], [], 2147483647), (90, [5], [], -2147483648), (91, [5], [], 2147483647)], (2123, [17, 18], [1], 0)) := vOk_in fun ρ η h => by
  obtain ⟨f0, f1, f2, f3, f4, f5, f6, f7, f8, f9, f10, f11, f12, f13, f14, f15, f16, f17, f18, f19, f20, f21, f22, f23, f24, f25, f26, f27, f28, f29, f30, f31, f32, f33, f34, f35, f36, f37, f38, f39, f40, f41, f42, f43, f44, _⟩ := h
  exact q_92v_49 (q0 := q0) (n0 := ρ 5) (n1 := ρ 4) (n2 := ρ 3) (n3 := ρ 2) (n4 := ρ 1) (n5 := ρ 0) (n6 := ρ 6) (n7 := ρ 7) (n8 := ρ 8) (n9 := ρ 9) (n10 := ρ 10) (n11 := ρ 11) (n12 := ρ 12) (n13 := ρ 13) (n14 := ρ 14) (n15 := ρ 15) (n16 := ρ 17) (n17 := ρ 18) (H0 := η 0) (H1 := η 1) f44 f43 f42 f41 f40 f39 f38 f37 f36 f35 f34 f33 f32 f31 f30 f29 f28 f27 f26 f25 f24 f23 f22 f21 f20 f19 f18 f17 f16 f15 f14 f13 f12 f11 f10 f9 f8 f7 f6 f5 f4 f3 f2 f1 f0
theorem q_92v_50 {q0 : Nat} {n0 n1 n2 n3 n4 n5 n6 n7 n8 n9 n10 n11 n12 n13 n14 n15 n16 n17 n18 n19 n20 n21 n22 : Int} {H0 H1 H2 H3 : gH} (f0 : n0 ≤ 2147483647) (f1 : (-2147483648) ≤ n0) (f2 : n1 ≤ 2147483647) (f3 : (-2147483648) ≤ n1) (f4 : n2 ≤ 2147483647) (f5 : (-2147483648) ≤ n2) (f6 : n3 ≤ 2147483647) (f7 : (-2147483648) ≤ n3) (f8 : n4 = 30) (f9 : n5 = 30) (f10 : (hLe T0 H0 H1 ∧ hFr s_92v.2.2.2.2 H0 H1 ∧ hWt T0 H1) ∧ (Ab_92v_14 n5 n4 n3 n2 n1 n0 H0 H1 ∧ preb_92v n5 H0) ∧ some q0 = some (mub_92v_14 n5 n4 n3 n2 n1 n0 H0 H1)) (f11 : n6 = 500) (f12 : n0 ≤ n6) (f13 : n7 ≤ 2147483647) (f14 : (-2147483648) ≤ n7) (f15 : n7 = hV H1 (n4).toNat 3) (f16 : n7 = 0) (f17 : n1 ≠ 0) (f18 : n8 ≤ 2147483647) (f19 : (-2147483648) ≤ n8) (f20 : n8 = hV H1 (n4).toNat 2) (f21 : n2 ≠ 0) (f22 : n9 ≤ 2147483647) (f23 : (-2147483648) ≤ n9) (f24 : n9 = hV H1 (n4).toNat 2) (f25 : n10 = 10) (f26 : n9 ≠ n10) (f27 : n2 ≠ 0) (f28 : n11 ≤ 2147483647) (f29 : (-2147483648) ≤ n11) (f30 : n11 = hV H1 (n4).toNat 2) (f31 : n12 = 45) (f32 : n12 ≤ n11) (f33 : n13 ≤ 2147483647) (f34 : (-2147483648) ≤ n13) (f35 : n13 = hV H1 (n4).toNat 2) (f36 : n14 = 49) (f37 : n13 ≤ n14) (f38 : n15 = 1) (f39 : 0 ≤ n16) (f40 : n16 = hV H1 (n4).toNat 8) (f41 : n15 = 0) (f42 : n17 = 31) (f43 : n17 = hV H1 (n4).toNat 0) (f44 : n18 ≤ 2147483647) (f45 : (-2147483648) ≤ n18) (f46 : n18 = hV H1 (n4).toNat 1) (f47 : (hLe T0 H1 H2 ∧ hFr s_123v.2.2.2.2 H1 H2 ∧ ((0 : Int) = 0 → H2.length = H1.length) ∧ hWt T0 H2) ∧ postb_123v n19 n17 n18 H1 H2) (f48 : n20 = (Int64.ofInt n19).toInt32.toInt) (f49 : (hLe T0 H2 H3 ∧ hFr s_98.2.2.2.2 H2 H3 ∧ ((0 : Int) = 0 → H3.length = H2.length) ∧ hWt T0 H3) ∧ True) (f50 : n15 = 0) (f51 : n21 = 3) (f52 : n22 = 0) : Ab_92v_228 n5 n4 n3 n22 n1 n0 n21 H0 H3 ∧ ∀ q, some q0 = some q → mub_92v_228 n5 n4 n3 n22 n1 n0 n21 H0 H3 < q := by
  exfalso
  omega
theorem c_92v_14_49 {q0 : Nat} : vOkm T0 (eP e_92v L_92v A_92v mu_92v (some q0)) 1 ([(0, [22], [], 0), (0, [21], [], 3), (30, [15], [], 0), (1098, [16, 20], [2, 3], 0), (18, [20, 19], [], 0), (1123, [19, 17, 18], [1, 2], 0), (20, [18, 1], [1], 1), (90, [18], [], -2147483648), (91, [18], [], 2147483647), (20, [17, 1], [1], 0), (0, [17], [], 31), (30, [15], [], 0), (20, [16, 1], [1], 8), (51, [16], [], 0), (0, [15], [], 1), (45, [13, 14], [], 0), (0, [14], [], 49), (20, [13, 1], [1], 2), (90, [13], [], -2147483648), (91, [13], [], 2147483647), (43, [11, 12], [], 0), (0, [12], [], 45), (20, [11, 1], [1], 2), (90, [11], [], -2147483648), (91, [11], [], 2147483647), (31, [3], [], 0), (41, [9, 10], [], 0), (0, [10], [], 10), (20, [9, 1], [1], 2), (90, [9], [], -2147483648), (91, [9], [], 2147483647), (31, [3], [], 0), (20, [8, 1], [1], 2), (90, [8], [], -2147483648), (91, [8], [], 2147483647), (31, [4], [], 0), (30, [7], [], 0), (20, [7, 1], [1], 3), (90, [7], [], -2147483648), (91, [7], [], 2147483647), (45, [5, 6], [], 0), (0, [6], [], 500), (5000, [0, 1, 2, 3, 4, 5], [0, 1], 14), (0, [0], [], 30), (0, [1], [], 30), (90, [2], [], -2147483648), (91, [2], [], 2147483647), (90, [3], [], -2147483648), (91, [3], [], 2147483647), (90, [4], [], -2147483648), (91, [4], [], 2147483647), (90, [5], [], -2147483648), (91, [5], [], 2147483647)], (4000, [1, 2, 22, 4, 5, 21], [3], 228)) := vOk_in fun ρ η h => by
  obtain ⟨f0, f1, f2, f3, f4, f5, f6, f7, f8, f9, f10, f11, f12, f13, f14, f15, f16, f17, f18, f19, f20, f21, f22, f23, f24, f25, f26, f27, f28, f29, f30, f31, f32, f33, f34, f35, f36, f37, f38, f39, f40, f41, f42, f43, f44, f45, f46, f47, f48, f49, f50, f51, f52, _⟩ := h
  exact q_92v_50 (q0 := q0) (n0 := ρ 5) (n1 := ρ 4) (n2 := ρ 3) (n3 := ρ 2) (n4 := ρ 1) (n5 := ρ 0) (n6 := ρ 6) (n7 := ρ 7) (n8 := ρ 8) (n9 := ρ 9) (n10 := ρ 10) (n11 := ρ 11) (n12 := ρ 12) (n13 := ρ 13) (n14 := ρ 14) (n15 := ρ 15) (n16 := ρ 16) (n17 := ρ 17) (n18 := ρ 18) (n19 := ρ 19) (n20 := ρ 20) (n21 := ρ 21) (n22 := ρ 22) (H0 := η 0) (H1 := η 1) (H2 := η 2) (H3 := η 3) f52 f51 f50 f49 f48 f47 f46 f45 f44 f43 f42 f41 f40 f39 f38 f37 f36 f35 f34 f33 f32 f31 f30 f29 f28 f27 f26 f25 f24 f23 f22 f21 f20 f19 f18 f17 f16 f15 f14 f13 f12 f11 f10 f9 f8 f7 f6 f5 f4 f3 f2 f1 f0
theorem q_92v_51 {q0 : Nat} {n0 n1 n2 n3 n4 n5 n6 n7 n8 n9 n10 n11 n12 n13 n14 n15 n16 n17 n18 n19 n20 n21 n22 : Int} {H0 H1 H2 H3 : gH} (f0 : n0 ≤ 2147483647) (f1 : (-2147483648) ≤ n0) (f2 : n1 ≤ 2147483647) (f3 : (-2147483648) ≤ n1) (f4 : n2 ≤ 2147483647) (f5 : (-2147483648) ≤ n2) (f6 : n3 ≤ 2147483647) (f7 : (-2147483648) ≤ n3) (f8 : n4 = 30) (f9 : n5 = 30) (f10 : (hLe T0 H0 H1 ∧ hFr s_92v.2.2.2.2 H0 H1 ∧ hWt T0 H1) ∧ (Ab_92v_14 n5 n4 n3 n2 n1 n0 H0 H1 ∧ preb_92v n5 H0) ∧ some q0 = some (mub_92v_14 n5 n4 n3 n2 n1 n0 H0 H1)) (f11 : n6 = 500) (f12 : n0 ≤ n6) (f13 : n7 ≤ 2147483647) (f14 : (-2147483648) ≤ n7) (f15 : n7 = hV H1 (n4).toNat 3) (f16 : n7 = 0) (f17 : n1 ≠ 0) (f18 : n8 ≤ 2147483647) (f19 : (-2147483648) ≤ n8) (f20 : n8 = hV H1 (n4).toNat 2) (f21 : n2 ≠ 0) (f22 : n9 ≤ 2147483647) (f23 : (-2147483648) ≤ n9) (f24 : n9 = hV H1 (n4).toNat 2) (f25 : n10 = 10) (f26 : n9 ≠ n10) (f27 : n2 ≠ 0) (f28 : n11 ≤ 2147483647) (f29 : (-2147483648) ≤ n11) (f30 : n11 = hV H1 (n4).toNat 2) (f31 : n12 = 45) (f32 : n12 ≤ n11) (f33 : n13 ≤ 2147483647) (f34 : (-2147483648) ≤ n13) (f35 : n13 = hV H1 (n4).toNat 2) (f36 : n14 = 49) (f37 : n13 ≤ n14) (f38 : n15 = 1) (f39 : 0 ≤ n16) (f40 : n16 = hV H1 (n4).toNat 8) (f41 : n15 = 0) (f42 : n17 = 31) (f43 : n17 = hV H1 (n4).toNat 0) (f44 : n18 ≤ 2147483647) (f45 : (-2147483648) ≤ n18) (f46 : n18 = hV H1 (n4).toNat 1) (f47 : (hLe T0 H1 H2 ∧ hFr s_123v.2.2.2.2 H1 H2 ∧ ((0 : Int) = 0 → H2.length = H1.length) ∧ hWt T0 H2) ∧ postb_123v n19 n17 n18 H1 H2) (f48 : n20 = (Int64.ofInt n19).toInt32.toInt) (f49 : (hLe T0 H2 H3 ∧ hFr s_98.2.2.2.2 H2 H3 ∧ ((0 : Int) = 0 → H3.length = H2.length) ∧ hWt T0 H3) ∧ True) (f50 : n15 ≠ 0) (f51 : n21 ≤ 2147483647) (f52 : (-2147483648) ≤ n21) (f53 : n21 = hV H3 (n4).toNat 2) (f54 : n22 = 0) : Ab_92v_228 n5 n4 n3 n22 n1 n0 n21 H0 H3 ∧ ∀ q, some q0 = some q → mub_92v_228 n5 n4 n3 n22 n1 n0 n21 H0 H3 < q := by
  exfalso
  omega
theorem c_92v_14_50 {q0 : Nat} : vOkm T0 (eP e_92v L_92v A_92v mu_92v (some q0)) 1 ([(0, [22], [], 0), (20, [21, 1], [3], 2), (90, [21], [], -2147483648), (91, [21], [], 2147483647), (31, [15], [], 0), (1098, [16, 20], [2, 3], 0), (18, [20, 19], [], 0), (1123, [19, 17, 18], [1, 2], 0), (20, [18, 1], [1], 1), (90, [18], [], -2147483648), (91, [18], [], 2147483647), (20, [17, 1], [1], 0), (0, [17], [], 31), (30, [15], [], 0), (20, [16, 1], [1], 8), (51, [16], [], 0), (0, [15], [], 1), (45, [13, 14], [], 0), (0, [14], [], 49), (20, [13, 1], [1], 2), (90, [13], [], -2147483648), (91, [13], [], 2147483647), (43, [11, 12], [], 0), (0, [12], [], 45), (20, [11, 1], [1], 2), (90, [11], [], -2147483648), (91, [11], [], 2147483647), (31, [3], [], 0), (41, [9, 10], [], 0), (0, [10], [], 10), (20, [9, 1], [1], 2), (90, [9], [], -2147483648), (91, [9], [], 2147483647), (31, [3], [], 0), (20, [8, 1], [1], 2), (90, [8], [], -2147483648), (91, [8], [], 2147483647), (31, [4], [], 0), (30, [7], [], 0), (20, [7, 1], [1], 3), (90, [7], [], -2147483648), (91, [7], [], 2147483647), (45, [5, 6], [], 0), (0, [6], [], 500), (5000, [0, 1, 2, 3, 4, 5], [0, 1], 14), (0, [0], [], 30), (0, [1], [], 30), (90, [2], [], -2147483648), (91, [2], [], 2147483647), (90, [3], [], -2147483648), (91, [3], [], 2147483647), (90, [4], [], -2147483648), (91, [4], [], 2147483647), (90, [5], [], -2147483648), (91, [5], [], 2147483647)], (4000, [1, 2, 22, 4, 5, 21], [3], 228)) := vOk_in fun ρ η h => by
  obtain ⟨f0, f1, f2, f3, f4, f5, f6, f7, f8, f9, f10, f11, f12, f13, f14, f15, f16, f17, f18, f19, f20, f21, f22, f23, f24, f25, f26, f27, f28, f29, f30, f31, f32, f33, f34, f35, f36, f37, f38, f39, f40, f41, f42, f43, f44, f45, f46, f47, f48, f49, f50, f51, f52, f53, f54, _⟩ := h
  exact q_92v_51 (q0 := q0) (n0 := ρ 5) (n1 := ρ 4) (n2 := ρ 3) (n3 := ρ 2) (n4 := ρ 1) (n5 := ρ 0) (n6 := ρ 6) (n7 := ρ 7) (n8 := ρ 8) (n9 := ρ 9) (n10 := ρ 10) (n11 := ρ 11) (n12 := ρ 12) (n13 := ρ 13) (n14 := ρ 14) (n15 := ρ 15) (n16 := ρ 16) (n17 := ρ 17) (n18 := ρ 18) (n19 := ρ 19) (n20 := ρ 20) (n21 := ρ 21) (n22 := ρ 22) (H0 := η 0) (H1 := η 1) (H2 := η 2) (H3 := η 3) f54 f53 f52 f51 f50 f49 f48 f47 f46 f45 f44 f43 f42 f41 f40 f39 f38 f37 f36 f35 f34 f33 f32 f31 f30 f29 f28 f27 f26 f25 f24 f23 f22 f21 f20 f19 f18 f17 f16 f15 f14 f13 f12 f11 f10 f9 f8 f7 f6 f5 f4 f3 f2 f1 f0
theorem q_92v_52 {q0 : Nat} {n0 n1 n2 n3 n4 n5 n6 n7 n8 n9 n10 n11 n12 n13 n14 n15 n16 n17 n18 n19 n20 n21 : Int} {H0 H1 H2 : gH} (f0 : n0 ≤ 2147483647) (f1 : (-2147483648) ≤ n0) (f2 : n1 ≤ 2147483647) (f3 : (-2147483648) ≤ n1) (f4 : n2 ≤ 2147483647) (f5 : (-2147483648) ≤ n2) (f6 : n3 ≤ 2147483647) (f7 : (-2147483648) ≤ n3) (f8 : n4 = 30) (f9 : n5 = 30) (f10 : (hLe T0 H0 H1 ∧ hFr s_92v.2.2.2.2 H0 H1 ∧ hWt T0 H1) ∧ (Ab_92v_14 n5 n4 n3 n2 n1 n0 H0 H1 ∧ preb_92v n5 H0) ∧ some q0 = some (mub_92v_14 n5 n4 n3 n2 n1 n0 H0 H1)) (f11 : n6 = 500) (f12 : n0 ≤ n6) (f13 : n7 ≤ 2147483647) (f14 : (-2147483648) ≤ n7) (f15 : n7 = hV H1 (n4).toNat 3) (f16 : n7 = 0) (f17 : n1 ≠ 0) (f18 : n8 ≤ 2147483647) (f19 : (-2147483648) ≤ n8) (f20 : n8 = hV H1 (n4).toNat 2) (f21 : n2 ≠ 0) (f22 : n9 ≤ 2147483647) (f23 : (-2147483648) ≤ n9) (f24 : n9 = hV H1 (n4).toNat 2) (f25 : n10 = 10) (f26 : n9 ≠ n10) (f27 : n2 ≠ 0) (f28 : n11 ≤ 2147483647) (f29 : (-2147483648) ≤ n11) (f30 : n11 = hV H1 (n4).toNat 2) (f31 : n12 = 45) (f32 : n12 ≤ n11) (f33 : n13 ≤ 2147483647) (f34 : (-2147483648) ≤ n13) (f35 : n13 = hV H1 (n4).toNat 2) (f36 : n14 = 49) (f37 : n13 ≤ n14) (f38 : n15 = 1) (f39 : 0 ≤ n16) (f40 : n16 = hV H1 (n4).toNat 8) (f41 : n15 ≠ 0) (f42 : n17 = 10000) (f43 : n18 ≤ 2147483647) (f44 : (-2147483648) ≤ n18) (f45 : n18 = hV H1 (n4).toNat 2) (f46 : n19 = w32 (n17 + n18)) (f47 : (hLe T0 H1 H2 ∧ hFr s_98.2.2.2.2 H1 H2 ∧ ((0 : Int) = 0 → H2.length = H1.length) ∧ hWt T0 H2) ∧ True) (f48 : n15 = 0) (f49 : n20 = 3) (f50 : n21 = 0) : Ab_92v_228 n5 n4 n3 n21 n1 n0 n20 H0 H2 ∧ ∀ q, some q0 = some q → mub_92v_228 n5 n4 n3 n21 n1 n0 n20 H0 H2 < q := by
  exfalso
  omega
theorem c_92v_14_51 {q0 : Nat} : vOkm T0 (eP e_92v L_92v A_92v mu_92v (some q0)) 1 ([(0, [21], [], 0), (0, [20], [], 3), (30, [15], [], 0), (1098, [16, 19], [1, 2], 0), (1, [19, 17, 18], [], 0), (20, [18, 1], [1], 2), (90, [18], [], -2147483648), (91, [18], [], 2147483647), (0, [17], [], 10000), (31, [15], [], 0), (20, [16, 1], [1], 8), (51, [16], [], 0), (0, [15], [], 1), (45, [13, 14], [], 0), (0, [14], [], 49), (20, [13, 1], [1], 2), (90, [13], [], -2147483648), (91, [13], [], 2147483647), (43, [11, 12], [], 0), (0, [12], [], 45), (20, [11, 1], [1], 2), (90, [11], [], -2147483648), (91, [11], [], 2147483647), (31, [3], [], 0), (41, [9, 10], [], 0), (0, [10], [], 10), (20, [9, 1], [1], 2), (90, [9], [], -2147483648), (91, [9], [], 2147483647), (31, [3], [], 0), (20, [8, 1], [1], 2), (90, [8], [], -2147483648), (91, [8], [], 2147483647), (31, [4], [], 0), (30, [7], [], 0), (20, [7, 1], [1], 3), (90, [7], [], -2147483648), (91, [7], [], 2147483647), (45, [5, 6], [], 0), (0, [6], [], 500), (5000, [0, 1, 2, 3, 4, 5], [0, 1], 14), (0, [0], [], 30), (0, [1], [], 30), (90, [2], [], -2147483648), (91, [2], [], 2147483647), (90, [3], [], -2147483648), (91, [3], [], 2147483647), (90, [4], [], -2147483648), (91, [4], [], 2147483647), (90, [5], [], -2147483648), (91, [5], [], 2147483647)], (4000, [1, 2, 21, 4, 5, 20], [2], 228)) := vOk_in fun ρ η h => by
  obtain ⟨f0, f1, f2, f3, f4, f5, f6, f7, f8, f9, f10, f11, f12, f13, f14, f15, f16, f17, f18, f19, f20, f21, f22, f23, f24, f25, f26, f27, f28, f29, f30, f31, f32, f33, f34, f35, f36, f37, f38, f39, f40, f41, f42, f43, f44, f45, f46, f47, f48, f49, f50, _⟩ := h
  exact q_92v_52 (q0 := q0) (n0 := ρ 5) (n1 := ρ 4) (n2 := ρ 3) (n3 := ρ 2) (n4 := ρ 1) (n5 := ρ 0) (n6 := ρ 6) (n7 := ρ 7) (n8 := ρ 8) (n9 := ρ 9) (n10 := ρ 10) (n11 := ρ 11) (n12 := ρ 12) (n13 := ρ 13) (n14 := ρ 14) (n15 := ρ 15) (n16 := ρ 16) (n17 := ρ 17) (n18 := ρ 18) (n19 := ρ 19) (n20 := ρ 20) (n21 := ρ 21) (H0 := η 0) (H1 := η 1) (H2 := η 2) f50 f49 f48 f47 f46 f45 f44 f43 f42 f41 f40 f39 f38 f37 f36 f35 f34 f33 f32 f31 f30 f29 f28 f27 f26 f25 f24 f23 f22 f21 f20 f19 f18 f17 f16 f15 f14 f13 f12 f11 f10 f9 f8 f7 f6 f5 f4 f3 f2 f1 f0
theorem q_92v_53 {q0 : Nat} {n0 n1 n2 n3 n4 n5 n6 n7 n8 n9 n10 n11 n12 n13 n14 n15 n16 n17 n18 n19 n20 : Int} {H0 H1 H2 : gH} (f0 : n0 ≤ 2147483647) (f1 : (-2147483648) ≤ n0) (f2 : n1 ≤ 2147483647) (f3 : (-2147483648) ≤ n1) (f4 : n2 ≤ 2147483647) (f5 : (-2147483648) ≤ n2) (f6 : n3 ≤ 2147483647) (f7 : (-2147483648) ≤ n3) (f8 : n4 = 30) (f9 : n5 = 30) (f10 : (hLe T0 H0 H1 ∧ hFr s_92v.2.2.2.2 H0 H1 ∧ hWt T0 H1) ∧ (Ab_92v_14 n5 n4 n3 n2 n1 n0 H0 H1 ∧ preb_92v n5 H0) ∧ some q0 = some (mub_92v_14 n5 n4 n3 n2 n1 n0 H0 H1)) (f11 : n6 = 500) (f12 : n0 ≤ n6) (f13 : n7 ≤ 2147483647) (f14 : (-2147483648) ≤ n7) (f15 : n7 = hV H1 (n4).toNat 3) (f16 : n7 = 0) (f17 : n1 ≠ 0) (f18 : n8 ≤ 2147483647) (f19 : (-2147483648) ≤ n8) (f20 : n8 = hV H1 (n4).toNat 2) (f21 : n2 ≠ 0) (f22 : n9 ≤ 2147483647) (f23 : (-2147483648) ≤ n9) (f24 : n9 = hV H1 (n4).toNat 2) (f25 : n10 = 10) (f26 : n9 ≠ n10) (f27 : n2 ≠ 0) (f28 : n11 ≤ 2147483647) (f29 : (-2147483648) ≤ n11) (f30 : n11 = hV H1 (n4).toNat 2) (f31 : n12 = 45) (f32 : n12 ≤ n11) (f33 : n13 ≤ 2147483647) (f34 : (-2147483648) ≤ n13) (f35 : n13 = hV H1 (n4).toNat 2) (f36 : n14 = 49) (f37 : n13 ≤ n14) (f38 : 0 ≤ n15) (f39 : n15 = hV H1 (n4).toNat 8) (f40 : n16 = 10000) (f41 : n17 ≤ 2147483647) (f42 : (-2147483648) ≤ n17) (f43 : n17 = hV H1 (n4).toNat 2) (f44 : n18 = w32 (n16 + n17)) (f45 : (hLe T0 H1 H2 ∧ hFr s_98.2.2.2.2 H1 H2 ∧ ((0 : Int) = 0 → H2.length = H1.length) ∧ hWt T0 H2) ∧ True) (f46 : n19 ≤ 2147483647) (f47 : (-2147483648) ≤ n19) (f48 : n19 = hV H2 (n4).toNat 2) (f49 : n20 = 0) : Ab_92v_228 n5 n4 n3 n20 n1 n0 n19 H0 H2 ∧ ∀ q, some q0 = some q → mub_92v_228 n5 n4 n3 n20 n1 n0 n19 H0 H2 < q := by
  have pz := f10.2.1.2
  unfold preb_92v at pz
  have ga := f10.2.1.1
  unfold Ab_92v_14 at ga
  have vz : vwC H1 = vwC H0 := vwC_fr f10.1.2.1 (by decide +kernel)
  have s0 := PF_fr f45.1.1 f45.1.2.1 (by decide +kernel) ga.1
  have a0 : absC H2 = (absC H1) := s0.1
  have v0 : vwC H2 = vwC H0 := s0.2.1.trans vz
  have gb := ga
  obtain ⟨_, s0_, o0, o7, w01, m01, xn, ya, yb⟩ := gb
  have rf := f15
  rw [f8] at rf
  rw [show ((30 : Int)).toNat = 30 from rfl] at rf
  have kr0 := f20
  rw [f8] at kr0
  rw [show ((30 : Int)).toNat = 30 from rfl] at kr0
  have kr1 := f24
  rw [f8] at kr1
  rw [show ((30 : Int)).toNat = 30 from rfl] at kr1
  have kr2 := f30
  rw [f8] at kr2
  rw [show ((30 : Int)).toNat = 30 from rfl] at kr2
  have kr3 := f35
  rw [f8] at kr3
  rw [show ((30 : Int)).toNat = 30 from rfl] at kr3
  have kr4 := f43
  rw [f8] at kr4
  rw [show ((30 : Int)).toNat = 30 from rfl] at kr4
  have kr5 := f48
  rw [f8] at kr5
  rw [show ((30 : Int)).toNat = 30 from rfl] at kr5
  rw [show hV H2 30 2 = hV H1 30 2 from f45.1.2.1.1 30 2 (by decide +kernel)] at kr5
  have ap := absC_pos ga.1 (by omega)
  have hv : (vwC H0).1 (absC H1).1 = hV H1 30 2 := by
    have u := (kd_at ga.1).resolve_left (by omega)
    rw [vz] at u
    exact u
  have u := xn (by omega)
  have nw := ga.1.2.2.2.1.2.1
  have q44_ := f44
  unfold w32 at q44_
  have y := ya (by omega)
  rw [show (502 - (absC H0).1).toNat - (n0).toNat = ((502 - (absC H0).1).toNat - (n0).toNat - 1) + 1 by omega] at y
  rw [show n2 = 1 by omega, pE_1 hv] at y
  have w3 : hV H2 30 3 = 0 := (f45.1.2.1.1 30 3 (by decide +kernel)).trans (by omega)
  have w1 : hV H2 30 1 = hV H1 30 1 := f45.1.2.1.1 30 1 (by decide +kernel)
  rw [if_neg (by omega)] at y
  have g5 := Option.some.inj f10.2.2
  unfold mub_92v_14 at g5
  unfold Ab_92v_228 mub_92v_228
  refine ⟨⟨s0.2.2, w3, by omega, by omega, by omega, by omega, by omega, by omega, by omega, fun h6 => ?_, fun h6 h7 => ?_, fun h6 h7 => ?_⟩, fun q hq => ?_⟩
  · exact absurd h6 (by omega)
  · rw [a0]
    rw [show n20 = 0 by omega]
    by_cases kk : hV H1 30 2 = 3 ∨ (45 ≤ hV H1 30 2 ∧ hV H1 30 2 ≤ 49)
    · rw [if_pos kk] at y
      rw [show n19 = hV H1 30 2 by omega, show n3 = n3 by omega]
      exact ⟨by omega, y⟩
    · rw [if_neg kk] at y
      have tk := take_kind (c := 3) ga.1 (by omega)
      rw [vz] at tk
      rw [show n19 = 3 by omega, tk, pE_neg (vwC_ok H0) (pfail_lt pz (by decide)) pfail_ok]
      exact ⟨by decide, y⟩
  · exact absurd h7 (by omega)
  · have g6 := Option.some.inj hq
    subst g6
    omega
theorem c_92v_14_52 {q0 : Nat} : vOkm T0 (eP e_92v L_92v A_92v mu_92v (some q0)) 1 ([(0, [21], [], 0), (20, [20, 1], [2], 2), (90, [20], [], -2147483648), (91, [20], [], 2147483647), (1098, [16, 19], [1, 2], 0), (1, [19, 17, 18], [], 0), (20, [18, 1], [1], 2), (90, [18], [], -2147483648), (91, [18], [], 2147483647), (0, [17], [], 10000), (20, [16, 1], [1], 8), (51, [16], [], 0), (45, [13, 14], [], 0), (0, [14], [], 49), (20, [13, 1], [1], 2), (90, [13], [], -2147483648), (91, [13], [], 2147483647), (43, [11, 12], [], 0), (0, [12], [], 45), (20, [11, 1], [1], 2), (90, [11], [], -2147483648), (91, [11], [], 2147483647), (31, [3], [], 0), (41, [9, 10], [], 0), (0, [10], [], 10), (20, [9, 1], [1], 2), (90, [9], [], -2147483648), (91, [9], [], 2147483647), (31, [3], [], 0), (20, [8, 1], [1], 2), (90, [8], [], -2147483648), (91, [8], [], 2147483647), (31, [4], [], 0), (30, [7], [], 0), (20, [7, 1], [1], 3), (90, [7], [], -2147483648), (91, [7], [], 2147483647), (45, [5, 6], [], 0), (0, [6], [], 500), (5000, [0, 1, 2, 3, 4, 5], [0, 1], 14), (0, [0], [], 30), (0, [1], [], 30), (90, [2], [], -2147483648), (91, [2], [], 2147483647), (90, [3], [], -2147483648), (91, [3], [], 2147483647), (90, [4], [], -2147483648), (91, [4], [], 2147483647), (90, [5], [], -2147483648), (91, [5], [], 2147483647)], (4000, [1, 2, 21, 4, 5, 20], [2], 228)) := vOk_in fun ρ η h => by
  obtain ⟨f0, f1, f2, f3, f4, f5, f6, f7, f8, f9, f10, f11, f12, f13, f14, f15, f16, f17, f18, f19, f20, f21, f22, f23, f24, f25, f26, f27, f28, f29, f30, f31, f32, f33, f34, f35, f36, f37, f38, f39, f40, f41, f42, f43, f44, f45, f46, f47, f48, f49, _⟩ := h
  exact q_92v_53 (q0 := q0) (n0 := ρ 5) (n1 := ρ 4) (n2 := ρ 3) (n3 := ρ 2) (n4 := ρ 1) (n5 := ρ 0) (n6 := ρ 6) (n7 := ρ 7) (n8 := ρ 8) (n9 := ρ 9) (n10 := ρ 10) (n11 := ρ 11) (n12 := ρ 12) (n13 := ρ 13) (n14 := ρ 14) (n15 := ρ 16) (n16 := ρ 17) (n17 := ρ 18) (n18 := ρ 19) (n19 := ρ 20) (n20 := ρ 21) (H0 := η 0) (H1 := η 1) (H2 := η 2) f49 f48 f47 f46 f45 f44 f43 f42 f41 f40 f39 f38 f37 f36 f35 f34 f33 f32 f31 f30 f29 f28 f27 f26 f25 f24 f23 f22 f21 f20 f19 f18 f17 f16 f15 f14 f13 f12 f11 f10 f9 f8 f7 f6 f5 f4 f3 f2 f1 f0
theorem q_92v_54 {q0 : Nat} {n0 n1 n2 n3 n4 n5 n6 n7 n8 n9 n10 n11 n12 : Int} {H0 H1 H2 : gH} (f0 : n0 ≤ 2147483647) (f1 : (-2147483648) ≤ n0) (f2 : n1 ≤ 2147483647) (f3 : (-2147483648) ≤ n1) (f4 : n2 ≤ 2147483647) (f5 : (-2147483648) ≤ n2) (f6 : n3 ≤ 2147483647) (f7 : (-2147483648) ≤ n3) (f8 : n4 = 30) (f9 : n5 = 30) (f10 : (hLe T0 H0 H1 ∧ hFr s_92v.2.2.2.2 H0 H1 ∧ hWt T0 H1) ∧ (Ab_92v_14 n5 n4 n3 n2 n1 n0 H0 H1 ∧ preb_92v n5 H0) ∧ some q0 = some (mub_92v_14 n5 n4 n3 n2 n1 n0 H0 H1)) (f11 : n6 = 500) (f12 : n0 ≤ n6) (f13 : n7 ≤ 2147483647) (f14 : (-2147483648) ≤ n7) (f15 : n7 = hV H1 (n4).toNat 3) (f16 : n7 = 0) (f17 : n1 ≠ 0) (f18 : n8 ≤ 2147483647) (f19 : (-2147483648) ≤ n8) (f20 : n8 = hV H1 (n4).toNat 2) (f21 : n2 ≠ 0) (f22 : n9 ≤ 2147483647) (f23 : (-2147483648) ≤ n9) (f24 : n9 = hV H1 (n4).toNat 2) (f25 : n10 = 10) (f26 : n9 = n10) (f27 : n11 = w32 (n3 + 1)) (f28 : n12 ≤ 2147483647) (f29 : (-2147483648) ≤ n12) (f30 : n12 = hV H1 (n4).toNat 2) (f31 : (hLe T0 H1 H2 ∧ hFr s_94.2.2.2.2 H1 H2 ∧ ((0 : Int) = 0 → H2.length = H1.length) ∧ hWt T0 H2) ∧ True) : Ab_92v_228 n5 n4 n11 n2 n1 n0 n8 H0 H2 ∧ ∀ q, some q0 = some q → mub_92v_228 n5 n4 n11 n2 n1 n0 n8 H0 H2 < q := by
  have pz := f10.2.1.2
  unfold preb_92v at pz
  have ga := f10.2.1.1
  unfold Ab_92v_14 at ga
  have vz : vwC H1 = vwC H0 := vwC_fr f10.1.2.1 (by decide +kernel)
  have s0 := PF_fr f31.1.1 f31.1.2.1 (by decide +kernel) ga.1
  have a0 : absC H2 = (absC H1) := s0.1
  have v0 : vwC H2 = vwC H0 := s0.2.1.trans vz
  have gb := ga
  obtain ⟨_, s0_, o0, o7, w01, m01, xn, ya, yb⟩ := gb
  have rf := f15
  rw [f8] at rf
  rw [show ((30 : Int)).toNat = 30 from rfl] at rf
  have kr0 := f20
  rw [f8] at kr0
  rw [show ((30 : Int)).toNat = 30 from rfl] at kr0
  have kr1 := f24
  rw [f8] at kr1
  rw [show ((30 : Int)).toNat = 30 from rfl] at kr1
  have kr2 := f30
  rw [f8] at kr2
  rw [show ((30 : Int)).toNat = 30 from rfl] at kr2
  have ap := absC_pos ga.1 (by omega)
  have hv : (vwC H0).1 (absC H1).1 = hV H1 30 2 := by
    have u := (kd_at ga.1).resolve_left (by omega)
    rw [vz] at u
    exact u
  have u := xn (by omega)
  have nw := ga.1.2.2.2.1.2.1
  have q27_ := f27
  unfold w32 at q27_
  have y := ya (by omega)
  rw [show (502 - (absC H0).1).toNat - (n0).toNat = ((502 - (absC H0).1).toNat - (n0).toNat - 1) + 1 by omega] at y
  rw [show n2 = 1 by omega, pE_1 hv] at y
  have w3 : hV H2 30 3 = 0 := (f31.1.2.1.1 30 3 (by decide +kernel)).trans (by omega)
  have w1 : hV H2 30 1 = hV H1 30 1 := f31.1.2.1.1 30 1 (by decide +kernel)
  rw [if_pos (by omega)] at y
  have g5 := Option.some.inj f10.2.2
  unfold mub_92v_14 at g5
  unfold Ab_92v_228 mub_92v_228
  refine ⟨⟨s0.2.2, w3, by omega, by omega, by omega, by omega, by omega, by omega, by omega, fun h6 => ?_, fun h6 h7 => ?_, fun h6 h7 => ?_⟩, fun q hq => ?_⟩
  · rw [if_pos (by omega)] at y
    rw [a0]
    exact y
  · rw [if_neg (by omega)] at y
    rw [a0]
    rw [show n8 = 10 by omega, show n2 = 1 by omega, show n11 = n3 + 1 by omega]
    exact ⟨by decide, y⟩
  · exact absurd h7 (by omega)
  · have g6 := Option.some.inj hq
    subst g6
    omega
theorem c_92v_14_53 {q0 : Nat} : vOkm T0 (eP e_92v L_92v A_92v mu_92v (some q0)) 1 ([(1094, [1, 12], [1, 2], 0), (20, [12, 1], [1], 2), (90, [12], [], -2147483648), (91, [12], [], 2147483647), (10, [11, 2], [], 1), (40, [9, 10], [], 0), (0, [10], [], 10), (20, [9, 1], [1], 2), (90, [9], [], -2147483648), (91, [9], [], 2147483647), (31, [3], [], 0), (20, [8, 1], [1], 2), (90, [8], [], -2147483648), (91, [8], [], 2147483647), (31, [4], [], 0), (30, [7], [], 0), (20, [7, 1], [1], 3), (90, [7], [], -2147483648), (91, [7], [], 2147483647), (45, [5, 6], [], 0), (0, [6], [], 500), (5000, [0, 1, 2, 3, 4, 5], [0, 1], 14), (0, [0], [], 30), (0, [1], [], 30), (90, [2], [], -2147483648), (91, [2], [], 2147483647), (90, [3], [], -2147483648), (91, [3], [], 2147483647), (90, [4], [], -2147483648), (91, [4], [], 2147483647), (90, [5], [], -2147483648), (91, [5], [], 2147483647)], (4000, [1, 11, 3, 4, 5, 8], [2], 228)) := vOk_in fun ρ η h => by
  obtain ⟨f0, f1, f2, f3, f4, f5, f6, f7, f8, f9, f10, f11, f12, f13, f14, f15, f16, f17, f18, f19, f20, f21, f22, f23, f24, f25, f26, f27, f28, f29, f30, f31, _⟩ := h
  exact q_92v_54 (q0 := q0) (n0 := ρ 5) (n1 := ρ 4) (n2 := ρ 3) (n3 := ρ 2) (n4 := ρ 1) (n5 := ρ 0) (n6 := ρ 6) (n7 := ρ 7) (n8 := ρ 8) (n9 := ρ 9) (n10 := ρ 10) (n11 := ρ 11) (n12 := ρ 12) (H0 := η 0) (H1 := η 1) (H2 := η 2) f31 f30 f29 f28 f27 f26 f25 f24 f23 f22 f21 f20 f19 f18 f17 f16 f15 f14 f13 f12 f11 f10 f9 f8 f7 f6 f5 f4 f3 f2 f1 f0
set_option maxHeartbeats 20000000 in
def p_92v_14 : List vG := [([(1095, [1, 7], [1, 2], 0), (0, [7], [], 1), (35, [2], [], 0), (44, [5, 6], [], 0), (0, [6], [], 500), (5000, [0, 1, 2, 3, 4, 5], [0, 1], 14), (0, [0], [], 30), (0, [1], [], 30), (90, [2], [], -2147483648), (91, [2], [], 2147483647), (90, [3], [], -2147483648), (91, [3], [], 2147483647), (90, [4], [], -2147483648), (91, [4], [], 2147483647), (90, [5], [], -2147483648), (91, [5], [], 2147483647)], (3000, [], [2], 272)),
  ([(0, [7], [], 1), (34, [2], [], 0), (44, [5, 6], [], 0), (0, [6], [], 500), (5000, [0, 1, 2, 3, 4, 5], [0, 1], 14), (0, [0], [], 30), (0, [1], [], 30), (90, [2], [], -2147483648), (91, [2], [], 2147483647), (90, [3], [], -2147483648), (91, [3], [], 2147483647), (90, [4], [], -2147483648), (91, [4], [], 2147483647), (90, [5], [], -2147483648), (91, [5], [], 2147483647)], (2064, [1, 7], [1], 0)),
  ([(1095, [1, 8], [2, 3], 0), (0, [8], [], 1), (1064, [1, 7], [1, 2], 0), (0, [7], [], 1), (34, [2], [], 0), (44, [5, 6], [], 0), (0, [6], [], 500), (5000, [0, 1, 2, 3, 4, 5], [0, 1], 14), (0, [0], [], 30), (0, [1], [], 30), (90, [2], [], -2147483648), (91, [2], [], 2147483647), (90, [3], [], -2147483648), (91, [3], [], 2147483647), (90, [4], [], -2147483648), (91, [4], [], 2147483647), (90, [5], [], -2147483648), (91, [5], [], 2147483647)], (3000, [], [3], 272)),
  ([(1095, [1, 8], [1, 2], 0), (0, [8], [], 1), (35, [2], [], 0), (31, [7], [], 0), (20, [7, 1], [1], 3), (90, [7], [], -2147483648), (91, [7], [], 2147483647), (45, [5, 6], [], 0), (0, [6], [], 500), (5000, [0, 1, 2, 3, 4, 5], [0, 1], 14), (0, [0], [], 30), (0, [1], [], 30), (90, [2], [], -2147483648), (91, [2], [], 2147483647), (90, [3], [], -2147483648), (91, [3], [], 2147483647), (90, [4], [], -2147483648), (91, [4], [], 2147483647), (90, [5], [], -2147483648), (91, [5], [], 2147483647)], (3000, [], [2], 272)),
  ([(0, [8], [], 1), (34, [2], [], 0), (31, [7], [], 0), (20, [7, 1], [1], 3), (90, [7], [], -2147483648), (91, [7], [], 2147483647), (45, [5, 6], [], 0), (0, [6], [], 500), (5000, [0, 1, 2, 3, 4, 5], [0, 1], 14), (0, [0], [], 30), (0, [1], [], 30), (90, [2], [], -2147483648), (91, [2], [], 2147483647), (90, [3], [], -2147483648), (91, [3], [], 2147483647), (90, [4], [], -2147483648), (91, [4], [], 2147483647), (90, [5], [], -2147483648), (91, [5], [], 2147483647)], (2064, [1, 8], [1], 0)),
  ([(1095, [1, 9], [2, 3], 0), (0, [9], [], 1), (1064, [1, 8], [1, 2], 0), (0, [8], [], 1), (34, [2], [], 0), (31, [7], [], 0), (20, [7, 1], [1], 3), (90, [7], [], -2147483648), (91, [7], [], 2147483647), (45, [5, 6], [], 0), (0, [6], [], 500), (5000, [0, 1, 2, 3, 4, 5], [0, 1], 14), (0, [0], [], 30), (0, [1], [], 30), (90, [2], [], -2147483648), (91, [2], [], 2147483647), (90, [3], [], -2147483648), (91, [3], [], 2147483647), (90, [4], [], -2147483648), (91, [4], [], 2147483647), (90, [5], [], -2147483648), (91, [5], [], 2147483647)], (3000, [], [3], 272)),
  ([(1095, [1, 8], [1, 2], 0), (0, [8], [], 1), (35, [2], [], 0), (30, [4], [], 0), (30, [7], [], 0), (20, [7, 1], [1], 3), (90, [7], [], -2147483648), (91, [7], [], 2147483647), (45, [5, 6], [], 0), (0, [6], [], 500), (5000, [0, 1, 2, 3, 4, 5], [0, 1], 14), (0, [0], [], 30), (0, [1], [], 30), (90, [2], [], -2147483648), (91, [2], [], 2147483647), (90, [3], [], -2147483648), (91, [3], [], 2147483647), (90, [4], [], -2147483648), (91, [4], [], 2147483647), (90, [5], [], -2147483648), (91, [5], [], 2147483647)], (3000, [], [2], 272)),
  ([(0, [8], [], 1), (34, [2], [], 0), (30, [4], [], 0), (30, [7], [], 0), (20, [7, 1], [1], 3), (90, [7], [], -2147483648), (91, [7], [], 2147483647), (45, [5, 6], [], 0), (0, [6], [], 500), (5000, [0, 1, 2, 3, 4, 5], [0, 1], 14), (0, [0], [], 30), (0, [1], [], 30), (90, [2], [], -2147483648), (91, [2], [], 2147483647), (90, [3], [], -2147483648), (91, [3], [], 2147483647), (90, [4], [], -2147483648), (91, [4], [], 2147483647), (90, [5], [], -2147483648), (91, [5], [], 2147483647)], (2064, [1, 8], [1], 0)),
  ([(1095, [1, 9], [2, 3], 0), (0, [9], [], 1), (1064, [1, 8], [1, 2], 0), (0, [8], [], 1), (34, [2], [], 0), (30, [4], [], 0), (30, [7], [], 0), (20, [7, 1], [1], 3), (90, [7], [], -2147483648), (91, [7], [], 2147483647), (45, [5, 6], [], 0), (0, [6], [], 500), (5000, [0, 1, 2, 3, 4, 5], [0, 1], 14), (0, [0], [], 30), (0, [1], [], 30), (90, [2], [], -2147483648), (91, [2], [], 2147483647), (90, [3], [], -2147483648), (91, [3], [], 2147483647), (90, [4], [], -2147483648), (91, [4], [], 2147483647), (90, [5], [], -2147483648), (91, [5], [], 2147483647)], (3000, [], [3], 272)),
  ([(0, [13], [], 0), (42, [11, 12], [], 0), (0, [12], [], 6), (20, [11, 1], [1], 2), (90, [11], [], -2147483648), (91, [11], [], 2147483647), (41, [9, 10], [], 0), (0, [10], [], 11), (20, [9, 1], [1], 2), (90, [9], [], -2147483648), (91, [9], [], 2147483647), (30, [3], [], 0), (30, [3], [], 0), (20, [8, 1], [1], 2), (90, [8], [], -2147483648), (91, [8], [], 2147483647), (31, [4], [], 0), (30, [7], [], 0), (20, [7, 1], [1], 3), (90, [7], [], -2147483648), (91, [7], [], 2147483647), (45, [5, 6], [], 0), (0, [6], [], 500), (5000, [0, 1, 2, 3, 4, 5], [0, 1], 14), (0, [0], [], 30), (0, [1], [], 30), (90, [2], [], -2147483648), (91, [2], [], 2147483647), (90, [3], [], -2147483648), (91, [3], [], 2147483647), (90, [4], [], -2147483648), (91, [4], [], 2147483647), (90, [5], [], -2147483648), (91, [5], [], 2147483647)], (4000, [1, 2, 3, 13, 5, 8], [1], 228)),
  ([(0, [15], [], 0), (44, [13, 14], [], 0), (0, [14], [], 9), (20, [13, 1], [1], 2), (90, [13], [], -2147483648), (91, [13], [], 2147483647), (43, [11, 12], [], 0), (0, [12], [], 6), (20, [11, 1], [1], 2), (90, [11], [], -2147483648), (91, [11], [], 2147483647), (41, [9, 10], [], 0), (0, [10], [], 11), (20, [9, 1], [1], 2), (90, [9], [], -2147483648), (91, [9], [], 2147483647), (30, [3], [], 0), (30, [3], [], 0), (20, [8, 1], [1], 2), (90, [8], [], -2147483648), (91, [8], [], 2147483647), (31, [4], [], 0), (30, [7], [], 0), (20, [7, 1], [1], 3), (90, [7], [], -2147483648), (91, [7], [], 2147483647), (45, [5, 6], [], 0), (0, [6], [], 500), (5000, [0, 1, 2, 3, 4, 5], [0, 1], 14), (0, [0], [], 30), (0, [1], [], 30), (90, [2], [], -2147483648), (91, [2], [], 2147483647), (90, [3], [], -2147483648), (91, [3], [], 2147483647), (90, [4], [], -2147483648), (91, [4], [], 2147483647), (90, [5], [], -2147483648), (91, [5], [], 2147483647)], (4000, [1, 2, 3, 15, 5, 8], [1], 228)),
  ([(0, [18], [], 1), (1094, [1, 17], [3, 4], 0), (20, [17, 1], [3], 2), (90, [17], [], -2147483648), (91, [17], [], 2147483647), (1095, [1, 16], [2, 3], 0), (1093, [16, 15], [1, 2], 0), (90, [16], [], -2147483648), (91, [16], [], 2147483647), (20, [15, 1], [1], 2), (90, [15], [], -2147483648), (91, [15], [], 2147483647), (45, [13, 14], [], 0), (0, [14], [], 9), (20, [13, 1], [1], 2), (90, [13], [], -2147483648), (91, [13], [], 2147483647), (43, [11, 12], [], 0), (0, [12], [], 6), (20, [11, 1], [1], 2), (90, [11], [], -2147483648), (91, [11], [], 2147483647), (41, [9, 10], [], 0), (0, [10], [], 11), (20, [9, 1], [1], 2), (90, [9], [], -2147483648), (91, [9], [], 2147483647), (30, [3], [], 0), (30, [3], [], 0), (20, [8, 1], [1], 2), (90, [8], [], -2147483648), (91, [8], [], 2147483647), (31, [4], [], 0), (30, [7], [], 0), (20, [7, 1], [1], 3), (90, [7], [], -2147483648), (91, [7], [], 2147483647), (45, [5, 6], [], 0), (0, [6], [], 500), (5000, [0, 1, 2, 3, 4, 5], [0, 1], 14), (0, [0], [], 30), (0, [1], [], 30), (90, [2], [], -2147483648), (91, [2], [], 2147483647), (90, [3], [], -2147483648), (91, [3], [], 2147483647), (90, [4], [], -2147483648), (91, [4], [], 2147483647), (90, [5], [], -2147483648), (91, [5], [], 2147483647)], (4000, [1, 2, 18, 4, 5, 8], [4], 228)),
  ([(0, [13], [], 0), (42, [11, 12], [], 0), (0, [12], [], 6), (20, [11, 1], [1], 2), (90, [11], [], -2147483648), (91, [11], [], 2147483647), (35, [2], [], 0), (40, [9, 10], [], 0), (0, [10], [], 11), (20, [9, 1], [1], 2), (90, [9], [], -2147483648), (91, [9], [], 2147483647), (30, [3], [], 0), (30, [3], [], 0), (20, [8, 1], [1], 2), (90, [8], [], -2147483648), (91, [8], [], 2147483647), (31, [4], [], 0), (30, [7], [], 0), (20, [7, 1], [1], 3), (90, [7], [], -2147483648), (91, [7], [], 2147483647), (45, [5, 6], [], 0), (0, [6], [], 500), (5000, [0, 1, 2, 3, 4, 5], [0, 1], 14), (0, [0], [], 30), (0, [1], [], 30), (90, [2], [], -2147483648), (91, [2], [], 2147483647), (90, [3], [], -2147483648), (91, [3], [], 2147483647), (90, [4], [], -2147483648), (91, [4], [], 2147483647), (90, [5], [], -2147483648), (91, [5], [], 2147483647)], (4000, [1, 2, 3, 13, 5, 8], [1], 228)),
  ([(0, [15], [], 0), (44, [13, 14], [], 0), (0, [14], [], 9), (20, [13, 1], [1], 2), (90, [13], [], -2147483648), (91, [13], [], 2147483647), (43, [11, 12], [], 0), (0, [12], [], 6), (20, [11, 1], [1], 2), (90, [11], [], -2147483648), (91, [11], [], 2147483647), (35, [2], [], 0), (40, [9, 10], [], 0), (0, [10], [], 11), (20, [9, 1], [1], 2), (90, [9], [], -2147483648), (91, [9], [], 2147483647), (30, [3], [], 0), (30, [3], [], 0), (20, [8, 1], [1], 2), (90, [8], [], -2147483648), (91, [8], [], 2147483647), (31, [4], [], 0), (30, [7], [], 0), (20, [7, 1], [1], 3), (90, [7], [], -2147483648), (91, [7], [], 2147483647), (45, [5, 6], [], 0), (0, [6], [], 500), (5000, [0, 1, 2, 3, 4, 5], [0, 1], 14), (0, [0], [], 30), (0, [1], [], 30), (90, [2], [], -2147483648), (91, [2], [], 2147483647), (90, [3], [], -2147483648), (91, [3], [], 2147483647), (90, [4], [], -2147483648), (91, [4], [], 2147483647), (90, [5], [], -2147483648), (91, [5], [], 2147483647)], (4000, [1, 2, 3, 15, 5, 8], [1], 228)),
  ([(0, [18], [], 1), (1094, [1, 17], [3, 4], 0), (20, [17, 1], [3], 2), (90, [17], [], -2147483648), (91, [17], [], 2147483647), (1095, [1, 16], [2, 3], 0), (1093, [16, 15], [1, 2], 0), (90, [16], [], -2147483648), (91, [16], [], 2147483647), (20, [15, 1], [1], 2), (90, [15], [], -2147483648), (91, [15], [], 2147483647), (45, [13, 14], [], 0), (0, [14], [], 9), (20, [13, 1], [1], 2), (90, [13], [], -2147483648), (91, [13], [], 2147483647), (43, [11, 12], [], 0), (0, [12], [], 6), (20, [11, 1], [1], 2), (90, [11], [], -2147483648), (91, [11], [], 2147483647), (35, [2], [], 0), (40, [9, 10], [], 0), (0, [10], [], 11), (20, [9, 1], [1], 2), (90, [9], [], -2147483648), (91, [9], [], 2147483647), (30, [3], [], 0), (30, [3], [], 0), (20, [8, 1], [1], 2), (90, [8], [], -2147483648), (91, [8], [], 2147483647), (31, [4], [], 0), (30, [7], [], 0), (20, [7, 1], [1], 3), (90, [7], [], -2147483648), (91, [7], [], 2147483647), (45, [5, 6], [], 0), (0, [6], [], 500), (5000, [0, 1, 2, 3, 4, 5], [0, 1], 14), (0, [0], [], 30), (0, [1], [], 30), (90, [2], [], -2147483648), (91, [2], [], 2147483647), (90, [3], [], -2147483648), (91, [3], [], 2147483647), (90, [4], [], -2147483648), (91, [4], [], 2147483647), (90, [5], [], -2147483648), (91, [5], [], 2147483647)], (4000, [1, 2, 18, 4, 5, 8], [4], 228)),
  ([(10, [16, 2], [], -1), (80, [1, 15, 14], [3, 2], 0), (0, [15], [], 15), (2, [14, 12, 13], [], 0), (0, [13], [], 1), (20, [12, 1], [2], 15), (90, [12], [], -2147483648), (91, [12], [], 2147483647), (1095, [1, 11], [1, 2], 0), (0, [11], [], 1), (34, [2], [], 0), (40, [9, 10], [], 0), (0, [10], [], 11), (20, [9, 1], [1], 2), (90, [9], [], -2147483648), (91, [9], [], 2147483647), (30, [3], [], 0), (30, [3], [], 0), (20, [8, 1], [1], 2), (90, [8], [], -2147483648), (91, [8], [], 2147483647), (31, [4], [], 0), (30, [7], [], 0), (20, [7, 1], [1], 3), (90, [7], [], -2147483648), (91, [7], [], 2147483647), (45, [5, 6], [], 0), (0, [6], [], 500), (5000, [0, 1, 2, 3, 4, 5], [0, 1], 14), (0, [0], [], 30), (0, [1], [], 30), (90, [2], [], -2147483648), (91, [2], [], 2147483647), (90, [3], [], -2147483648), (91, [3], [], 2147483647), (90, [4], [], -2147483648), (91, [4], [], 2147483647), (90, [5], [], -2147483648), (91, [5], [], 2147483647)], (4000, [1, 16, 3, 4, 5, 8], [3], 228)),
  ([(20, [14, 1], [1], 1), (90, [14], [], -2147483648), (91, [14], [], 2147483647), (20, [13, 1], [1], 0), (0, [13], [], 31), (42, [9, 10], [], 0), (0, [10], [], 45), (20, [9, 1], [1], 2), (90, [9], [], -2147483648), (91, [9], [], 2147483647), (31, [3], [], 0), (30, [3], [], 0), (20, [8, 1], [1], 2), (90, [8], [], -2147483648), (91, [8], [], 2147483647), (31, [4], [], 0), (30, [7], [], 0), (20, [7, 1], [1], 3), (90, [7], [], -2147483648), (91, [7], [], 2147483647), (45, [5, 6], [], 0), (0, [6], [], 500), (5000, [0, 1, 2, 3, 4, 5], [0, 1], 14), (0, [0], [], 30), (0, [1], [], 30), (90, [2], [], -2147483648), (91, [2], [], 2147483647), (90, [3], [], -2147483648), (91, [3], [], 2147483647), (90, [4], [], -2147483648), (91, [4], [], 2147483647), (90, [5], [], -2147483648), (91, [5], [], 2147483647)], (2123, [13, 14], [1], 0)),
  ([(0, [18], [], 0), (0, [17], [], 3), (1098, [12, 16], [2, 3], 0), (18, [16, 15], [], 0), (1123, [15, 13, 14], [1, 2], 0), (20, [14, 1], [1], 1), (90, [14], [], -2147483648), (91, [14], [], 2147483647), (20, [13, 1], [1], 0), (0, [13], [], 31), (20, [12, 1], [1], 8), (51, [12], [], 0), (42, [9, 10], [], 0), (0, [10], [], 45), (20, [9, 1], [1], 2), (90, [9], [], -2147483648), (91, [9], [], 2147483647), (31, [3], [], 0), (30, [3], [], 0), (20, [8, 1], [1], 2), (90, [8], [], -2147483648), (91, [8], [], 2147483647), (31, [4], [], 0), (30, [7], [], 0), (20, [7, 1], [1], 3), (90, [7], [], -2147483648), (91, [7], [], 2147483647), (45, [5, 6], [], 0), (0, [6], [], 500), (5000, [0, 1, 2, 3, 4, 5], [0, 1], 14), (0, [0], [], 30), (0, [1], [], 30), (90, [2], [], -2147483648), (91, [2], [], 2147483647), (90, [3], [], -2147483648), (91, [3], [], 2147483647), (90, [4], [], -2147483648), (91, [4], [], 2147483647), (90, [5], [], -2147483648), (91, [5], [], 2147483647)], (4000, [1, 2, 18, 4, 5, 17], [3], 228)),
  ([(0, [18], [], 0), (20, [17, 1], [3], 2), (90, [17], [], -2147483648), (91, [17], [], 2147483647), (31, [11], [], 0), (1098, [12, 16], [2, 3], 0), (18, [16, 15], [], 0), (1123, [15, 13, 14], [1, 2], 0), (20, [14, 1], [1], 1), (90, [14], [], -2147483648), (91, [14], [], 2147483647), (20, [13, 1], [1], 0), (0, [13], [], 31), (30, [11], [], 0), (20, [12, 1], [1], 8), (51, [12], [], 0), (0, [11], [], 0), (42, [9, 10], [], 0), (0, [10], [], 45), (20, [9, 1], [1], 2), (90, [9], [], -2147483648), (91, [9], [], 2147483647), (31, [3], [], 0), (30, [3], [], 0), (20, [8, 1], [1], 2), (90, [8], [], -2147483648), (91, [8], [], 2147483647), (31, [4], [], 0), (30, [7], [], 0), (20, [7, 1], [1], 3), (90, [7], [], -2147483648), (91, [7], [], 2147483647), (45, [5, 6], [], 0), (0, [6], [], 500), (5000, [0, 1, 2, 3, 4, 5], [0, 1], 14), (0, [0], [], 30), (0, [1], [], 30), (90, [2], [], -2147483648), (91, [2], [], 2147483647), (90, [3], [], -2147483648), (91, [3], [], 2147483647), (90, [4], [], -2147483648), (91, [4], [], 2147483647), (90, [5], [], -2147483648), (91, [5], [], 2147483647)], (4000, [1, 2, 18, 4, 5, 17], [3], 228)),
  ([(0, [17], [], 0), (0, [16], [], 3), (30, [11], [], 0), (1098, [12, 15], [1, 2], 0), (1, [15, 13, 14], [], 0), (20, [14, 1], [1], 2), (90, [14], [], -2147483648), (91, [14], [], 2147483647), (0, [13], [], 10000), (31, [11], [], 0), (20, [12, 1], [1], 8), (51, [12], [], 0), (0, [11], [], 0), (42, [9, 10], [], 0), (0, [10], [], 45), (20, [9, 1], [1], 2), (90, [9], [], -2147483648), (91, [9], [], 2147483647), (31, [3], [], 0), (30, [3], [], 0), (20, [8, 1], [1], 2), (90, [8], [], -2147483648), (91, [8], [], 2147483647), (31, [4], [], 0), (30, [7], [], 0), (20, [7, 1], [1], 3), (90, [7], [], -2147483648), (91, [7], [], 2147483647), (45, [5, 6], [], 0), (0, [6], [], 500), (5000, [0, 1, 2, 3, 4, 5], [0, 1], 14), (0, [0], [], 30), (0, [1], [], 30), (90, [2], [], -2147483648), (91, [2], [], 2147483647), (90, [3], [], -2147483648), (91, [3], [], 2147483647), (90, [4], [], -2147483648), (91, [4], [], 2147483647), (90, [5], [], -2147483648), (91, [5], [], 2147483647)], (4000, [1, 2, 17, 4, 5, 16], [2], 228)),
  ([(0, [17], [], 0), (20, [16, 1], [2], 2), (90, [16], [], -2147483648), (91, [16], [], 2147483647), (31, [11], [], 0), (1098, [12, 15], [1, 2], 0), (1, [15, 13, 14], [], 0), (20, [14, 1], [1], 2), (90, [14], [], -2147483648), (91, [14], [], 2147483647), (0, [13], [], 10000), (31, [11], [], 0), (20, [12, 1], [1], 8), (51, [12], [], 0), (0, [11], [], 0), (42, [9, 10], [], 0), (0, [10], [], 45), (20, [9, 1], [1], 2), (90, [9], [], -2147483648), (91, [9], [], 2147483647), (31, [3], [], 0), (30, [3], [], 0), (20, [8, 1], [1], 2), (90, [8], [], -2147483648), (91, [8], [], 2147483647), (31, [4], [], 0), (30, [7], [], 0), (20, [7, 1], [1], 3), (90, [7], [], -2147483648), (91, [7], [], 2147483647), (45, [5, 6], [], 0), (0, [6], [], 500), (5000, [0, 1, 2, 3, 4, 5], [0, 1], 14), (0, [0], [], 30), (0, [1], [], 30), (90, [2], [], -2147483648), (91, [2], [], 2147483647), (90, [3], [], -2147483648), (91, [3], [], 2147483647), (90, [4], [], -2147483648), (91, [4], [], 2147483647), (90, [5], [], -2147483648), (91, [5], [], 2147483647)], (4000, [1, 2, 17, 4, 5, 16], [2], 228)),
  ([(20, [16, 1], [1], 1), (90, [16], [], -2147483648), (91, [16], [], 2147483647), (20, [15, 1], [1], 0), (0, [15], [], 31), (44, [11, 12], [], 0), (0, [12], [], 49), (20, [11, 1], [1], 2), (90, [11], [], -2147483648), (91, [11], [], 2147483647), (43, [9, 10], [], 0), (0, [10], [], 45), (20, [9, 1], [1], 2), (90, [9], [], -2147483648), (91, [9], [], 2147483647), (31, [3], [], 0), (30, [3], [], 0), (20, [8, 1], [1], 2), (90, [8], [], -2147483648), (91, [8], [], 2147483647), (31, [4], [], 0), (30, [7], [], 0), (20, [7, 1], [1], 3), (90, [7], [], -2147483648), (91, [7], [], 2147483647), (45, [5, 6], [], 0), (0, [6], [], 500), (5000, [0, 1, 2, 3, 4, 5], [0, 1], 14), (0, [0], [], 30), (0, [1], [], 30), (90, [2], [], -2147483648), (91, [2], [], 2147483647), (90, [3], [], -2147483648), (91, [3], [], 2147483647), (90, [4], [], -2147483648), (91, [4], [], 2147483647), (90, [5], [], -2147483648), (91, [5], [], 2147483647)], (2123, [15, 16], [1], 0)),
  ([(0, [20], [], 0), (0, [19], [], 3), (1098, [14, 18], [2, 3], 0), (18, [18, 17], [], 0), (1123, [17, 15, 16], [1, 2], 0), (20, [16, 1], [1], 1), (90, [16], [], -2147483648), (91, [16], [], 2147483647), (20, [15, 1], [1], 0), (0, [15], [], 31), (20, [14, 1], [1], 8), (51, [14], [], 0), (44, [11, 12], [], 0), (0, [12], [], 49), (20, [11, 1], [1], 2), (90, [11], [], -2147483648), (91, [11], [], 2147483647), (43, [9, 10], [], 0), (0, [10], [], 45), (20, [9, 1], [1], 2), (90, [9], [], -2147483648), (91, [9], [], 2147483647), (31, [3], [], 0), (30, [3], [], 0), (20, [8, 1], [1], 2), (90, [8], [], -2147483648), (91, [8], [], 2147483647), (31, [4], [], 0), (30, [7], [], 0), (20, [7, 1], [1], 3), (90, [7], [], -2147483648), (91, [7], [], 2147483647), (45, [5, 6], [], 0), (0, [6], [], 500), (5000, [0, 1, 2, 3, 4, 5], [0, 1], 14), (0, [0], [], 30), (0, [1], [], 30), (90, [2], [], -2147483648), (91, [2], [], 2147483647), (90, [3], [], -2147483648), (91, [3], [], 2147483647), (90, [4], [], -2147483648), (91, [4], [], 2147483647), (90, [5], [], -2147483648), (91, [5], [], 2147483647)], (4000, [1, 2, 20, 4, 5, 19], [3], 228)),
  ([(0, [20], [], 0), (20, [19, 1], [3], 2), (90, [19], [], -2147483648), (91, [19], [], 2147483647), (31, [13], [], 0), (1098, [14, 18], [2, 3], 0), (18, [18, 17], [], 0), (1123, [17, 15, 16], [1, 2], 0), (20, [16, 1], [1], 1), (90, [16], [], -2147483648), (91, [16], [], 2147483647), (20, [15, 1], [1], 0), (0, [15], [], 31), (30, [13], [], 0), (20, [14, 1], [1], 8), (51, [14], [], 0), (0, [13], [], 0), (44, [11, 12], [], 0), (0, [12], [], 49), (20, [11, 1], [1], 2), (90, [11], [], -2147483648), (91, [11], [], 2147483647), (43, [9, 10], [], 0), (0, [10], [], 45), (20, [9, 1], [1], 2), (90, [9], [], -2147483648), (91, [9], [], 2147483647), (31, [3], [], 0), (30, [3], [], 0), (20, [8, 1], [1], 2), (90, [8], [], -2147483648), (91, [8], [], 2147483647), (31, [4], [], 0), (30, [7], [], 0), (20, [7, 1], [1], 3), (90, [7], [], -2147483648), (91, [7], [], 2147483647), (45, [5, 6], [], 0), (0, [6], [], 500), (5000, [0, 1, 2, 3, 4, 5], [0, 1], 14), (0, [0], [], 30), (0, [1], [], 30), (90, [2], [], -2147483648), (91, [2], [], 2147483647), (90, [3], [], -2147483648), (91, [3], [], 2147483647), (90, [4], [], -2147483648), (91, [4], [], 2147483647), (90, [5], [], -2147483648), (91, [5], [], 2147483647)], (4000, [1, 2, 20, 4, 5, 19], [3], 228)),
  ([(0, [19], [], 0), (0, [18], [], 3), (30, [13], [], 0), (1098, [14, 17], [1, 2], 0), (1, [17, 15, 16], [], 0), (20, [16, 1], [1], 2), (90, [16], [], -2147483648), (91, [16], [], 2147483647), (0, [15], [], 10000), (31, [13], [], 0), (20, [14, 1], [1], 8), (51, [14], [], 0), (0, [13], [], 0), (44, [11, 12], [], 0), (0, [12], [], 49), (20, [11, 1], [1], 2), (90, [11], [], -2147483648), (91, [11], [], 2147483647), (43, [9, 10], [], 0), (0, [10], [], 45), (20, [9, 1], [1], 2), (90, [9], [], -2147483648), (91, [9], [], 2147483647), (31, [3], [], 0), (30, [3], [], 0), (20, [8, 1], [1], 2), (90, [8], [], -2147483648), (91, [8], [], 2147483647), (31, [4], [], 0), (30, [7], [], 0), (20, [7, 1], [1], 3), (90, [7], [], -2147483648), (91, [7], [], 2147483647), (45, [5, 6], [], 0), (0, [6], [], 500), (5000, [0, 1, 2, 3, 4, 5], [0, 1], 14), (0, [0], [], 30), (0, [1], [], 30), (90, [2], [], -2147483648), (91, [2], [], 2147483647), (90, [3], [], -2147483648), (91, [3], [], 2147483647), (90, [4], [], -2147483648), (91, [4], [], 2147483647), (90, [5], [], -2147483648), (91, [5], [], 2147483647)], (4000, [1, 2, 19, 4, 5, 18], [2], 228)),
  ([(0, [19], [], 0), (20, [18, 1], [2], 2), (90, [18], [], -2147483648), (91, [18], [], 2147483647), (31, [13], [], 0), (1098, [14, 17], [1, 2], 0), (1, [17, 15, 16], [], 0), (20, [16, 1], [1], 2), (90, [16], [], -2147483648), (91, [16], [], 2147483647), (0, [15], [], 10000), (31, [13], [], 0), (20, [14, 1], [1], 8), (51, [14], [], 0), (0, [13], [], 0), (44, [11, 12], [], 0), (0, [12], [], 49), (20, [11, 1], [1], 2), (90, [11], [], -2147483648), (91, [11], [], 2147483647), (43, [9, 10], [], 0), (0, [10], [], 45), (20, [9, 1], [1], 2), (90, [9], [], -2147483648), (91, [9], [], 2147483647), (31, [3], [], 0), (30, [3], [], 0), (20, [8, 1], [1], 2), (90, [8], [], -2147483648), (91, [8], [], 2147483647), (31, [4], [], 0), (30, [7], [], 0), (20, [7, 1], [1], 3), (90, [7], [], -2147483648), (91, [7], [], 2147483647), (45, [5, 6], [], 0), (0, [6], [], 500), (5000, [0, 1, 2, 3, 4, 5], [0, 1], 14), (0, [0], [], 30), (0, [1], [], 30), (90, [2], [], -2147483648), (91, [2], [], 2147483647), (90, [3], [], -2147483648), (91, [3], [], 2147483647), (90, [4], [], -2147483648), (91, [4], [], 2147483647), (90, [5], [], -2147483648), (91, [5], [], 2147483647)], (4000, [1, 2, 19, 4, 5, 18], [2], 228)),
  ([(20, [16, 1], [1], 1), (90, [16], [], -2147483648), (91, [16], [], 2147483647), (20, [15, 1], [1], 0), (0, [15], [], 31), (30, [13], [], 0), (0, [13], [], 1), (45, [11, 12], [], 0), (0, [12], [], 49), (20, [11, 1], [1], 2), (90, [11], [], -2147483648), (91, [11], [], 2147483647), (43, [9, 10], [], 0), (0, [10], [], 45), (20, [9, 1], [1], 2), (90, [9], [], -2147483648), (91, [9], [], 2147483647), (31, [3], [], 0), (30, [3], [], 0), (20, [8, 1], [1], 2), (90, [8], [], -2147483648), (91, [8], [], 2147483647), (31, [4], [], 0), (30, [7], [], 0), (20, [7, 1], [1], 3), (90, [7], [], -2147483648), (91, [7], [], 2147483647), (45, [5, 6], [], 0), (0, [6], [], 500), (5000, [0, 1, 2, 3, 4, 5], [0, 1], 14), (0, [0], [], 30), (0, [1], [], 30), (90, [2], [], -2147483648), (91, [2], [], 2147483647), (90, [3], [], -2147483648), (91, [3], [], 2147483647), (90, [4], [], -2147483648), (91, [4], [], 2147483647), (90, [5], [], -2147483648), (91, [5], [], 2147483647)], (2123, [15, 16], [1], 0)),
  ([(0, [20], [], 0), (0, [19], [], 3), (30, [13], [], 0), (1098, [14, 18], [2, 3], 0), (18, [18, 17], [], 0), (1123, [17, 15, 16], [1, 2], 0), (20, [16, 1], [1], 1), (90, [16], [], -2147483648), (91, [16], [], 2147483647), (20, [15, 1], [1], 0), (0, [15], [], 31), (30, [13], [], 0), (20, [14, 1], [1], 8), (51, [14], [], 0), (0, [13], [], 1), (45, [11, 12], [], 0), (0, [12], [], 49), (20, [11, 1], [1], 2), (90, [11], [], -2147483648), (91, [11], [], 2147483647), (43, [9, 10], [], 0), (0, [10], [], 45), (20, [9, 1], [1], 2), (90, [9], [], -2147483648), (91, [9], [], 2147483647), (31, [3], [], 0), (30, [3], [], 0), (20, [8, 1], [1], 2), (90, [8], [], -2147483648), (91, [8], [], 2147483647), (31, [4], [], 0), (30, [7], [], 0), (20, [7, 1], [1], 3), (90, [7], [], -2147483648), (91, [7], [], 2147483647), (45, [5, 6], [], 0), (0, [6], [], 500), (5000, [0, 1, 2, 3, 4, 5], [0, 1], 14), (0, [0], [], 30), (0, [1], [], 30), (90, [2], [], -2147483648), (91, [2], [], 2147483647), (90, [3], [], -2147483648), (91, [3], [], 2147483647), (90, [4], [], -2147483648), (91, [4], [], 2147483647), (90, [5], [], -2147483648), (91, [5], [], 2147483647)], (4000, [1, 2, 20, 4, 5, 19], [3], 228)),
  ([(0, [20], [], 0), (20, [19, 1], [3], 2), (90, [19], [], -2147483648), (91, [19], [], 2147483647), (31, [13], [], 0), (1098, [14, 18], [2, 3], 0), (18, [18, 17], [], 0), (1123, [17, 15, 16], [1, 2], 0), (20, [16, 1], [1], 1), (90, [16], [], -2147483648), (91, [16], [], 2147483647), (20, [15, 1], [1], 0), (0, [15], [], 31), (30, [13], [], 0), (20, [14, 1], [1], 8), (51, [14], [], 0), (0, [13], [], 1), (45, [11, 12], [], 0), (0, [12], [], 49), (20, [11, 1], [1], 2), (90, [11], [], -2147483648), (91, [11], [], 2147483647), (43, [9, 10], [], 0), (0, [10], [], 45), (20, [9, 1], [1], 2), (90, [9], [], -2147483648), (91, [9], [], 2147483647), (31, [3], [], 0), (30, [3], [], 0), (20, [8, 1], [1], 2), (90, [8], [], -2147483648), (91, [8], [], 2147483647), (31, [4], [], 0), (30, [7], [], 0), (20, [7, 1], [1], 3), (90, [7], [], -2147483648), (91, [7], [], 2147483647), (45, [5, 6], [], 0), (0, [6], [], 500), (5000, [0, 1, 2, 3, 4, 5], [0, 1], 14), (0, [0], [], 30), (0, [1], [], 30), (90, [2], [], -2147483648), (91, [2], [], 2147483647), (90, [3], [], -2147483648), (91, [3], [], 2147483647), (90, [4], [], -2147483648), (91, [4], [], 2147483647), (90, [5], [], -2147483648), (91, [5], [], 2147483647)], (4000, [1, 2, 20, 4, 5, 19], [3], 228)),
  ([(0, [19], [], 0), (0, [18], [], 3), (30, [13], [], 0), (1098, [14, 17], [1, 2], 0), (1, [17, 15, 16], [], 0), (20, [16, 1], [1], 2), (90, [16], [], -2147483648), (91, [16], [], 2147483647), (0, [15], [], 10000), (31, [13], [], 0), (20, [14, 1], [1], 8), (51, [14], [], 0), (0, [13], [], 1), (45, [11, 12], [], 0), (0, [12], [], 49), (20, [11, 1], [1], 2), (90, [11], [], -2147483648), (91, [11], [], 2147483647), (43, [9, 10], [], 0), (0, [10], [], 45), (20, [9, 1], [1], 2), (90, [9], [], -2147483648), (91, [9], [], 2147483647), (31, [3], [], 0), (30, [3], [], 0), (20, [8, 1], [1], 2), (90, [8], [], -2147483648), (91, [8], [], 2147483647), (31, [4], [], 0), (30, [7], [], 0), (20, [7, 1], [1], 3), (90, [7], [], -2147483648), (91, [7], [], 2147483647), (45, [5, 6], [], 0), (0, [6], [], 500), (5000, [0, 1, 2, 3, 4, 5], [0, 1], 14), (0, [0], [], 30), (0, [1], [], 30), (90, [2], [], -2147483648), (91, [2], [], 2147483647), (90, [3], [], -2147483648), (91, [3], [], 2147483647), (90, [4], [], -2147483648), (91, [4], [], 2147483647), (90, [5], [], -2147483648), (91, [5], [], 2147483647)], (4000, [1, 2, 19, 4, 5, 18], [2], 228)),
  ([(0, [19], [], 0), (20, [18, 1], [2], 2), (90, [18], [], -2147483648), (91, [18], [], 2147483647), (1098, [14, 17], [1, 2], 0), (1, [17, 15, 16], [], 0), (20, [16, 1], [1], 2), (90, [16], [], -2147483648), (91, [16], [], 2147483647), (0, [15], [], 10000), (20, [14, 1], [1], 8), (51, [14], [], 0), (45, [11, 12], [], 0), (0, [12], [], 49), (20, [11, 1], [1], 2), (90, [11], [], -2147483648), (91, [11], [], 2147483647), (43, [9, 10], [], 0), (0, [10], [], 45), (20, [9, 1], [1], 2), (90, [9], [], -2147483648), (91, [9], [], 2147483647), (31, [3], [], 0), (30, [3], [], 0), (20, [8, 1], [1], 2), (90, [8], [], -2147483648), (91, [8], [], 2147483647), (31, [4], [], 0), (30, [7], [], 0), (20, [7, 1], [1], 3), (90, [7], [], -2147483648), (91, [7], [], 2147483647), (45, [5, 6], [], 0), (0, [6], [], 500), (5000, [0, 1, 2, 3, 4, 5], [0, 1], 14), (0, [0], [], 30), (0, [1], [], 30), (90, [2], [], -2147483648), (91, [2], [], 2147483647), (90, [3], [], -2147483648), (91, [3], [], 2147483647), (90, [4], [], -2147483648), (91, [4], [], 2147483647), (90, [5], [], -2147483648), (91, [5], [], 2147483647)], (4000, [1, 2, 19, 4, 5, 18], [2], 228)),
  ([(0, [15], [], 0), (42, [13, 14], [], 0), (0, [14], [], 6), (20, [13, 1], [1], 2), (90, [13], [], -2147483648), (91, [13], [], 2147483647), (41, [11, 12], [], 0), (0, [12], [], 11), (20, [11, 1], [1], 2), (90, [11], [], -2147483648), (91, [11], [], 2147483647), (30, [3], [], 0), (41, [9, 10], [], 0), (0, [10], [], 10), (20, [9, 1], [1], 2), (90, [9], [], -2147483648), (91, [9], [], 2147483647), (31, [3], [], 0), (20, [8, 1], [1], 2), (90, [8], [], -2147483648), (91, [8], [], 2147483647), (31, [4], [], 0), (30, [7], [], 0), (20, [7, 1], [1], 3), (90, [7], [], -2147483648), (91, [7], [], 2147483647), (45, [5, 6], [], 0), (0, [6], [], 500), (5000, [0, 1, 2, 3, 4, 5], [0, 1], 14), (0, [0], [], 30), (0, [1], [], 30), (90, [2], [], -2147483648), (91, [2], [], 2147483647), (90, [3], [], -2147483648), (91, [3], [], 2147483647), (90, [4], [], -2147483648), (91, [4], [], 2147483647), (90, [5], [], -2147483648), (91, [5], [], 2147483647)], (4000, [1, 2, 3, 15, 5, 8], [1], 228)),
  ([(0, [17], [], 0), (44, [15, 16], [], 0), (0, [16], [], 9), (20, [15, 1], [1], 2), (90, [15], [], -2147483648), (91, [15], [], 2147483647), (43, [13, 14], [], 0), (0, [14], [], 6), (20, [13, 1], [1], 2), (90, [13], [], -2147483648), (91, [13], [], 2147483647), (41, [11, 12], [], 0), (0, [12], [], 11), (20, [11, 1], [1], 2), (90, [11], [], -2147483648), (91, [11], [], 2147483647), (30, [3], [], 0), (41, [9, 10], [], 0), (0, [10], [], 10), (20, [9, 1], [1], 2), (90, [9], [], -2147483648), (91, [9], [], 2147483647), (31, [3], [], 0), (20, [8, 1], [1], 2), (90, [8], [], -2147483648), (91, [8], [], 2147483647), (31, [4], [], 0), (30, [7], [], 0), (20, [7, 1], [1], 3), (90, [7], [], -2147483648), (91, [7], [], 2147483647), (45, [5, 6], [], 0), (0, [6], [], 500), (5000, [0, 1, 2, 3, 4, 5], [0, 1], 14), (0, [0], [], 30), (0, [1], [], 30), (90, [2], [], -2147483648), (91, [2], [], 2147483647), (90, [3], [], -2147483648), (91, [3], [], 2147483647), (90, [4], [], -2147483648), (91, [4], [], 2147483647), (90, [5], [], -2147483648), (91, [5], [], 2147483647)], (4000, [1, 2, 3, 17, 5, 8], [1], 228)),
  ([(0, [20], [], 1), (1094, [1, 19], [3, 4], 0), (20, [19, 1], [3], 2), (90, [19], [], -2147483648), (91, [19], [], 2147483647), (1095, [1, 18], [2, 3], 0), (1093, [18, 17], [1, 2], 0), (90, [18], [], -2147483648), (91, [18], [], 2147483647), (20, [17, 1], [1], 2), (90, [17], [], -2147483648), (91, [17], [], 2147483647), (45, [15, 16], [], 0), (0, [16], [], 9), (20, [15, 1], [1], 2), (90, [15], [], -2147483648), (91, [15], [], 2147483647), (43, [13, 14], [], 0), (0, [14], [], 6), (20, [13, 1], [1], 2), (90, [13], [], -2147483648), (91, [13], [], 2147483647), (41, [11, 12], [], 0), (0, [12], [], 11), (20, [11, 1], [1], 2), (90, [11], [], -2147483648), (91, [11], [], 2147483647), (30, [3], [], 0), (41, [9, 10], [], 0), (0, [10], [], 10), (20, [9, 1], [1], 2), (90, [9], [], -2147483648), (91, [9], [], 2147483647), (31, [3], [], 0), (20, [8, 1], [1], 2), (90, [8], [], -2147483648), (91, [8], [], 2147483647), (31, [4], [], 0), (30, [7], [], 0), (20, [7, 1], [1], 3), (90, [7], [], -2147483648), (91, [7], [], 2147483647), (45, [5, 6], [], 0), (0, [6], [], 500), (5000, [0, 1, 2, 3, 4, 5], [0, 1], 14), (0, [0], [], 30), (0, [1], [], 30), (90, [2], [], -2147483648), (91, [2], [], 2147483647), (90, [3], [], -2147483648), (91, [3], [], 2147483647), (90, [4], [], -2147483648), (91, [4], [], 2147483647), (90, [5], [], -2147483648), (91, [5], [], 2147483647)], (4000, [1, 2, 20, 4, 5, 8], [4], 228)),
  ([(0, [15], [], 0), (42, [13, 14], [], 0), (0, [14], [], 6), (20, [13, 1], [1], 2), (90, [13], [], -2147483648), (91, [13], [], 2147483647), (35, [2], [], 0), (40, [11, 12], [], 0), (0, [12], [], 11), (20, [11, 1], [1], 2), (90, [11], [], -2147483648), (91, [11], [], 2147483647), (30, [3], [], 0), (41, [9, 10], [], 0), (0, [10], [], 10), (20, [9, 1], [1], 2), (90, [9], [], -2147483648), (91, [9], [], 2147483647), (31, [3], [], 0), (20, [8, 1], [1], 2), (90, [8], [], -2147483648), (91, [8], [], 2147483647), (31, [4], [], 0), (30, [7], [], 0), (20, [7, 1], [1], 3), (90, [7], [], -2147483648), (91, [7], [], 2147483647), (45, [5, 6], [], 0), (0, [6], [], 500), (5000, [0, 1, 2, 3, 4, 5], [0, 1], 14), (0, [0], [], 30), (0, [1], [], 30), (90, [2], [], -2147483648), (91, [2], [], 2147483647), (90, [3], [], -2147483648), (91, [3], [], 2147483647), (90, [4], [], -2147483648), (91, [4], [], 2147483647), (90, [5], [], -2147483648), (91, [5], [], 2147483647)], (4000, [1, 2, 3, 15, 5, 8], [1], 228)),
  ([(0, [17], [], 0), (44, [15, 16], [], 0), (0, [16], [], 9), (20, [15, 1], [1], 2), (90, [15], [], -2147483648), (91, [15], [], 2147483647), (43, [13, 14], [], 0), (0, [14], [], 6), (20, [13, 1], [1], 2), (90, [13], [], -2147483648), (91, [13], [], 2147483647), (35, [2], [], 0), (40, [11, 12], [], 0), (0, [12], [], 11), (20, [11, 1], [1], 2), (90, [11], [], -2147483648), (91, [11], [], 2147483647), (30, [3], [], 0), (41, [9, 10], [], 0), (0, [10], [], 10), (20, [9, 1], [1], 2), (90, [9], [], -2147483648), (91, [9], [], 2147483647), (31, [3], [], 0), (20, [8, 1], [1], 2), (90, [8], [], -2147483648), (91, [8], [], 2147483647), (31, [4], [], 0), (30, [7], [], 0), (20, [7, 1], [1], 3), (90, [7], [], -2147483648), (91, [7], [], 2147483647), (45, [5, 6], [], 0), (0, [6], [], 500), (5000, [0, 1, 2, 3, 4, 5], [0, 1], 14), (0, [0], [], 30), (0, [1], [], 30), (90, [2], [], -2147483648), (91, [2], [], 2147483647), (90, [3], [], -2147483648), (91, [3], [], 2147483647), (90, [4], [], -2147483648), (91, [4], [], 2147483647), (90, [5], [], -2147483648), (91, [5], [], 2147483647)], (4000, [1, 2, 3, 17, 5, 8], [1], 228)),
  ([(0, [20], [], 1), (1094, [1, 19], [3, 4], 0), (20, [19, 1], [3], 2), (90, [19], [], -2147483648), (91, [19], [], 2147483647), (1095, [1, 18], [2, 3], 0), (1093, [18, 17], [1, 2], 0), (90, [18], [], -2147483648), (91, [18], [], 2147483647), (20, [17, 1], [1], 2), (90, [17], [], -2147483648), (91, [17], [], 2147483647), (45, [15, 16], [], 0), (0, [16], [], 9), (20, [15, 1], [1], 2), (90, [15], [], -2147483648), (91, [15], [], 2147483647), (43, [13, 14], [], 0), (0, [14], [], 6), (20, [13, 1], [1], 2), (90, [13], [], -2147483648), (91, [13], [], 2147483647), (35, [2], [], 0), (40, [11, 12], [], 0), (0, [12], [], 11), (20, [11, 1], [1], 2), (90, [11], [], -2147483648), (91, [11], [], 2147483647), (30, [3], [], 0), (41, [9, 10], [], 0), (0, [10], [], 10), (20, [9, 1], [1], 2), (90, [9], [], -2147483648), (91, [9], [], 2147483647), (31, [3], [], 0), (20, [8, 1], [1], 2), (90, [8], [], -2147483648), (91, [8], [], 2147483647), (31, [4], [], 0), (30, [7], [], 0), (20, [7, 1], [1], 3), (90, [7], [], -2147483648), (91, [7], [], 2147483647), (45, [5, 6], [], 0), (0, [6], [], 500), (5000, [0, 1, 2, 3, 4, 5], [0, 1], 14), (0, [0], [], 30), (0, [1], [], 30), (90, [2], [], -2147483648), (91, [2], [], 2147483647), (90, [3], [], -2147483648), (91, [3], [], 2147483647), (90, [4], [], -2147483648), (91, [4], [], 2147483647), (90, [5], [], -2147483648), (91, [5], [], 2147483647)], (4000, [1, 2, 20, 4, 5, 8], [4], 228)),
  ([(10, [18, 2], [], -1), (80, [1, 17, 16], [3, 2], 0), (0, [17], [], 15), (2, [16, 14, 15], [], 0), (0, [15], [], 1), (20, [14, 1], [2], 15), (90, [14], [], -2147483648), (91, [14], [], 2147483647), (1095, [1, 13], [1, 2], 0), (0, [13], [], 1), (34, [2], [], 0), (40, [11, 12], [], 0), (0, [12], [], 11), (20, [11, 1], [1], 2), (90, [11], [], -2147483648), (91, [11], [], 2147483647), (30, [3], [], 0), (41, [9, 10], [], 0), (0, [10], [], 10), (20, [9, 1], [1], 2), (90, [9], [], -2147483648), (91, [9], [], 2147483647), (31, [3], [], 0), (20, [8, 1], [1], 2), (90, [8], [], -2147483648), (91, [8], [], 2147483647), (31, [4], [], 0), (30, [7], [], 0), (20, [7, 1], [1], 3), (90, [7], [], -2147483648), (91, [7], [], 2147483647), (45, [5, 6], [], 0), (0, [6], [], 500), (5000, [0, 1, 2, 3, 4, 5], [0, 1], 14), (0, [0], [], 30), (0, [1], [], 30), (90, [2], [], -2147483648), (91, [2], [], 2147483647), (90, [3], [], -2147483648), (91, [3], [], 2147483647), (90, [4], [], -2147483648), (91, [4], [], 2147483647), (90, [5], [], -2147483648), (91, [5], [], 2147483647)], (4000, [1, 18, 3, 4, 5, 8], [3], 228)),
  ([(20, [16, 1], [1], 1), (90, [16], [], -2147483648), (91, [16], [], 2147483647), (20, [15, 1], [1], 0), (0, [15], [], 31), (42, [11, 12], [], 0), (0, [12], [], 45), (20, [11, 1], [1], 2), (90, [11], [], -2147483648), (91, [11], [], 2147483647), (31, [3], [], 0), (41, [9, 10], [], 0), (0, [10], [], 10), (20, [9, 1], [1], 2), (90, [9], [], -2147483648), (91, [9], [], 2147483647), (31, [3], [], 0), (20, [8, 1], [1], 2), (90, [8], [], -2147483648), (91, [8], [], 2147483647), (31, [4], [], 0), (30, [7], [], 0), (20, [7, 1], [1], 3), (90, [7], [], -2147483648), (91, [7], [], 2147483647), (45, [5, 6], [], 0), (0, [6], [], 500), (5000, [0, 1, 2, 3, 4, 5], [0, 1], 14), (0, [0], [], 30), (0, [1], [], 30), (90, [2], [], -2147483648), (91, [2], [], 2147483647), (90, [3], [], -2147483648), (91, [3], [], 2147483647), (90, [4], [], -2147483648), (91, [4], [], 2147483647), (90, [5], [], -2147483648), (91, [5], [], 2147483647)], (2123, [15, 16], [1], 0)),
  ([(0, [20], [], 0), (0, [19], [], 3), (1098, [14, 18], [2, 3], 0), (18, [18, 17], [], 0), (1123, [17, 15, 16], [1, 2], 0), (20, [16, 1], [1], 1), (90, [16], [], -2147483648), (91, [16], [], 2147483647), (20, [15, 1], [1], 0), (0, [15], [], 31), (20, [14, 1], [1], 8), (51, [14], [], 0), (42, [11, 12], [], 0), (0, [12], [], 45), (20, [11, 1], [1], 2), (90, [11], [], -2147483648), (91, [11], [], 2147483647), (31, [3], [], 0), (41, [9, 10], [], 0), (0, [10], [], 10), (20, [9, 1], [1], 2), (90, [9], [], -2147483648), (91, [9], [], 2147483647), (31, [3], [], 0), (20, [8, 1], [1], 2), (90, [8], [], -2147483648), (91, [8], [], 2147483647), (31, [4], [], 0), (30, [7], [], 0), (20, [7, 1], [1], 3), (90, [7], [], -2147483648), (91, [7], [], 2147483647), (45, [5, 6], [], 0), (0, [6], [], 500), (5000, [0, 1, 2, 3, 4, 5], [0, 1], 14), (0, [0], [], 30), (0, [1], [], 30), (90, [2], [], -2147483648), (91, [2], [], 2147483647), (90, [3], [], -2147483648), (91, [3], [], 2147483647), (90, [4], [], -2147483648), (91, [4], [], 2147483647), (90, [5], [], -2147483648), (91, [5], [], 2147483647)], (4000, [1, 2, 20, 4, 5, 19], [3], 228)),
  ([(0, [20], [], 0), (20, [19, 1], [3], 2), (90, [19], [], -2147483648), (91, [19], [], 2147483647), (31, [13], [], 0), (1098, [14, 18], [2, 3], 0), (18, [18, 17], [], 0), (1123, [17, 15, 16], [1, 2], 0), (20, [16, 1], [1], 1), (90, [16], [], -2147483648), (91, [16], [], 2147483647), (20, [15, 1], [1], 0), (0, [15], [], 31), (30, [13], [], 0), (20, [14, 1], [1], 8), (51, [14], [], 0), (0, [13], [], 0), (42, [11, 12], [], 0), (0, [12], [], 45), (20, [11, 1], [1], 2), (90, [11], [], -2147483648), (91, [11], [], 2147483647), (31, [3], [], 0), (41, [9, 10], [], 0), (0, [10], [], 10), (20, [9, 1], [1], 2), (90, [9], [], -2147483648), (91, [9], [], 2147483647), (31, [3], [], 0), (20, [8, 1], [1], 2), (90, [8], [], -2147483648), (91, [8], [], 2147483647), (31, [4], [], 0), (30, [7], [], 0), (20, [7, 1], [1], 3), (90, [7], [], -2147483648), (91, [7], [], 2147483647), (45, [5, 6], [], 0), (0, [6], [], 500), (5000, [0, 1, 2, 3, 4, 5], [0, 1], 14), (0, [0], [], 30), (0, [1], [], 30), (90, [2], [], -2147483648), (91, [2], [], 2147483647), (90, [3], [], -2147483648), (91, [3], [], 2147483647), (90, [4], [], -2147483648), (91, [4], [], 2147483647), (90, [5], [], -2147483648), (91, [5], [], 2147483647)], (4000, [1, 2, 20, 4, 5, 19], [3], 228)),
  ([(0, [19], [], 0), (0, [18], [], 3), (30, [13], [], 0), (1098, [14, 17], [1, 2], 0), (1, [17, 15, 16], [], 0), (20, [16, 1], [1], 2), (90, [16], [], -2147483648), (91, [16], [], 2147483647), (0, [15], [], 10000), (31, [13], [], 0), (20, [14, 1], [1], 8), (51, [14], [], 0), (0, [13], [], 0), (42, [11, 12], [], 0), (0, [12], [], 45), (20, [11, 1], [1], 2), (90, [11], [], -2147483648), (91, [11], [], 2147483647), (31, [3], [], 0), (41, [9, 10], [], 0), (0, [10], [], 10), (20, [9, 1], [1], 2), (90, [9], [], -2147483648), (91, [9], [], 2147483647), (31, [3], [], 0), (20, [8, 1], [1], 2), (90, [8], [], -2147483648), (91, [8], [], 2147483647), (31, [4], [], 0), (30, [7], [], 0), (20, [7, 1], [1], 3), (90, [7], [], -2147483648), (91, [7], [], 2147483647), (45, [5, 6], [], 0), (0, [6], [], 500), (5000, [0, 1, 2, 3, 4, 5], [0, 1], 14), (0, [0], [], 30), (0, [1], [], 30), (90, [2], [], -2147483648), (91, [2], [], 2147483647), (90, [3], [], -2147483648), (91, [3], [], 2147483647), (90, [4], [], -2147483648), (91, [4], [], 2147483647), (90, [5], [], -2147483648), (91, [5], [], 2147483647)], (4000, [1, 2, 19, 4, 5, 18], [2], 228)),
  ([(0, [19], [], 0), (20, [18, 1], [2], 2), (90, [18], [], -2147483648), (91, [18], [], 2147483647), (31, [13], [], 0), (1098, [14, 17], [1, 2], 0), (1, [17, 15, 16], [], 0), (20, [16, 1], [1], 2), (90, [16], [], -2147483648), (91, [16], [], 2147483647), (0, [15], [], 10000), (31, [13], [], 0), (20, [14, 1], [1], 8), (51, [14], [], 0), (0, [13], [], 0), (42, [11, 12], [], 0), (0, [12], [], 45), (20, [11, 1], [1], 2), (90, [11], [], -2147483648), (91, [11], [], 2147483647), (31, [3], [], 0), (41, [9, 10], [], 0), (0, [10], [], 10), (20, [9, 1], [1], 2), (90, [9], [], -2147483648), (91, [9], [], 2147483647), (31, [3], [], 0), (20, [8, 1], [1], 2), (90, [8], [], -2147483648), (91, [8], [], 2147483647), (31, [4], [], 0), (30, [7], [], 0), (20, [7, 1], [1], 3), (90, [7], [], -2147483648), (91, [7], [], 2147483647), (45, [5, 6], [], 0), (0, [6], [], 500), (5000, [0, 1, 2, 3, 4, 5], [0, 1], 14), (0, [0], [], 30), (0, [1], [], 30), (90, [2], [], -2147483648), (91, [2], [], 2147483647), (90, [3], [], -2147483648), (91, [3], [], 2147483647), (90, [4], [], -2147483648), (91, [4], [], 2147483647), (90, [5], [], -2147483648), (91, [5], [], 2147483647)], (4000, [1, 2, 19, 4, 5, 18], [2], 228)),
  ([(20, [18, 1], [1], 1), (90, [18], [], -2147483648), (91, [18], [], 2147483647), (20, [17, 1], [1], 0), (0, [17], [], 31), (44, [13, 14], [], 0), (0, [14], [], 49), (20, [13, 1], [1], 2), (90, [13], [], -2147483648), (91, [13], [], 2147483647), (43, [11, 12], [], 0), (0, [12], [], 45), (20, [11, 1], [1], 2), (90, [11], [], -2147483648), (91, [11], [], 2147483647), (31, [3], [], 0), (41, [9, 10], [], 0), (0, [10], [], 10), (20, [9, 1], [1], 2), (90, [9], [], -2147483648), (91, [9], [], 2147483647), (31, [3], [], 0), (20, [8, 1], [1], 2), (90, [8], [], -2147483648), (91, [8], [], 2147483647), (31, [4], [], 0), (30, [7], [], 0), (20, [7, 1], [1], 3), (90, [7], [], -2147483648), (91, [7], [], 2147483647), (45, [5, 6], [], 0), (0, [6], [], 500), (5000, [0, 1, 2, 3, 4, 5], [0, 1], 14), (0, [0], [], 30), (0, [1], [], 30), (90, [2], [], -2147483648), (91, [2], [], 2147483647), (90, [3], [], -2147483648), (91, [3], [], 2147483647), (90, [4], [], -2147483648), (91, [4], [], 2147483647), (90, [5], [], -2147483648), (91, [5], [], 2147483647)], (2123, [17, 18], [1], 0)),
  ([(0, [22], [], 0), (0, [21], [], 3), (1098, [16, 20], [2, 3], 0), (18, [20, 19], [], 0), (1123, [19, 17, 18], [1, 2], 0), (20, [18, 1], [1], 1), (90, [18], [], -2147483648), (91, [18], [], 2147483647), (20, [17, 1], [1], 0), (0, [17], [], 31), (20, [16, 1], [1], 8), (51, [16], [], 0), (44, [13, 14], [], 0), (0, [14], [], 49), (20, [13, 1], [1], 2), (90, [13], [], -2147483648), (91, [13], [], 2147483647), (43, [11, 12], [], 0), (0, [12], [], 45), (20, [11, 1], [1], 2), (90, [11], [], -2147483648), (91, [11], [], 2147483647), (31, [3], [], 0), (41, [9, 10], [], 0), (0, [10], [], 10), (20, [9, 1], [1], 2), (90, [9], [], -2147483648), (91, [9], [], 2147483647), (31, [3], [], 0), (20, [8, 1], [1], 2), (90, [8], [], -2147483648), (91, [8], [], 2147483647), (31, [4], [], 0), (30, [7], [], 0), (20, [7, 1], [1], 3), (90, [7], [], -2147483648), (91, [7], [], 2147483647), (45, [5, 6], [], 0), (0, [6], [], 500), (5000, [0, 1, 2, 3, 4, 5], [0, 1], 14), (0, [0], [], 30), (0, [1], [], 30), (90, [2], [], -2147483648), (91, [2], [], 2147483647), (90, [3], [], -2147483648), (91, [3], [], 2147483647), (90, [4], [], -2147483648), (91, [4], [], 2147483647), (90, [5], [], -2147483648), (91, [5], [], 2147483647)], (4000, [1, 2, 22, 4, 5, 21], [3], 228)),
  ([(0, [22], [], 0), (20, [21, 1], [3], 2), (90, [21], [], -2147483648), (91, [21], [], 2147483647), (31, [15], [], 0), (1098, [16, 20], [2, 3], 0), (18, [20, 19], [], 0), (1123, [19, 17, 18], [1, 2], 0), (20, [18, 1], [1], 1), (90, [18], [], -2147483648), (91, [18], [], 2147483647), (20, [17, 1], [1], 0), (0, [17], [], 31), (30, [15], [], 0), (20, [16, 1], [1], 8), (51, [16], [], 0), (0, [15], [], 0), (44, [13, 14], [], 0), (0, [14], [], 49), (20, [13, 1], [1], 2), (90, [13], [], -2147483648), (91, [13], [], 2147483647), (43, [11, 12], [], 0), (0, [12], [], 45), (20, [11, 1], [1], 2), (90, [11], [], -2147483648), (91, [11], [], 2147483647), (31, [3], [], 0), (41, [9, 10], [], 0), (0, [10], [], 10), (20, [9, 1], [1], 2), (90, [9], [], -2147483648), (91, [9], [], 2147483647), (31, [3], [], 0), (20, [8, 1], [1], 2), (90, [8], [], -2147483648), (91, [8], [], 2147483647), (31, [4], [], 0), (30, [7], [], 0), (20, [7, 1], [1], 3), (90, [7], [], -2147483648), (91, [7], [], 2147483647), (45, [5, 6], [], 0), (0, [6], [], 500), (5000, [0, 1, 2, 3, 4, 5], [0, 1], 14), (0, [0], [], 30), (0, [1], [], 30), (90, [2], [], -2147483648), (91, [2], [], 2147483647), (90, [3], [], -2147483648), (91, [3], [], 2147483647), (90, [4], [], -2147483648), (91, [4], [], 2147483647), (90, [5], [], -2147483648), (91, [5], [], 2147483647)], (4000, [1, 2, 22, 4, 5, 21], [3], 228)),
  ([(0, [21], [], 0), (0, [20], [], 3), (30, [15], [], 0), (1098, [16, 19], [1, 2], 0), (1, [19, 17, 18], [], 0), (20, [18, 1], [1], 2), (90, [18], [], -2147483648), (91, [18], [], 2147483647), (0, [17], [], 10000), (31, [15], [], 0), (20, [16, 1], [1], 8), (51, [16], [], 0), (0, [15], [], 0), (44, [13, 14], [], 0), (0, [14], [], 49), (20, [13, 1], [1], 2), (90, [13], [], -2147483648), (91, [13], [], 2147483647), (43, [11, 12], [], 0), (0, [12], [], 45), (20, [11, 1], [1], 2), (90, [11], [], -2147483648), (91, [11], [], 2147483647), (31, [3], [], 0), (41, [9, 10], [], 0), (0, [10], [], 10), (20, [9, 1], [1], 2), (90, [9], [], -2147483648), (91, [9], [], 2147483647), (31, [3], [], 0), (20, [8, 1], [1], 2), (90, [8], [], -2147483648), (91, [8], [], 2147483647), (31, [4], [], 0), (30, [7], [], 0), (20, [7, 1], [1], 3), (90, [7], [], -2147483648), (91, [7], [], 2147483647), (45, [5, 6], [], 0), (0, [6], [], 500), (5000, [0, 1, 2, 3, 4, 5], [0, 1], 14), (0, [0], [], 30), (0, [1], [], 30), (90, [2], [], -2147483648), (91, [2], [], 2147483647), (90, [3], [], -2147483648), (91, [3], [], 2147483647), (90, [4], [], -2147483648), (91, [4], [], 2147483647), (90, [5], [], -2147483648), (91, [5], [], 2147483647)], (4000, [1, 2, 21, 4, 5, 20], [2], 228)),
  ([(0, [21], [], 0), (20, [20, 1], [2], 2), (90, [20], [], -2147483648), (91, [20], [], 2147483647), (31, [15], [], 0), (1098, [16, 19], [1, 2], 0), (1, [19, 17, 18], [], 0), (20, [18, 1], [1], 2), (90, [18], [], -2147483648), (91, [18], [], 2147483647), (0, [17], [], 10000), (31, [15], [], 0), (20, [16, 1], [1], 8), (51, [16], [], 0), (0, [15], [], 0), (44, [13, 14], [], 0), (0, [14], [], 49), (20, [13, 1], [1], 2), (90, [13], [], -2147483648), (91, [13], [], 2147483647), (43, [11, 12], [], 0), (0, [12], [], 45), (20, [11, 1], [1], 2), (90, [11], [], -2147483648), (91, [11], [], 2147483647), (31, [3], [], 0), (41, [9, 10], [], 0), (0, [10], [], 10), (20, [9, 1], [1], 2), (90, [9], [], -2147483648), (91, [9], [], 2147483647), (31, [3], [], 0), (20, [8, 1], [1], 2), (90, [8], [], -2147483648), (91, [8], [], 2147483647), (31, [4], [], 0), (30, [7], [], 0), (20, [7, 1], [1], 3), (90, [7], [], -2147483648), (91, [7], [], 2147483647), (45, [5, 6], [], 0), (0, [6], [], 500), (5000, [0, 1, 2, 3, 4, 5], [0, 1], 14), (0, [0], [], 30), (0, [1], [], 30), (90, [2], [], -2147483648), (91, [2], [], 2147483647), (90, [3], [], -2147483648), (91, [3], [], 2147483647), (90, [4], [], -2147483648), (91, [4], [], 2147483647), (90, [5], [], -2147483648), (91, [5], [], 2147483647)], (4000, [1, 2, 21, 4, 5, 20], [2], 228)),
  ([(20, [18, 1], [1], 1), (90, [18], [], -2147483648), (91, [18], [], 2147483647), (20, [17, 1], [1], 0), (0, [17], [], 31), (30, [15], [], 0), (0, [15], [], 1), (45, [13, 14], [], 0), (0, [14], [], 49), (20, [13, 1], [1], 2), (90, [13], [], -2147483648), (91, [13], [], 2147483647), (43, [11, 12], [], 0), (0, [12], [], 45), (20, [11, 1], [1], 2), (90, [11], [], -2147483648), (91, [11], [], 2147483647), (31, [3], [], 0), (41, [9, 10], [], 0), (0, [10], [], 10), (20, [9, 1], [1], 2), (90, [9], [], -2147483648), (91, [9], [], 2147483647), (31, [3], [], 0), (20, [8, 1], [1], 2), (90, [8], [], -2147483648), (91, [8], [], 2147483647), (31, [4], [], 0), (30, [7], [], 0), (20, [7, 1], [1], 3), (90, [7], [], -2147483648), (91, [7], [], 2147483647), (45, [5, 6], [], 0), (0, [6], [], 500), (5000, [0, 1, 2, 3, 4, 5], [0, 1], 14), (0, [0], [], 30), (0, [1], [], 30), (90, [2], [], -2147483648), (91, [2], [], 2147483647), (90, [3], [], -2147483648), (91, [3], [], 2147483647), (90, [4], [], -2147483648), (91, [4], [], 2147483647), (90, [5], [], -2147483648), (91, [5], [], 2147483647)], (2123, [17, 18], [1], 0)),
  ([(0, [22], [], 0), (0, [21], [], 3), (30, [15], [], 0), (1098, [16, 20], [2, 3], 0), (18, [20, 19], [], 0), (1123, [19, 17, 18], [1, 2], 0), (20, [18, 1], [1], 1), (90, [18], [], -2147483648), (91, [18], [], 2147483647), (20, [17, 1], [1], 0), (0, [17], [], 31), (30, [15], [], 0), (20, [16, 1], [1], 8), (51, [16], [], 0), (0, [15], [], 1), (45, [13, 14], [], 0), (0, [14], [], 49), (20, [13, 1], [1], 2), (90, [13], [], -2147483648), (91, [13], [], 2147483647), (43, [11, 12], [], 0), (0, [12], [], 45), (20, [11, 1], [1], 2), (90, [11], [], -2147483648), (91, [11], [], 2147483647), (31, [3], [], 0), (41, [9, 10], [], 0), (0, [10], [], 10), (20, [9, 1], [1], 2), (90, [9], [], -2147483648), (91, [9], [], 2147483647), (31, [3], [], 0), (20, [8, 1], [1], 2), (90, [8], [], -2147483648), (91, [8], [], 2147483647), (31, [4], [], 0), (30, [7], [], 0), (20, [7, 1], [1], 3), (90, [7], [], -2147483648), (91, [7], [], 2147483647), (45, [5, 6], [], 0), (0, [6], [], 500), (5000, [0, 1, 2, 3, 4, 5], [0, 1], 14), (0, [0], [], 30), (0, [1], [], 30), (90, [2], [], -2147483648), (91, [2], [], 2147483647), (90, [3], [], -2147483648), (91, [3], [], 2147483647), (90, [4], [], -2147483648), (91, [4], [], 2147483647), (90, [5], [], -2147483648), (91, [5], [], 2147483647)], (4000, [1, 2, 22, 4, 5, 21], [3], 228)),
  ([(0, [22], [], 0), (20, [21, 1], [3], 2), (90, [21], [], -2147483648), (91, [21], [], 2147483647), (31, [15], [], 0), (1098, [16, 20], [2, 3], 0), (18, [20, 19], [], 0), (1123, [19, 17, 18], [1, 2], 0), (20, [18, 1], [1], 1), (90, [18], [], -2147483648), (91, [18], [], 2147483647), (20, [17, 1], [1], 0), (0, [17], [], 31), (30, [15], [], 0), (20, [16, 1], [1], 8), (51, [16], [], 0), (0, [15], [], 1), (45, [13, 14], [], 0), (0, [14], [], 49), (20, [13, 1], [1], 2), (90, [13], [], -2147483648), (91, [13], [], 2147483647), (43, [11, 12], [], 0), (0, [12], [], 45), (20, [11, 1], [1], 2), (90, [11], [], -2147483648), (91, [11], [], 2147483647), (31, [3], [], 0), (41, [9, 10], [], 0), (0, [10], [], 10), (20, [9, 1], [1], 2), (90, [9], [], -2147483648), (91, [9], [], 2147483647), (31, [3], [], 0), (20, [8, 1], [1], 2), (90, [8], [], -2147483648), (91, [8], [], 2147483647), (31, [4], [], 0), (30, [7], [], 0), (20, [7, 1], [1], 3), (90, [7], [], -2147483648), (91, [7], [], 2147483647), (45, [5, 6], [], 0), (0, [6], [], 500), (5000, [0, 1, 2, 3, 4, 5], [0, 1], 14), (0, [0], [], 30), (0, [1], [], 30), (90, [2], [], -2147483648), (91, [2], [], 2147483647), (90, [3], [], -2147483648), (91, [3], [], 2147483647), (90, [4], [], -2147483648), (91, [4], [], 2147483647), (90, [5], [], -2147483648), (91, [5], [], 2147483647)], (4000, [1, 2, 22, 4, 5, 21], [3], 228)),
  ([(0, [21], [], 0), (0, [20], [], 3), (30, [15], [], 0), (1098, [16, 19], [1, 2], 0), (1, [19, 17, 18], [], 0), (20, [18, 1], [1], 2), (90, [18], [], -2147483648), (91, [18], [], 2147483647), (0, [17], [], 10000), (31, [15], [], 0), (20, [16, 1], [1], 8), (51, [16], [], 0), (0, [15], [], 1), (45, [13, 14], [], 0), (0, [14], [], 49), (20, [13, 1], [1], 2), (90, [13], [], -2147483648), (91, [13], [], 2147483647), (43, [11, 12], [], 0), (0, [12], [], 45), (20, [11, 1], [1], 2), (90, [11], [], -2147483648), (91, [11], [], 2147483647), (31, [3], [], 0), (41, [9, 10], [], 0), (0, [10], [], 10), (20, [9, 1], [1], 2), (90, [9], [], -2147483648), (91, [9], [], 2147483647), (31, [3], [], 0), (20, [8, 1], [1], 2), (90, [8], [], -2147483648), (91, [8], [], 2147483647), (31, [4], [], 0), (30, [7], [], 0), (20, [7, 1], [1], 3), (90, [7], [], -2147483648), (91, [7], [], 2147483647), (45, [5, 6], [], 0), (0, [6], [], 500), (5000, [0, 1, 2, 3, 4, 5], [0, 1], 14), (0, [0], [], 30), (0, [1], [], 30), (90, [2], [], -2147483648), (91, [2], [], 2147483647), (90, [3], [], -2147483648), (91, [3], [], 2147483647), (90, [4], [], -2147483648), (91, [4], [], 2147483647), (90, [5], [], -2147483648), (91, [5], [], 2147483647)], (4000, [1, 2, 21, 4, 5, 20], [2], 228)),
  ([(0, [21], [], 0), (20, [20, 1], [2], 2), (90, [20], [], -2147483648), (91, [20], [], 2147483647), (1098, [16, 19], [1, 2], 0), (1, [19, 17, 18], [], 0), (20, [18, 1], [1], 2), (90, [18], [], -2147483648), (91, [18], [], 2147483647), (0, [17], [], 10000), (20, [16, 1], [1], 8), (51, [16], [], 0), (45, [13, 14], [], 0), (0, [14], [], 49), (20, [13, 1], [1], 2), (90, [13], [], -2147483648), (91, [13], [], 2147483647), (43, [11, 12], [], 0), (0, [12], [], 45), (20, [11, 1], [1], 2), (90, [11], [], -2147483648), (91, [11], [], 2147483647), (31, [3], [], 0), (41, [9, 10], [], 0), (0, [10], [], 10), (20, [9, 1], [1], 2), (90, [9], [], -2147483648), (91, [9], [], 2147483647), (31, [3], [], 0), (20, [8, 1], [1], 2), (90, [8], [], -2147483648), (91, [8], [], 2147483647), (31, [4], [], 0), (30, [7], [], 0), (20, [7, 1], [1], 3), (90, [7], [], -2147483648), (91, [7], [], 2147483647), (45, [5, 6], [], 0), (0, [6], [], 500), (5000, [0, 1, 2, 3, 4, 5], [0, 1], 14), (0, [0], [], 30), (0, [1], [], 30), (90, [2], [], -2147483648), (91, [2], [], 2147483647), (90, [3], [], -2147483648), (91, [3], [], 2147483647), (90, [4], [], -2147483648), (91, [4], [], 2147483647), (90, [5], [], -2147483648), (91, [5], [], 2147483647)], (4000, [1, 2, 21, 4, 5, 20], [2], 228)),
  ([(1094, [1, 12], [1, 2], 0), (20, [12, 1], [1], 2), (90, [12], [], -2147483648), (91, [12], [], 2147483647), (10, [11, 2], [], 1), (40, [9, 10], [], 0), (0, [10], [], 10), (20, [9, 1], [1], 2), (90, [9], [], -2147483648), (91, [9], [], 2147483647), (31, [3], [], 0), (20, [8, 1], [1], 2), (90, [8], [], -2147483648), (91, [8], [], 2147483647), (31, [4], [], 0), (30, [7], [], 0), (20, [7, 1], [1], 3), (90, [7], [], -2147483648), (91, [7], [], 2147483647), (45, [5, 6], [], 0), (0, [6], [], 500), (5000, [0, 1, 2, 3, 4, 5], [0, 1], 14), (0, [0], [], 30), (0, [1], [], 30), (90, [2], [], -2147483648), (91, [2], [], 2147483647), (90, [3], [], -2147483648), (91, [3], [], 2147483647), (90, [4], [], -2147483648), (91, [4], [], 2147483647), (90, [5], [], -2147483648), (91, [5], [], 2147483647)], (4000, [1, 11, 3, 4, 5, 8], [2], 228))]
theorem r_92v_14 : vCovO false (eRc e_92v L_92v cs_92v 2000 (14, [(0, (3, 4, 30, 0)), (1, (0, -2147483648, 2147483647, 0)), (2, (0, -2147483648, 2147483647, 0)), (3, (0, -2147483648, 2147483647, 0)), (4, (0, -2147483648, 2147483647, 0))])) p_92v_14 = true := by decide +kernel
theorem q_92v_55 {q0 : Nat} {n0 n1 n2 n3 n4 n5 n6 n7 n8 : Int} {H0 H1 : gH} (f0 : n0 ≤ 2147483647) (f1 : (-2147483648) ≤ n0) (f2 : n1 ≤ 2147483647) (f3 : (-2147483648) ≤ n1) (f4 : n2 ≤ 2147483647) (f5 : (-2147483648) ≤ n2) (f6 : n3 ≤ 2147483647) (f7 : (-2147483648) ≤ n3) (f8 : n4 ≤ 2147483647) (f9 : (-2147483648) ≤ n4) (f10 : n5 = 30) (f11 : n6 = 30) (f12 : (hLe T0 H0 H1 ∧ hFr s_92v.2.2.2.2 H0 H1 ∧ hWt T0 H1) ∧ (Ab_92v_228 n6 n5 n4 n3 n2 n1 n0 H0 H1 ∧ preb_92v n6 H0) ∧ some q0 = some (mub_92v_228 n6 n5 n4 n3 n2 n1 n0 H0 H1)) (f13 : n7 = 6) (f14 : n4 ≤ n7) (f15 : n2 = 0) (f16 : n8 = w32 (n1 + 1)) : Ab_92v_14 n6 n5 n4 n3 n2 n8 H0 H1 ∧ ∀ q, some q0 = some q → mub_92v_14 n6 n5 n4 n3 n2 n8 H0 H1 < q := by
  have pz := f12.2.1.2
  unfold preb_92v at pz
  have ga := f12.2.1.1
  unfold Ab_92v_228 at ga
  have vz : vwC H1 = vwC H0 := vwC_fr f12.1.2.1 (by decide +kernel)
  have gb := ga
  obtain ⟨_, f0, s0_, s5, o0, o7, w01, m01, xn, y1, y2, y3⟩ := gb
  have q16_ := f16
  unfold w32 at q16_
  have g5 := Option.some.inj f12.2.2
  unfold mub_92v_228 at g5
  unfold Ab_92v_14 mub_92v_14
  refine ⟨⟨ga.1, by omega, by omega, by omega, by omega, by omega, fun hf => ?_, fun h3 => ?_, fun h3 => ?_⟩, fun q hq => ?_⟩
  · omega
  · exact absurd h3 (by omega)
  · exact y3 (by omega) (by omega)
  · have g6 := Option.some.inj hq
    subst g6
    omega
theorem c_92v_228_0 {q0 : Nat} : vOkm T0 (eP e_92v L_92v A_92v mu_92v (some q0)) 1 ([(10, [8, 5], [], 1), (30, [4], [], 0), (45, [2, 7], [], 0), (0, [7], [], 6), (5000, [0, 1, 2, 3, 4, 5, 6], [0, 1], 228), (0, [0], [], 30), (0, [1], [], 30), (90, [2], [], -2147483648), (91, [2], [], 2147483647), (90, [3], [], -2147483648), (91, [3], [], 2147483647), (90, [4], [], -2147483648), (91, [4], [], 2147483647), (90, [5], [], -2147483648), (91, [5], [], 2147483647), (90, [6], [], -2147483648), (91, [6], [], 2147483647)], (4000, [1, 2, 3, 4, 8], [1], 14)) := vOk_in fun ρ η h => by
  obtain ⟨f0, f1, f2, f3, f4, f5, f6, f7, f8, f9, f10, f11, f12, f13, f14, f15, f16, _⟩ := h
  exact q_92v_55 (q0 := q0) (n0 := ρ 6) (n1 := ρ 5) (n2 := ρ 4) (n3 := ρ 3) (n4 := ρ 2) (n5 := ρ 1) (n6 := ρ 0) (n7 := ρ 7) (n8 := ρ 8) (H0 := η 0) (H1 := η 1) f16 f15 f14 f13 f12 f11 f10 f9 f8 f7 f6 f5 f4 f3 f2 f1 f0
theorem q_92v_56 {q0 : Nat} {n0 n1 n2 n3 n4 n5 n6 n7 : Int} {H0 H1 : gH} (f0 : n0 ≤ 2147483647) (f1 : (-2147483648) ≤ n0) (f2 : n1 ≤ 2147483647) (f3 : (-2147483648) ≤ n1) (f4 : n2 ≤ 2147483647) (f5 : (-2147483648) ≤ n2) (f6 : n3 ≤ 2147483647) (f7 : (-2147483648) ≤ n3) (f8 : n4 ≤ 2147483647) (f9 : (-2147483648) ≤ n4) (f10 : n5 = 30) (f11 : n6 = 30) (f12 : (hLe T0 H0 H1 ∧ hFr s_92v.2.2.2.2 H0 H1 ∧ hWt T0 H1) ∧ (Ab_92v_228 n6 n5 n4 n3 n2 n1 n0 H0 H1 ∧ preb_92v n6 H0) ∧ some q0 = some (mub_92v_228 n6 n5 n4 n3 n2 n1 n0 H0 H1)) (f13 : n7 = 6) (f14 : n4 ≤ n7) (f15 : n2 ≠ 0) : preb_66v n5 n0 H1 := by
  have pz := f12.2.1.2
  unfold preb_92v at pz
  have ga := f12.2.1.1
  unfold Ab_92v_228 at ga
  have vz : vwC H1 = vwC H0 := vwC_fr f12.1.2.1 (by decide +kernel)
  have gb := ga
  obtain ⟨_, f0, s0_, s5, o0, o7, w01, m01, xn, y1, y2, y3⟩ := gb
  unfold preb_66v
  exact ⟨ga.1, .inl (y2 (by omega) (by omega)).1⟩
theorem c_92v_228_1 {q0 : Nat} : vOkm T0 (eP e_92v L_92v A_92v mu_92v (some q0)) 1 ([(31, [4], [], 0), (45, [2, 7], [], 0), (0, [7], [], 6), (5000, [0, 1, 2, 3, 4, 5, 6], [0, 1], 228), (0, [0], [], 30), (0, [1], [], 30), (90, [2], [], -2147483648), (91, [2], [], 2147483647), (90, [3], [], -2147483648), (91, [3], [], 2147483647), (90, [4], [], -2147483648), (91, [4], [], 2147483647), (90, [5], [], -2147483648), (91, [5], [], 2147483647), (90, [6], [], -2147483648), (91, [6], [], 2147483647)], (2066, [1, 6], [1], 0)) := vOk_in fun ρ η h => by
  obtain ⟨f0, f1, f2, f3, f4, f5, f6, f7, f8, f9, f10, f11, f12, f13, f14, f15, _⟩ := h
  exact q_92v_56 (q0 := q0) (n0 := ρ 6) (n1 := ρ 5) (n2 := ρ 4) (n3 := ρ 3) (n4 := ρ 2) (n5 := ρ 1) (n6 := ρ 0) (n7 := ρ 7) (H0 := η 0) (H1 := η 1) f15 f14 f13 f12 f11 f10 f9 f8 f7 f6 f5 f4 f3 f2 f1 f0
theorem q_92v_57 {q0 : Nat} {n0 n1 n2 n3 n4 n5 n6 n7 n8 : Int} {H0 H1 H2 : gH} (f0 : n0 ≤ 2147483647) (f1 : (-2147483648) ≤ n0) (f2 : n1 ≤ 2147483647) (f3 : (-2147483648) ≤ n1) (f4 : n2 ≤ 2147483647) (f5 : (-2147483648) ≤ n2) (f6 : n3 ≤ 2147483647) (f7 : (-2147483648) ≤ n3) (f8 : n4 ≤ 2147483647) (f9 : (-2147483648) ≤ n4) (f10 : n5 = 30) (f11 : n6 = 30) (f12 : (hLe T0 H0 H1 ∧ hFr s_92v.2.2.2.2 H0 H1 ∧ hWt T0 H1) ∧ (Ab_92v_228 n6 n5 n4 n3 n2 n1 n0 H0 H1 ∧ preb_92v n6 H0) ∧ some q0 = some (mub_92v_228 n6 n5 n4 n3 n2 n1 n0 H0 H1)) (f13 : n7 = 6) (f14 : n4 ≤ n7) (f15 : n2 ≠ 0) (f16 : (hLe T0 H1 H2 ∧ hFr s_66v.2.2.2.2 H1 H2 ∧ ((0 : Int) = 0 → H2.length = H1.length) ∧ hWt T0 H2) ∧ postb_66v n5 n0 H1 H2) (f17 : n8 = w32 (n1 + 1)) : Ab_92v_14 n6 n5 n4 n3 n2 n8 H0 H2 ∧ ∀ q, some q0 = some q → mub_92v_14 n6 n5 n4 n3 n2 n8 H0 H2 < q := by
  have pz := f12.2.1.2
  unfold preb_92v at pz
  have ga := f12.2.1.1
  unfold Ab_92v_228 at ga
  have vz : vwC H1 = vwC H0 := vwC_fr f12.1.2.1 (by decide +kernel)
  have c0 := f16.2
  unfold postb_66v at c0
  rw [vz] at c0
  have a0 : absC H2 = (ptk (vwC H0) n0 (absC H1)) := c0.2
  have v0 : vwC H2 = vwC H0 := (vwC_fr f16.1.2.1 (by decide +kernel)).trans vz
  have gb := ga
  obtain ⟨_, f0, s0_, s5, o0, o7, w01, m01, xn, y1, y2, y3⟩ := gb
  have q17_ := f17
  unfold w32 at q17_
  have g5 := Option.some.inj f12.2.2
  unfold mub_92v_228 at g5
  unfold Ab_92v_14 mub_92v_14
  refine ⟨⟨c0.1, by omega, by omega, by omega, by omega, by omega, fun hf => ?_, fun h3 => ?_, fun h3 => ?_⟩, fun q hq => ?_⟩
  · have a2 := absC_pos c0.1 hf
    have a3 := ptk_next (c := n0) (p := absC H1) pz.2.1 (by rw [← a0]; exact a2.2)
    rw [← a0, (absC_pos ga.1 f0).1] at a3
    omega
  · rw [a0, show (502 - (absC H0).1).toNat - (n8).toNat = (502 - (absC H0).1).toNat - (n1).toNat - 1 by omega]
    exact (y2 (by omega) (by omega)).2
  · exact absurd h3 (by omega)
  · have g6 := Option.some.inj hq
    subst g6
    omega
theorem c_92v_228_2 {q0 : Nat} : vOkm T0 (eP e_92v L_92v A_92v mu_92v (some q0)) 1 ([(10, [8, 5], [], 1), (1066, [1, 6], [1, 2], 0), (31, [4], [], 0), (45, [2, 7], [], 0), (0, [7], [], 6), (5000, [0, 1, 2, 3, 4, 5, 6], [0, 1], 228), (0, [0], [], 30), (0, [1], [], 30), (90, [2], [], -2147483648), (91, [2], [], 2147483647), (90, [3], [], -2147483648), (91, [3], [], 2147483647), (90, [4], [], -2147483648), (91, [4], [], 2147483647), (90, [5], [], -2147483648), (91, [5], [], 2147483647), (90, [6], [], -2147483648), (91, [6], [], 2147483647)], (4000, [1, 2, 3, 4, 8], [2], 14)) := vOk_in fun ρ η h => by
  obtain ⟨f0, f1, f2, f3, f4, f5, f6, f7, f8, f9, f10, f11, f12, f13, f14, f15, f16, f17, _⟩ := h
  exact q_92v_57 (q0 := q0) (n0 := ρ 6) (n1 := ρ 5) (n2 := ρ 4) (n3 := ρ 3) (n4 := ρ 2) (n5 := ρ 1) (n6 := ρ 0) (n7 := ρ 7) (n8 := ρ 8) (H0 := η 0) (H1 := η 1) (H2 := η 2) f17 f16 f15 f14 f13 f12 f11 f10 f9 f8 f7 f6 f5 f4 f3 f2 f1 f0
theorem q_92v_58 {q0 : Nat} {n0 n1 n2 n3 n4 n5 n6 n7 n8 : Int} {H0 H1 : gH} (f0 : n0 ≤ 2147483647) (f1 : (-2147483648) ≤ n0) (f2 : n1 ≤ 2147483647) (f3 : (-2147483648) ≤ n1) (f4 : n2 ≤ 2147483647) (f5 : (-2147483648) ≤ n2) (f6 : n3 ≤ 2147483647) (f7 : (-2147483648) ≤ n3) (f8 : n4 ≤ 2147483647) (f9 : (-2147483648) ≤ n4) (f10 : n5 = 30) (f11 : n6 = 30) (f12 : (hLe T0 H0 H1 ∧ hFr s_92v.2.2.2.2 H0 H1 ∧ hWt T0 H1) ∧ (Ab_92v_228 n6 n5 n4 n3 n2 n1 n0 H0 H1 ∧ preb_92v n6 H0) ∧ some q0 = some (mub_92v_228 n6 n5 n4 n3 n2 n1 n0 H0 H1)) (f13 : n7 = 6) (f14 : n7 < n4) (f15 : n8 = 2) : preb_64v n5 n8 H1 := by
  have pz := f12.2.1.2
  unfold preb_92v at pz
  have ga := f12.2.1.1
  unfold Ab_92v_228 at ga
  have vz : vwC H1 = vwC H0 := vwC_fr f12.1.2.1 (by decide +kernel)
  have gb := ga
  obtain ⟨_, f0, s0_, s5, o0, o7, w01, m01, xn, y1, y2, y3⟩ := gb
  unfold preb_64v
  exact ⟨ga.1, by omega⟩
theorem c_92v_228_3 {q0 : Nat} : vOkm T0 (eP e_92v L_92v A_92v mu_92v (some q0)) 1 ([(0, [8], [], 2), (44, [2, 7], [], 0), (0, [7], [], 6), (5000, [0, 1, 2, 3, 4, 5, 6], [0, 1], 228), (0, [0], [], 30), (0, [1], [], 30), (90, [2], [], -2147483648), (91, [2], [], 2147483647), (90, [3], [], -2147483648), (91, [3], [], 2147483647), (90, [4], [], -2147483648), (91, [4], [], 2147483647), (90, [5], [], -2147483648), (91, [5], [], 2147483647), (90, [6], [], -2147483648), (91, [6], [], 2147483647)], (2064, [1, 8], [1], 0)) := vOk_in fun ρ η h => by
  obtain ⟨f0, f1, f2, f3, f4, f5, f6, f7, f8, f9, f10, f11, f12, f13, f14, f15, _⟩ := h
  exact q_92v_58 (q0 := q0) (n0 := ρ 6) (n1 := ρ 5) (n2 := ρ 4) (n3 := ρ 3) (n4 := ρ 2) (n5 := ρ 1) (n6 := ρ 0) (n7 := ρ 7) (n8 := ρ 8) (H0 := η 0) (H1 := η 1) f15 f14 f13 f12 f11 f10 f9 f8 f7 f6 f5 f4 f3 f2 f1 f0
theorem q_92v_59 {q0 : Nat} {n0 n1 n2 n3 n4 n5 n6 n7 n8 n9 : Int} {H0 H1 H2 : gH} (f0 : n0 ≤ 2147483647) (f1 : (-2147483648) ≤ n0) (f2 : n1 ≤ 2147483647) (f3 : (-2147483648) ≤ n1) (f4 : n2 ≤ 2147483647) (f5 : (-2147483648) ≤ n2) (f6 : n3 ≤ 2147483647) (f7 : (-2147483648) ≤ n3) (f8 : n4 ≤ 2147483647) (f9 : (-2147483648) ≤ n4) (f10 : n5 = 30) (f11 : n6 = 30) (f12 : (hLe T0 H0 H1 ∧ hFr s_92v.2.2.2.2 H0 H1 ∧ hWt T0 H1) ∧ (Ab_92v_228 n6 n5 n4 n3 n2 n1 n0 H0 H1 ∧ preb_92v n6 H0) ∧ some q0 = some (mub_92v_228 n6 n5 n4 n3 n2 n1 n0 H0 H1)) (f13 : n7 = 6) (f14 : n7 < n4) (f15 : n8 = 2) (f16 : (hLe T0 H1 H2 ∧ hFr s_64v.2.2.2.2 H1 H2 ∧ ((0 : Int) = 0 → H2.length = H1.length) ∧ hWt T0 H2) ∧ postb_64v n5 n8 H1 H2) (f17 : n9 = w32 (n1 + 1)) : Ab_92v_14 n6 n5 n4 n3 n2 n9 H0 H2 ∧ ∀ q, some q0 = some q → mub_92v_14 n6 n5 n4 n3 n2 n9 H0 H2 < q := by
  have pz := f12.2.1.2
  unfold preb_92v at pz
  have ga := f12.2.1.1
  unfold Ab_92v_228 at ga
  have vz : vwC H1 = vwC H0 := vwC_fr f12.1.2.1 (by decide +kernel)
  have c0 := f16.2
  unfold postb_64v at c0
  try rw [f15] at c0
  rw [vz] at c0
  have a0 : absC H2 = (pfail (vwC H0) 2 (absC H1)) := c0.2
  have v0 : vwC H2 = vwC H0 := (vwC_fr f16.1.2.1 (by decide +kernel)).trans vz
  have gb := ga
  obtain ⟨_, f0, s0_, s5, o0, o7, w01, m01, xn, y1, y2, y3⟩ := gb
  have q17_ := f17
  unfold w32 at q17_
  have g5 := Option.some.inj f12.2.2
  unfold mub_92v_228 at g5
  unfold Ab_92v_14 mub_92v_14
  refine ⟨⟨c0.1, by omega, by omega, by omega, by omega, by omega, fun hf => ?_, fun h3 => ?_, fun h3 => ?_⟩, fun q hq => ?_⟩
  · exact absurd hf (fault_of c0.1 (by rw [a0]; exact pfail_lt pz (by decide)))
  · rw [a0, pE_neg (vwC_ok H0) (pfail_lt pz (by decide)) pfail_ok]
    exact y1 (by omega)
  · rw [a0, pfail_neg (pfail_lt pz (by decide)) pfail_ok]
    split <;> exact y1 (by omega)
  · have g6 := Option.some.inj hq
    subst g6
    omega
theorem c_92v_228_4 {q0 : Nat} : vOkm T0 (eP e_92v L_92v A_92v mu_92v (some q0)) 1 ([(10, [9, 5], [], 1), (1064, [1, 8], [1, 2], 0), (0, [8], [], 2), (44, [2, 7], [], 0), (0, [7], [], 6), (5000, [0, 1, 2, 3, 4, 5, 6], [0, 1], 228), (0, [0], [], 30), (0, [1], [], 30), (90, [2], [], -2147483648), (91, [2], [], 2147483647), (90, [3], [], -2147483648), (91, [3], [], 2147483647), (90, [4], [], -2147483648), (91, [4], [], 2147483647), (90, [5], [], -2147483648), (91, [5], [], 2147483647), (90, [6], [], -2147483648), (91, [6], [], 2147483647)], (4000, [1, 2, 3, 4, 9], [2], 14)) := vOk_in fun ρ η h => by
  obtain ⟨f0, f1, f2, f3, f4, f5, f6, f7, f8, f9, f10, f11, f12, f13, f14, f15, f16, f17, _⟩ := h
  exact q_92v_59 (q0 := q0) (n0 := ρ 6) (n1 := ρ 5) (n2 := ρ 4) (n3 := ρ 3) (n4 := ρ 2) (n5 := ρ 1) (n6 := ρ 0) (n7 := ρ 7) (n8 := ρ 8) (n9 := ρ 9) (H0 := η 0) (H1 := η 1) (H2 := η 2) f17 f16 f15 f14 f13 f12 f11 f10 f9 f8 f7 f6 f5 f4 f3 f2 f1 f0
def p_92v_228 : List vG := [([(10, [8, 5], [], 1), (30, [4], [], 0), (45, [2, 7], [], 0), (0, [7], [], 6), (5000, [0, 1, 2, 3, 4, 5, 6], [0, 1], 228), (0, [0], [], 30), (0, [1], [], 30), (90, [2], [], -2147483648), (91, [2], [], 2147483647), (90, [3], [], -2147483648), (91, [3], [], 2147483647), (90, [4], [], -2147483648), (91, [4], [], 2147483647), (90, [5], [], -2147483648), (91, [5], [], 2147483647), (90, [6], [], -2147483648), (91, [6], [], 2147483647)], (4000, [1, 2, 3, 4, 8], [1], 14)),
  ([(31, [4], [], 0), (45, [2, 7], [], 0), (0, [7], [], 6), (5000, [0, 1, 2, 3, 4, 5, 6], [0, 1], 228), (0, [0], [], 30), (0, [1], [], 30), (90, [2], [], -2147483648), (91, [2], [], 2147483647), (90, [3], [], -2147483648), (91, [3], [], 2147483647), (90, [4], [], -2147483648), (91, [4], [], 2147483647), (90, [5], [], -2147483648), (91, [5], [], 2147483647), (90, [6], [], -2147483648), (91, [6], [], 2147483647)], (2066, [1, 6], [1], 0)),
  ([(10, [8, 5], [], 1), (1066, [1, 6], [1, 2], 0), (31, [4], [], 0), (45, [2, 7], [], 0), (0, [7], [], 6), (5000, [0, 1, 2, 3, 4, 5, 6], [0, 1], 228), (0, [0], [], 30), (0, [1], [], 30), (90, [2], [], -2147483648), (91, [2], [], 2147483647), (90, [3], [], -2147483648), (91, [3], [], 2147483647), (90, [4], [], -2147483648), (91, [4], [], 2147483647), (90, [5], [], -2147483648), (91, [5], [], 2147483647), (90, [6], [], -2147483648), (91, [6], [], 2147483647)], (4000, [1, 2, 3, 4, 8], [2], 14)),
  ([(0, [8], [], 2), (44, [2, 7], [], 0), (0, [7], [], 6), (5000, [0, 1, 2, 3, 4, 5, 6], [0, 1], 228), (0, [0], [], 30), (0, [1], [], 30), (90, [2], [], -2147483648), (91, [2], [], 2147483647), (90, [3], [], -2147483648), (91, [3], [], 2147483647), (90, [4], [], -2147483648), (91, [4], [], 2147483647), (90, [5], [], -2147483648), (91, [5], [], 2147483647), (90, [6], [], -2147483648), (91, [6], [], 2147483647)], (2064, [1, 8], [1], 0)),
  ([(10, [9, 5], [], 1), (1064, [1, 8], [1, 2], 0), (0, [8], [], 2), (44, [2, 7], [], 0), (0, [7], [], 6), (5000, [0, 1, 2, 3, 4, 5, 6], [0, 1], 228), (0, [0], [], 30), (0, [1], [], 30), (90, [2], [], -2147483648), (91, [2], [], 2147483647), (90, [3], [], -2147483648), (91, [3], [], 2147483647), (90, [4], [], -2147483648), (91, [4], [], 2147483647), (90, [5], [], -2147483648), (91, [5], [], 2147483647), (90, [6], [], -2147483648), (91, [6], [], 2147483647)], (4000, [1, 2, 3, 4, 9], [2], 14))]
theorem r_92v_228 : vCovO false (eRc e_92v L_92v cs_92v 2000 (228, [(0, (3, 4, 30, 0)), (1, (0, -2147483648, 2147483647, 0)), (2, (0, -2147483648, 2147483647, 0)), (3, (0, -2147483648, 2147483647, 0)), (4, (0, -2147483648, 2147483647, 0)), (5, (0, -2147483648, 2147483647, 0))])) p_92v_228 = true := by decide +kernel
theorem m_92v (d : Nat) : eC e_92v (d + 3) := eC_ok (e := e_92v) (L := L_92v) (cs := cs_92v) (n := 2000) (d := d + 2) (A := A_92v) (μ := mu_92v) (tp := false) (p0 := p_92v_s) rfl ⟨m_64v (d + 1), ⟨m_66v d, ⟨m_93 (d + 1), ⟨m_94 d, ⟨m_95 d, ⟨m_98 (d + 1), ⟨m_123v (d + 1), trivial⟩⟩⟩⟩⟩⟩⟩ rfl (.inl rfl) (by decide +kernel) (fun z => nomatch z) r_92v_s (allC c_92v_s_0 allN) (allC (.inl ⟨p_92v_14, r_92v_14, fun q0 => (allC c_92v_14_0 (allC c_92v_14_1 (allC c_92v_14_2 (allC c_92v_14_3 (allC c_92v_14_4 (allC c_92v_14_5 (allC c_92v_14_6 (allC c_92v_14_7 (allC c_92v_14_8 (allC c_92v_14_9 (allC c_92v_14_10 (allC c_92v_14_11 (allC c_92v_14_12 (allC c_92v_14_13 (allC c_92v_14_14 (allC c_92v_14_15 (allC c_92v_14_16 (allC c_92v_14_17 (allC c_92v_14_18 (allC c_92v_14_19 (allC c_92v_14_20 (allC c_92v_14_21 (allC c_92v_14_22 (allC c_92v_14_23 (allC c_92v_14_24 (allC c_92v_14_25 (allC c_92v_14_26 (allC c_92v_14_27 (allC c_92v_14_28 (allC c_92v_14_29 (allC c_92v_14_30 (allC c_92v_14_31 (allC c_92v_14_32 (allC c_92v_14_33 (allC c_92v_14_34 (allC c_92v_14_35 (allC c_92v_14_36 (allC c_92v_14_37 (allC c_92v_14_38 (allC c_92v_14_39 (allC c_92v_14_40 (allC c_92v_14_41 (allC c_92v_14_42 (allC c_92v_14_43 (allC c_92v_14_44 (allC c_92v_14_45 (allC c_92v_14_46 (allC c_92v_14_47 (allC c_92v_14_48 (allC c_92v_14_49 (allC c_92v_14_50 (allC c_92v_14_51 (allC c_92v_14_52 (allC c_92v_14_53 allN))))))))))))))))))))))))))))))))))))))))))))))))))))))⟩) (allC (.inl ⟨p_92v_228, r_92v_228, fun q0 => (allC c_92v_228_0 (allC c_92v_228_1 (allC c_92v_228_2 (allC c_92v_228_3 (allC c_92v_228_4 allN)))))⟩) allN))
