/- Reader.readCondition ()V -/
noncomputable def s_88v : vM := ([(3, 4, 30, 0)], (9, 0, 0, 0), 1, 0, [(4, 1), (4, 2), (4, 3), (4, 4), (4, 15), (5, 2), (100, 0), (740, 0)])
def preb_88v (a0 : Int) (h : gH) : Prop := KI h
def pre_88v : List Int → gH → Prop := fun xs h => match xs with
  | [a0] => preb_88v a0 h
  | _ => False
def postb_88v (a0 : Int) (h0 h : gH) : Prop := KI h ∧ absC h = pCond (vwC h0) 502 (absC h0)
def post_88v : List Int → gH → gH → Prop := fun xs h0 h => match xs with
  | [a0] => postb_88v a0 h0 h
  | _ => True
noncomputable def e_88v : vE := (88, s_88v, pre_88v, post_88v)
noncomputable def L_88v : List vE := [e_66v, e_89v, e_90v, e_91, e_92v, e_98]
def cs_88v : List vC := [(9, [(0, (3, 4, 30, 0)), (1, (0, -2147483648, 2147483647, 0)), (2, (0, -2147483648, 2147483647, 0)), (3, (0, -2147483648, 2147483647, 0)), (4, (0, -2147483648, 2147483647, 0))]), (122, [(0, (3, 4, 30, 0)), (1, (0, -2147483648, 2147483647, 0)), (2, (0, -2147483648, 2147483647, 0)), (3, (0, -2147483648, 2147483647, 0)), (4, (0, -2147483648, 2147483647, 0)), (5, (0, -2147483648, 2147483647, 0)), (6, (0, -2147483648, 2147483647, 0))])]
def Ab_88v_9 (a0 x0 x1 x2 x3 x4 : Int) (h0 h : gH) : Prop := KI h ∧ 0 ≤ x4 ∧ (x3 = 0 ∨ x3 = 1) ∧ (hV h 30 3 = 0 → (absC h0).1 + x4 + x3 ≤ hV h 30 1 + 1 ∧ 0 ≤ (absC h0).1) ∧ (x3 = 1 → pCond (vwC h0) (502 - (x4).toNat) (absC h) = pCond (vwC h0) 502 (absC h0)) ∧ (x3 = 0 → absC h = pCond (vwC h0) 502 (absC h0))
def mub_88v_9 (a0 x0 x1 x2 x3 x4 : Int) (h0 h : gH) : Nat := 2 * (502 - x4).toNat + 1
def Ab_88v_122 (a0 x0 x1 x2 x3 x4 x5 x6 : Int) (h0 h : gH) : Prop := KI h ∧ 0 ≤ x4 ∧ x4 ≤ 500 ∧ (hV h 30 3 = 0 → (absC h0).1 + x4 ≤ hV h 30 1 ∧ 0 ≤ (absC h0).1) ∧ (if (vwC h0).1 (absC h).1 = 42 ∨ (vwC h0).1 (absC h).1 = 43 then pCond (vwC h0) (502 - (x4).toNat - 1) (ptk (vwC h0) ((vwC h0).1 (absC h).1) (absC h)) else absC h) = pCond (vwC h0) 502 (absC h0)
def mub_88v_122 (a0 x0 x1 x2 x3 x4 x5 x6 : Int) (h0 h : gH) : Nat := 2 * (502 - x4).toNat
def A_88v : Int → List Int → gH → gH → Prop := fun c xs h0 h => match c.toNat with
  | 9 => (match xs with
    | [a0, x0, x1, x2, x3, x4] => Ab_88v_9 a0 x0 x1 x2 x3 x4 h0 h
    | _ => False)
  | 122 => (match xs with
    | [a0, x0, x1, x2, x3, x4, x5, x6] => Ab_88v_122 a0 x0 x1 x2 x3 x4 x5 x6 h0 h
    | _ => False)
  | _ => True
def mu_88v : Int → List Int → gH → gH → Nat := fun c xs h0 h => match c.toNat with
  | 9 => (match xs with
    | [a0, x0, x1, x2, x3, x4] => mub_88v_9 a0 x0 x1 x2 x3 x4 h0 h
    | _ => 0)
  | 122 => (match xs with
    | [a0, x0, x1, x2, x3, x4, x5, x6] => mub_88v_122 a0 x0 x1 x2 x3 x4 x5 x6 h0 h
    | _ => 0)
  | _ => 0
theorem q_88v_0 {n0 n1 n2 n3 n4 : Int} {H0 : gH} (f0 : n0 = 30) (f1 : hWt T0 H0 ∧ preb_88v n0 H0) (f2 : n1 = 0) (f3 : n2 = 0) (f4 : n3 = 1) (f5 : n4 = 0) : Ab_88v_9 n0 n0 n1 n2 n3 n4 H0 H0 ∧ ∀ q, none = some q → mub_88v_9 n0 n0 n1 n2 n3 n4 H0 H0 < q := by
  have pz := f1.2
  unfold preb_88v at pz
  unfold Ab_88v_9
  refine ⟨⟨pz, by (first | exact Int.le_antisymm (by omega) (by omega) | omega), by (first | exact Int.le_antisymm (by omega) (by omega) | omega), fun hf => ?_, fun _ => ?_, fun q => absurd q (by (first | exact Int.le_antisymm (by omega) (by omega) | omega))⟩, fun q hq => nomatch hq⟩
  · have u := absC_pos pz hf
    omega
  · rw [show 502 - (n4).toNat = 502 by (first | exact Int.le_antisymm (by omega) (by omega) | omega)]
theorem c_88v_s_0 : vOkm T0 (eP e_88v L_88v A_88v mu_88v none) 1 ([(0, [4], [], 0), (0, [3], [], 1), (0, [2], [], 0), (0, [1], [], 0), (6000, [0], [0], 0), (0, [0], [], 30)], (4000, [0, 1, 2, 3, 4], [0], 9)) := vOk_in fun ρ η h => by
  obtain ⟨f0, f1, f2, f3, f4, f5, _⟩ := h
  exact q_88v_0 (n0 := ρ 0) (n1 := ρ 1) (n2 := ρ 2) (n3 := ρ 3) (n4 := ρ 4) (H0 := η 0) f5 f4 f3 f2 f1 f0
def p_88v_s : List vG := [([(0, [4], [], 0), (0, [3], [], 1), (0, [2], [], 0), (0, [1], [], 0), (6000, [0], [0], 0), (0, [0], [], 30)], (4000, [0, 1, 2, 3, 4], [0], 9))]
theorem r_88v_s : vCovO false (eR0 e_88v L_88v cs_88v 2000) p_88v_s = true := by decide +kernel
theorem q_88v_1 {q0 : Nat} {n0 n1 n2 n3 n4 n5 n6 : Int} {H0 H1 : gH} (f0 : n0 ≤ 2147483647) (f1 : (-2147483648) ≤ n0) (f2 : n1 ≤ 2147483647) (f3 : (-2147483648) ≤ n1) (f4 : n2 ≤ 2147483647) (f5 : (-2147483648) ≤ n2) (f6 : n3 ≤ 2147483647) (f7 : (-2147483648) ≤ n3) (f8 : n4 = 30) (f9 : n5 = 30) (f10 : (hLe T0 H0 H1 ∧ hFr s_88v.2.2.2.2 H0 H1 ∧ hWt T0 H1) ∧ (Ab_88v_9 n5 n4 n3 n2 n1 n0 H0 H1 ∧ preb_88v n5 H0) ∧ some q0 = some (mub_88v_9 n5 n4 n3 n2 n1 n0 H0 H1)) (f11 : n6 = 500) (f12 : n6 < n0) : postb_88v n5 H0 H1 := by
  have pz := f10.2.1.2
  unfold preb_88v at pz
  have ga := f10.2.1.1
  unfold Ab_88v_9 at ga
  have vz : vwC H1 = vwC H0 := vwC_fr f10.1.2.1 (by decide +kernel)
  have ga1_ := ga.1
  have gb := ga
  obtain ⟨_, s0_, m01, xn, ya, yb⟩ := gb
  clear ga
  unfold postb_88v
  refine ⟨ga1_, ?_⟩
  rcases m01 with q | q
  · exact yb q
  · have hn : (absC H1).1 < 0 := by
      refine absC_neg ga1_ (fun hf => ?_)
      have u := xn hf
      have nw := ga1_.2.2.2.1.2.1
      omega
    have y := ya q
    rw [pCond_neg (vwC_ok H0) hn (absC_ok ga1_)] at y
    exact y
theorem c_88v_9_0 {q0 : Nat} : vOkm T0 (eP e_88v L_88v A_88v mu_88v (some q0)) 1 ([(44, [5, 6], [], 0), (0, [6], [], 500), (5000, [0, 1, 2, 3, 4, 5], [0, 1], 9), (0, [0], [], 30), (0, [1], [], 30), (90, [2], [], -2147483648), (91, [2], [], 2147483647), (90, [3], [], -2147483648), (91, [3], [], 2147483647), (90, [4], [], -2147483648), (91, [4], [], 2147483647), (90, [5], [], -2147483648), (91, [5], [], 2147483647)], (3000, [], [1], 164)) := vOk_in fun ρ η h => by
  obtain ⟨f0, f1, f2, f3, f4, f5, f6, f7, f8, f9, f10, f11, f12, _⟩ := h
  exact q_88v_1 (q0 := q0) (n0 := ρ 5) (n1 := ρ 4) (n2 := ρ 3) (n3 := ρ 2) (n4 := ρ 1) (n5 := ρ 0) (n6 := ρ 6) (H0 := η 0) (H1 := η 1) f12 f11 f10 f9 f8 f7 f6 f5 f4 f3 f2 f1 f0
theorem q_88v_2 {q0 : Nat} {n0 n1 n2 n3 n4 n5 n6 n7 : Int} {H0 H1 : gH} (f0 : n0 ≤ 2147483647) (f1 : (-2147483648) ≤ n0) (f2 : n1 ≤ 2147483647) (f3 : (-2147483648) ≤ n1) (f4 : n2 ≤ 2147483647) (f5 : (-2147483648) ≤ n2) (f6 : n3 ≤ 2147483647) (f7 : (-2147483648) ≤ n3) (f8 : n4 = 30) (f9 : n5 = 30) (f10 : (hLe T0 H0 H1 ∧ hFr s_88v.2.2.2.2 H0 H1 ∧ hWt T0 H1) ∧ (Ab_88v_9 n5 n4 n3 n2 n1 n0 H0 H1 ∧ preb_88v n5 H0) ∧ some q0 = some (mub_88v_9 n5 n4 n3 n2 n1 n0 H0 H1)) (f11 : n6 = 500) (f12 : n0 ≤ n6) (f13 : n7 ≤ 2147483647) (f14 : (-2147483648) ≤ n7) (f15 : n7 = hV H1 (n4).toNat 3) (f16 : n7 ≠ 0) : postb_88v n5 H0 H1 := by
  have pz := f10.2.1.2
  unfold preb_88v at pz
  have ga := f10.2.1.1
  unfold Ab_88v_9 at ga
  have vz : vwC H1 = vwC H0 := vwC_fr f10.1.2.1 (by decide +kernel)
  have ga1_ := ga.1
  have gb := ga
  obtain ⟨_, s0_, m01, xn, ya, yb⟩ := gb
  clear ga
  unfold postb_88v
  refine ⟨ga1_, ?_⟩
  rcases m01 with q | q
  · exact yb q
  · have hn : (absC H1).1 < 0 := by
      refine absC_neg ga1_ (fun hf => ?_)
      have u := xn hf
      have nw := ga1_.2.2.2.1.2.1
      have rf0 := f15
      rw [f8] at rf0
      rw [show ((30 : Int)).toNat = 30 from rfl] at rf0
      omega
    have y := ya q
    rw [pCond_neg (vwC_ok H0) hn (absC_ok ga1_)] at y
    exact y
theorem c_88v_9_1 {q0 : Nat} : vOkm T0 (eP e_88v L_88v A_88v mu_88v (some q0)) 1 ([(31, [7], [], 0), (20, [7, 1], [1], 3), (90, [7], [], -2147483648), (91, [7], [], 2147483647), (45, [5, 6], [], 0), (0, [6], [], 500), (5000, [0, 1, 2, 3, 4, 5], [0, 1], 9), (0, [0], [], 30), (0, [1], [], 30), (90, [2], [], -2147483648), (91, [2], [], 2147483647), (90, [3], [], -2147483648), (91, [3], [], 2147483647), (90, [4], [], -2147483648), (91, [4], [], 2147483647), (90, [5], [], -2147483648), (91, [5], [], 2147483647)], (3000, [], [1], 164)) := vOk_in fun ρ η h => by
  obtain ⟨f0, f1, f2, f3, f4, f5, f6, f7, f8, f9, f10, f11, f12, f13, f14, f15, f16, _⟩ := h
  exact q_88v_2 (q0 := q0) (n0 := ρ 5) (n1 := ρ 4) (n2 := ρ 3) (n3 := ρ 2) (n4 := ρ 1) (n5 := ρ 0) (n6 := ρ 6) (n7 := ρ 7) (H0 := η 0) (H1 := η 1) f16 f15 f14 f13 f12 f11 f10 f9 f8 f7 f6 f5 f4 f3 f2 f1 f0
theorem q_88v_3 {q0 : Nat} {n0 n1 n2 n3 n4 n5 n6 n7 : Int} {H0 H1 : gH} (f0 : n0 ≤ 2147483647) (f1 : (-2147483648) ≤ n0) (f2 : n1 ≤ 2147483647) (f3 : (-2147483648) ≤ n1) (f4 : n2 ≤ 2147483647) (f5 : (-2147483648) ≤ n2) (f6 : n3 ≤ 2147483647) (f7 : (-2147483648) ≤ n3) (f8 : n4 = 30) (f9 : n5 = 30) (f10 : (hLe T0 H0 H1 ∧ hFr s_88v.2.2.2.2 H0 H1 ∧ hWt T0 H1) ∧ (Ab_88v_9 n5 n4 n3 n2 n1 n0 H0 H1 ∧ preb_88v n5 H0) ∧ some q0 = some (mub_88v_9 n5 n4 n3 n2 n1 n0 H0 H1)) (f11 : n6 = 500) (f12 : n0 ≤ n6) (f13 : n7 ≤ 2147483647) (f14 : (-2147483648) ≤ n7) (f15 : n7 = hV H1 (n4).toNat 3) (f16 : n7 = 0) (f17 : n1 = 0) : postb_88v n5 H0 H1 := by
  have pz := f10.2.1.2
  unfold preb_88v at pz
  have ga := f10.2.1.1
  unfold Ab_88v_9 at ga
  have vz : vwC H1 = vwC H0 := vwC_fr f10.1.2.1 (by decide +kernel)
  have ga1_ := ga.1
  have gb := ga
  obtain ⟨_, s0_, m01, xn, ya, yb⟩ := gb
  clear ga
  unfold postb_88v
  refine ⟨ga1_, ?_⟩
  rcases m01 with q | q
  · exact yb q
  · have hn : (absC H1).1 < 0 := by
      refine absC_neg ga1_ (fun hf => ?_)
      have u := xn hf
      have nw := ga1_.2.2.2.1.2.1
      have rf0 := f15
      rw [f8] at rf0
      rw [show ((30 : Int)).toNat = 30 from rfl] at rf0
      omega
    have y := ya q
    rw [pCond_neg (vwC_ok H0) hn (absC_ok ga1_)] at y
    exact y
theorem c_88v_9_2 {q0 : Nat} : vOkm T0 (eP e_88v L_88v A_88v mu_88v (some q0)) 1 ([(30, [4], [], 0), (30, [7], [], 0), (20, [7, 1], [1], 3), (90, [7], [], -2147483648), (91, [7], [], 2147483647), (45, [5, 6], [], 0), (0, [6], [], 500), (5000, [0, 1, 2, 3, 4, 5], [0, 1], 9), (0, [0], [], 30), (0, [1], [], 30), (90, [2], [], -2147483648), (91, [2], [], 2147483647), (90, [3], [], -2147483648), (91, [3], [], 2147483647), (90, [4], [], -2147483648), (91, [4], [], 2147483647), (90, [5], [], -2147483648), (91, [5], [], 2147483647)], (3000, [], [1], 164)) := vOk_in fun ρ η h => by
  obtain ⟨f0, f1, f2, f3, f4, f5, f6, f7, f8, f9, f10, f11, f12, f13, f14, f15, f16, f17, _⟩ := h
  exact q_88v_3 (q0 := q0) (n0 := ρ 5) (n1 := ρ 4) (n2 := ρ 3) (n3 := ρ 2) (n4 := ρ 1) (n5 := ρ 0) (n6 := ρ 6) (n7 := ρ 7) (H0 := η 0) (H1 := η 1) f17 f16 f15 f14 f13 f12 f11 f10 f9 f8 f7 f6 f5 f4 f3 f2 f1 f0
theorem q_88v_4 {q0 : Nat} {n0 n1 n2 n3 n4 n5 n6 n7 : Int} {H0 H1 : gH} (f0 : n0 ≤ 2147483647) (f1 : (-2147483648) ≤ n0) (f2 : n1 ≤ 2147483647) (f3 : (-2147483648) ≤ n1) (f4 : n2 ≤ 2147483647) (f5 : (-2147483648) ≤ n2) (f6 : n3 ≤ 2147483647) (f7 : (-2147483648) ≤ n3) (f8 : n4 = 30) (f9 : n5 = 30) (f10 : (hLe T0 H0 H1 ∧ hFr s_88v.2.2.2.2 H0 H1 ∧ hWt T0 H1) ∧ (Ab_88v_9 n5 n4 n3 n2 n1 n0 H0 H1 ∧ preb_88v n5 H0) ∧ some q0 = some (mub_88v_9 n5 n4 n3 n2 n1 n0 H0 H1)) (f11 : n6 = 500) (f12 : n0 ≤ n6) (f13 : n7 ≤ 2147483647) (f14 : (-2147483648) ≤ n7) (f15 : n7 = hV H1 (n4).toNat 3) (f16 : n7 = 0) (f17 : n1 ≠ 0) : preb_89v n4 H1 := by
  have pz := f10.2.1.2
  unfold preb_88v at pz
  have ga := f10.2.1.1
  unfold Ab_88v_9 at ga
  have vz : vwC H1 = vwC H0 := vwC_fr f10.1.2.1 (by decide +kernel)
  have ga1_ := ga.1
  have gb := ga
  obtain ⟨_, s0_, m01, xn, ya, yb⟩ := gb
  clear ga
  unfold preb_89v
  exact ga1_
theorem c_88v_9_3 {q0 : Nat} : vOkm T0 (eP e_88v L_88v A_88v mu_88v (some q0)) 1 ([(31, [4], [], 0), (30, [7], [], 0), (20, [7, 1], [1], 3), (90, [7], [], -2147483648), (91, [7], [], 2147483647), (45, [5, 6], [], 0), (0, [6], [], 500), (5000, [0, 1, 2, 3, 4, 5], [0, 1], 9), (0, [0], [], 30), (0, [1], [], 30), (90, [2], [], -2147483648), (91, [2], [], 2147483647), (90, [3], [], -2147483648), (91, [3], [], 2147483647), (90, [4], [], -2147483648), (91, [4], [], 2147483647), (90, [5], [], -2147483648), (91, [5], [], 2147483647)], (2089, [1], [1], 0)) := vOk_in fun ρ η h => by
  obtain ⟨f0, f1, f2, f3, f4, f5, f6, f7, f8, f9, f10, f11, f12, f13, f14, f15, f16, f17, _⟩ := h
  exact q_88v_4 (q0 := q0) (n0 := ρ 5) (n1 := ρ 4) (n2 := ρ 3) (n3 := ρ 2) (n4 := ρ 1) (n5 := ρ 0) (n6 := ρ 6) (n7 := ρ 7) (H0 := η 0) (H1 := η 1) f17 f16 f15 f14 f13 f12 f11 f10 f9 f8 f7 f6 f5 f4 f3 f2 f1 f0
theorem q_88v_5 {q0 : Nat} {n0 n1 n2 n3 n4 n5 n6 n7 n8 : Int} {H0 H1 H2 : gH} (f0 : n0 ≤ 2147483647) (f1 : (-2147483648) ≤ n0) (f2 : n1 ≤ 2147483647) (f3 : (-2147483648) ≤ n1) (f4 : n2 ≤ 2147483647) (f5 : (-2147483648) ≤ n2) (f6 : n3 ≤ 2147483647) (f7 : (-2147483648) ≤ n3) (f8 : n4 = 30) (f9 : n5 = 30) (f10 : (hLe T0 H0 H1 ∧ hFr s_88v.2.2.2.2 H0 H1 ∧ hWt T0 H1) ∧ (Ab_88v_9 n5 n4 n3 n2 n1 n0 H0 H1 ∧ preb_88v n5 H0) ∧ some q0 = some (mub_88v_9 n5 n4 n3 n2 n1 n0 H0 H1)) (f11 : n6 = 500) (f12 : n0 ≤ n6) (f13 : n7 ≤ 2147483647) (f14 : (-2147483648) ≤ n7) (f15 : n7 = hV H1 (n4).toNat 3) (f16 : n7 = 0) (f17 : n1 ≠ 0) (f18 : n8 ≤ 1) (f19 : 0 ≤ n8) (f20 : (hLe T0 H1 H2 ∧ hFr s_89v.2.2.2.2 H1 H2 ∧ ((0 : Int) = 0 → H2.length = H1.length) ∧ hWt T0 H2) ∧ postb_89v n8 n4 H1 H2) : preb_92v n4 H2 := by
  have pz := f10.2.1.2
  unfold preb_88v at pz
  have ga := f10.2.1.1
  unfold Ab_88v_9 at ga
  have vz : vwC H1 = vwC H0 := vwC_fr f10.1.2.1 (by decide +kernel)
  have c0 := f20.2
  unfold postb_89v at c0
  rw [vz] at c0
  have a0 : absC H2 = (pNots (vwC H0) (502 - (absC H1).1).toNat (absC H1)) := c0.2
  have v0 : vwC H2 = vwC H0 := (vwC_fr f20.1.2.1 (by decide +kernel)).trans vz
  have ga1_ := ga.1
  have gb := ga
  obtain ⟨_, s0_, m01, xn, ya, yb⟩ := gb
  clear ga
  unfold preb_92v
  exact c0.1
theorem c_88v_9_4 {q0 : Nat} : vOkm T0 (eP e_88v L_88v A_88v mu_88v (some q0)) 1 ([(1089, [8, 1], [1, 2], 0), (90, [8], [], 0), (91, [8], [], 1), (31, [4], [], 0), (30, [7], [], 0), (20, [7, 1], [1], 3), (90, [7], [], -2147483648), (91, [7], [], 2147483647), (45, [5, 6], [], 0), (0, [6], [], 500), (5000, [0, 1, 2, 3, 4, 5], [0, 1], 9), (0, [0], [], 30), (0, [1], [], 30), (90, [2], [], -2147483648), (91, [2], [], 2147483647), (90, [3], [], -2147483648), (91, [3], [], 2147483647), (90, [4], [], -2147483648), (91, [4], [], 2147483647), (90, [5], [], -2147483648), (91, [5], [], 2147483647)], (2092, [1], [2], 0)) := vOk_in fun ρ η h => by
  obtain ⟨f0, f1, f2, f3, f4, f5, f6, f7, f8, f9, f10, f11, f12, f13, f14, f15, f16, f17, f18, f19, f20, _⟩ := h
  exact q_88v_5 (q0 := q0) (n0 := ρ 5) (n1 := ρ 4) (n2 := ρ 3) (n3 := ρ 2) (n4 := ρ 1) (n5 := ρ 0) (n6 := ρ 6) (n7 := ρ 7) (n8 := ρ 8) (H0 := η 0) (H1 := η 1) (H2 := η 2) f20 f19 f18 f17 f16 f15 f14 f13 f12 f11 f10 f9 f8 f7 f6 f5 f4 f3 f2 f1 f0
theorem q_88v_6 {q0 : Nat} {n0 n1 n2 n3 n4 n5 n6 n7 n8 : Int} {H0 H1 H2 H3 : gH} (f0 : n0 ≤ 2147483647) (f1 : (-2147483648) ≤ n0) (f2 : n1 ≤ 2147483647) (f3 : (-2147483648) ≤ n1) (f4 : n2 ≤ 2147483647) (f5 : (-2147483648) ≤ n2) (f6 : n3 ≤ 2147483647) (f7 : (-2147483648) ≤ n3) (f8 : n4 = 30) (f9 : n5 = 30) (f10 : (hLe T0 H0 H1 ∧ hFr s_88v.2.2.2.2 H0 H1 ∧ hWt T0 H1) ∧ (Ab_88v_9 n5 n4 n3 n2 n1 n0 H0 H1 ∧ preb_88v n5 H0) ∧ some q0 = some (mub_88v_9 n5 n4 n3 n2 n1 n0 H0 H1)) (f11 : n6 = 500) (f12 : n0 ≤ n6) (f13 : n7 ≤ 2147483647) (f14 : (-2147483648) ≤ n7) (f15 : n7 = hV H1 (n4).toNat 3) (f16 : n7 = 0) (f17 : n1 ≠ 0) (f18 : n8 ≤ 1) (f19 : 0 ≤ n8) (f20 : (hLe T0 H1 H2 ∧ hFr s_89v.2.2.2.2 H1 H2 ∧ ((0 : Int) = 0 → H2.length = H1.length) ∧ hWt T0 H2) ∧ postb_89v n8 n4 H1 H2) (f21 : (hLe T0 H2 H3 ∧ hFr s_92v.2.2.2.2 H2 H3 ∧ ((0 : Int) = 0 → H3.length = H2.length) ∧ hWt T0 H3) ∧ postb_92v n4 H2 H3) : preb_90v n4 H3 := by
  have pz := f10.2.1.2
  unfold preb_88v at pz
  have ga := f10.2.1.1
  unfold Ab_88v_9 at ga
  have vz : vwC H1 = vwC H0 := vwC_fr f10.1.2.1 (by decide +kernel)
  have c0 := f20.2
  unfold postb_89v at c0
  rw [vz] at c0
  have a0 : absC H2 = (pNots (vwC H0) (502 - (absC H1).1).toNat (absC H1)) := c0.2
  have v0 : vwC H2 = vwC H0 := (vwC_fr f20.1.2.1 (by decide +kernel)).trans vz
  have c1 := f21.2
  unfold postb_92v at c1
  rw [v0] at c1
  rw [a0] at c1
  have a1 : absC H3 = (pExp (vwC H0) (pNots (vwC H0) (502 - (absC H1).1).toNat (absC H1))) := c1.2
  have v1 : vwC H3 = vwC H0 := (vwC_fr f21.1.2.1 (by decide +kernel)).trans v0
  have ga1_ := ga.1
  have gb := ga
  obtain ⟨_, s0_, m01, xn, ya, yb⟩ := gb
  clear ga
  unfold preb_90v
  exact c1.1
theorem c_88v_9_5 {q0 : Nat} : vOkm T0 (eP e_88v L_88v A_88v mu_88v (some q0)) 1 ([(1092, [1], [2, 3], 0), (1089, [8, 1], [1, 2], 0), (90, [8], [], 0), (91, [8], [], 1), (31, [4], [], 0), (30, [7], [], 0), (20, [7, 1], [1], 3), (90, [7], [], -2147483648), (91, [7], [], 2147483647), (45, [5, 6], [], 0), (0, [6], [], 500), (5000, [0, 1, 2, 3, 4, 5], [0, 1], 9), (0, [0], [], 30), (0, [1], [], 30), (90, [2], [], -2147483648), (91, [2], [], 2147483647), (90, [3], [], -2147483648), (91, [3], [], 2147483647), (90, [4], [], -2147483648), (91, [4], [], 2147483647), (90, [5], [], -2147483648), (91, [5], [], 2147483647)], (2090, [1], [3], 0)) := vOk_in fun ρ η h => by
  obtain ⟨f0, f1, f2, f3, f4, f5, f6, f7, f8, f9, f10, f11, f12, f13, f14, f15, f16, f17, f18, f19, f20, f21, _⟩ := h
  exact q_88v_6 (q0 := q0) (n0 := ρ 5) (n1 := ρ 4) (n2 := ρ 3) (n3 := ρ 2) (n4 := ρ 1) (n5 := ρ 0) (n6 := ρ 6) (n7 := ρ 7) (n8 := ρ 8) (H0 := η 0) (H1 := η 1) (H2 := η 2) (H3 := η 3) f21 f20 f19 f18 f17 f16 f15 f14 f13 f12 f11 f10 f9 f8 f7 f6 f5 f4 f3 f2 f1 f0
theorem q_88v_7 {q0 : Nat} {n0 n1 n2 n3 n4 n5 n6 n7 n8 n9 : Int} {H0 H1 H2 H3 H4 : gH} (f0 : n0 ≤ 2147483647) (f1 : (-2147483648) ≤ n0) (f2 : n1 ≤ 2147483647) (f3 : (-2147483648) ≤ n1) (f4 : n2 ≤ 2147483647) (f5 : (-2147483648) ≤ n2) (f6 : n3 ≤ 2147483647) (f7 : (-2147483648) ≤ n3) (f8 : n4 = 30) (f9 : n5 = 30) (f10 : (hLe T0 H0 H1 ∧ hFr s_88v.2.2.2.2 H0 H1 ∧ hWt T0 H1) ∧ (Ab_88v_9 n5 n4 n3 n2 n1 n0 H0 H1 ∧ preb_88v n5 H0) ∧ some q0 = some (mub_88v_9 n5 n4 n3 n2 n1 n0 H0 H1)) (f11 : n6 = 500) (f12 : n0 ≤ n6) (f13 : n7 ≤ 2147483647) (f14 : (-2147483648) ≤ n7) (f15 : n7 = hV H1 (n4).toNat 3) (f16 : n7 = 0) (f17 : n1 ≠ 0) (f18 : n8 ≤ 1) (f19 : 0 ≤ n8) (f20 : (hLe T0 H1 H2 ∧ hFr s_89v.2.2.2.2 H1 H2 ∧ ((0 : Int) = 0 → H2.length = H1.length) ∧ hWt T0 H2) ∧ postb_89v n8 n4 H1 H2) (f21 : (hLe T0 H2 H3 ∧ hFr s_92v.2.2.2.2 H2 H3 ∧ ((0 : Int) = 0 → H3.length = H2.length) ∧ hWt T0 H3) ∧ postb_92v n4 H2 H3) (f22 : n9 ≤ 2147483647) (f23 : (-2147483648) ≤ n9) (f24 : (hLe T0 H3 H4 ∧ hFr s_90v.2.2.2.2 H3 H4 ∧ ((0 : Int) = 0 → H4.length = H3.length) ∧ hWt T0 H4) ∧ postb_90v n9 n4 H3 H4) : preb_92v n4 H4 := by
  have pz := f10.2.1.2
  unfold preb_88v at pz
  have ga := f10.2.1.1
  unfold Ab_88v_9 at ga
  have vz : vwC H1 = vwC H0 := vwC_fr f10.1.2.1 (by decide +kernel)
  have c0 := f20.2
  unfold postb_89v at c0
  rw [vz] at c0
  have a0 : absC H2 = (pNots (vwC H0) (502 - (absC H1).1).toNat (absC H1)) := c0.2
  have v0 : vwC H2 = vwC H0 := (vwC_fr f20.1.2.1 (by decide +kernel)).trans vz
  have c1 := f21.2
  unfold postb_92v at c1
  rw [v0] at c1
  rw [a0] at c1
  have a1 : absC H3 = (pExp (vwC H0) (pNots (vwC H0) (502 - (absC H1).1).toNat (absC H1))) := c1.2
  have v1 : vwC H3 = vwC H0 := (vwC_fr f21.1.2.1 (by decide +kernel)).trans v0
  have c2 := f24.2
  unfold postb_90v at c2
  rw [v1] at c2
  rw [a1] at c2
  have a2 : absC H4 = (pRel (vwC H0) (pExp (vwC H0) (pNots (vwC H0) (502 - (absC H1).1).toNat (absC H1)))) := c2.2
  have v2 : vwC H4 = vwC H0 := (vwC_fr f24.1.2.1 (by decide +kernel)).trans v1
  have ga1_ := ga.1
  have gb := ga
  obtain ⟨_, s0_, m01, xn, ya, yb⟩ := gb
  clear ga
  unfold preb_92v
  exact c2.1
theorem c_88v_9_6 {q0 : Nat} : vOkm T0 (eP e_88v L_88v A_88v mu_88v (some q0)) 1 ([(1090, [9, 1], [3, 4], 0), (90, [9], [], -2147483648), (91, [9], [], 2147483647), (1092, [1], [2, 3], 0), (1089, [8, 1], [1, 2], 0), (90, [8], [], 0), (91, [8], [], 1), (31, [4], [], 0), (30, [7], [], 0), (20, [7, 1], [1], 3), (90, [7], [], -2147483648), (91, [7], [], 2147483647), (45, [5, 6], [], 0), (0, [6], [], 500), (5000, [0, 1, 2, 3, 4, 5], [0, 1], 9), (0, [0], [], 30), (0, [1], [], 30), (90, [2], [], -2147483648), (91, [2], [], 2147483647), (90, [3], [], -2147483648), (91, [3], [], 2147483647), (90, [4], [], -2147483648), (91, [4], [], 2147483647), (90, [5], [], -2147483648), (91, [5], [], 2147483647)], (2092, [1], [4], 0)) := vOk_in fun ρ η h => by
  obtain ⟨f0, f1, f2, f3, f4, f5, f6, f7, f8, f9, f10, f11, f12, f13, f14, f15, f16, f17, f18, f19, f20, f21, f22, f23, f24, _⟩ := h
  exact q_88v_7 (q0 := q0) (n0 := ρ 5) (n1 := ρ 4) (n2 := ρ 3) (n3 := ρ 2) (n4 := ρ 1) (n5 := ρ 0) (n6 := ρ 6) (n7 := ρ 7) (n8 := ρ 8) (n9 := ρ 9) (H0 := η 0) (H1 := η 1) (H2 := η 2) (H3 := η 3) (H4 := η 4) f24 f23 f22 f21 f20 f19 f18 f17 f16 f15 f14 f13 f12 f11 f10 f9 f8 f7 f6 f5 f4 f3 f2 f1 f0
theorem q_88v_8 {q0 : Nat} {n0 n1 n2 n3 n4 n5 n6 n7 n8 n9 n10 n11 n12 n13 n14 n15 n16 : Int} {H0 H1 H2 H3 H4 H5 H6 : gH} (f0 : n0 ≤ 2147483647) (f1 : (-2147483648) ≤ n0) (f2 : n1 ≤ 2147483647) (f3 : (-2147483648) ≤ n1) (f4 : n2 ≤ 2147483647) (f5 : (-2147483648) ≤ n2) (f6 : n3 ≤ 2147483647) (f7 : (-2147483648) ≤ n3) (f8 : n4 = 30) (f9 : n5 = 30) (f10 : (hLe T0 H0 H1 ∧ hFr s_88v.2.2.2.2 H0 H1 ∧ hWt T0 H1) ∧ (Ab_88v_9 n5 n4 n3 n2 n1 n0 H0 H1 ∧ preb_88v n5 H0) ∧ some q0 = some (mub_88v_9 n5 n4 n3 n2 n1 n0 H0 H1)) (f11 : n6 = 500) (f12 : n0 ≤ n6) (f13 : n7 ≤ 2147483647) (f14 : (-2147483648) ≤ n7) (f15 : n7 = hV H1 (n4).toNat 3) (f16 : n7 = 0) (f17 : n1 ≠ 0) (f18 : n8 ≤ 1) (f19 : 0 ≤ n8) (f20 : (hLe T0 H1 H2 ∧ hFr s_89v.2.2.2.2 H1 H2 ∧ ((0 : Int) = 0 → H2.length = H1.length) ∧ hWt T0 H2) ∧ postb_89v n8 n4 H1 H2) (f21 : (hLe T0 H2 H3 ∧ hFr s_92v.2.2.2.2 H2 H3 ∧ ((0 : Int) = 0 → H3.length = H2.length) ∧ hWt T0 H3) ∧ postb_92v n4 H2 H3) (f22 : n9 ≤ 2147483647) (f23 : (-2147483648) ≤ n9) (f24 : (hLe T0 H3 H4 ∧ hFr s_90v.2.2.2.2 H3 H4 ∧ ((0 : Int) = 0 → H4.length = H3.length) ∧ hWt T0 H4) ∧ postb_90v n9 n4 H3 H4) (f25 : (hLe T0 H4 H5 ∧ hFr s_92v.2.2.2.2 H4 H5 ∧ ((0 : Int) = 0 → H5.length = H4.length) ∧ hWt T0 H5) ∧ postb_92v n4 H4 H5) (f26 : (hLe T0 H5 H6 ∧ hFr s_91.2.2.2.2 H5 H6 ∧ ((0 : Int) = 0 → H6.length = H5.length) ∧ hWt T0 H6) ∧ True) (f27 : n2 = 0) (f28 : n10 ≤ 2147483647) (f29 : (-2147483648) ≤ n10) (f30 : n10 = hV H6 (n4).toNat 2) (f31 : n11 = 43) (f32 : n10 ≠ n11) (f33 : n12 = 0) (f34 : n12 ≠ 0) (f35 : n13 ≤ 2147483647) (f36 : (-2147483648) ≤ n13) (f37 : n13 = hV H6 (n4).toNat 2) (f38 : n14 = 42) (f39 : n13 ≠ n14) (f40 : n15 = 0) (f41 : n16 = o32 (fun x y => x ||| y) n3 n15) : Ab_88v_122 n5 n4 n16 n12 n1 n0 n8 n9 H0 H6 ∧ ∀ q, some q0 = some q → mub_88v_122 n5 n4 n16 n12 n1 n0 n8 n9 H0 H6 < q := by
  exfalso
  omega
theorem c_88v_9_7 {q0 : Nat} : vOkm T0 (eP e_88v L_88v A_88v mu_88v (some q0)) 1 ([(5, [16, 2, 15], [], 0), (0, [15], [], 0), (41, [13, 14], [], 0), (0, [14], [], 42), (20, [13, 1], [6], 2), (90, [13], [], -2147483648), (91, [13], [], 2147483647), (31, [12], [], 0), (0, [12], [], 0), (41, [10, 11], [], 0), (0, [11], [], 43), (20, [10, 1], [6], 2), (90, [10], [], -2147483648), (91, [10], [], 2147483647), (30, [3], [], 0), (1091, [1, 9, 8], [5, 6], 0), (1092, [1], [4, 5], 0), (1090, [9, 1], [3, 4], 0), (90, [9], [], -2147483648), (91, [9], [], 2147483647), (1092, [1], [2, 3], 0), (1089, [8, 1], [1, 2], 0), (90, [8], [], 0), (91, [8], [], 1), (31, [4], [], 0), (30, [7], [], 0), (20, [7, 1], [1], 3), (90, [7], [], -2147483648), (91, [7], [], 2147483647), (45, [5, 6], [], 0), (0, [6], [], 500), (5000, [0, 1, 2, 3, 4, 5], [0, 1], 9), (0, [0], [], 30), (0, [1], [], 30), (90, [2], [], -2147483648), (91, [2], [], 2147483647), (90, [3], [], -2147483648), (91, [3], [], 2147483647), (90, [4], [], -2147483648), (91, [4], [], 2147483647), (90, [5], [], -2147483648), (91, [5], [], 2147483647)], (4000, [1, 16, 12, 4, 5, 8, 9], [6], 122)) := vOk_in fun ρ η h => by
  obtain ⟨f0, f1, f2, f3, f4, f5, f6, f7, f8, f9, f10, f11, f12, f13, f14, f15, f16, f17, f18, f19, f20, f21, f22, f23, f24, f25, f26, f27, f28, f29, f30, f31, f32, f33, f34, f35, f36, f37, f38, f39, f40, f41, _⟩ := h
  exact q_88v_8 (q0 := q0) (n0 := ρ 5) (n1 := ρ 4) (n2 := ρ 3) (n3 := ρ 2) (n4 := ρ 1) (n5 := ρ 0) (n6 := ρ 6) (n7 := ρ 7) (n8 := ρ 8) (n9 := ρ 9) (n10 := ρ 10) (n11 := ρ 11) (n12 := ρ 12) (n13 := ρ 13) (n14 := ρ 14) (n15 := ρ 15) (n16 := ρ 16) (H0 := η 0) (H1 := η 1) (H2 := η 2) (H3 := η 3) (H4 := η 4) (H5 := η 5) (H6 := η 6) f41 f40 f39 f38 f37 f36 f35 f34 f33 f32 f31 f30 f29 f28 f27 f26 f25 f24 f23 f22 f21 f20 f19 f18 f17 f16 f15 f14 f13 f12 f11 f10 f9 f8 f7 f6 f5 f4 f3 f2 f1 f0
theorem q_88v_9 {q0 : Nat} {n0 n1 n2 n3 n4 n5 n6 n7 n8 n9 n10 n11 n12 n13 n14 n15 n16 : Int} {H0 H1 H2 H3 H4 H5 H6 : gH} (f0 : n0 ≤ 2147483647) (f1 : (-2147483648) ≤ n0) (f2 : n1 ≤ 2147483647) (f3 : (-2147483648) ≤ n1) (f4 : n2 ≤ 2147483647) (f5 : (-2147483648) ≤ n2) (f6 : n3 ≤ 2147483647) (f7 : (-2147483648) ≤ n3) (f8 : n4 = 30) (f9 : n5 = 30) (f10 : (hLe T0 H0 H1 ∧ hFr s_88v.2.2.2.2 H0 H1 ∧ hWt T0 H1) ∧ (Ab_88v_9 n5 n4 n3 n2 n1 n0 H0 H1 ∧ preb_88v n5 H0) ∧ some q0 = some (mub_88v_9 n5 n4 n3 n2 n1 n0 H0 H1)) (f11 : n6 = 500) (f12 : n0 ≤ n6) (f13 : n7 ≤ 2147483647) (f14 : (-2147483648) ≤ n7) (f15 : n7 = hV H1 (n4).toNat 3) (f16 : n7 = 0) (f17 : n1 ≠ 0) (f18 : n8 ≤ 1) (f19 : 0 ≤ n8) (f20 : (hLe T0 H1 H2 ∧ hFr s_89v.2.2.2.2 H1 H2 ∧ ((0 : Int) = 0 → H2.length = H1.length) ∧ hWt T0 H2) ∧ postb_89v n8 n4 H1 H2) (f21 : (hLe T0 H2 H3 ∧ hFr s_92v.2.2.2.2 H2 H3 ∧ ((0 : Int) = 0 → H3.length = H2.length) ∧ hWt T0 H3) ∧ postb_92v n4 H2 H3) (f22 : n9 ≤ 2147483647) (f23 : (-2147483648) ≤ n9) (f24 : (hLe T0 H3 H4 ∧ hFr s_90v.2.2.2.2 H3 H4 ∧ ((0 : Int) = 0 → H4.length = H3.length) ∧ hWt T0 H4) ∧ postb_90v n9 n4 H3 H4) (f25 : (hLe T0 H4 H5 ∧ hFr s_92v.2.2.2.2 H4 H5 ∧ ((0 : Int) = 0 → H5.length = H4.length) ∧ hWt T0 H5) ∧ postb_92v n4 H4 H5) (f26 : (hLe T0 H5 H6 ∧ hFr s_91.2.2.2.2 H5 H6 ∧ ((0 : Int) = 0 → H6.length = H5.length) ∧ hWt T0 H6) ∧ True) (f27 : n2 = 0) (f28 : n10 ≤ 2147483647) (f29 : (-2147483648) ≤ n10) (f30 : n10 = hV H6 (n4).toNat 2) (f31 : n11 = 43) (f32 : n10 ≠ n11) (f33 : n12 = 0) (f34 : n12 ≠ 0) (f35 : n13 ≤ 2147483647) (f36 : (-2147483648) ≤ n13) (f37 : n13 = hV H6 (n4).toNat 2) (f38 : n14 = 42) (f39 : n13 = n14) (f40 : n15 = 1) (f41 : n16 = o32 (fun x y => x ||| y) n3 n15) : Ab_88v_122 n5 n4 n16 n12 n1 n0 n8 n9 H0 H6 ∧ ∀ q, some q0 = some q → mub_88v_122 n5 n4 n16 n12 n1 n0 n8 n9 H0 H6 < q := by
  exfalso
  omega
theorem c_88v_9_8 {q0 : Nat} : vOkm T0 (eP e_88v L_88v A_88v mu_88v (some q0)) 1 ([(5, [16, 2, 15], [], 0), (0, [15], [], 1), (40, [13, 14], [], 0), (0, [14], [], 42), (20, [13, 1], [6], 2), (90, [13], [], -2147483648), (91, [13], [], 2147483647), (31, [12], [], 0), (0, [12], [], 0), (41, [10, 11], [], 0), (0, [11], [], 43), (20, [10, 1], [6], 2), (90, [10], [], -2147483648), (91, [10], [], 2147483647), (30, [3], [], 0), (1091, [1, 9, 8], [5, 6], 0), (1092, [1], [4, 5], 0), (1090, [9, 1], [3, 4], 0), (90, [9], [], -2147483648), (91, [9], [], 2147483647), (1092, [1], [2, 3], 0), (1089, [8, 1], [1, 2], 0), (90, [8], [], 0), (91, [8], [], 1), (31, [4], [], 0), (30, [7], [], 0), (20, [7, 1], [1], 3), (90, [7], [], -2147483648), (91, [7], [], 2147483647), (45, [5, 6], [], 0), (0, [6], [], 500), (5000, [0, 1, 2, 3, 4, 5], [0, 1], 9), (0, [0], [], 30), (0, [1], [], 30), (90, [2], [], -2147483648), (91, [2], [], 2147483647), (90, [3], [], -2147483648), (91, [3], [], 2147483647), (90, [4], [], -2147483648), (91, [4], [], 2147483647), (90, [5], [], -2147483648), (91, [5], [], 2147483647)], (4000, [1, 16, 12, 4, 5, 8, 9], [6], 122)) := vOk_in fun ρ η h => by
  obtain ⟨f0, f1, f2, f3, f4, f5, f6, f7, f8, f9, f10, f11, f12, f13, f14, f15, f16, f17, f18, f19, f20, f21, f22, f23, f24, f25, f26, f27, f28, f29, f30, f31, f32, f33, f34, f35, f36, f37, f38, f39, f40, f41, _⟩ := h
  exact q_88v_9 (q0 := q0) (n0 := ρ 5) (n1 := ρ 4) (n2 := ρ 3) (n3 := ρ 2) (n4 := ρ 1) (n5 := ρ 0) (n6 := ρ 6) (n7 := ρ 7) (n8 := ρ 8) (n9 := ρ 9) (n10 := ρ 10) (n11 := ρ 11) (n12 := ρ 12) (n13 := ρ 13) (n14 := ρ 14) (n15 := ρ 15) (n16 := ρ 16) (H0 := η 0) (H1 := η 1) (H2 := η 2) (H3 := η 3) (H4 := η 4) (H5 := η 5) (H6 := η 6) f41 f40 f39 f38 f37 f36 f35 f34 f33 f32 f31 f30 f29 f28 f27 f26 f25 f24 f23 f22 f21 f20 f19 f18 f17 f16 f15 f14 f13 f12 f11 f10 f9 f8 f7 f6 f5 f4 f3 f2 f1 f0
theorem q_88v_10 {q0 : Nat} {n0 n1 n2 n3 n4 n5 n6 n7 n8 n9 n10 n11 n12 n13 n14 n15 n16 : Int} {H0 H1 H2 H3 H4 H5 H6 : gH} (f0 : n0 ≤ 2147483647) (f1 : (-2147483648) ≤ n0) (f2 : n1 ≤ 2147483647) (f3 : (-2147483648) ≤ n1) (f4 : n2 ≤ 2147483647) (f5 : (-2147483648) ≤ n2) (f6 : n3 ≤ 2147483647) (f7 : (-2147483648) ≤ n3) (f8 : n4 = 30) (f9 : n5 = 30) (f10 : (hLe T0 H0 H1 ∧ hFr s_88v.2.2.2.2 H0 H1 ∧ hWt T0 H1) ∧ (Ab_88v_9 n5 n4 n3 n2 n1 n0 H0 H1 ∧ preb_88v n5 H0) ∧ some q0 = some (mub_88v_9 n5 n4 n3 n2 n1 n0 H0 H1)) (f11 : n6 = 500) (f12 : n0 ≤ n6) (f13 : n7 ≤ 2147483647) (f14 : (-2147483648) ≤ n7) (f15 : n7 = hV H1 (n4).toNat 3) (f16 : n7 = 0) (f17 : n1 ≠ 0) (f18 : n8 ≤ 1) (f19 : 0 ≤ n8) (f20 : (hLe T0 H1 H2 ∧ hFr s_89v.2.2.2.2 H1 H2 ∧ ((0 : Int) = 0 → H2.length = H1.length) ∧ hWt T0 H2) ∧ postb_89v n8 n4 H1 H2) (f21 : (hLe T0 H2 H3 ∧ hFr s_92v.2.2.2.2 H2 H3 ∧ ((0 : Int) = 0 → H3.length = H2.length) ∧ hWt T0 H3) ∧ postb_92v n4 H2 H3) (f22 : n9 ≤ 2147483647) (f23 : (-2147483648) ≤ n9) (f24 : (hLe T0 H3 H4 ∧ hFr s_90v.2.2.2.2 H3 H4 ∧ ((0 : Int) = 0 → H4.length = H3.length) ∧ hWt T0 H4) ∧ postb_90v n9 n4 H3 H4) (f25 : (hLe T0 H4 H5 ∧ hFr s_92v.2.2.2.2 H4 H5 ∧ ((0 : Int) = 0 → H5.length = H4.length) ∧ hWt T0 H5) ∧ postb_92v n4 H4 H5) (f26 : (hLe T0 H5 H6 ∧ hFr s_91.2.2.2.2 H5 H6 ∧ ((0 : Int) = 0 → H6.length = H5.length) ∧ hWt T0 H6) ∧ True) (f27 : n2 = 0) (f28 : n10 ≤ 2147483647) (f29 : (-2147483648) ≤ n10) (f30 : n10 = hV H6 (n4).toNat 2) (f31 : n11 = 43) (f32 : n10 ≠ n11) (f33 : n12 = 0) (f34 : n12 = 0) (f35 : n3 = 0) (f36 : n13 ≤ 2147483647) (f37 : (-2147483648) ≤ n13) (f38 : n13 = hV H6 (n4).toNat 2) (f39 : n14 = 42) (f40 : n13 ≠ n14) (f41 : n15 = 0) (f42 : n16 = o32 (fun x y => x ||| y) n3 n15) : Ab_88v_122 n5 n4 n16 n12 n1 n0 n8 n9 H0 H6 ∧ ∀ q, some q0 = some q → mub_88v_122 n5 n4 n16 n12 n1 n0 n8 n9 H0 H6 < q := by
  have pz := f10.2.1.2
  unfold preb_88v at pz
  have ga := f10.2.1.1
  unfold Ab_88v_9 at ga
  have vz : vwC H1 = vwC H0 := vwC_fr f10.1.2.1 (by decide +kernel)
  have c0 := f20.2
  unfold postb_89v at c0
  rw [vz] at c0
  have a0 : absC H2 = (pNots (vwC H0) (502 - (absC H1).1).toNat (absC H1)) := c0.2
  clear c0
  have v0 : vwC H2 = vwC H0 := (vwC_fr f20.1.2.1 (by decide +kernel)).trans vz
  have c1 := f21.2
  unfold postb_92v at c1
  rw [v0] at c1
  rw [a0] at c1
  have a1 : absC H3 = (pExp (vwC H0) (pNots (vwC H0) (502 - (absC H1).1).toNat (absC H1))) := c1.2
  clear c1
  have v1 : vwC H3 = vwC H0 := (vwC_fr f21.1.2.1 (by decide +kernel)).trans v0
  have c2 := f24.2
  unfold postb_90v at c2
  rw [v1] at c2
  rw [a1] at c2
  have a2 : absC H4 = (pRel (vwC H0) (pExp (vwC H0) (pNots (vwC H0) (502 - (absC H1).1).toNat (absC H1)))) := c2.2
  clear c2
  have v2 : vwC H4 = vwC H0 := (vwC_fr f24.1.2.1 (by decide +kernel)).trans v1
  have c3 := f25.2
  unfold postb_92v at c3
  rw [v2] at c3
  rw [a2] at c3
  have a3 : absC H5 = (pExp (vwC H0) (pRel (vwC H0) (pExp (vwC H0) (pNots (vwC H0) (502 - (absC H1).1).toNat (absC H1))))) := c3.2
  have v3 : vwC H5 = vwC H0 := (vwC_fr f25.1.2.1 (by decide +kernel)).trans v2
  have s4 := PF_fr f26.1.1 f26.1.2.1 (by decide +kernel) c3.1
  clear c3
  have a4 : absC H6 = (pExp (vwC H0) (pRel (vwC H0) (pExp (vwC H0) (pNots (vwC H0) (502 - (absC H1).1).toNat (absC H1))))) := s4.1.trans a3
  have v4 : vwC H6 = vwC H0 := s4.2.1.trans v3
  have b0 := kd_at s4.2.2
  rw [v4] at b0
  rw [a4] at b0
  have g0 := f30
  rw [f8] at g0
  rw [show ((30 : Int)).toNat = 30 from rfl] at g0
  have h0 : (pExp (vwC H0) (pRel (vwC H0) (pExp (vwC H0) (pNots (vwC H0) (502 - (absC H1).1).toNat (absC H1))))).1 < 0 ∨ ¬ (vwC H0).1 (pExp (vwC H0) (pRel (vwC H0) (pExp (vwC H0) (pNots (vwC H0) (502 - (absC H1).1).toNat (absC H1))))).1 = 43 := by
    rcases b0 with q | q
    · exact .inl q
    · right
      rw [q]
      omega
  clear b0 h0
  have b1 := kd_at s4.2.2
  rw [v4] at b1
  rw [a4] at b1
  have g1 := f38
  rw [f8] at g1
  rw [show ((30 : Int)).toNat = 30 from rfl] at g1
  have h1 : (pExp (vwC H0) (pRel (vwC H0) (pExp (vwC H0) (pNots (vwC H0) (502 - (absC H1).1).toNat (absC H1))))).1 < 0 ∨ ¬ (vwC H0).1 (pExp (vwC H0) (pRel (vwC H0) (pExp (vwC H0) (pNots (vwC H0) (502 - (absC H1).1).toNat (absC H1))))).1 = 42 := by
    rcases b1 with q | q
    · exact .inl q
    · right
      rw [q]
      omega
  clear b1 h1
  have ga1_ := ga.1
  have gb := ga
  obtain ⟨_, s0_, m01, xn, ya, yb⟩ := gb
  clear ga
  clear yb
  have rf := f15
  rw [f8] at rf
  rw [show ((30 : Int)).toNat = 30 from rfl] at rf
  have ap := absC_pos ga1_ (by (first | exact Int.le_antisymm (by omega) (by omega) | omega))
  have u := xn (by (first | exact Int.le_antisymm (by omega) (by omega) | omega))
  clear xn
  have nw := ga1_.2.2.2.1.2.1
  have y := ya (by (first | exact Int.le_antisymm (by omega) (by omega) | omega))
  clear ya
  rw [show 502 - (n0).toNat = (502 - (n0).toNat - 1) + 1 by (first | exact Int.le_antisymm (by omega) (by omega) | omega), pCond_step] at y
  have al : absC H6 = pLit (vwC H0) (absC H1) := a4
  have g5 := Option.some.inj f10.2.2
  unfold mub_88v_9 at g5
  unfold Ab_88v_122 mub_88v_122
  refine ⟨⟨s4.2.2, by (first | exact Int.le_antisymm (by omega) (by omega) | omega), by (first | exact Int.le_antisymm (by omega) (by omega) | omega), fun hf => ?_, ?_⟩, fun q hq => ?_⟩
  · have a2 := absC_pos s4.2.2 hf
    have a3 := pLit_mono (p := absC H1) pz.2.1 (absC_ok ga1_) (by rw [← al]; exact a2.2)
    rw [← al] at a3
    omega
  · rw [al]
    exact y
  · have g6 := Option.some.inj hq
    subst g6
    omega
theorem c_88v_9_9 {q0 : Nat} : vOkm T0 (eP e_88v L_88v A_88v mu_88v (some q0)) 1 ([(5, [16, 2, 15], [], 0), (0, [15], [], 0), (41, [13, 14], [], 0), (0, [14], [], 42), (20, [13, 1], [6], 2), (90, [13], [], -2147483648), (91, [13], [], 2147483647), (30, [2], [], 0), (30, [12], [], 0), (0, [12], [], 0), (41, [10, 11], [], 0), (0, [11], [], 43), (20, [10, 1], [6], 2), (90, [10], [], -2147483648), (91, [10], [], 2147483647), (30, [3], [], 0), (1091, [1, 9, 8], [5, 6], 0), (1092, [1], [4, 5], 0), (1090, [9, 1], [3, 4], 0), (90, [9], [], -2147483648), (91, [9], [], 2147483647), (1092, [1], [2, 3], 0), (1089, [8, 1], [1, 2], 0), (90, [8], [], 0), (91, [8], [], 1), (31, [4], [], 0), (30, [7], [], 0), (20, [7, 1], [1], 3), (90, [7], [], -2147483648), (91, [7], [], 2147483647), (45, [5, 6], [], 0), (0, [6], [], 500), (5000, [0, 1, 2, 3, 4, 5], [0, 1], 9), (0, [0], [], 30), (0, [1], [], 30), (90, [2], [], -2147483648), (91, [2], [], 2147483647), (90, [3], [], -2147483648), (91, [3], [], 2147483647), (90, [4], [], -2147483648), (91, [4], [], 2147483647), (90, [5], [], -2147483648), (91, [5], [], 2147483647)], (4000, [1, 16, 12, 4, 5, 8, 9], [6], 122)) := vOk_in fun ρ η h => by
  obtain ⟨f0, f1, f2, f3, f4, f5, f6, f7, f8, f9, f10, f11, f12, f13, f14, f15, f16, f17, f18, f19, f20, f21, f22, f23, f24, f25, f26, f27, f28, f29, f30, f31, f32, f33, f34, f35, f36, f37, f38, f39, f40, f41, f42, _⟩ := h
  exact q_88v_10 (q0 := q0) (n0 := ρ 5) (n1 := ρ 4) (n2 := ρ 3) (n3 := ρ 2) (n4 := ρ 1) (n5 := ρ 0) (n6 := ρ 6) (n7 := ρ 7) (n8 := ρ 8) (n9 := ρ 9) (n10 := ρ 10) (n11 := ρ 11) (n12 := ρ 12) (n13 := ρ 13) (n14 := ρ 14) (n15 := ρ 15) (n16 := ρ 16) (H0 := η 0) (H1 := η 1) (H2 := η 2) (H3 := η 3) (H4 := η 4) (H5 := η 5) (H6 := η 6) f42 f41 f40 f39 f38 f37 f36 f35 f34 f33 f32 f31 f30 f29 f28 f27 f26 f25 f24 f23 f22 f21 f20 f19 f18 f17 f16 f15 f14 f13 f12 f11 f10 f9 f8 f7 f6 f5 f4 f3 f2 f1 f0
theorem q_88v_11 {q0 : Nat} {n0 n1 n2 n3 n4 n5 n6 n7 n8 n9 n10 n11 n12 n13 n14 n15 n16 : Int} {H0 H1 H2 H3 H4 H5 H6 : gH} (f0 : n0 ≤ 2147483647) (f1 : (-2147483648) ≤ n0) (f2 : n1 ≤ 2147483647) (f3 : (-2147483648) ≤ n1) (f4 : n2 ≤ 2147483647) (f5 : (-2147483648) ≤ n2) (f6 : n3 ≤ 2147483647) (f7 : (-2147483648) ≤ n3) (f8 : n4 = 30) (f9 : n5 = 30) (f10 : (hLe T0 H0 H1 ∧ hFr s_88v.2.2.2.2 H0 H1 ∧ hWt T0 H1) ∧ (Ab_88v_9 n5 n4 n3 n2 n1 n0 H0 H1 ∧ preb_88v n5 H0) ∧ some q0 = some (mub_88v_9 n5 n4 n3 n2 n1 n0 H0 H1)) (f11 : n6 = 500) (f12 : n0 ≤ n6) (f13 : n7 ≤ 2147483647) (f14 : (-2147483648) ≤ n7) (f15 : n7 = hV H1 (n4).toNat 3) (f16 : n7 = 0) (f17 : n1 ≠ 0) (f18 : n8 ≤ 1) (f19 : 0 ≤ n8) (f20 : (hLe T0 H1 H2 ∧ hFr s_89v.2.2.2.2 H1 H2 ∧ ((0 : Int) = 0 → H2.length = H1.length) ∧ hWt T0 H2) ∧ postb_89v n8 n4 H1 H2) (f21 : (hLe T0 H2 H3 ∧ hFr s_92v.2.2.2.2 H2 H3 ∧ ((0 : Int) = 0 → H3.length = H2.length) ∧ hWt T0 H3) ∧ postb_92v n4 H2 H3) (f22 : n9 ≤ 2147483647) (f23 : (-2147483648) ≤ n9) (f24 : (hLe T0 H3 H4 ∧ hFr s_90v.2.2.2.2 H3 H4 ∧ ((0 : Int) = 0 → H4.length = H3.length) ∧ hWt T0 H4) ∧ postb_90v n9 n4 H3 H4) (f25 : (hLe T0 H4 H5 ∧ hFr s_92v.2.2.2.2 H4 H5 ∧ ((0 : Int) = 0 → H5.length = H4.length) ∧ hWt T0 H5) ∧ postb_92v n4 H4 H5) (f26 : (hLe T0 H5 H6 ∧ hFr s_91.2.2.2.2 H5 H6 ∧ ((0 : Int) = 0 → H6.length = H5.length) ∧ hWt T0 H6) ∧ True) (f27 : n2 = 0) (f28 : n10 ≤ 2147483647) (f29 : (-2147483648) ≤ n10) (f30 : n10 = hV H6 (n4).toNat 2) (f31 : n11 = 43) (f32 : n10 ≠ n11) (f33 : n12 = 0) (f34 : n12 = 0) (f35 : n3 = 0) (f36 : n13 ≤ 2147483647) (f37 : (-2147483648) ≤ n13) (f38 : n13 = hV H6 (n4).toNat 2) (f39 : n14 = 42) (f40 : n13 = n14) (f41 : n15 = 1) (f42 : n16 = o32 (fun x y => x ||| y) n3 n15) : Ab_88v_122 n5 n4 n16 n12 n1 n0 n8 n9 H0 H6 ∧ ∀ q, some q0 = some q → mub_88v_122 n5 n4 n16 n12 n1 n0 n8 n9 H0 H6 < q := by
  have pz := f10.2.1.2
  unfold preb_88v at pz
  have ga := f10.2.1.1
  unfold Ab_88v_9 at ga
  have vz : vwC H1 = vwC H0 := vwC_fr f10.1.2.1 (by decide +kernel)
  have c0 := f20.2
  unfold postb_89v at c0
  rw [vz] at c0
  have a0 : absC H2 = (pNots (vwC H0) (502 - (absC H1).1).toNat (absC H1)) := c0.2
  clear c0
  have v0 : vwC H2 = vwC H0 := (vwC_fr f20.1.2.1 (by decide +kernel)).trans vz
  have c1 := f21.2
  unfold postb_92v at c1
  rw [v0] at c1
  rw [a0] at c1
  have a1 : absC H3 = (pExp (vwC H0) (pNots (vwC H0) (502 - (absC H1).1).toNat (absC H1))) := c1.2
  clear c1
  have v1 : vwC H3 = vwC H0 := (vwC_fr f21.1.2.1 (by decide +kernel)).trans v0
  have c2 := f24.2
  unfold postb_90v at c2
  rw [v1] at c2
  rw [a1] at c2
  have a2 : absC H4 = (pRel (vwC H0) (pExp (vwC H0) (pNots (vwC H0) (502 - (absC H1).1).toNat (absC H1)))) := c2.2
  clear c2
  have v2 : vwC H4 = vwC H0 := (vwC_fr f24.1.2.1 (by decide +kernel)).trans v1
  have c3 := f25.2
  unfold postb_92v at c3
  rw [v2] at c3
  rw [a2] at c3
  have a3 : absC H5 = (pExp (vwC H0) (pRel (vwC H0) (pExp (vwC H0) (pNots (vwC H0) (502 - (absC H1).1).toNat (absC H1))))) := c3.2
  have v3 : vwC H5 = vwC H0 := (vwC_fr f25.1.2.1 (by decide +kernel)).trans v2
  have s4 := PF_fr f26.1.1 f26.1.2.1 (by decide +kernel) c3.1
  clear c3
  have a4 : absC H6 = (pExp (vwC H0) (pRel (vwC H0) (pExp (vwC H0) (pNots (vwC H0) (502 - (absC H1).1).toNat (absC H1))))) := s4.1.trans a3
  have v4 : vwC H6 = vwC H0 := s4.2.1.trans v3
  have b0 := kd_at s4.2.2
  rw [v4] at b0
  rw [a4] at b0
  have g0 := f30
  rw [f8] at g0
  rw [show ((30 : Int)).toNat = 30 from rfl] at g0
  have h0 : (pExp (vwC H0) (pRel (vwC H0) (pExp (vwC H0) (pNots (vwC H0) (502 - (absC H1).1).toNat (absC H1))))).1 < 0 ∨ ¬ (vwC H0).1 (pExp (vwC H0) (pRel (vwC H0) (pExp (vwC H0) (pNots (vwC H0) (502 - (absC H1).1).toNat (absC H1))))).1 = 43 := by
    rcases b0 with q | q
    · exact .inl q
    · right
      rw [q]
      omega
  clear b0 h0
  have b1 := kd_at s4.2.2
  rw [v4] at b1
  rw [a4] at b1
  have g1 := f38
  rw [f8] at g1
  rw [show ((30 : Int)).toNat = 30 from rfl] at g1
  have h1 : (pExp (vwC H0) (pRel (vwC H0) (pExp (vwC H0) (pNots (vwC H0) (502 - (absC H1).1).toNat (absC H1))))).1 < 0 ∨ (vwC H0).1 (pExp (vwC H0) (pRel (vwC H0) (pExp (vwC H0) (pNots (vwC H0) (502 - (absC H1).1).toNat (absC H1))))).1 = 42 := by
    rcases b1 with q | q
    · exact .inl q
    · right
      rw [q]
      omega
  clear b1 h1
  have ga1_ := ga.1
  have gb := ga
  obtain ⟨_, s0_, m01, xn, ya, yb⟩ := gb
  clear ga
  clear yb
  have rf := f15
  rw [f8] at rf
  rw [show ((30 : Int)).toNat = 30 from rfl] at rf
  have ap := absC_pos ga1_ (by (first | exact Int.le_antisymm (by omega) (by omega) | omega))
  have u := xn (by (first | exact Int.le_antisymm (by omega) (by omega) | omega))
  clear xn
  have nw := ga1_.2.2.2.1.2.1
  have y := ya (by (first | exact Int.le_antisymm (by omega) (by omega) | omega))
  clear ya
  rw [show 502 - (n0).toNat = (502 - (n0).toNat - 1) + 1 by (first | exact Int.le_antisymm (by omega) (by omega) | omega), pCond_step] at y
  have al : absC H6 = pLit (vwC H0) (absC H1) := a4
  have g5 := Option.some.inj f10.2.2
  unfold mub_88v_9 at g5
  unfold Ab_88v_122 mub_88v_122
  refine ⟨⟨s4.2.2, by (first | exact Int.le_antisymm (by omega) (by omega) | omega), by (first | exact Int.le_antisymm (by omega) (by omega) | omega), fun hf => ?_, ?_⟩, fun q hq => ?_⟩
  · have a2 := absC_pos s4.2.2 hf
    have a3 := pLit_mono (p := absC H1) pz.2.1 (absC_ok ga1_) (by rw [← al]; exact a2.2)
    rw [← al] at a3
    omega
  · rw [al]
    exact y
  · have g6 := Option.some.inj hq
    subst g6
    omega
theorem c_88v_9_10 {q0 : Nat} : vOkm T0 (eP e_88v L_88v A_88v mu_88v (some q0)) 1 ([(5, [16, 2, 15], [], 0), (0, [15], [], 1), (40, [13, 14], [], 0), (0, [14], [], 42), (20, [13, 1], [6], 2), (90, [13], [], -2147483648), (91, [13], [], 2147483647), (30, [2], [], 0), (30, [12], [], 0), (0, [12], [], 0), (41, [10, 11], [], 0), (0, [11], [], 43), (20, [10, 1], [6], 2), (90, [10], [], -2147483648), (91, [10], [], 2147483647), (30, [3], [], 0), (1091, [1, 9, 8], [5, 6], 0), (1092, [1], [4, 5], 0), (1090, [9, 1], [3, 4], 0), (90, [9], [], -2147483648), (91, [9], [], 2147483647), (1092, [1], [2, 3], 0), (1089, [8, 1], [1, 2], 0), (90, [8], [], 0), (91, [8], [], 1), (31, [4], [], 0), (30, [7], [], 0), (20, [7, 1], [1], 3), (90, [7], [], -2147483648), (91, [7], [], 2147483647), (45, [5, 6], [], 0), (0, [6], [], 500), (5000, [0, 1, 2, 3, 4, 5], [0, 1], 9), (0, [0], [], 30), (0, [1], [], 30), (90, [2], [], -2147483648), (91, [2], [], 2147483647), (90, [3], [], -2147483648), (91, [3], [], 2147483647), (90, [4], [], -2147483648), (91, [4], [], 2147483647), (90, [5], [], -2147483648), (91, [5], [], 2147483647)], (4000, [1, 16, 12, 4, 5, 8, 9], [6], 122)) := vOk_in fun ρ η h => by
  obtain ⟨f0, f1, f2, f3, f4, f5, f6, f7, f8, f9, f10, f11, f12, f13, f14, f15, f16, f17, f18, f19, f20, f21, f22, f23, f24, f25, f26, f27, f28, f29, f30, f31, f32, f33, f34, f35, f36, f37, f38, f39, f40, f41, f42, _⟩ := h
  exact q_88v_11 (q0 := q0) (n0 := ρ 5) (n1 := ρ 4) (n2 := ρ 3) (n3 := ρ 2) (n4 := ρ 1) (n5 := ρ 0) (n6 := ρ 6) (n7 := ρ 7) (n8 := ρ 8) (n9 := ρ 9) (n10 := ρ 10) (n11 := ρ 11) (n12 := ρ 12) (n13 := ρ 13) (n14 := ρ 14) (n15 := ρ 15) (n16 := ρ 16) (H0 := η 0) (H1 := η 1) (H2 := η 2) (H3 := η 3) (H4 := η 4) (H5 := η 5) (H6 := η 6) f42 f41 f40 f39 f38 f37 f36 f35 f34 f33 f32 f31 f30 f29 f28 f27 f26 f25 f24 f23 f22 f21 f20 f19 f18 f17 f16 f15 f14 f13 f12 f11 f10 f9 f8 f7 f6 f5 f4 f3 f2 f1 f0
theorem q_88v_12 {q0 : Nat} {n0 n1 n2 n3 n4 n5 n6 n7 n8 n9 n10 n11 n12 n13 n14 n15 n16 n17 n18 n19 : Int} {H0 H1 H2 H3 H4 H5 H6 H7 : gH} (f0 : n0 ≤ 2147483647) (f1 : (-2147483648) ≤ n0) (f2 : n1 ≤ 2147483647) (f3 : (-2147483648) ≤ n1) (f4 : n2 ≤ 2147483647) (f5 : (-2147483648) ≤ n2) (f6 : n3 ≤ 2147483647) (f7 : (-2147483648) ≤ n3) (f8 : n4 = 30) (f9 : n5 = 30) (f10 : (hLe T0 H0 H1 ∧ hFr s_88v.2.2.2.2 H0 H1 ∧ hWt T0 H1) ∧ (Ab_88v_9 n5 n4 n3 n2 n1 n0 H0 H1 ∧ preb_88v n5 H0) ∧ some q0 = some (mub_88v_9 n5 n4 n3 n2 n1 n0 H0 H1)) (f11 : n6 = 500) (f12 : n0 ≤ n6) (f13 : n7 ≤ 2147483647) (f14 : (-2147483648) ≤ n7) (f15 : n7 = hV H1 (n4).toNat 3) (f16 : n7 = 0) (f17 : n1 ≠ 0) (f18 : n8 ≤ 1) (f19 : 0 ≤ n8) (f20 : (hLe T0 H1 H2 ∧ hFr s_89v.2.2.2.2 H1 H2 ∧ ((0 : Int) = 0 → H2.length = H1.length) ∧ hWt T0 H2) ∧ postb_89v n8 n4 H1 H2) (f21 : (hLe T0 H2 H3 ∧ hFr s_92v.2.2.2.2 H2 H3 ∧ ((0 : Int) = 0 → H3.length = H2.length) ∧ hWt T0 H3) ∧ postb_92v n4 H2 H3) (f22 : n9 ≤ 2147483647) (f23 : (-2147483648) ≤ n9) (f24 : (hLe T0 H3 H4 ∧ hFr s_90v.2.2.2.2 H3 H4 ∧ ((0 : Int) = 0 → H4.length = H3.length) ∧ hWt T0 H4) ∧ postb_90v n9 n4 H3 H4) (f25 : (hLe T0 H4 H5 ∧ hFr s_92v.2.2.2.2 H4 H5 ∧ ((0 : Int) = 0 → H5.length = H4.length) ∧ hWt T0 H5) ∧ postb_92v n4 H4 H5) (f26 : (hLe T0 H5 H6 ∧ hFr s_91.2.2.2.2 H5 H6 ∧ ((0 : Int) = 0 → H6.length = H5.length) ∧ hWt T0 H6) ∧ True) (f27 : n2 = 0) (f28 : n10 ≤ 2147483647) (f29 : (-2147483648) ≤ n10) (f30 : n10 = hV H6 (n4).toNat 2) (f31 : n11 = 43) (f32 : n10 ≠ n11) (f33 : n12 = 0) (f34 : n12 = 0) (f35 : n3 ≠ 0) (f36 : 0 ≤ n13) (f37 : n13 = hV H6 (n4).toNat 8) (f38 : n14 = 10042) (f39 : (hLe T0 H6 H7 ∧ hFr s_98.2.2.2.2 H6 H7 ∧ ((0 : Int) = 0 → H7.length = H6.length) ∧ hWt T0 H7) ∧ True) (f40 : n15 = 0) (f41 : n16 ≤ 2147483647) (f42 : (-2147483648) ≤ n16) (f43 : n16 = hV H7 (n4).toNat 2) (f44 : n17 = 42) (f45 : n16 ≠ n17) (f46 : n18 = 0) (f47 : n19 = o32 (fun x y => x ||| y) n15 n18) : Ab_88v_122 n5 n4 n19 n12 n1 n0 n8 n9 H0 H7 ∧ ∀ q, some q0 = some q → mub_88v_122 n5 n4 n19 n12 n1 n0 n8 n9 H0 H7 < q := by
  have pz := f10.2.1.2
  unfold preb_88v at pz
  have ga := f10.2.1.1
  unfold Ab_88v_9 at ga
  have vz : vwC H1 = vwC H0 := vwC_fr f10.1.2.1 (by decide +kernel)
  have c0 := f20.2
  unfold postb_89v at c0
  rw [vz] at c0
  have a0 : absC H2 = (pNots (vwC H0) (502 - (absC H1).1).toNat (absC H1)) := c0.2
  clear c0
  have v0 : vwC H2 = vwC H0 := (vwC_fr f20.1.2.1 (by decide +kernel)).trans vz
  have c1 := f21.2
  unfold postb_92v at c1
  rw [v0] at c1
  rw [a0] at c1
  have a1 : absC H3 = (pExp (vwC H0) (pNots (vwC H0) (502 - (absC H1).1).toNat (absC H1))) := c1.2
  clear c1
  have v1 : vwC H3 = vwC H0 := (vwC_fr f21.1.2.1 (by decide +kernel)).trans v0
  have c2 := f24.2
  unfold postb_90v at c2
  rw [v1] at c2
  rw [a1] at c2
  have a2 : absC H4 = (pRel (vwC H0) (pExp (vwC H0) (pNots (vwC H0) (502 - (absC H1).1).toNat (absC H1)))) := c2.2
  clear c2
  have v2 : vwC H4 = vwC H0 := (vwC_fr f24.1.2.1 (by decide +kernel)).trans v1
  have c3 := f25.2
  unfold postb_92v at c3
  rw [v2] at c3
  rw [a2] at c3
  have a3 : absC H5 = (pExp (vwC H0) (pRel (vwC H0) (pExp (vwC H0) (pNots (vwC H0) (502 - (absC H1).1).toNat (absC H1))))) := c3.2
  have v3 : vwC H5 = vwC H0 := (vwC_fr f25.1.2.1 (by decide +kernel)).trans v2
  have s4 := PF_fr f26.1.1 f26.1.2.1 (by decide +kernel) c3.1
  clear c3
  have a4 : absC H6 = (pExp (vwC H0) (pRel (vwC H0) (pExp (vwC H0) (pNots (vwC H0) (502 - (absC H1).1).toNat (absC H1))))) := s4.1.trans a3
  have v4 : vwC H6 = vwC H0 := s4.2.1.trans v3
  have s5 := PF_fr f39.1.1 f39.1.2.1 (by decide +kernel) s4.2.2
  have a5 : absC H7 = (pExp (vwC H0) (pRel (vwC H0) (pExp (vwC H0) (pNots (vwC H0) (502 - (absC H1).1).toNat (absC H1))))) := s5.1.trans a4
  have v5 : vwC H7 = vwC H0 := s5.2.1.trans v4
  have b0 := kd_at s4.2.2
  rw [v4] at b0
  rw [a4] at b0
  have g0 := f30
  rw [f8] at g0
  rw [show ((30 : Int)).toNat = 30 from rfl] at g0
  have h0 : (pExp (vwC H0) (pRel (vwC H0) (pExp (vwC H0) (pNots (vwC H0) (502 - (absC H1).1).toNat (absC H1))))).1 < 0 ∨ ¬ (vwC H0).1 (pExp (vwC H0) (pRel (vwC H0) (pExp (vwC H0) (pNots (vwC H0) (502 - (absC H1).1).toNat (absC H1))))).1 = 43 := by
    rcases b0 with q | q
    · exact .inl q
    · right
      rw [q]
      omega
  clear b0 h0
  have b1 := kd_at s5.2.2
  rw [v5] at b1
  rw [a5] at b1
  have g1 := f43
  rw [f8] at g1
  rw [show ((30 : Int)).toNat = 30 from rfl] at g1
  have h1 : (pExp (vwC H0) (pRel (vwC H0) (pExp (vwC H0) (pNots (vwC H0) (502 - (absC H1).1).toNat (absC H1))))).1 < 0 ∨ ¬ (vwC H0).1 (pExp (vwC H0) (pRel (vwC H0) (pExp (vwC H0) (pNots (vwC H0) (502 - (absC H1).1).toNat (absC H1))))).1 = 42 := by
    rcases b1 with q | q
    · exact .inl q
    · right
      rw [q]
      omega
  clear b1 h1
  have ga1_ := ga.1
  have gb := ga
  obtain ⟨_, s0_, m01, xn, ya, yb⟩ := gb
  clear ga
  clear yb
  have rf := f15
  rw [f8] at rf
  rw [show ((30 : Int)).toNat = 30 from rfl] at rf
  have ap := absC_pos ga1_ (by (first | exact Int.le_antisymm (by omega) (by omega) | omega))
  have u := xn (by (first | exact Int.le_antisymm (by omega) (by omega) | omega))
  clear xn
  have nw := ga1_.2.2.2.1.2.1
  have y := ya (by (first | exact Int.le_antisymm (by omega) (by omega) | omega))
  clear ya
  rw [show 502 - (n0).toNat = (502 - (n0).toNat - 1) + 1 by (first | exact Int.le_antisymm (by omega) (by omega) | omega), pCond_step] at y
  have al : absC H7 = pLit (vwC H0) (absC H1) := a5
  have g5 := Option.some.inj f10.2.2
  unfold mub_88v_9 at g5
  unfold Ab_88v_122 mub_88v_122
  refine ⟨⟨s5.2.2, by (first | exact Int.le_antisymm (by omega) (by omega) | omega), by (first | exact Int.le_antisymm (by omega) (by omega) | omega), fun hf => ?_, ?_⟩, fun q hq => ?_⟩
  · have a2 := absC_pos s5.2.2 hf
    have a3 := pLit_mono (p := absC H1) pz.2.1 (absC_ok ga1_) (by rw [← al]; exact a2.2)
    rw [← al] at a3
    omega
  · rw [al]
    exact y
  · have g6 := Option.some.inj hq
    subst g6
    omega
theorem c_88v_9_11 {q0 : Nat} : vOkm T0 (eP e_88v L_88v A_88v mu_88v (some q0)) 1 ([(5, [19, 15, 18], [], 0), (0, [18], [], 0), (41, [16, 17], [], 0), (0, [17], [], 42), (20, [16, 1], [7], 2), (90, [16], [], -2147483648), (91, [16], [], 2147483647), (0, [15], [], 0), (1098, [13, 14], [6, 7], 0), (0, [14], [], 10042), (20, [13, 1], [6], 8), (51, [13], [], 0), (31, [2], [], 0), (30, [12], [], 0), (0, [12], [], 0), (41, [10, 11], [], 0), (0, [11], [], 43), (20, [10, 1], [6], 2), (90, [10], [], -2147483648), (91, [10], [], 2147483647), (30, [3], [], 0), (1091, [1, 9, 8], [5, 6], 0), (1092, [1], [4, 5], 0), (1090, [9, 1], [3, 4], 0), (90, [9], [], -2147483648), (91, [9], [], 2147483647), (1092, [1], [2, 3], 0), (1089, [8, 1], [1, 2], 0), (90, [8], [], 0), (91, [8], [], 1), (31, [4], [], 0), (30, [7], [], 0), (20, [7, 1], [1], 3), (90, [7], [], -2147483648), (91, [7], [], 2147483647), (45, [5, 6], [], 0), (0, [6], [], 500), (5000, [0, 1, 2, 3, 4, 5], [0, 1], 9), (0, [0], [], 30), (0, [1], [], 30), (90, [2], [], -2147483648), (91, [2], [], 2147483647), (90, [3], [], -2147483648), (91, [3], [], 2147483647), (90, [4], [], -2147483648), (91, [4], [], 2147483647), (90, [5], [], -2147483648), (91, [5], [], 2147483647)], (4000, [1, 19, 12, 4, 5, 8, 9], [7], 122)) := vOk_in fun ρ η h => by
  obtain ⟨f0, f1, f2, f3, f4, f5, f6, f7, f8, f9, f10, f11, f12, f13, f14, f15, f16, f17, f18, f19, f20, f21, f22, f23, f24, f25, f26, f27, f28, f29, f30, f31, f32, f33, f34, f35, f36, f37, f38, f39, f40, f41, f42, f43, f44, f45, f46, f47, _⟩ := h
  exact q_88v_12 (q0 := q0) (n0 := ρ 5) (n1 := ρ 4) (n2 := ρ 3) (n3 := ρ 2) (n4 := ρ 1) (n5 := ρ 0) (n6 := ρ 6) (n7 := ρ 7) (n8 := ρ 8) (n9 := ρ 9) (n10 := ρ 10) (n11 := ρ 11) (n12 := ρ 12) (n13 := ρ 13) (n14 := ρ 14) (n15 := ρ 15) (n16 := ρ 16) (n17 := ρ 17) (n18 := ρ 18) (n19 := ρ 19) (H0 := η 0) (H1 := η 1) (H2 := η 2) (H3 := η 3) (H4 := η 4) (H5 := η 5) (H6 := η 6) (H7 := η 7) f47 f46 f45 f44 f43 f42 f41 f40 f39 f38 f37 f36 f35 f34 f33 f32 f31 f30 f29 f28 f27 f26 f25 f24 f23 f22 f21 f20 f19 f18 f17 f16 f15 f14 f13 f12 f11 f10 f9 f8 f7 f6 f5 f4 f3 f2 f1 f0
theorem q_88v_13 {q0 : Nat} {n0 n1 n2 n3 n4 n5 n6 n7 n8 n9 n10 n11 n12 n13 n14 n15 n16 n17 n18 n19 : Int} {H0 H1 H2 H3 H4 H5 H6 H7 : gH} (f0 : n0 ≤ 2147483647) (f1 : (-2147483648) ≤ n0) (f2 : n1 ≤ 2147483647) (f3 : (-2147483648) ≤ n1) (f4 : n2 ≤ 2147483647) (f5 : (-2147483648) ≤ n2) (f6 : n3 ≤ 2147483647) (f7 : (-2147483648) ≤ n3) (f8 : n4 = 30) (f9 : n5 = 30) (f10 : (hLe T0 H0 H1 ∧ hFr s_88v.2.2.2.2 H0 H1 ∧ hWt T0 H1) ∧ (Ab_88v_9 n5 n4 n3 n2 n1 n0 H0 H1 ∧ preb_88v n5 H0) ∧ some q0 = some (mub_88v_9 n5 n4 n3 n2 n1 n0 H0 H1)) (f11 : n6 = 500) (f12 : n0 ≤ n6) (f13 : n7 ≤ 2147483647) (f14 : (-2147483648) ≤ n7) (f15 : n7 = hV H1 (n4).toNat 3) (f16 : n7 = 0) (f17 : n1 ≠ 0) (f18 : n8 ≤ 1) (f19 : 0 ≤ n8) (f20 : (hLe T0 H1 H2 ∧ hFr s_89v.2.2.2.2 H1 H2 ∧ ((0 : Int) = 0 → H2.length = H1.length) ∧ hWt T0 H2) ∧ postb_89v n8 n4 H1 H2) (f21 : (hLe T0 H2 H3 ∧ hFr s_92v.2.2.2.2 H2 H3 ∧ ((0 : Int) = 0 → H3.length = H2.length) ∧ hWt T0 H3) ∧ postb_92v n4 H2 H3) (f22 : n9 ≤ 2147483647) (f23 : (-2147483648) ≤ n9) (f24 : (hLe T0 H3 H4 ∧ hFr s_90v.2.2.2.2 H3 H4 ∧ ((0 : Int) = 0 → H4.length = H3.length) ∧ hWt T0 H4) ∧ postb_90v n9 n4 H3 H4) (f25 : (hLe T0 H4 H5 ∧ hFr s_92v.2.2.2.2 H4 H5 ∧ ((0 : Int) = 0 → H5.length = H4.length) ∧ hWt T0 H5) ∧ postb_92v n4 H4 H5) (f26 : (hLe T0 H5 H6 ∧ hFr s_91.2.2.2.2 H5 H6 ∧ ((0 : Int) = 0 → H6.length = H5.length) ∧ hWt T0 H6) ∧ True) (f27 : n2 = 0) (f28 : n10 ≤ 2147483647) (f29 : (-2147483648) ≤ n10) (f30 : n10 = hV H6 (n4).toNat 2) (f31 : n11 = 43) (f32 : n10 ≠ n11) (f33 : n12 = 0) (f34 : n12 = 0) (f35 : n3 ≠ 0) (f36 : 0 ≤ n13) (f37 : n13 = hV H6 (n4).toNat 8) (f38 : n14 = 10042) (f39 : (hLe T0 H6 H7 ∧ hFr s_98.2.2.2.2 H6 H7 ∧ ((0 : Int) = 0 → H7.length = H6.length) ∧ hWt T0 H7) ∧ True) (f40 : n15 = 0) (f41 : n16 ≤ 2147483647) (f42 : (-2147483648) ≤ n16) (f43 : n16 = hV H7 (n4).toNat 2) (f44 : n17 = 42) (f45 : n16 = n17) (f46 : n18 = 1) (f47 : n19 = o32 (fun x y => x ||| y) n15 n18) : Ab_88v_122 n5 n4 n19 n12 n1 n0 n8 n9 H0 H7 ∧ ∀ q, some q0 = some q → mub_88v_122 n5 n4 n19 n12 n1 n0 n8 n9 H0 H7 < q := by
  have pz := f10.2.1.2
  unfold preb_88v at pz
  have ga := f10.2.1.1
  unfold Ab_88v_9 at ga
  have vz : vwC H1 = vwC H0 := vwC_fr f10.1.2.1 (by decide +kernel)
  have c0 := f20.2
  unfold postb_89v at c0
  rw [vz] at c0
  have a0 : absC H2 = (pNots (vwC H0) (502 - (absC H1).1).toNat (absC H1)) := c0.2
  clear c0
  have v0 : vwC H2 = vwC H0 := (vwC_fr f20.1.2.1 (by decide +kernel)).trans vz
  have c1 := f21.2
  unfold postb_92v at c1
  rw [v0] at c1
  rw [a0] at c1
  have a1 : absC H3 = (pExp (vwC H0) (pNots (vwC H0) (502 - (absC H1).1).toNat (absC H1))) := c1.2
  clear c1
  have v1 : vwC H3 = vwC H0 := (vwC_fr f21.1.2.1 (by decide +kernel)).trans v0
  have c2 := f24.2
  unfold postb_90v at c2
  rw [v1] at c2
  rw [a1] at c2
  have a2 : absC H4 = (pRel (vwC H0) (pExp (vwC H0) (pNots (vwC H0) (502 - (absC H1).1).toNat (absC H1)))) := c2.2
  clear c2
  have v2 : vwC H4 = vwC H0 := (vwC_fr f24.1.2.1 (by decide +kernel)).trans v1
  have c3 := f25.2
  unfold postb_92v at c3
  rw [v2] at c3
  rw [a2] at c3
  have a3 : absC H5 = (pExp (vwC H0) (pRel (vwC H0) (pExp (vwC H0) (pNots (vwC H0) (502 - (absC H1).1).toNat (absC H1))))) := c3.2
  have v3 : vwC H5 = vwC H0 := (vwC_fr f25.1.2.1 (by decide +kernel)).trans v2
  have s4 := PF_fr f26.1.1 f26.1.2.1 (by decide +kernel) c3.1
  clear c3
  have a4 : absC H6 = (pExp (vwC H0) (pRel (vwC H0) (pExp (vwC H0) (pNots (vwC H0) (502 - (absC H1).1).toNat (absC H1))))) := s4.1.trans a3
  have v4 : vwC H6 = vwC H0 := s4.2.1.trans v3
  have s5 := PF_fr f39.1.1 f39.1.2.1 (by decide +kernel) s4.2.2
  have a5 : absC H7 = (pExp (vwC H0) (pRel (vwC H0) (pExp (vwC H0) (pNots (vwC H0) (502 - (absC H1).1).toNat (absC H1))))) := s5.1.trans a4
  have v5 : vwC H7 = vwC H0 := s5.2.1.trans v4
  have b0 := kd_at s4.2.2
  rw [v4] at b0
  rw [a4] at b0
  have g0 := f30
  rw [f8] at g0
  rw [show ((30 : Int)).toNat = 30 from rfl] at g0
  have h0 : (pExp (vwC H0) (pRel (vwC H0) (pExp (vwC H0) (pNots (vwC H0) (502 - (absC H1).1).toNat (absC H1))))).1 < 0 ∨ ¬ (vwC H0).1 (pExp (vwC H0) (pRel (vwC H0) (pExp (vwC H0) (pNots (vwC H0) (502 - (absC H1).1).toNat (absC H1))))).1 = 43 := by
    rcases b0 with q | q
    · exact .inl q
    · right
      rw [q]
      omega
  clear b0 h0
  have b1 := kd_at s5.2.2
  rw [v5] at b1
  rw [a5] at b1
  have g1 := f43
  rw [f8] at g1
  rw [show ((30 : Int)).toNat = 30 from rfl] at g1
  have h1 : (pExp (vwC H0) (pRel (vwC H0) (pExp (vwC H0) (pNots (vwC H0) (502 - (absC H1).1).toNat (absC H1))))).1 < 0 ∨ (vwC H0).1 (pExp (vwC H0) (pRel (vwC H0) (pExp (vwC H0) (pNots (vwC H0) (502 - (absC H1).1).toNat (absC H1))))).1 = 42 := by
    rcases b1 with q | q
    · exact .inl q
    · right
      rw [q]
      omega
  clear b1 h1
  have ga1_ := ga.1
  have gb := ga
  obtain ⟨_, s0_, m01, xn, ya, yb⟩ := gb
  clear ga
  clear yb
  have rf := f15
  rw [f8] at rf
  rw [show ((30 : Int)).toNat = 30 from rfl] at rf
  have ap := absC_pos ga1_ (by (first | exact Int.le_antisymm (by omega) (by omega) | omega))
  have u := xn (by (first | exact Int.le_antisymm (by omega) (by omega) | omega))
  clear xn
  have nw := ga1_.2.2.2.1.2.1
  have y := ya (by (first | exact Int.le_antisymm (by omega) (by omega) | omega))
  clear ya
  rw [show 502 - (n0).toNat = (502 - (n0).toNat - 1) + 1 by (first | exact Int.le_antisymm (by omega) (by omega) | omega), pCond_step] at y
  have al : absC H7 = pLit (vwC H0) (absC H1) := a5
  have g5 := Option.some.inj f10.2.2
  unfold mub_88v_9 at g5
  unfold Ab_88v_122 mub_88v_122
  refine ⟨⟨s5.2.2, by (first | exact Int.le_antisymm (by omega) (by omega) | omega), by (first | exact Int.le_antisymm (by omega) (by omega) | omega), fun hf => ?_, ?_⟩, fun q hq => ?_⟩
  · have a2 := absC_pos s5.2.2 hf
    have a3 := pLit_mono (p := absC H1) pz.2.1 (absC_ok ga1_) (by rw [← al]; exact a2.2)
    rw [← al] at a3
    omega
  · rw [al]
    exact y
  · have g6 := Option.some.inj hq
    subst g6
    omega
theorem c_88v_9_12 {q0 : Nat} : vOkm T0 (eP e_88v L_88v A_88v mu_88v (some q0)) 1 ([(5, [19, 15, 18], [], 0), (0, [18], [], 1), (40, [16, 17], [], 0), (0, [17], [], 42), (20, [16, 1], [7], 2), (90, [16], [], -2147483648), (91, [16], [], 2147483647), (0, [15], [], 0), (1098, [13, 14], [6, 7], 0), (0, [14], [], 10042), (20, [13, 1], [6], 8), (51, [13], [], 0), (31, [2], [], 0), (30, [12], [], 0), (0, [12], [], 0), (41, [10, 11], [], 0), (0, [11], [], 43), (20, [10, 1], [6], 2), (90, [10], [], -2147483648), (91, [10], [], 2147483647), (30, [3], [], 0), (1091, [1, 9, 8], [5, 6], 0), (1092, [1], [4, 5], 0), (1090, [9, 1], [3, 4], 0), (90, [9], [], -2147483648), (91, [9], [], 2147483647), (1092, [1], [2, 3], 0), (1089, [8, 1], [1, 2], 0), (90, [8], [], 0), (91, [8], [], 1), (31, [4], [], 0), (30, [7], [], 0), (20, [7, 1], [1], 3), (90, [7], [], -2147483648), (91, [7], [], 2147483647), (45, [5, 6], [], 0), (0, [6], [], 500), (5000, [0, 1, 2, 3, 4, 5], [0, 1], 9), (0, [0], [], 30), (0, [1], [], 30), (90, [2], [], -2147483648), (91, [2], [], 2147483647), (90, [3], [], -2147483648), (91, [3], [], 2147483647), (90, [4], [], -2147483648), (91, [4], [], 2147483647), (90, [5], [], -2147483648), (91, [5], [], 2147483647)], (4000, [1, 19, 12, 4, 5, 8, 9], [7], 122)) := vOk_in fun ρ η h => by
  obtain ⟨f0, f1, f2, f3, f4, f5, f6, f7, f8, f9, f10, f11, f12, f13, f14, f15, f16, f17, f18, f19, f20, f21, f22, f23, f24, f25, f26, f27, f28, f29, f30, f31, f32, f33, f34, f35, f36, f37, f38, f39, f40, f41, f42, f43, f44, f45, f46, f47, _⟩ := h
  exact q_88v_13 (q0 := q0) (n0 := ρ 5) (n1 := ρ 4) (n2 := ρ 3) (n3 := ρ 2) (n4 := ρ 1) (n5 := ρ 0) (n6 := ρ 6) (n7 := ρ 7) (n8 := ρ 8) (n9 := ρ 9) (n10 := ρ 10) (n11 := ρ 11) (n12 := ρ 12) (n13 := ρ 13) (n14 := ρ 14) (n15 := ρ 15) (n16 := ρ 16) (n17 := ρ 17) (n18 := ρ 18) (n19 := ρ 19) (H0 := η 0) (H1 := η 1) (H2 := η 2) (H3 := η 3) (H4 := η 4) (H5 := η 5) (H6 := η 6) (H7 := η 7) f47 f46 f45 f44 f43 f42 f41 f40 f39 f38 f37 f36 f35 f34 f33 f32 f31 f30 f29 f28 f27 f26 f25 f24 f23 f22 f21 f20 f19 f18 f17 f16 f15 f14 f13 f12 f11 f10 f9 f8 f7 f6 f5 f4 f3 f2 f1 f0
theorem q_88v_14 {q0 : Nat} {n0 n1 n2 n3 n4 n5 n6 n7 n8 n9 n10 n11 n12 n13 n14 n15 n16 : Int} {H0 H1 H2 H3 H4 H5 H6 : gH} (f0 : n0 ≤ 2147483647) (f1 : (-2147483648) ≤ n0) (f2 : n1 ≤ 2147483647) (f3 : (-2147483648) ≤ n1) (f4 : n2 ≤ 2147483647) (f5 : (-2147483648) ≤ n2) (f6 : n3 ≤ 2147483647) (f7 : (-2147483648) ≤ n3) (f8 : n4 = 30) (f9 : n5 = 30) (f10 : (hLe T0 H0 H1 ∧ hFr s_88v.2.2.2.2 H0 H1 ∧ hWt T0 H1) ∧ (Ab_88v_9 n5 n4 n3 n2 n1 n0 H0 H1 ∧ preb_88v n5 H0) ∧ some q0 = some (mub_88v_9 n5 n4 n3 n2 n1 n0 H0 H1)) (f11 : n6 = 500) (f12 : n0 ≤ n6) (f13 : n7 ≤ 2147483647) (f14 : (-2147483648) ≤ n7) (f15 : n7 = hV H1 (n4).toNat 3) (f16 : n7 = 0) (f17 : n1 ≠ 0) (f18 : n8 ≤ 1) (f19 : 0 ≤ n8) (f20 : (hLe T0 H1 H2 ∧ hFr s_89v.2.2.2.2 H1 H2 ∧ ((0 : Int) = 0 → H2.length = H1.length) ∧ hWt T0 H2) ∧ postb_89v n8 n4 H1 H2) (f21 : (hLe T0 H2 H3 ∧ hFr s_92v.2.2.2.2 H2 H3 ∧ ((0 : Int) = 0 → H3.length = H2.length) ∧ hWt T0 H3) ∧ postb_92v n4 H2 H3) (f22 : n9 ≤ 2147483647) (f23 : (-2147483648) ≤ n9) (f24 : (hLe T0 H3 H4 ∧ hFr s_90v.2.2.2.2 H3 H4 ∧ ((0 : Int) = 0 → H4.length = H3.length) ∧ hWt T0 H4) ∧ postb_90v n9 n4 H3 H4) (f25 : (hLe T0 H4 H5 ∧ hFr s_92v.2.2.2.2 H4 H5 ∧ ((0 : Int) = 0 → H5.length = H4.length) ∧ hWt T0 H5) ∧ postb_92v n4 H4 H5) (f26 : (hLe T0 H5 H6 ∧ hFr s_91.2.2.2.2 H5 H6 ∧ ((0 : Int) = 0 → H6.length = H5.length) ∧ hWt T0 H6) ∧ True) (f27 : n2 = 0) (f28 : n10 ≤ 2147483647) (f29 : (-2147483648) ≤ n10) (f30 : n10 = hV H6 (n4).toNat 2) (f31 : n11 = 43) (f32 : n10 = n11) (f33 : n12 = 1) (f34 : n12 ≠ 0) (f35 : n13 ≤ 2147483647) (f36 : (-2147483648) ≤ n13) (f37 : n13 = hV H6 (n4).toNat 2) (f38 : n14 = 42) (f39 : n13 ≠ n14) (f40 : n15 = 0) (f41 : n16 = o32 (fun x y => x ||| y) n3 n15) : Ab_88v_122 n5 n4 n16 n12 n1 n0 n8 n9 H0 H6 ∧ ∀ q, some q0 = some q → mub_88v_122 n5 n4 n16 n12 n1 n0 n8 n9 H0 H6 < q := by
  have pz := f10.2.1.2
  unfold preb_88v at pz
  have ga := f10.2.1.1
  unfold Ab_88v_9 at ga
  have vz : vwC H1 = vwC H0 := vwC_fr f10.1.2.1 (by decide +kernel)
  have c0 := f20.2
  unfold postb_89v at c0
  rw [vz] at c0
  have a0 : absC H2 = (pNots (vwC H0) (502 - (absC H1).1).toNat (absC H1)) := c0.2
  clear c0
  have v0 : vwC H2 = vwC H0 := (vwC_fr f20.1.2.1 (by decide +kernel)).trans vz
  have c1 := f21.2
  unfold postb_92v at c1
  rw [v0] at c1
  rw [a0] at c1
  have a1 : absC H3 = (pExp (vwC H0) (pNots (vwC H0) (502 - (absC H1).1).toNat (absC H1))) := c1.2
  clear c1
  have v1 : vwC H3 = vwC H0 := (vwC_fr f21.1.2.1 (by decide +kernel)).trans v0
  have c2 := f24.2
  unfold postb_90v at c2
  rw [v1] at c2
  rw [a1] at c2
  have a2 : absC H4 = (pRel (vwC H0) (pExp (vwC H0) (pNots (vwC H0) (502 - (absC H1).1).toNat (absC H1)))) := c2.2
  clear c2
  have v2 : vwC H4 = vwC H0 := (vwC_fr f24.1.2.1 (by decide +kernel)).trans v1
  have c3 := f25.2
  unfold postb_92v at c3
  rw [v2] at c3
  rw [a2] at c3
  have a3 : absC H5 = (pExp (vwC H0) (pRel (vwC H0) (pExp (vwC H0) (pNots (vwC H0) (502 - (absC H1).1).toNat (absC H1))))) := c3.2
  have v3 : vwC H5 = vwC H0 := (vwC_fr f25.1.2.1 (by decide +kernel)).trans v2
  have s4 := PF_fr f26.1.1 f26.1.2.1 (by decide +kernel) c3.1
  clear c3
  have a4 : absC H6 = (pExp (vwC H0) (pRel (vwC H0) (pExp (vwC H0) (pNots (vwC H0) (502 - (absC H1).1).toNat (absC H1))))) := s4.1.trans a3
  have v4 : vwC H6 = vwC H0 := s4.2.1.trans v3
  have b0 := kd_at s4.2.2
  rw [v4] at b0
  rw [a4] at b0
  have g0 := f30
  rw [f8] at g0
  rw [show ((30 : Int)).toNat = 30 from rfl] at g0
  have h0 : (pExp (vwC H0) (pRel (vwC H0) (pExp (vwC H0) (pNots (vwC H0) (502 - (absC H1).1).toNat (absC H1))))).1 < 0 ∨ (vwC H0).1 (pExp (vwC H0) (pRel (vwC H0) (pExp (vwC H0) (pNots (vwC H0) (502 - (absC H1).1).toNat (absC H1))))).1 = 43 := by
    rcases b0 with q | q
    · exact .inl q
    · right
      rw [q]
      omega
  clear b0 h0
  have b1 := kd_at s4.2.2
  rw [v4] at b1
  rw [a4] at b1
  have g1 := f37
  rw [f8] at g1
  rw [show ((30 : Int)).toNat = 30 from rfl] at g1
  have h1 : (pExp (vwC H0) (pRel (vwC H0) (pExp (vwC H0) (pNots (vwC H0) (502 - (absC H1).1).toNat (absC H1))))).1 < 0 ∨ ¬ (vwC H0).1 (pExp (vwC H0) (pRel (vwC H0) (pExp (vwC H0) (pNots (vwC H0) (502 - (absC H1).1).toNat (absC H1))))).1 = 42 := by
    rcases b1 with q | q
    · exact .inl q
    · right
      rw [q]
      omega
  clear b1 h1
  have ga1_ := ga.1
  have gb := ga
  obtain ⟨_, s0_, m01, xn, ya, yb⟩ := gb
  clear ga
  clear yb
  have rf := f15
  rw [f8] at rf
  rw [show ((30 : Int)).toNat = 30 from rfl] at rf
  have ap := absC_pos ga1_ (by (first | exact Int.le_antisymm (by omega) (by omega) | omega))
  have u := xn (by (first | exact Int.le_antisymm (by omega) (by omega) | omega))
  clear xn
  have nw := ga1_.2.2.2.1.2.1
  have y := ya (by (first | exact Int.le_antisymm (by omega) (by omega) | omega))
  clear ya
  rw [show 502 - (n0).toNat = (502 - (n0).toNat - 1) + 1 by (first | exact Int.le_antisymm (by omega) (by omega) | omega), pCond_step] at y
  have al : absC H6 = pLit (vwC H0) (absC H1) := a4
  have g5 := Option.some.inj f10.2.2
  unfold mub_88v_9 at g5
  unfold Ab_88v_122 mub_88v_122
  refine ⟨⟨s4.2.2, by (first | exact Int.le_antisymm (by omega) (by omega) | omega), by (first | exact Int.le_antisymm (by omega) (by omega) | omega), fun hf => ?_, ?_⟩, fun q hq => ?_⟩
  · have a2 := absC_pos s4.2.2 hf
    have a3 := pLit_mono (p := absC H1) pz.2.1 (absC_ok ga1_) (by rw [← al]; exact a2.2)
    rw [← al] at a3
    omega
  · rw [al]
    exact y
  · have g6 := Option.some.inj hq
    subst g6
    omega
theorem c_88v_9_13 {q0 : Nat} : vOkm T0 (eP e_88v L_88v A_88v mu_88v (some q0)) 1 ([(5, [16, 2, 15], [], 0), (0, [15], [], 0), (41, [13, 14], [], 0), (0, [14], [], 42), (20, [13, 1], [6], 2), (90, [13], [], -2147483648), (91, [13], [], 2147483647), (31, [12], [], 0), (0, [12], [], 1), (40, [10, 11], [], 0), (0, [11], [], 43), (20, [10, 1], [6], 2), (90, [10], [], -2147483648), (91, [10], [], 2147483647), (30, [3], [], 0), (1091, [1, 9, 8], [5, 6], 0), (1092, [1], [4, 5], 0), (1090, [9, 1], [3, 4], 0), (90, [9], [], -2147483648), (91, [9], [], 2147483647), (1092, [1], [2, 3], 0), (1089, [8, 1], [1, 2], 0), (90, [8], [], 0), (91, [8], [], 1), (31, [4], [], 0), (30, [7], [], 0), (20, [7, 1], [1], 3), (90, [7], [], -2147483648), (91, [7], [], 2147483647), (45, [5, 6], [], 0), (0, [6], [], 500), (5000, [0, 1, 2, 3, 4, 5], [0, 1], 9), (0, [0], [], 30), (0, [1], [], 30), (90, [2], [], -2147483648), (91, [2], [], 2147483647), (90, [3], [], -2147483648), (91, [3], [], 2147483647), (90, [4], [], -2147483648), (91, [4], [], 2147483647), (90, [5], [], -2147483648), (91, [5], [], 2147483647)], (4000, [1, 16, 12, 4, 5, 8, 9], [6], 122)) := vOk_in fun ρ η h => by
  obtain ⟨f0, f1, f2, f3, f4, f5, f6, f7, f8, f9, f10, f11, f12, f13, f14, f15, f16, f17, f18, f19, f20, f21, f22, f23, f24, f25, f26, f27, f28, f29, f30, f31, f32, f33, f34, f35, f36, f37, f38, f39, f40, f41, _⟩ := h
  exact q_88v_14 (q0 := q0) (n0 := ρ 5) (n1 := ρ 4) (n2 := ρ 3) (n3 := ρ 2) (n4 := ρ 1) (n5 := ρ 0) (n6 := ρ 6) (n7 := ρ 7) (n8 := ρ 8) (n9 := ρ 9) (n10 := ρ 10) (n11 := ρ 11) (n12 := ρ 12) (n13 := ρ 13) (n14 := ρ 14) (n15 := ρ 15) (n16 := ρ 16) (H0 := η 0) (H1 := η 1) (H2 := η 2) (H3 := η 3) (H4 := η 4) (H5 := η 5) (H6 := η 6) f41 f40 f39 f38 f37 f36 f35 f34 f33 f32 f31 f30 f29 f28 f27 f26 f25 f24 f23 f22 f21 f20 f19 f18 f17 f16 f15 f14 f13 f12 f11 f10 f9 f8 f7 f6 f5 f4 f3 f2 f1 f0
theorem q_88v_15 {q0 : Nat} {n0 n1 n2 n3 n4 n5 n6 n7 n8 n9 n10 n11 n12 n13 n14 n15 n16 : Int} {H0 H1 H2 H3 H4 H5 H6 : gH} (f0 : n0 ≤ 2147483647) (f1 : (-2147483648) ≤ n0) (f2 : n1 ≤ 2147483647) (f3 : (-2147483648) ≤ n1) (f4 : n2 ≤ 2147483647) (f5 : (-2147483648) ≤ n2) (f6 : n3 ≤ 2147483647) (f7 : (-2147483648) ≤ n3) (f8 : n4 = 30) (f9 : n5 = 30) (f10 : (hLe T0 H0 H1 ∧ hFr s_88v.2.2.2.2 H0 H1 ∧ hWt T0 H1) ∧ (Ab_88v_9 n5 n4 n3 n2 n1 n0 H0 H1 ∧ preb_88v n5 H0) ∧ some q0 = some (mub_88v_9 n5 n4 n3 n2 n1 n0 H0 H1)) (f11 : n6 = 500) (f12 : n0 ≤ n6) (f13 : n7 ≤ 2147483647) (f14 : (-2147483648) ≤ n7) (f15 : n7 = hV H1 (n4).toNat 3) (f16 : n7 = 0) (f17 : n1 ≠ 0) (f18 : n8 ≤ 1) (f19 : 0 ≤ n8) (f20 : (hLe T0 H1 H2 ∧ hFr s_89v.2.2.2.2 H1 H2 ∧ ((0 : Int) = 0 → H2.length = H1.length) ∧ hWt T0 H2) ∧ postb_89v n8 n4 H1 H2) (f21 : (hLe T0 H2 H3 ∧ hFr s_92v.2.2.2.2 H2 H3 ∧ ((0 : Int) = 0 → H3.length = H2.length) ∧ hWt T0 H3) ∧ postb_92v n4 H2 H3) (f22 : n9 ≤ 2147483647) (f23 : (-2147483648) ≤ n9) (f24 : (hLe T0 H3 H4 ∧ hFr s_90v.2.2.2.2 H3 H4 ∧ ((0 : Int) = 0 → H4.length = H3.length) ∧ hWt T0 H4) ∧ postb_90v n9 n4 H3 H4) (f25 : (hLe T0 H4 H5 ∧ hFr s_92v.2.2.2.2 H4 H5 ∧ ((0 : Int) = 0 → H5.length = H4.length) ∧ hWt T0 H5) ∧ postb_92v n4 H4 H5) (f26 : (hLe T0 H5 H6 ∧ hFr s_91.2.2.2.2 H5 H6 ∧ ((0 : Int) = 0 → H6.length = H5.length) ∧ hWt T0 H6) ∧ True) (f27 : n2 = 0) (f28 : n10 ≤ 2147483647) (f29 : (-2147483648) ≤ n10) (f30 : n10 = hV H6 (n4).toNat 2) (f31 : n11 = 43) (f32 : n10 = n11) (f33 : n12 = 1) (f34 : n12 ≠ 0) (f35 : n13 ≤ 2147483647) (f36 : (-2147483648) ≤ n13) (f37 : n13 = hV H6 (n4).toNat 2) (f38 : n14 = 42) (f39 : n13 = n14) (f40 : n15 = 1) (f41 : n16 = o32 (fun x y => x ||| y) n3 n15) : Ab_88v_122 n5 n4 n16 n12 n1 n0 n8 n9 H0 H6 ∧ ∀ q, some q0 = some q → mub_88v_122 n5 n4 n16 n12 n1 n0 n8 n9 H0 H6 < q := by
  exfalso
  clear f0 f1 f2 f3 f4 f5 f6 f7 f8 f9 f10 f11 f12 f13 f14 f15 f16 f17 f18 f19 f20 f21 f22 f23 f24 f25 f26 f27 f28 f29 f33 f34 f35 f36 f40 f41
  omega
theorem c_88v_9_14 {q0 : Nat} : vOkm T0 (eP e_88v L_88v A_88v mu_88v (some q0)) 1 ([(5, [16, 2, 15], [], 0), (0, [15], [], 1), (40, [13, 14], [], 0), (0, [14], [], 42), (20, [13, 1], [6], 2), (90, [13], [], -2147483648), (91, [13], [], 2147483647), (31, [12], [], 0), (0, [12], [], 1), (40, [10, 11], [], 0), (0, [11], [], 43), (20, [10, 1], [6], 2), (90, [10], [], -2147483648), (91, [10], [], 2147483647), (30, [3], [], 0), (1091, [1, 9, 8], [5, 6], 0), (1092, [1], [4, 5], 0), (1090, [9, 1], [3, 4], 0), (90, [9], [], -2147483648), (91, [9], [], 2147483647), (1092, [1], [2, 3], 0), (1089, [8, 1], [1, 2], 0), (90, [8], [], 0), (91, [8], [], 1), (31, [4], [], 0), (30, [7], [], 0), (20, [7, 1], [1], 3), (90, [7], [], -2147483648), (91, [7], [], 2147483647), (45, [5, 6], [], 0), (0, [6], [], 500), (5000, [0, 1, 2, 3, 4, 5], [0, 1], 9), (0, [0], [], 30), (0, [1], [], 30), (90, [2], [], -2147483648), (91, [2], [], 2147483647), (90, [3], [], -2147483648), (91, [3], [], 2147483647), (90, [4], [], -2147483648), (91, [4], [], 2147483647), (90, [5], [], -2147483648), (91, [5], [], 2147483647)], (4000, [1, 16, 12, 4, 5, 8, 9], [6], 122)) := vOk_in fun ρ η h => by
  obtain ⟨f0, f1, f2, f3, f4, f5, f6, f7, f8, f9, f10, f11, f12, f13, f14, f15, f16, f17, f18, f19, f20, f21, f22, f23, f24, f25, f26, f27, f28, f29, f30, f31, f32, f33, f34, f35, f36, f37, f38, f39, f40, f41, _⟩ := h
  exact q_88v_15 (q0 := q0) (n0 := ρ 5) (n1 := ρ 4) (n2 := ρ 3) (n3 := ρ 2) (n4 := ρ 1) (n5 := ρ 0) (n6 := ρ 6) (n7 := ρ 7) (n8 := ρ 8) (n9 := ρ 9) (n10 := ρ 10) (n11 := ρ 11) (n12 := ρ 12) (n13 := ρ 13) (n14 := ρ 14) (n15 := ρ 15) (n16 := ρ 16) (H0 := η 0) (H1 := η 1) (H2 := η 2) (H3 := η 3) (H4 := η 4) (H5 := η 5) (H6 := η 6) f41 f40 f39 f38 f37 f36 f35 f34 f33 f32 f31 f30 f29 f28 f27 f26 f25 f24 f23 f22 f21 f20 f19 f18 f17 f16 f15 f14 f13 f12 f11 f10 f9 f8 f7 f6 f5 f4 f3 f2 f1 f0
theorem q_88v_16 {q0 : Nat} {n0 n1 n2 n3 n4 n5 n6 n7 n8 n9 n10 n11 n12 n13 n14 n15 n16 : Int} {H0 H1 H2 H3 H4 H5 H6 : gH} (f0 : n0 ≤ 2147483647) (f1 : (-2147483648) ≤ n0) (f2 : n1 ≤ 2147483647) (f3 : (-2147483648) ≤ n1) (f4 : n2 ≤ 2147483647) (f5 : (-2147483648) ≤ n2) (f6 : n3 ≤ 2147483647) (f7 : (-2147483648) ≤ n3) (f8 : n4 = 30) (f9 : n5 = 30) (f10 : (hLe T0 H0 H1 ∧ hFr s_88v.2.2.2.2 H0 H1 ∧ hWt T0 H1) ∧ (Ab_88v_9 n5 n4 n3 n2 n1 n0 H0 H1 ∧ preb_88v n5 H0) ∧ some q0 = some (mub_88v_9 n5 n4 n3 n2 n1 n0 H0 H1)) (f11 : n6 = 500) (f12 : n0 ≤ n6) (f13 : n7 ≤ 2147483647) (f14 : (-2147483648) ≤ n7) (f15 : n7 = hV H1 (n4).toNat 3) (f16 : n7 = 0) (f17 : n1 ≠ 0) (f18 : n8 ≤ 1) (f19 : 0 ≤ n8) (f20 : (hLe T0 H1 H2 ∧ hFr s_89v.2.2.2.2 H1 H2 ∧ ((0 : Int) = 0 → H2.length = H1.length) ∧ hWt T0 H2) ∧ postb_89v n8 n4 H1 H2) (f21 : (hLe T0 H2 H3 ∧ hFr s_92v.2.2.2.2 H2 H3 ∧ ((0 : Int) = 0 → H3.length = H2.length) ∧ hWt T0 H3) ∧ postb_92v n4 H2 H3) (f22 : n9 ≤ 2147483647) (f23 : (-2147483648) ≤ n9) (f24 : (hLe T0 H3 H4 ∧ hFr s_90v.2.2.2.2 H3 H4 ∧ ((0 : Int) = 0 → H4.length = H3.length) ∧ hWt T0 H4) ∧ postb_90v n9 n4 H3 H4) (f25 : (hLe T0 H4 H5 ∧ hFr s_92v.2.2.2.2 H4 H5 ∧ ((0 : Int) = 0 → H5.length = H4.length) ∧ hWt T0 H5) ∧ postb_92v n4 H4 H5) (f26 : (hLe T0 H5 H6 ∧ hFr s_91.2.2.2.2 H5 H6 ∧ ((0 : Int) = 0 → H6.length = H5.length) ∧ hWt T0 H6) ∧ True) (f27 : n2 = 0) (f28 : n10 ≤ 2147483647) (f29 : (-2147483648) ≤ n10) (f30 : n10 = hV H6 (n4).toNat 2) (f31 : n11 = 43) (f32 : n10 = n11) (f33 : n12 = 1) (f34 : n12 = 0) (f35 : n3 = 0) (f36 : n13 ≤ 2147483647) (f37 : (-2147483648) ≤ n13) (f38 : n13 = hV H6 (n4).toNat 2) (f39 : n14 = 42) (f40 : n13 ≠ n14) (f41 : n15 = 0) (f42 : n16 = o32 (fun x y => x ||| y) n3 n15) : Ab_88v_122 n5 n4 n16 n12 n1 n0 n8 n9 H0 H6 ∧ ∀ q, some q0 = some q → mub_88v_122 n5 n4 n16 n12 n1 n0 n8 n9 H0 H6 < q := by
  exfalso
  omega
theorem c_88v_9_15 {q0 : Nat} : vOkm T0 (eP e_88v L_88v A_88v mu_88v (some q0)) 1 ([(5, [16, 2, 15], [], 0), (0, [15], [], 0), (41, [13, 14], [], 0), (0, [14], [], 42), (20, [13, 1], [6], 2), (90, [13], [], -2147483648), (91, [13], [], 2147483647), (30, [2], [], 0), (30, [12], [], 0), (0, [12], [], 1), (40, [10, 11], [], 0), (0, [11], [], 43), (20, [10, 1], [6], 2), (90, [10], [], -2147483648), (91, [10], [], 2147483647), (30, [3], [], 0), (1091, [1, 9, 8], [5, 6], 0), (1092, [1], [4, 5], 0), (1090, [9, 1], [3, 4], 0), (90, [9], [], -2147483648), (91, [9], [], 2147483647), (1092, [1], [2, 3], 0), (1089, [8, 1], [1, 2], 0), (90, [8], [], 0), (91, [8], [], 1), (31, [4], [], 0), (30, [7], [], 0), (20, [7, 1], [1], 3), (90, [7], [], -2147483648), (91, [7], [], 2147483647), (45, [5, 6], [], 0), (0, [6], [], 500), (5000, [0, 1, 2, 3, 4, 5], [0, 1], 9), (0, [0], [], 30), (0, [1], [], 30), (90, [2], [], -2147483648), (91, [2], [], 2147483647), (90, [3], [], -2147483648), (91, [3], [], 2147483647), (90, [4], [], -2147483648), (91, [4], [], 2147483647), (90, [5], [], -2147483648), (91, [5], [], 2147483647)], (4000, [1, 16, 12, 4, 5, 8, 9], [6], 122)) := vOk_in fun ρ η h => by
  obtain ⟨f0, f1, f2, f3, f4, f5, f6, f7, f8, f9, f10, f11, f12, f13, f14, f15, f16, f17, f18, f19, f20, f21, f22, f23, f24, f25, f26, f27, f28, f29, f30, f31, f32, f33, f34, f35, f36, f37, f38, f39, f40, f41, f42, _⟩ := h
  exact q_88v_16 (q0 := q0) (n0 := ρ 5) (n1 := ρ 4) (n2 := ρ 3) (n3 := ρ 2) (n4 := ρ 1) (n5 := ρ 0) (n6 := ρ 6) (n7 := ρ 7) (n8 := ρ 8) (n9 := ρ 9) (n10 := ρ 10) (n11 := ρ 11) (n12 := ρ 12) (n13 := ρ 13) (n14 := ρ 14) (n15 := ρ 15) (n16 := ρ 16) (H0 := η 0) (H1 := η 1) (H2 := η 2) (H3 := η 3) (H4 := η 4) (H5 := η 5) (H6 := η 6) f42 f41 f40 f39 f38 f37 f36 f35 f34 f33 f32 f31 f30 f29 f28 f27 f26 f25 f24 f23 f22 f21 f20 f19 f18 f17 f16 f15 f14 f13 f12 f11 f10 f9 f8 f7 f6 f5 f4 f3 f2 f1 f0
theorem q_88v_17 {q0 : Nat} {n0 n1 n2 n3 n4 n5 n6 n7 n8 n9 n10 n11 n12 n13 n14 n15 n16 : Int} {H0 H1 H2 H3 H4 H5 H6 : gH} (f0 : n0 ≤ 2147483647) (f1 : (-2147483648) ≤ n0) (f2 : n1 ≤ 2147483647) (f3 : (-2147483648) ≤ n1) (f4 : n2 ≤ 2147483647) (f5 : (-2147483648) ≤ n2) (f6 : n3 ≤ 2147483647) (f7 : (-2147483648) ≤ n3) (f8 : n4 = 30) (f9 : n5 = 30) (f10 : (hLe T0 H0 H1 ∧ hFr s_88v.2.2.2.2 H0 H1 ∧ hWt T0 H1) ∧ (Ab_88v_9 n5 n4 n3 n2 n1 n0 H0 H1 ∧ preb_88v n5 H0) ∧ some q0 = some (mub_88v_9 n5 n4 n3 n2 n1 n0 H0 H1)) (f11 : n6 = 500) (f12 : n0 ≤ n6) (f13 : n7 ≤ 2147483647) (f14 : (-2147483648) ≤ n7) (f15 : n7 = hV H1 (n4).toNat 3) (f16 : n7 = 0) (f17 : n1 ≠ 0) (f18 : n8 ≤ 1) (f19 : 0 ≤ n8) (f20 : (hLe T0 H1 H2 ∧ hFr s_89v.2.2.2.2 H1 H2 ∧ ((0 : Int) = 0 → H2.length = H1.length) ∧ hWt T0 H2) ∧ postb_89v n8 n4 H1 H2) (f21 : (hLe T0 H2 H3 ∧ hFr s_92v.2.2.2.2 H2 H3 ∧ ((0 : Int) = 0 → H3.length = H2.length) ∧ hWt T0 H3) ∧ postb_92v n4 H2 H3) (f22 : n9 ≤ 2147483647) (f23 : (-2147483648) ≤ n9) (f24 : (hLe T0 H3 H4 ∧ hFr s_90v.2.2.2.2 H3 H4 ∧ ((0 : Int) = 0 → H4.length = H3.length) ∧ hWt T0 H4) ∧ postb_90v n9 n4 H3 H4) (f25 : (hLe T0 H4 H5 ∧ hFr s_92v.2.2.2.2 H4 H5 ∧ ((0 : Int) = 0 → H5.length = H4.length) ∧ hWt T0 H5) ∧ postb_92v n4 H4 H5) (f26 : (hLe T0 H5 H6 ∧ hFr s_91.2.2.2.2 H5 H6 ∧ ((0 : Int) = 0 → H6.length = H5.length) ∧ hWt T0 H6) ∧ True) (f27 : n2 = 0) (f28 : n10 ≤ 2147483647) (f29 : (-2147483648) ≤ n10) (f30 : n10 = hV H6 (n4).toNat 2) (f31 : n11 = 43) (f32 : n10 = n11) (f33 : n12 = 1) (f34 : n12 = 0) (f35 : n3 = 0) (f36 : n13 ≤ 2147483647) (f37 : (-2147483648) ≤ n13) (f38 : n13 = hV H6 (n4).toNat 2) (f39 : n14 = 42) (f40 : n13 = n14) (f41 : n15 = 1) (f42 : n16 = o32 (fun x y => x ||| y) n3 n15) : Ab_88v_122 n5 n4 n16 n12 n1 n0 n8 n9 H0 H6 ∧ ∀ q, some q0 = some q → mub_88v_122 n5 n4 n16 n12 n1 n0 n8 n9 H0 H6 < q := by
  exfalso
  omega
theorem c_88v_9_16 {q0 : Nat} : vOkm T0 (eP e_88v L_88v A_88v mu_88v (some q0)) 1 ([(5, [16, 2, 15], [], 0), (0, [15], [], 1), (40, [13, 14], [], 0), (0, [14], [], 42), (20, [13, 1], [6], 2), (90, [13], [], -2147483648), (91, [13], [], 2147483647), (30, [2], [], 0), (30, [12], [], 0), (0, [12], [], 1), (40, [10, 11], [], 0), (0, [11], [], 43), (20, [10, 1], [6], 2), (90, [10], [], -2147483648), (91, [10], [], 2147483647), (30, [3], [], 0), (1091, [1, 9, 8], [5, 6], 0), (1092, [1], [4, 5], 0), (1090, [9, 1], [3, 4], 0), (90, [9], [], -2147483648), (91, [9], [], 2147483647), (1092, [1], [2, 3], 0), (1089, [8, 1], [1, 2], 0), (90, [8], [], 0), (91, [8], [], 1), (31, [4], [], 0), (30, [7], [], 0), (20, [7, 1], [1], 3), (90, [7], [], -2147483648), (91, [7], [], 2147483647), (45, [5, 6], [], 0), (0, [6], [], 500), (5000, [0, 1, 2, 3, 4, 5], [0, 1], 9), (0, [0], [], 30), (0, [1], [], 30), (90, [2], [], -2147483648), (91, [2], [], 2147483647), (90, [3], [], -2147483648), (91, [3], [], 2147483647), (90, [4], [], -2147483648), (91, [4], [], 2147483647), (90, [5], [], -2147483648), (91, [5], [], 2147483647)], (4000, [1, 16, 12, 4, 5, 8, 9], [6], 122)) := vOk_in fun ρ η h => by
  obtain ⟨f0, f1, f2, f3, f4, f5, f6, f7, f8, f9, f10, f11, f12, f13, f14, f15, f16, f17, f18, f19, f20, f21, f22, f23, f24, f25, f26, f27, f28, f29, f30, f31, f32, f33, f34, f35, f36, f37, f38, f39, f40, f41, f42, _⟩ := h
  exact q_88v_17 (q0 := q0) (n0 := ρ 5) (n1 := ρ 4) (n2 := ρ 3) (n3 := ρ 2) (n4 := ρ 1) (n5 := ρ 0) (n6 := ρ 6) (n7 := ρ 7) (n8 := ρ 8) (n9 := ρ 9) (n10 := ρ 10) (n11 := ρ 11) (n12 := ρ 12) (n13 := ρ 13) (n14 := ρ 14) (n15 := ρ 15) (n16 := ρ 16) (H0 := η 0) (H1 := η 1) (H2 := η 2) (H3 := η 3) (H4 := η 4) (H5 := η 5) (H6 := η 6) f42 f41 f40 f39 f38 f37 f36 f35 f34 f33 f32 f31 f30 f29 f28 f27 f26 f25 f24 f23 f22 f21 f20 f19 f18 f17 f16 f15 f14 f13 f12 f11 f10 f9 f8 f7 f6 f5 f4 f3 f2 f1 f0
theorem q_88v_18 {q0 : Nat} {n0 n1 n2 n3 n4 n5 n6 n7 n8 n9 n10 n11 n12 n13 n14 n15 n16 n17 n18 n19 : Int} {H0 H1 H2 H3 H4 H5 H6 H7 : gH} (f0 : n0 ≤ 2147483647) (f1 : (-2147483648) ≤ n0) (f2 : n1 ≤ 2147483647) (f3 : (-2147483648) ≤ n1) (f4 : n2 ≤ 2147483647) (f5 : (-2147483648) ≤ n2) (f6 : n3 ≤ 2147483647) (f7 : (-2147483648) ≤ n3) (f8 : n4 = 30) (f9 : n5 = 30) (f10 : (hLe T0 H0 H1 ∧ hFr s_88v.2.2.2.2 H0 H1 ∧ hWt T0 H1) ∧ (Ab_88v_9 n5 n4 n3 n2 n1 n0 H0 H1 ∧ preb_88v n5 H0) ∧ some q0 = some (mub_88v_9 n5 n4 n3 n2 n1 n0 H0 H1)) (f11 : n6 = 500) (f12 : n0 ≤ n6) (f13 : n7 ≤ 2147483647) (f14 : (-2147483648) ≤ n7) (f15 : n7 = hV H1 (n4).toNat 3) (f16 : n7 = 0) (f17 : n1 ≠ 0) (f18 : n8 ≤ 1) (f19 : 0 ≤ n8) (f20 : (hLe T0 H1 H2 ∧ hFr s_89v.2.2.2.2 H1 H2 ∧ ((0 : Int) = 0 → H2.length = H1.length) ∧ hWt T0 H2) ∧ postb_89v n8 n4 H1 H2) (f21 : (hLe T0 H2 H3 ∧ hFr s_92v.2.2.2.2 H2 H3 ∧ ((0 : Int) = 0 → H3.length = H2.length) ∧ hWt T0 H3) ∧ postb_92v n4 H2 H3) (f22 : n9 ≤ 2147483647) (f23 : (-2147483648) ≤ n9) (f24 : (hLe T0 H3 H4 ∧ hFr s_90v.2.2.2.2 H3 H4 ∧ ((0 : Int) = 0 → H4.length = H3.length) ∧ hWt T0 H4) ∧ postb_90v n9 n4 H3 H4) (f25 : (hLe T0 H4 H5 ∧ hFr s_92v.2.2.2.2 H4 H5 ∧ ((0 : Int) = 0 → H5.length = H4.length) ∧ hWt T0 H5) ∧ postb_92v n4 H4 H5) (f26 : (hLe T0 H5 H6 ∧ hFr s_91.2.2.2.2 H5 H6 ∧ ((0 : Int) = 0 → H6.length = H5.length) ∧ hWt T0 H6) ∧ True) (f27 : n2 = 0) (f28 : n10 ≤ 2147483647) (f29 : (-2147483648) ≤ n10) (f30 : n10 = hV H6 (n4).toNat 2) (f31 : n11 = 43) (f32 : n10 = n11) (f33 : n12 = 1) (f34 : n12 = 0) (f35 : n3 ≠ 0) (f36 : 0 ≤ n13) (f37 : n13 = hV H6 (n4).toNat 8) (f38 : n14 = 10042) (f39 : (hLe T0 H6 H7 ∧ hFr s_98.2.2.2.2 H6 H7 ∧ ((0 : Int) = 0 → H7.length = H6.length) ∧ hWt T0 H7) ∧ True) (f40 : n15 = 0) (f41 : n16 ≤ 2147483647) (f42 : (-2147483648) ≤ n16) (f43 : n16 = hV H7 (n4).toNat 2) (f44 : n17 = 42) (f45 : n16 ≠ n17) (f46 : n18 = 0) (f47 : n19 = o32 (fun x y => x ||| y) n15 n18) : Ab_88v_122 n5 n4 n19 n12 n1 n0 n8 n9 H0 H7 ∧ ∀ q, some q0 = some q → mub_88v_122 n5 n4 n19 n12 n1 n0 n8 n9 H0 H7 < q := by
  exfalso
  omega
theorem c_88v_9_17 {q0 : Nat} : vOkm T0 (eP e_88v L_88v A_88v mu_88v (some q0)) 1 ([(5, [19, 15, 18], [], 0), (0, [18], [], 0), (41, [16, 17], [], 0), (0, [17], [], 42), (20, [16, 1], [7], 2), (90, [16], [], -2147483648), (91, [16], [], 2147483647), (0, [15], [], 0), (1098, [13, 14], [6, 7], 0), (0, [14], [], 10042), (20, [13, 1], [6], 8), (51, [13], [], 0), (31, [2], [], 0), (30, [12], [], 0), (0, [12], [], 1), (40, [10, 11], [], 0), (0, [11], [], 43), (20, [10, 1], [6], 2), (90, [10], [], -2147483648), (91, [10], [], 2147483647), (30, [3], [], 0), (1091, [1, 9, 8], [5, 6], 0), (1092, [1], [4, 5], 0), (1090, [9, 1], [3, 4], 0), (90, [9], [], -2147483648), (91, [9], [], 2147483647), (1092, [1], [2, 3], 0), (1089, [8, 1], [1, 2], 0), (90, [8], [], 0), (91, [8], [], 1), (31, [4], [], 0), (30, [7], [], 0), (20, [7, 1], [1], 3), (90, [7], [], -2147483648), (91, [7], [], 2147483647), (45, [5, 6], [], 0), (0, [6], [], 500), (5000, [0, 1, 2, 3, 4, 5], [0, 1], 9), (0, [0], [], 30), (0, [1], [], 30), (90, [2], [], -2147483648), (91, [2], [], 2147483647), (90, [3], [], -2147483648), (91, [3], [], 2147483647), (90, [4], [], -2147483648), (91, [4], [], 2147483647), (90, [5], [], -2147483648), (91, [5], [], 2147483647)], (4000, [1, 19, 12, 4, 5, 8, 9], [7], 122)) := vOk_in fun ρ η h => by
  obtain ⟨f0, f1, f2, f3, f4, f5, f6, f7, f8, f9, f10, f11, f12, f13, f14, f15, f16, f17, f18, f19, f20, f21, f22, f23, f24, f25, f26, f27, f28, f29, f30, f31, f32, f33, f34, f35, f36, f37, f38, f39, f40, f41, f42, f43, f44, f45, f46, f47, _⟩ := h
  exact q_88v_18 (q0 := q0) (n0 := ρ 5) (n1 := ρ 4) (n2 := ρ 3) (n3 := ρ 2) (n4 := ρ 1) (n5 := ρ 0) (n6 := ρ 6) (n7 := ρ 7) (n8 := ρ 8) (n9 := ρ 9) (n10 := ρ 10) (n11 := ρ 11) (n12 := ρ 12) (n13 := ρ 13) (n14 := ρ 14) (n15 := ρ 15) (n16 := ρ 16) (n17 := ρ 17) (n18 := ρ 18) (n19 := ρ 19) (H0 := η 0) (H1 := η 1) (H2 := η 2) (H3 := η 3) (H4 := η 4) (H5 := η 5) (H6 := η 6) (H7 := η 7) f47 f46 f45 f44 f43 f42 f41 f40 f39 f38 f37 f36 f35 f34 f33 f32 f31 f30 f29 f28 f27 f26 f25 f24 f23 f22 f21 f20 f19 f18 f17 f16 f15 f14 f13 f12 f11 f10 f9 f8 f7 f6 f5 f4 f3 f2 f1 f0
theorem q_88v_19 {q0 : Nat} {n0 n1 n2 n3 n4 n5 n6 n7 n8 n9 n10 n11 n12 n13 n14 n15 n16 n17 n18 n19 : Int} {H0 H1 H2 H3 H4 H5 H6 H7 : gH} (f0 : n0 ≤ 2147483647) (f1 : (-2147483648) ≤ n0) (f2 : n1 ≤ 2147483647) (f3 : (-2147483648) ≤ n1) (f4 : n2 ≤ 2147483647) (f5 : (-2147483648) ≤ n2) (f6 : n3 ≤ 2147483647) (f7 : (-2147483648) ≤ n3) (f8 : n4 = 30) (f9 : n5 = 30) (f10 : (hLe T0 H0 H1 ∧ hFr s_88v.2.2.2.2 H0 H1 ∧ hWt T0 H1) ∧ (Ab_88v_9 n5 n4 n3 n2 n1 n0 H0 H1 ∧ preb_88v n5 H0) ∧ some q0 = some (mub_88v_9 n5 n4 n3 n2 n1 n0 H0 H1)) (f11 : n6 = 500) (f12 : n0 ≤ n6) (f13 : n7 ≤ 2147483647) (f14 : (-2147483648) ≤ n7) (f15 : n7 = hV H1 (n4).toNat 3) (f16 : n7 = 0) (f17 : n1 ≠ 0) (f18 : n8 ≤ 1) (f19 : 0 ≤ n8) (f20 : (hLe T0 H1 H2 ∧ hFr s_89v.2.2.2.2 H1 H2 ∧ ((0 : Int) = 0 → H2.length = H1.length) ∧ hWt T0 H2) ∧ postb_89v n8 n4 H1 H2) (f21 : (hLe T0 H2 H3 ∧ hFr s_92v.2.2.2.2 H2 H3 ∧ ((0 : Int) = 0 → H3.length = H2.length) ∧ hWt T0 H3) ∧ postb_92v n4 H2 H3) (f22 : n9 ≤ 2147483647) (f23 : (-2147483648) ≤ n9) (f24 : (hLe T0 H3 H4 ∧ hFr s_90v.2.2.2.2 H3 H4 ∧ ((0 : Int) = 0 → H4.length = H3.length) ∧ hWt T0 H4) ∧ postb_90v n9 n4 H3 H4) (f25 : (hLe T0 H4 H5 ∧ hFr s_92v.2.2.2.2 H4 H5 ∧ ((0 : Int) = 0 → H5.length = H4.length) ∧ hWt T0 H5) ∧ postb_92v n4 H4 H5) (f26 : (hLe T0 H5 H6 ∧ hFr s_91.2.2.2.2 H5 H6 ∧ ((0 : Int) = 0 → H6.length = H5.length) ∧ hWt T0 H6) ∧ True) (f27 : n2 = 0) (f28 : n10 ≤ 2147483647) (f29 : (-2147483648) ≤ n10) (f30 : n10 = hV H6 (n4).toNat 2) (f31 : n11 = 43) (f32 : n10 = n11) (f33 : n12 = 1) (f34 : n12 = 0) (f35 : n3 ≠ 0) (f36 : 0 ≤ n13) (f37 : n13 = hV H6 (n4).toNat 8) (f38 : n14 = 10042) (f39 : (hLe T0 H6 H7 ∧ hFr s_98.2.2.2.2 H6 H7 ∧ ((0 : Int) = 0 → H7.length = H6.length) ∧ hWt T0 H7) ∧ True) (f40 : n15 = 0) (f41 : n16 ≤ 2147483647) (f42 : (-2147483648) ≤ n16) (f43 : n16 = hV H7 (n4).toNat 2) (f44 : n17 = 42) (f45 : n16 = n17) (f46 : n18 = 1) (f47 : n19 = o32 (fun x y => x ||| y) n15 n18) : Ab_88v_122 n5 n4 n19 n12 n1 n0 n8 n9 H0 H7 ∧ ∀ q, some q0 = some q → mub_88v_122 n5 n4 n19 n12 n1 n0 n8 n9 H0 H7 < q := by
  exfalso
  omega
theorem c_88v_9_18 {q0 : Nat} : vOkm T0 (eP e_88v L_88v A_88v mu_88v (some q0)) 1 ([(5, [19, 15, 18], [], 0), (0, [18], [], 1), (40, [16, 17], [], 0), (0, [17], [], 42), (20, [16, 1], [7], 2), (90, [16], [], -2147483648), (91, [16], [], 2147483647), (0, [15], [], 0), (1098, [13, 14], [6, 7], 0), (0, [14], [], 10042), (20, [13, 1], [6], 8), (51, [13], [], 0), (31, [2], [], 0), (30, [12], [], 0), (0, [12], [], 1), (40, [10, 11], [], 0), (0, [11], [], 43), (20, [10, 1], [6], 2), (90, [10], [], -2147483648), (91, [10], [], 2147483647), (30, [3], [], 0), (1091, [1, 9, 8], [5, 6], 0), (1092, [1], [4, 5], 0), (1090, [9, 1], [3, 4], 0), (90, [9], [], -2147483648), (91, [9], [], 2147483647), (1092, [1], [2, 3], 0), (1089, [8, 1], [1, 2], 0), (90, [8], [], 0), (91, [8], [], 1), (31, [4], [], 0), (30, [7], [], 0), (20, [7, 1], [1], 3), (90, [7], [], -2147483648), (91, [7], [], 2147483647), (45, [5, 6], [], 0), (0, [6], [], 500), (5000, [0, 1, 2, 3, 4, 5], [0, 1], 9), (0, [0], [], 30), (0, [1], [], 30), (90, [2], [], -2147483648), (91, [2], [], 2147483647), (90, [3], [], -2147483648), (91, [3], [], 2147483647), (90, [4], [], -2147483648), (91, [4], [], 2147483647), (90, [5], [], -2147483648), (91, [5], [], 2147483647)], (4000, [1, 19, 12, 4, 5, 8, 9], [7], 122)) := vOk_in fun ρ η h => by
  obtain ⟨f0, f1, f2, f3, f4, f5, f6, f7, f8, f9, f10, f11, f12, f13, f14, f15, f16, f17, f18, f19, f20, f21, f22, f23, f24, f25, f26, f27, f28, f29, f30, f31, f32, f33, f34, f35, f36, f37, f38, f39, f40, f41, f42, f43, f44, f45, f46, f47, _⟩ := h
  exact q_88v_19 (q0 := q0) (n0 := ρ 5) (n1 := ρ 4) (n2 := ρ 3) (n3 := ρ 2) (n4 := ρ 1) (n5 := ρ 0) (n6 := ρ 6) (n7 := ρ 7) (n8 := ρ 8) (n9 := ρ 9) (n10 := ρ 10) (n11 := ρ 11) (n12 := ρ 12) (n13 := ρ 13) (n14 := ρ 14) (n15 := ρ 15) (n16 := ρ 16) (n17 := ρ 17) (n18 := ρ 18) (n19 := ρ 19) (H0 := η 0) (H1 := η 1) (H2 := η 2) (H3 := η 3) (H4 := η 4) (H5 := η 5) (H6 := η 6) (H7 := η 7) f47 f46 f45 f44 f43 f42 f41 f40 f39 f38 f37 f36 f35 f34 f33 f32 f31 f30 f29 f28 f27 f26 f25 f24 f23 f22 f21 f20 f19 f18 f17 f16 f15 f14 f13 f12 f11 f10 f9 f8 f7 f6 f5 f4 f3 f2 f1 f0
theorem q_88v_20 {q0 : Nat} {n0 n1 n2 n3 n4 n5 n6 n7 n8 n9 n10 n11 n12 n13 n14 n15 n16 n17 n18 : Int} {H0 H1 H2 H3 H4 H5 H6 H7 : gH} (f0 : n0 ≤ 2147483647) (f1 : (-2147483648) ≤ n0) (f2 : n1 ≤ 2147483647) (f3 : (-2147483648) ≤ n1) (f4 : n2 ≤ 2147483647) (f5 : (-2147483648) ≤ n2) (f6 : n3 ≤ 2147483647) (f7 : (-2147483648) ≤ n3) (f8 : n4 = 30) (f9 : n5 = 30) (f10 : (hLe T0 H0 H1 ∧ hFr s_88v.2.2.2.2 H0 H1 ∧ hWt T0 H1) ∧ (Ab_88v_9 n5 n4 n3 n2 n1 n0 H0 H1 ∧ preb_88v n5 H0) ∧ some q0 = some (mub_88v_9 n5 n4 n3 n2 n1 n0 H0 H1)) (f11 : n6 = 500) (f12 : n0 ≤ n6) (f13 : n7 ≤ 2147483647) (f14 : (-2147483648) ≤ n7) (f15 : n7 = hV H1 (n4).toNat 3) (f16 : n7 = 0) (f17 : n1 ≠ 0) (f18 : n8 ≤ 1) (f19 : 0 ≤ n8) (f20 : (hLe T0 H1 H2 ∧ hFr s_89v.2.2.2.2 H1 H2 ∧ ((0 : Int) = 0 → H2.length = H1.length) ∧ hWt T0 H2) ∧ postb_89v n8 n4 H1 H2) (f21 : (hLe T0 H2 H3 ∧ hFr s_92v.2.2.2.2 H2 H3 ∧ ((0 : Int) = 0 → H3.length = H2.length) ∧ hWt T0 H3) ∧ postb_92v n4 H2 H3) (f22 : n9 ≤ 2147483647) (f23 : (-2147483648) ≤ n9) (f24 : (hLe T0 H3 H4 ∧ hFr s_90v.2.2.2.2 H3 H4 ∧ ((0 : Int) = 0 → H4.length = H3.length) ∧ hWt T0 H4) ∧ postb_90v n9 n4 H3 H4) (f25 : (hLe T0 H4 H5 ∧ hFr s_92v.2.2.2.2 H4 H5 ∧ ((0 : Int) = 0 → H5.length = H4.length) ∧ hWt T0 H5) ∧ postb_92v n4 H4 H5) (f26 : (hLe T0 H5 H6 ∧ hFr s_91.2.2.2.2 H5 H6 ∧ ((0 : Int) = 0 → H6.length = H5.length) ∧ hWt T0 H6) ∧ True) (f27 : n2 ≠ 0) (f28 : 0 ≤ n10) (f29 : n10 = hV H6 (n4).toNat 8) (f30 : n11 = 10043) (f31 : (hLe T0 H6 H7 ∧ hFr s_98.2.2.2.2 H6 H7 ∧ ((0 : Int) = 0 → H7.length = H6.length) ∧ hWt T0 H7) ∧ True) (f32 : n12 ≤ 2147483647) (f33 : (-2147483648) ≤ n12) (f34 : n12 = hV H7 (n4).toNat 2) (f35 : n13 = 43) (f36 : n12 ≠ n13) (f37 : n14 = 0) (f38 : n14 ≠ 0) (f39 : n15 ≤ 2147483647) (f40 : (-2147483648) ≤ n15) (f41 : n15 = hV H7 (n4).toNat 2) (f42 : n16 = 42) (f43 : n15 ≠ n16) (f44 : n17 = 0) (f45 : n18 = o32 (fun x y => x ||| y) n3 n17) : Ab_88v_122 n5 n4 n18 n14 n1 n0 n8 n9 H0 H7 ∧ ∀ q, some q0 = some q → mub_88v_122 n5 n4 n18 n14 n1 n0 n8 n9 H0 H7 < q := by
  exfalso
  omega
theorem c_88v_9_19 {q0 : Nat} : vOkm T0 (eP e_88v L_88v A_88v mu_88v (some q0)) 1 ([(5, [18, 2, 17], [], 0), (0, [17], [], 0), (41, [15, 16], [], 0), (0, [16], [], 42), (20, [15, 1], [7], 2), (90, [15], [], -2147483648), (91, [15], [], 2147483647), (31, [14], [], 0), (0, [14], [], 0), (41, [12, 13], [], 0), (0, [13], [], 43), (20, [12, 1], [7], 2), (90, [12], [], -2147483648), (91, [12], [], 2147483647), (1098, [10, 11], [6, 7], 0), (0, [11], [], 10043), (20, [10, 1], [6], 8), (51, [10], [], 0), (31, [3], [], 0), (1091, [1, 9, 8], [5, 6], 0), (1092, [1], [4, 5], 0), (1090, [9, 1], [3, 4], 0), (90, [9], [], -2147483648), (91, [9], [], 2147483647), (1092, [1], [2, 3], 0), (1089, [8, 1], [1, 2], 0), (90, [8], [], 0), (91, [8], [], 1), (31, [4], [], 0), (30, [7], [], 0), (20, [7, 1], [1], 3), (90, [7], [], -2147483648), (91, [7], [], 2147483647), (45, [5, 6], [], 0), (0, [6], [], 500), (5000, [0, 1, 2, 3, 4, 5], [0, 1], 9), (0, [0], [], 30), (0, [1], [], 30), (90, [2], [], -2147483648), (91, [2], [], 2147483647), (90, [3], [], -2147483648), (91, [3], [], 2147483647), (90, [4], [], -2147483648), (91, [4], [], 2147483647), (90, [5], [], -2147483648), (91, [5], [], 2147483647)], (4000, [1, 18, 14, 4, 5, 8, 9], [7], 122)) := vOk_in fun ρ η h => by
  obtain ⟨f0, f1, f2, f3, f4, f5, f6, f7, f8, f9, f10, f11, f12, f13, f14, f15, f16, f17, f18, f19, f20, f21, f22, f23, f24, f25, f26, f27, f28, f29, f30, f31, f32, f33, f34, f35, f36, f37, f38, f39, f40, f41, f42, f43, f44, f45, _⟩ := h
  exact q_88v_20 (q0 := q0) (n0 := ρ 5) (n1 := ρ 4) (n2 := ρ 3) (n3 := ρ 2) (n4 := ρ 1) (n5 := ρ 0) (n6 := ρ 6) (n7 := ρ 7) (n8 := ρ 8) (n9 := ρ 9) (n10 := ρ 10) (n11 := ρ 11) (n12 := ρ 12) (n13 := ρ 13) (n14 := ρ 14) (n15 := ρ 15) (n16 := ρ 16) (n17 := ρ 17) (n18 := ρ 18) (H0 := η 0) (H1 := η 1) (H2 := η 2) (H3 := η 3) (H4 := η 4) (H5 := η 5) (H6 := η 6) (H7 := η 7) f45 f44 f43 f42 f41 f40 f39 f38 f37 f36 f35 f34 f33 f32 f31 f30 f29 f28 f27 f26 f25 f24 f23 f22 f21 f20 f19 f18 f17 f16 f15 f14 f13 f12 f11 f10 f9 f8 f7 f6 f5 f4 f3 f2 f1 f0
theorem q_88v_21 {q0 : Nat} {n0 n1 n2 n3 n4 n5 n6 n7 n8 n9 n10 n11 n12 n13 n14 n15 n16 n17 n18 : Int} {H0 H1 H2 H3 H4 H5 H6 H7 : gH} (f0 : n0 ≤ 2147483647) (f1 : (-2147483648) ≤ n0) (f2 : n1 ≤ 2147483647) (f3 : (-2147483648) ≤ n1) (f4 : n2 ≤ 2147483647) (f5 : (-2147483648) ≤ n2) (f6 : n3 ≤ 2147483647) (f7 : (-2147483648) ≤ n3) (f8 : n4 = 30) (f9 : n5 = 30) (f10 : (hLe T0 H0 H1 ∧ hFr s_88v.2.2.2.2 H0 H1 ∧ hWt T0 H1) ∧ (Ab_88v_9 n5 n4 n3 n2 n1 n0 H0 H1 ∧ preb_88v n5 H0) ∧ some q0 = some (mub_88v_9 n5 n4 n3 n2 n1 n0 H0 H1)) (f11 : n6 = 500) (f12 : n0 ≤ n6) (f13 : n7 ≤ 2147483647) (f14 : (-2147483648) ≤ n7) (f15 : n7 = hV H1 (n4).toNat 3) (f16 : n7 = 0) (f17 : n1 ≠ 0) (f18 : n8 ≤ 1) (f19 : 0 ≤ n8) (f20 : (hLe T0 H1 H2 ∧ hFr s_89v.2.2.2.2 H1 H2 ∧ ((0 : Int) = 0 → H2.length = H1.length) ∧ hWt T0 H2) ∧ postb_89v n8 n4 H1 H2) (f21 : (hLe T0 H2 H3 ∧ hFr s_92v.2.2.2.2 H2 H3 ∧ ((0 : Int) = 0 → H3.length = H2.length) ∧ hWt T0 H3) ∧ postb_92v n4 H2 H3) (f22 : n9 ≤ 2147483647) (f23 : (-2147483648) ≤ n9) (f24 : (hLe T0 H3 H4 ∧ hFr s_90v.2.2.2.2 H3 H4 ∧ ((0 : Int) = 0 → H4.length = H3.length) ∧ hWt T0 H4) ∧ postb_90v n9 n4 H3 H4) (f25 : (hLe T0 H4 H5 ∧ hFr s_92v.2.2.2.2 H4 H5 ∧ ((0 : Int) = 0 → H5.length = H4.length) ∧ hWt T0 H5) ∧ postb_92v n4 H4 H5) (f26 : (hLe T0 H5 H6 ∧ hFr s_91.2.2.2.2 H5 H6 ∧ ((0 : Int) = 0 → H6.length = H5.length) ∧ hWt T0 H6) ∧ True) (f27 : n2 ≠ 0) (f28 : 0 ≤ n10) (f29 : n10 = hV H6 (n4).toNat 8) (f30 : n11 = 10043) (f31 : (hLe T0 H6 H7 ∧ hFr s_98.2.2.2.2 H6 H7 ∧ ((0 : Int) = 0 → H7.length = H6.length) ∧ hWt T0 H7) ∧ True) (f32 : n12 ≤ 2147483647) (f33 : (-2147483648) ≤ n12) (f34 : n12 = hV H7 (n4).toNat 2) (f35 : n13 = 43) (f36 : n12 ≠ n13) (f37 : n14 = 0) (f38 : n14 ≠ 0) (f39 : n15 ≤ 2147483647) (f40 : (-2147483648) ≤ n15) (f41 : n15 = hV H7 (n4).toNat 2) (f42 : n16 = 42) (f43 : n15 = n16) (f44 : n17 = 1) (f45 : n18 = o32 (fun x y => x ||| y) n3 n17) : Ab_88v_122 n5 n4 n18 n14 n1 n0 n8 n9 H0 H7 ∧ ∀ q, some q0 = some q → mub_88v_122 n5 n4 n18 n14 n1 n0 n8 n9 H0 H7 < q := by
  exfalso
  omega
theorem c_88v_9_20 {q0 : Nat} : vOkm T0 (eP e_88v L_88v A_88v mu_88v (some q0)) 1 ([(5, [18, 2, 17], [], 0), (0, [17], [], 1), (40, [15, 16], [], 0), (0, [16], [], 42), (20, [15, 1], [7], 2), (90, [15], [], -2147483648), (91, [15], [], 2147483647), (31, [14], [], 0), (0, [14], [], 0), (41, [12, 13], [], 0), (0, [13], [], 43), (20, [12, 1], [7], 2), (90, [12], [], -2147483648), (91, [12], [], 2147483647), (1098, [10, 11], [6, 7], 0), (0, [11], [], 10043), (20, [10, 1], [6], 8), (51, [10], [], 0), (31, [3], [], 0), (1091, [1, 9, 8], [5, 6], 0), (1092, [1], [4, 5], 0), (1090, [9, 1], [3, 4], 0), (90, [9], [], -2147483648), (91, [9], [], 2147483647), (1092, [1], [2, 3], 0), (1089, [8, 1], [1, 2], 0), (90, [8], [], 0), (91, [8], [], 1), (31, [4], [], 0), (30, [7], [], 0), (20, [7, 1], [1], 3), (90, [7], [], -2147483648), (91, [7], [], 2147483647), (45, [5, 6], [], 0), (0, [6], [], 500), (5000, [0, 1, 2, 3, 4, 5], [0, 1], 9), (0, [0], [], 30), (0, [1], [], 30), (90, [2], [], -2147483648), (91, [2], [], 2147483647), (90, [3], [], -2147483648), (91, [3], [], 2147483647), (90, [4], [], -2147483648), (91, [4], [], 2147483647), (90, [5], [], -2147483648), (91, [5], [], 2147483647)], (4000, [1, 18, 14, 4, 5, 8, 9], [7], 122)) := vOk_in fun ρ η h => by
  obtain ⟨f0, f1, f2, f3, f4, f5, f6, f7, f8, f9, f10, f11, f12, f13, f14, f15, f16, f17, f18, f19, f20, f21, f22, f23, f24, f25, f26, f27, f28, f29, f30, f31, f32, f33, f34, f35, f36, f37, f38, f39, f40, f41, f42, f43, f44, f45, _⟩ := h
  exact q_88v_21 (q0 := q0) (n0 := ρ 5) (n1 := ρ 4) (n2 := ρ 3) (n3 := ρ 2) (n4 := ρ 1) (n5 := ρ 0) (n6 := ρ 6) (n7 := ρ 7) (n8 := ρ 8) (n9 := ρ 9) (n10 := ρ 10) (n11 := ρ 11) (n12 := ρ 12) (n13 := ρ 13) (n14 := ρ 14) (n15 := ρ 15) (n16 := ρ 16) (n17 := ρ 17) (n18 := ρ 18) (H0 := η 0) (H1 := η 1) (H2 := η 2) (H3 := η 3) (H4 := η 4) (H5 := η 5) (H6 := η 6) (H7 := η 7) f45 f44 f43 f42 f41 f40 f39 f38 f37 f36 f35 f34 f33 f32 f31 f30 f29 f28 f27 f26 f25 f24 f23 f22 f21 f20 f19 f18 f17 f16 f15 f14 f13 f12 f11 f10 f9 f8 f7 f6 f5 f4 f3 f2 f1 f0
theorem q_88v_22 {q0 : Nat} {n0 n1 n2 n3 n4 n5 n6 n7 n8 n9 n10 n11 n12 n13 n14 n15 n16 n17 n18 : Int} {H0 H1 H2 H3 H4 H5 H6 H7 : gH} (f0 : n0 ≤ 2147483647) (f1 : (-2147483648) ≤ n0) (f2 : n1 ≤ 2147483647) (f3 : (-2147483648) ≤ n1) (f4 : n2 ≤ 2147483647) (f5 : (-2147483648) ≤ n2) (f6 : n3 ≤ 2147483647) (f7 : (-2147483648) ≤ n3) (f8 : n4 = 30) (f9 : n5 = 30) (f10 : (hLe T0 H0 H1 ∧ hFr s_88v.2.2.2.2 H0 H1 ∧ hWt T0 H1) ∧ (Ab_88v_9 n5 n4 n3 n2 n1 n0 H0 H1 ∧ preb_88v n5 H0) ∧ some q0 = some (mub_88v_9 n5 n4 n3 n2 n1 n0 H0 H1)) (f11 : n6 = 500) (f12 : n0 ≤ n6) (f13 : n7 ≤ 2147483647) (f14 : (-2147483648) ≤ n7) (f15 : n7 = hV H1 (n4).toNat 3) (f16 : n7 = 0) (f17 : n1 ≠ 0) (f18 : n8 ≤ 1) (f19 : 0 ≤ n8) (f20 : (hLe T0 H1 H2 ∧ hFr s_89v.2.2.2.2 H1 H2 ∧ ((0 : Int) = 0 → H2.length = H1.length) ∧ hWt T0 H2) ∧ postb_89v n8 n4 H1 H2) (f21 : (hLe T0 H2 H3 ∧ hFr s_92v.2.2.2.2 H2 H3 ∧ ((0 : Int) = 0 → H3.length = H2.length) ∧ hWt T0 H3) ∧ postb_92v n4 H2 H3) (f22 : n9 ≤ 2147483647) (f23 : (-2147483648) ≤ n9) (f24 : (hLe T0 H3 H4 ∧ hFr s_90v.2.2.2.2 H3 H4 ∧ ((0 : Int) = 0 → H4.length = H3.length) ∧ hWt T0 H4) ∧ postb_90v n9 n4 H3 H4) (f25 : (hLe T0 H4 H5 ∧ hFr s_92v.2.2.2.2 H4 H5 ∧ ((0 : Int) = 0 → H5.length = H4.length) ∧ hWt T0 H5) ∧ postb_92v n4 H4 H5) (f26 : (hLe T0 H5 H6 ∧ hFr s_91.2.2.2.2 H5 H6 ∧ ((0 : Int) = 0 → H6.length = H5.length) ∧ hWt T0 H6) ∧ True) (f27 : n2 ≠ 0) (f28 : 0 ≤ n10) (f29 : n10 = hV H6 (n4).toNat 8) (f30 : n11 = 10043) (f31 : (hLe T0 H6 H7 ∧ hFr s_98.2.2.2.2 H6 H7 ∧ ((0 : Int) = 0 → H7.length = H6.length) ∧ hWt T0 H7) ∧ True) (f32 : n12 ≤ 2147483647) (f33 : (-2147483648) ≤ n12) (f34 : n12 = hV H7 (n4).toNat 2) (f35 : n13 = 43) (f36 : n12 ≠ n13) (f37 : n14 = 0) (f38 : n14 = 0) (f39 : n3 = 0) (f40 : n15 ≤ 2147483647) (f41 : (-2147483648) ≤ n15) (f42 : n15 = hV H7 (n4).toNat 2) (f43 : n16 = 42) (f44 : n15 ≠ n16) (f45 : n17 = 0) (f46 : n18 = o32 (fun x y => x ||| y) n3 n17) : Ab_88v_122 n5 n4 n18 n14 n1 n0 n8 n9 H0 H7 ∧ ∀ q, some q0 = some q → mub_88v_122 n5 n4 n18 n14 n1 n0 n8 n9 H0 H7 < q := by
  have pz := f10.2.1.2
  unfold preb_88v at pz
  have ga := f10.2.1.1
  unfold Ab_88v_9 at ga
  have vz : vwC H1 = vwC H0 := vwC_fr f10.1.2.1 (by decide +kernel)
  have c0 := f20.2
  unfold postb_89v at c0
  rw [vz] at c0
  have a0 : absC H2 = (pNots (vwC H0) (502 - (absC H1).1).toNat (absC H1)) := c0.2
  clear c0
  have v0 : vwC H2 = vwC H0 := (vwC_fr f20.1.2.1 (by decide +kernel)).trans vz
  have c1 := f21.2
  unfold postb_92v at c1
  rw [v0] at c1
  rw [a0] at c1
  have a1 : absC H3 = (pExp (vwC H0) (pNots (vwC H0) (502 - (absC H1).1).toNat (absC H1))) := c1.2
  clear c1
  have v1 : vwC H3 = vwC H0 := (vwC_fr f21.1.2.1 (by decide +kernel)).trans v0
  have c2 := f24.2
  unfold postb_90v at c2
  rw [v1] at c2
  rw [a1] at c2
  have a2 : absC H4 = (pRel (vwC H0) (pExp (vwC H0) (pNots (vwC H0) (502 - (absC H1).1).toNat (absC H1)))) := c2.2
  clear c2
  have v2 : vwC H4 = vwC H0 := (vwC_fr f24.1.2.1 (by decide +kernel)).trans v1
  have c3 := f25.2
  unfold postb_92v at c3
  rw [v2] at c3
  rw [a2] at c3
  have a3 : absC H5 = (pExp (vwC H0) (pRel (vwC H0) (pExp (vwC H0) (pNots (vwC H0) (502 - (absC H1).1).toNat (absC H1))))) := c3.2
  have v3 : vwC H5 = vwC H0 := (vwC_fr f25.1.2.1 (by decide +kernel)).trans v2
  have s4 := PF_fr f26.1.1 f26.1.2.1 (by decide +kernel) c3.1
  clear c3
  have a4 : absC H6 = (pExp (vwC H0) (pRel (vwC H0) (pExp (vwC H0) (pNots (vwC H0) (502 - (absC H1).1).toNat (absC H1))))) := s4.1.trans a3
  have v4 : vwC H6 = vwC H0 := s4.2.1.trans v3
  have s5 := PF_fr f31.1.1 f31.1.2.1 (by decide +kernel) s4.2.2
  have a5 : absC H7 = (pExp (vwC H0) (pRel (vwC H0) (pExp (vwC H0) (pNots (vwC H0) (502 - (absC H1).1).toNat (absC H1))))) := s5.1.trans a4
  have v5 : vwC H7 = vwC H0 := s5.2.1.trans v4
  have b0 := kd_at s5.2.2
  rw [v5] at b0
  rw [a5] at b0
  have g0 := f34
  rw [f8] at g0
  rw [show ((30 : Int)).toNat = 30 from rfl] at g0
  have h0 : (pExp (vwC H0) (pRel (vwC H0) (pExp (vwC H0) (pNots (vwC H0) (502 - (absC H1).1).toNat (absC H1))))).1 < 0 ∨ ¬ (vwC H0).1 (pExp (vwC H0) (pRel (vwC H0) (pExp (vwC H0) (pNots (vwC H0) (502 - (absC H1).1).toNat (absC H1))))).1 = 43 := by
    rcases b0 with q | q
    · exact .inl q
    · right
      rw [q]
      omega
  clear b0 h0
  have b1 := kd_at s5.2.2
  rw [v5] at b1
  rw [a5] at b1
  have g1 := f42
  rw [f8] at g1
  rw [show ((30 : Int)).toNat = 30 from rfl] at g1
  have h1 : (pExp (vwC H0) (pRel (vwC H0) (pExp (vwC H0) (pNots (vwC H0) (502 - (absC H1).1).toNat (absC H1))))).1 < 0 ∨ ¬ (vwC H0).1 (pExp (vwC H0) (pRel (vwC H0) (pExp (vwC H0) (pNots (vwC H0) (502 - (absC H1).1).toNat (absC H1))))).1 = 42 := by
    rcases b1 with q | q
    · exact .inl q
    · right
      rw [q]
      omega
  clear b1 h1
  have ga1_ := ga.1
  have gb := ga
  obtain ⟨_, s0_, m01, xn, ya, yb⟩ := gb
  clear ga
  clear yb
  have rf := f15
  rw [f8] at rf
  rw [show ((30 : Int)).toNat = 30 from rfl] at rf
  have ap := absC_pos ga1_ (by (first | exact Int.le_antisymm (by omega) (by omega) | omega))
  have u := xn (by (first | exact Int.le_antisymm (by omega) (by omega) | omega))
  clear xn
  have nw := ga1_.2.2.2.1.2.1
  have y := ya (by (first | exact Int.le_antisymm (by omega) (by omega) | omega))
  clear ya
  rw [show 502 - (n0).toNat = (502 - (n0).toNat - 1) + 1 by (first | exact Int.le_antisymm (by omega) (by omega) | omega), pCond_step] at y
  have al : absC H7 = pLit (vwC H0) (absC H1) := a5
  have g5 := Option.some.inj f10.2.2
  unfold mub_88v_9 at g5
  unfold Ab_88v_122 mub_88v_122
  refine ⟨⟨s5.2.2, by (first | exact Int.le_antisymm (by omega) (by omega) | omega), by (first | exact Int.le_antisymm (by omega) (by omega) | omega), fun hf => ?_, ?_⟩, fun q hq => ?_⟩
  · have a2 := absC_pos s5.2.2 hf
    have a3 := pLit_mono (p := absC H1) pz.2.1 (absC_ok ga1_) (by rw [← al]; exact a2.2)
    rw [← al] at a3
    omega
  · rw [al]
    exact y
  · have g6 := Option.some.inj hq
    subst g6
    omega
theorem c_88v_9_21 {q0 : Nat} : vOkm T0 (eP e_88v L_88v A_88v mu_88v (some q0)) 1 ([(5, [18, 2, 17], [], 0), (0, [17], [], 0), (41, [15, 16], [], 0), (0, [16], [], 42), (20, [15, 1], [7], 2), (90, [15], [], -2147483648), (91, [15], [], 2147483647), (30, [2], [], 0), (30, [14], [], 0), (0, [14], [], 0), (41, [12, 13], [], 0), (0, [13], [], 43), (20, [12, 1], [7], 2), (90, [12], [], -2147483648), (91, [12], [], 2147483647), (1098, [10, 11], [6, 7], 0), (0, [11], [], 10043), (20, [10, 1], [6], 8), (51, [10], [], 0), (31, [3], [], 0), (1091, [1, 9, 8], [5, 6], 0), (1092, [1], [4, 5], 0), (1090, [9, 1], [3, 4], 0), (90, [9], [], -2147483648), (91, [9], [], 2147483647), (1092, [1], [2, 3], 0), (1089, [8, 1], [1, 2], 0), (90, [8], [], 0), (91, [8], [], 1), (31, [4], [], 0), (30, [7], [], 0), (20, [7, 1], [1], 3), (90, [7], [], -2147483648), (91, [7], [], 2147483647), (45, [5, 6], [], 0), (0, [6], [], 500), (5000, [0, 1, 2, 3, 4, 5], [0, 1], 9), (0, [0], [], 30), (0, [1], [], 30), (90, [2], [], -2147483648), (91, [2], [], 2147483647), (90, [3], [], -2147483648), (91, [3], [], 2147483647), (90, [4], [], -2147483648), (91, [4], [], 2147483647), (90, [5], [], -2147483648), (91, [5], [], 2147483647)], (4000, [1, 18, 14, 4, 5, 8, 9], [7], 122)) := vOk_in fun ρ η h => by
  obtain ⟨f0, f1, f2, f3, f4, f5, f6, f7, f8, f9, f10, f11, f12, f13, f14, f15, f16, f17, f18, f19, f20, f21, f22, f23, f24, f25, f26, f27, f28, f29, f30, f31, f32, f33, f34, f35, f36, f37, f38, f39, f40, f41, f42, f43, f44, f45, f46, _⟩ := h
  exact q_88v_22 (q0 := q0) (n0 := ρ 5) (n1 := ρ 4) (n2 := ρ 3) (n3 := ρ 2) (n4 := ρ 1) (n5 := ρ 0) (n6 := ρ 6) (n7 := ρ 7) (n8 := ρ 8) (n9 := ρ 9) (n10 := ρ 10) (n11 := ρ 11) (n12 := ρ 12) (n13 := ρ 13) (n14 := ρ 14) (n15 := ρ 15) (n16 := ρ 16) (n17 := ρ 17) (n18 := ρ 18) (H0 := η 0) (H1 := η 1) (H2 := η 2) (H3 := η 3) (H4 := η 4) (H5 := η 5) (H6 := η 6) (H7 := η 7) f46 f45 f44 f43 f42 f41 f40 f39 f38 f37 f36 f35 f34 f33 f32 f31 f30 f29 f28 f27 f26 f25 f24 f23 f22 f21 f20 f19 f18 f17 f16 f15 f14 f13 f12 f11 f10 f9 f8 f7 f6 f5 f4 f3 f2 f1 f0
theorem q_88v_23 {q0 : Nat} {n0 n1 n2 n3 n4 n5 n6 n7 n8 n9 n10 n11 n12 n13 n14 n15 n16 n17 n18 : Int} {H0 H1 H2 H3 H4 H5 H6 H7 : gH} (f0 : n0 ≤ 2147483647) (f1 : (-2147483648) ≤ n0) (f2 : n1 ≤ 2147483647) (f3 : (-2147483648) ≤ n1) (f4 : n2 ≤ 2147483647) (f5 : (-2147483648) ≤ n2) (f6 : n3 ≤ 2147483647) (f7 : (-2147483648) ≤ n3) (f8 : n4 = 30) (f9 : n5 = 30) (f10 : (hLe T0 H0 H1 ∧ hFr s_88v.2.2.2.2 H0 H1 ∧ hWt T0 H1) ∧ (Ab_88v_9 n5 n4 n3 n2 n1 n0 H0 H1 ∧ preb_88v n5 H0) ∧ some q0 = some (mub_88v_9 n5 n4 n3 n2 n1 n0 H0 H1)) (f11 : n6 = 500) (f12 : n0 ≤ n6) (f13 : n7 ≤ 2147483647) (f14 : (-2147483648) ≤ n7) (f15 : n7 = hV H1 (n4).toNat 3) (f16 : n7 = 0) (f17 : n1 ≠ 0) (f18 : n8 ≤ 1) (f19 : 0 ≤ n8) (f20 : (hLe T0 H1 H2 ∧ hFr s_89v.2.2.2.2 H1 H2 ∧ ((0 : Int) = 0 → H2.length = H1.length) ∧ hWt T0 H2) ∧ postb_89v n8 n4 H1 H2) (f21 : (hLe T0 H2 H3 ∧ hFr s_92v.2.2.2.2 H2 H3 ∧ ((0 : Int) = 0 → H3.length = H2.length) ∧ hWt T0 H3) ∧ postb_92v n4 H2 H3) (f22 : n9 ≤ 2147483647) (f23 : (-2147483648) ≤ n9) (f24 : (hLe T0 H3 H4 ∧ hFr s_90v.2.2.2.2 H3 H4 ∧ ((0 : Int) = 0 → H4.length = H3.length) ∧ hWt T0 H4) ∧ postb_90v n9 n4 H3 H4) (f25 : (hLe T0 H4 H5 ∧ hFr s_92v.2.2.2.2 H4 H5 ∧ ((0 : Int) = 0 → H5.length = H4.length) ∧ hWt T0 H5) ∧ postb_92v n4 H4 H5) (f26 : (hLe T0 H5 H6 ∧ hFr s_91.2.2.2.2 H5 H6 ∧ ((0 : Int) = 0 → H6.length = H5.length) ∧ hWt T0 H6) ∧ True) (f27 : n2 ≠ 0) (f28 : 0 ≤ n10) (f29 : n10 = hV H6 (n4).toNat 8) (f30 : n11 = 10043) (f31 : (hLe T0 H6 H7 ∧ hFr s_98.2.2.2.2 H6 H7 ∧ ((0 : Int) = 0 → H7.length = H6.length) ∧ hWt T0 H7) ∧ True) (f32 : n12 ≤ 2147483647) (f33 : (-2147483648) ≤ n12) (f34 : n12 = hV H7 (n4).toNat 2) (f35 : n13 = 43) (f36 : n12 ≠ n13) (f37 : n14 = 0) (f38 : n14 = 0) (f39 : n3 = 0) (f40 : n15 ≤ 2147483647) (f41 : (-2147483648) ≤ n15) (f42 : n15 = hV H7 (n4).toNat 2) (f43 : n16 = 42) (f44 : n15 = n16) (f45 : n17 = 1) (f46 : n18 = o32 (fun x y => x ||| y) n3 n17) : Ab_88v_122 n5 n4 n18 n14 n1 n0 n8 n9 H0 H7 ∧ ∀ q, some q0 = some q → mub_88v_122 n5 n4 n18 n14 n1 n0 n8 n9 H0 H7 < q := by
  have pz := f10.2.1.2
  unfold preb_88v at pz
  have ga := f10.2.1.1
  unfold Ab_88v_9 at ga
  have vz : vwC H1 = vwC H0 := vwC_fr f10.1.2.1 (by decide +kernel)
  have c0 := f20.2
  unfold postb_89v at c0
  rw [vz] at c0
  have a0 : absC H2 = (pNots (vwC H0) (502 - (absC H1).1).toNat (absC H1)) := c0.2
  clear c0
  have v0 : vwC H2 = vwC H0 := (vwC_fr f20.1.2.1 (by decide +kernel)).trans vz
  have c1 := f21.2
  unfold postb_92v at c1
  rw [v0] at c1
  rw [a0] at c1
  have a1 : absC H3 = (pExp (vwC H0) (pNots (vwC H0) (502 - (absC H1).1).toNat (absC H1))) := c1.2
  clear c1
  have v1 : vwC H3 = vwC H0 := (vwC_fr f21.1.2.1 (by decide +kernel)).trans v0
  have c2 := f24.2
  unfold postb_90v at c2
  rw [v1] at c2
  rw [a1] at c2
  have a2 : absC H4 = (pRel (vwC H0) (pExp (vwC H0) (pNots (vwC H0) (502 - (absC H1).1).toNat (absC H1)))) := c2.2
  clear c2
  have v2 : vwC H4 = vwC H0 := (vwC_fr f24.1.2.1 (by decide +kernel)).trans v1
  have c3 := f25.2
  unfold postb_92v at c3
  rw [v2] at c3
  rw [a2] at c3
  have a3 : absC H5 = (pExp (vwC H0) (pRel (vwC H0) (pExp (vwC H0) (pNots (vwC H0) (502 - (absC H1).1).toNat (absC H1))))) := c3.2
  have v3 : vwC H5 = vwC H0 := (vwC_fr f25.1.2.1 (by decide +kernel)).trans v2
  have s4 := PF_fr f26.1.1 f26.1.2.1 (by decide +kernel) c3.1
  clear c3
  have a4 : absC H6 = (pExp (vwC H0) (pRel (vwC H0) (pExp (vwC H0) (pNots (vwC H0) (502 - (absC H1).1).toNat (absC H1))))) := s4.1.trans a3
  have v4 : vwC H6 = vwC H0 := s4.2.1.trans v3
  have s5 := PF_fr f31.1.1 f31.1.2.1 (by decide +kernel) s4.2.2
  have a5 : absC H7 = (pExp (vwC H0) (pRel (vwC H0) (pExp (vwC H0) (pNots (vwC H0) (502 - (absC H1).1).toNat (absC H1))))) := s5.1.trans a4
  have v5 : vwC H7 = vwC H0 := s5.2.1.trans v4
  have b0 := kd_at s5.2.2
  rw [v5] at b0
  rw [a5] at b0
  have g0 := f34
  rw [f8] at g0
  rw [show ((30 : Int)).toNat = 30 from rfl] at g0
  have h0 : (pExp (vwC H0) (pRel (vwC H0) (pExp (vwC H0) (pNots (vwC H0) (502 - (absC H1).1).toNat (absC H1))))).1 < 0 ∨ ¬ (vwC H0).1 (pExp (vwC H0) (pRel (vwC H0) (pExp (vwC H0) (pNots (vwC H0) (502 - (absC H1).1).toNat (absC H1))))).1 = 43 := by
    rcases b0 with q | q
    · exact .inl q
    · right
      rw [q]
      omega
  clear b0 h0
  have b1 := kd_at s5.2.2
  rw [v5] at b1
  rw [a5] at b1
  have g1 := f42
  rw [f8] at g1
  rw [show ((30 : Int)).toNat = 30 from rfl] at g1
  have h1 : (pExp (vwC H0) (pRel (vwC H0) (pExp (vwC H0) (pNots (vwC H0) (502 - (absC H1).1).toNat (absC H1))))).1 < 0 ∨ (vwC H0).1 (pExp (vwC H0) (pRel (vwC H0) (pExp (vwC H0) (pNots (vwC H0) (502 - (absC H1).1).toNat (absC H1))))).1 = 42 := by
    rcases b1 with q | q
    · exact .inl q
    · right
      rw [q]
      omega
  clear b1 h1
  have ga1_ := ga.1
  have gb := ga
  obtain ⟨_, s0_, m01, xn, ya, yb⟩ := gb
  clear ga
  clear yb
  have rf := f15
  rw [f8] at rf
  rw [show ((30 : Int)).toNat = 30 from rfl] at rf
  have ap := absC_pos ga1_ (by (first | exact Int.le_antisymm (by omega) (by omega) | omega))
  have u := xn (by (first | exact Int.le_antisymm (by omega) (by omega) | omega))
  clear xn
  have nw := ga1_.2.2.2.1.2.1
  have y := ya (by (first | exact Int.le_antisymm (by omega) (by omega) | omega))
  clear ya
  rw [show 502 - (n0).toNat = (502 - (n0).toNat - 1) + 1 by (first | exact Int.le_antisymm (by omega) (by omega) | omega), pCond_step] at y
  have al : absC H7 = pLit (vwC H0) (absC H1) := a5
  have g5 := Option.some.inj f10.2.2
  unfold mub_88v_9 at g5
  unfold Ab_88v_122 mub_88v_122
  refine ⟨⟨s5.2.2, by (first | exact Int.le_antisymm (by omega) (by omega) | omega), by (first | exact Int.le_antisymm (by omega) (by omega) | omega), fun hf => ?_, ?_⟩, fun q hq => ?_⟩
  · have a2 := absC_pos s5.2.2 hf
    have a3 := pLit_mono (p := absC H1) pz.2.1 (absC_ok ga1_) (by rw [← al]; exact a2.2)
    rw [← al] at a3
    omega
  · rw [al]
    exact y
  · have g6 := Option.some.inj hq
    subst g6
    omega
theorem c_88v_9_22 {q0 : Nat} : vOkm T0 (eP e_88v L_88v A_88v mu_88v (some q0)) 1 ([(5, [18, 2, 17], [], 0), (0, [17], [], 1), (40, [15, 16], [], 0), (0, [16], [], 42), (20, [15, 1], [7], 2), (90, [15], [], -2147483648), (91, [15], [], 2147483647), (30, [2], [], 0), (30, [14], [], 0), (0, [14], [], 0), (41, [12, 13], [], 0), (0, [13], [], 43), (20, [12, 1], [7], 2), (90, [12], [], -2147483648), (91, [12], [], 2147483647), (1098, [10, 11], [6, 7], 0), (0, [11], [], 10043), (20, [10, 1], [6], 8), (51, [10], [], 0), (31, [3], [], 0), (1091, [1, 9, 8], [5, 6], 0), (1092, [1], [4, 5], 0), (1090, [9, 1], [3, 4], 0), (90, [9], [], -2147483648), (91, [9], [], 2147483647), (1092, [1], [2, 3], 0), (1089, [8, 1], [1, 2], 0), (90, [8], [], 0), (91, [8], [], 1), (31, [4], [], 0), (30, [7], [], 0), (20, [7, 1], [1], 3), (90, [7], [], -2147483648), (91, [7], [], 2147483647), (45, [5, 6], [], 0), (0, [6], [], 500), (5000, [0, 1, 2, 3, 4, 5], [0, 1], 9), (0, [0], [], 30), (0, [1], [], 30), (90, [2], [], -2147483648), (91, [2], [], 2147483647), (90, [3], [], -2147483648), (91, [3], [], 2147483647), (90, [4], [], -2147483648), (91, [4], [], 2147483647), (90, [5], [], -2147483648), (91, [5], [], 2147483647)], (4000, [1, 18, 14, 4, 5, 8, 9], [7], 122)) := vOk_in fun ρ η h => by
  obtain ⟨f0, f1, f2, f3, f4, f5, f6, f7, f8, f9, f10, f11, f12, f13, f14, f15, f16, f17, f18, f19, f20, f21, f22, f23, f24, f25, f26, f27, f28, f29, f30, f31, f32, f33, f34, f35, f36, f37, f38, f39, f40, f41, f42, f43, f44, f45, f46, _⟩ := h
  exact q_88v_23 (q0 := q0) (n0 := ρ 5) (n1 := ρ 4) (n2 := ρ 3) (n3 := ρ 2) (n4 := ρ 1) (n5 := ρ 0) (n6 := ρ 6) (n7 := ρ 7) (n8 := ρ 8) (n9 := ρ 9) (n10 := ρ 10) (n11 := ρ 11) (n12 := ρ 12) (n13 := ρ 13) (n14 := ρ 14) (n15 := ρ 15) (n16 := ρ 16) (n17 := ρ 17) (n18 := ρ 18) (H0 := η 0) (H1 := η 1) (H2 := η 2) (H3 := η 3) (H4 := η 4) (H5 := η 5) (H6 := η 6) (H7 := η 7) f46 f45 f44 f43 f42 f41 f40 f39 f38 f37 f36 f35 f34 f33 f32 f31 f30 f29 f28 f27 f26 f25 f24 f23 f22 f21 f20 f19 f18 f17 f16 f15 f14 f13 f12 f11 f10 f9 f8 f7 f6 f5 f4 f3 f2 f1 f0
theorem q_88v_24 {q0 : Nat} {n0 n1 n2 n3 n4 n5 n6 n7 n8 n9 n10 n11 n12 n13 n14 n15 n16 n17 n18 n19 n20 n21 : Int} {H0 H1 H2 H3 H4 H5 H6 H7 H8 : gH} (f0 : n0 ≤ 2147483647) (f1 : (-2147483648) ≤ n0) (f2 : n1 ≤ 2147483647) (f3 : (-2147483648) ≤ n1) (f4 : n2 ≤ 2147483647) (f5 : (-2147483648) ≤ n2) (f6 : n3 ≤ 2147483647) (f7 : (-2147483648) ≤ n3) (f8 : n4 = 30) (f9 : n5 = 30) (f10 : (hLe T0 H0 H1 ∧ hFr s_88v.2.2.2.2 H0 H1 ∧ hWt T0 H1) ∧ (Ab_88v_9 n5 n4 n3 n2 n1 n0 H0 H1 ∧ preb_88v n5 H0) ∧ some q0 = some (mub_88v_9 n5 n4 n3 n2 n1 n0 H0 H1)) (f11 : n6 = 500) (f12 : n0 ≤ n6) (f13 : n7 ≤ 2147483647) (f14 : (-2147483648) ≤ n7) (f15 : n7 = hV H1 (n4).toNat 3) (f16 : n7 = 0) (f17 : n1 ≠ 0) (f18 : n8 ≤ 1) (f19 : 0 ≤ n8) (f20 : (hLe T0 H1 H2 ∧ hFr s_89v.2.2.2.2 H1 H2 ∧ ((0 : Int) = 0 → H2.length = H1.length) ∧ hWt T0 H2) ∧ postb_89v n8 n4 H1 H2) (f21 : (hLe T0 H2 H3 ∧ hFr s_92v.2.2.2.2 H2 H3 ∧ ((0 : Int) = 0 → H3.length = H2.length) ∧ hWt T0 H3) ∧ postb_92v n4 H2 H3) (f22 : n9 ≤ 2147483647) (f23 : (-2147483648) ≤ n9) (f24 : (hLe T0 H3 H4 ∧ hFr s_90v.2.2.2.2 H3 H4 ∧ ((0 : Int) = 0 → H4.length = H3.length) ∧ hWt T0 H4) ∧ postb_90v n9 n4 H3 H4) (f25 : (hLe T0 H4 H5 ∧ hFr s_92v.2.2.2.2 H4 H5 ∧ ((0 : Int) = 0 → H5.length = H4.length) ∧ hWt T0 H5) ∧ postb_92v n4 H4 H5) (f26 : (hLe T0 H5 H6 ∧ hFr s_91.2.2.2.2 H5 H6 ∧ ((0 : Int) = 0 → H6.length = H5.length) ∧ hWt T0 H6) ∧ True) (f27 : n2 ≠ 0) (f28 : 0 ≤ n10) (f29 : n10 = hV H6 (n4).toNat 8) (f30 : n11 = 10043) (f31 : (hLe T0 H6 H7 ∧ hFr s_98.2.2.2.2 H6 H7 ∧ ((0 : Int) = 0 → H7.length = H6.length) ∧ hWt T0 H7) ∧ True) (f32 : n12 ≤ 2147483647) (f33 : (-2147483648) ≤ n12) (f34 : n12 = hV H7 (n4).toNat 2) (f35 : n13 = 43) (f36 : n12 ≠ n13) (f37 : n14 = 0) (f38 : n14 = 0) (f39 : n3 ≠ 0) (f40 : 0 ≤ n15) (f41 : n15 = hV H7 (n4).toNat 8) (f42 : n16 = 10042) (f43 : (hLe T0 H7 H8 ∧ hFr s_98.2.2.2.2 H7 H8 ∧ ((0 : Int) = 0 → H8.length = H7.length) ∧ hWt T0 H8) ∧ True) (f44 : n17 = 0) (f45 : n18 ≤ 2147483647) (f46 : (-2147483648) ≤ n18) (f47 : n18 = hV H8 (n4).toNat 2) (f48 : n19 = 42) (f49 : n18 ≠ n19) (f50 : n20 = 0) (f51 : n21 = o32 (fun x y => x ||| y) n17 n20) : Ab_88v_122 n5 n4 n21 n14 n1 n0 n8 n9 H0 H8 ∧ ∀ q, some q0 = some q → mub_88v_122 n5 n4 n21 n14 n1 n0 n8 n9 H0 H8 < q := by
  have pz := f10.2.1.2
  unfold preb_88v at pz
  have ga := f10.2.1.1
  unfold Ab_88v_9 at ga
  have vz : vwC H1 = vwC H0 := vwC_fr f10.1.2.1 (by decide +kernel)
  have c0 := f20.2
  unfold postb_89v at c0
  rw [vz] at c0
  have a0 : absC H2 = (pNots (vwC H0) (502 - (absC H1).1).toNat (absC H1)) := c0.2
  clear c0
  have v0 : vwC H2 = vwC H0 := (vwC_fr f20.1.2.1 (by decide +kernel)).trans vz
  have c1 := f21.2
  unfold postb_92v at c1
  rw [v0] at c1
  rw [a0] at c1
  have a1 : absC H3 = (pExp (vwC H0) (pNots (vwC H0) (502 - (absC H1).1).toNat (absC H1))) := c1.2
  clear c1
  have v1 : vwC H3 = vwC H0 := (vwC_fr f21.1.2.1 (by decide +kernel)).trans v0
  have c2 := f24.2
  unfold postb_90v at c2
  rw [v1] at c2
  rw [a1] at c2
  have a2 : absC H4 = (pRel (vwC H0) (pExp (vwC H0) (pNots (vwC H0) (502 - (absC H1).1).toNat (absC H1)))) := c2.2
  clear c2
  have v2 : vwC H4 = vwC H0 := (vwC_fr f24.1.2.1 (by decide +kernel)).trans v1
  have c3 := f25.2
  unfold postb_92v at c3
  rw [v2] at c3
  rw [a2] at c3
  have a3 : absC H5 = (pExp (vwC H0) (pRel (vwC H0) (pExp (vwC H0) (pNots (vwC H0) (502 - (absC H1).1).toNat (absC H1))))) := c3.2
  have v3 : vwC H5 = vwC H0 := (vwC_fr f25.1.2.1 (by decide +kernel)).trans v2
  have s4 := PF_fr f26.1.1 f26.1.2.1 (by decide +kernel) c3.1
  clear c3
  have a4 : absC H6 = (pExp (vwC H0) (pRel (vwC H0) (pExp (vwC H0) (pNots (vwC H0) (502 - (absC H1).1).toNat (absC H1))))) := s4.1.trans a3
  have v4 : vwC H6 = vwC H0 := s4.2.1.trans v3
  have s5 := PF_fr f31.1.1 f31.1.2.1 (by decide +kernel) s4.2.2
  have a5 : absC H7 = (pExp (vwC H0) (pRel (vwC H0) (pExp (vwC H0) (pNots (vwC H0) (502 - (absC H1).1).toNat (absC H1))))) := s5.1.trans a4
  have v5 : vwC H7 = vwC H0 := s5.2.1.trans v4
  have s6 := PF_fr f43.1.1 f43.1.2.1 (by decide +kernel) s5.2.2
  have a6 : absC H8 = (pExp (vwC H0) (pRel (vwC H0) (pExp (vwC H0) (pNots (vwC H0) (502 - (absC H1).1).toNat (absC H1))))) := s6.1.trans a5
  have v6 : vwC H8 = vwC H0 := s6.2.1.trans v5
  have b0 := kd_at s5.2.2
  rw [v5] at b0
  rw [a5] at b0
  have g0 := f34
  rw [f8] at g0
  rw [show ((30 : Int)).toNat = 30 from rfl] at g0
  have h0 : (pExp (vwC H0) (pRel (vwC H0) (pExp (vwC H0) (pNots (vwC H0) (502 - (absC H1).1).toNat (absC H1))))).1 < 0 ∨ ¬ (vwC H0).1 (pExp (vwC H0) (pRel (vwC H0) (pExp (vwC H0) (pNots (vwC H0) (502 - (absC H1).1).toNat (absC H1))))).1 = 43 := by
    rcases b0 with q | q
    · exact .inl q
    · right
      rw [q]
      omega
  clear b0 h0
  have b1 := kd_at s6.2.2
  rw [v6] at b1
  rw [a6] at b1
  have g1 := f47
  rw [f8] at g1
  rw [show ((30 : Int)).toNat = 30 from rfl] at g1
  have h1 : (pExp (vwC H0) (pRel (vwC H0) (pExp (vwC H0) (pNots (vwC H0) (502 - (absC H1).1).toNat (absC H1))))).1 < 0 ∨ ¬ (vwC H0).1 (pExp (vwC H0) (pRel (vwC H0) (pExp (vwC H0) (pNots (vwC H0) (502 - (absC H1).1).toNat (absC H1))))).1 = 42 := by
    rcases b1 with q | q
    · exact .inl q
    · right
      rw [q]
      omega
  clear b1 h1
  have ga1_ := ga.1
  have gb := ga
  obtain ⟨_, s0_, m01, xn, ya, yb⟩ := gb
  clear ga
  clear yb
  have rf := f15
  rw [f8] at rf
  rw [show ((30 : Int)).toNat = 30 from rfl] at rf
  have ap := absC_pos ga1_ (by (first | exact Int.le_antisymm (by omega) (by omega) | omega))
  have u := xn (by (first | exact Int.le_antisymm (by omega) (by omega) | omega))
  clear xn
  have nw := ga1_.2.2.2.1.2.1
  have y := ya (by (first | exact Int.le_antisymm (by omega) (by omega) | omega))
  clear ya
  rw [show 502 - (n0).toNat = (502 - (n0).toNat - 1) + 1 by (first | exact Int.le_antisymm (by omega) (by omega) | omega), pCond_step] at y
  have al : absC H8 = pLit (vwC H0) (absC H1) := a6
  have g5 := Option.some.inj f10.2.2
  unfold mub_88v_9 at g5
  unfold Ab_88v_122 mub_88v_122
  refine ⟨⟨s6.2.2, by (first | exact Int.le_antisymm (by omega) (by omega) | omega), by (first | exact Int.le_antisymm (by omega) (by omega) | omega), fun hf => ?_, ?_⟩, fun q hq => ?_⟩
  · have a2 := absC_pos s6.2.2 hf
    have a3 := pLit_mono (p := absC H1) pz.2.1 (absC_ok ga1_) (by rw [← al]; exact a2.2)
    rw [← al] at a3
    omega
  · rw [al]
    exact y
  · have g6 := Option.some.inj hq
    subst g6
    omega
theorem c_88v_9_23 {q0 : Nat} : vOkm T0 (eP e_88v L_88v A_88v mu_88v (some q0)) 1 ([(5, [21, 17, 20], [], 0), (0, [20], [], 0), (41, [18, 19], [], 0), (0, [19], [], 42), (20, [18, 1], [8], 2), (90, [18], [], -2147483648), (91, [18], [], 2147483647), (0, [17], [], 0), (1098, [15, 16], [7, 8], 0), (0, [16], [], 10042), (20, [15, 1], [7], 8), (51, [15], [], 0), (31, [2], [], 0), (30, [14], [], 0), (0, [14], [], 0), (41, [12, 13], [], 0), (0, [13], [], 43), (20, [12, 1], [7], 2), (90, [12], [], -2147483648), (91, [12], [], 2147483647), (1098, [10, 11], [6, 7], 0), (0, [11], [], 10043), (20, [10, 1], [6], 8), (51, [10], [], 0), (31, [3], [], 0), (1091, [1, 9, 8], [5, 6], 0), (1092, [1], [4, 5], 0), (1090, [9, 1], [3, 4], 0), (90, [9], [], -2147483648), (91, [9], [], 2147483647), (1092, [1], [2, 3], 0), (1089, [8, 1], [1, 2], 0), (90, [8], [], 0), (91, [8], [], 1), (31, [4], [], 0), (30, [7], [], 0), (20, [7, 1], [1], 3), (90, [7], [], -2147483648), (91, [7], [], 2147483647), (45, [5, 6], [], 0), (0, [6], [], 500), (5000, [0, 1, 2, 3, 4, 5], [0, 1], 9), (0, [0], [], 30), (0, [1], [], 30), (90, [2], [], -2147483648), (91, [2], [], 2147483647), (90, [3], [], -2147483648), (91, [3], [], 2147483647), (90, [4], [], -2147483648), (91, [4], [], 2147483647), (90, [5], [], -2147483648), (91, [5], [], 2147483647)], (4000, [1, 21, 14, 4, 5, 8, 9], [8], 122)) := vOk_in fun ρ η h => by
  obtain ⟨f0, f1, f2, f3, f4, f5, f6, f7, f8, f9, f10, f11, f12, f13, f14, f15, f16, f17, f18, f19, f20, f21, f22, f23, f24, f25, f26, f27, f28, f29, f30, f31, f32, f33, f34, f35, f36, f37, f38, f39, f40, f41, f42, f43, f44, f45, f46, f47, f48, f49, f50, f51, _⟩ := h
  exact q_88v_24 (q0 := q0) (n0 := ρ 5) (n1 := ρ 4) (n2 := ρ 3) (n3 := ρ 2) (n4 := ρ 1) (n5 := ρ 0) (n6 := ρ 6) (n7 := ρ 7) (n8 := ρ 8) (n9 := ρ 9) (n10 := ρ 10) (n11 := ρ 11) (n12 := ρ 12) (n13 := ρ 13) (n14 := ρ 14) (n15 := ρ 15) (n16 := ρ 16) (n17 := ρ 17) (n18 := ρ 18) (n19 := ρ 19) (n20 := ρ 20) (n21 := ρ 21) (H0 := η 0) (H1 := η 1) (H2 := η 2) (H3 := η 3) (H4 := η 4) (H5 := η 5) (H6 := η 6) (H7 := η 7) (H8 := η 8) f51 f50 f49 f48 f47 f46 f45 f44 f43 f42 f41 f40 f39 f38 f37 f36 f35 f34 f33 f32 f31 f30 f29 f28 f27 f26 f25 f24 f23 f22 f21 f20 f19 f18 f17 f16 f15 f14 f13 f12 f11 f10 f9 f8 f7 f6 f5 f4 f3 f2 f1 f0
theorem q_88v_25 {q0 : Nat} {n0 n1 n2 n3 n4 n5 n6 n7 n8 n9 n10 n11 n12 n13 n14 n15 n16 n17 n18 n19 n20 n21 : Int} {H0 H1 H2 H3 H4 H5 H6 H7 H8 : gH} (f0 : n0 ≤ 2147483647) (f1 : (-2147483648) ≤ n0) (f2 : n1 ≤ 2147483647) (f3 : (-2147483648) ≤ n1) (f4 : n2 ≤ 2147483647) (f5 : (-2147483648) ≤ n2) (f6 : n3 ≤ 2147483647) (f7 : (-2147483648) ≤ n3) (f8 : n4 = 30) (f9 : n5 = 30) (f10 : (hLe T0 H0 H1 ∧ hFr s_88v.2.2.2.2 H0 H1 ∧ hWt T0 H1) ∧ (Ab_88v_9 n5 n4 n3 n2 n1 n0 H0 H1 ∧ preb_88v n5 H0) ∧ some q0 = some (mub_88v_9 n5 n4 n3 n2 n1 n0 H0 H1)) (f11 : n6 = 500) (f12 : n0 ≤ n6) (f13 : n7 ≤ 2147483647) (f14 : (-2147483648) ≤ n7) (f15 : n7 = hV H1 (n4).toNat 3) (f16 : n7 = 0) (f17 : n1 ≠ 0) (f18 : n8 ≤ 1) (f19 : 0 ≤ n8) (f20 : (hLe T0 H1 H2 ∧ hFr s_89v.2.2.2.2 H1 H2 ∧ ((0 : Int) = 0 → H2.length = H1.length) ∧ hWt T0 H2) ∧ postb_89v n8 n4 H1 H2) (f21 : (hLe T0 H2 H3 ∧ hFr s_92v.2.2.2.2 H2 H3 ∧ ((0 : Int) = 0 → H3.length = H2.length) ∧ hWt T0 H3) ∧ postb_92v n4 H2 H3) (f22 : n9 ≤ 2147483647) (f23 : (-2147483648) ≤ n9) (f24 : (hLe T0 H3 H4 ∧ hFr s_90v.2.2.2.2 H3 H4 ∧ ((0 : Int) = 0 → H4.length = H3.length) ∧ hWt T0 H4) ∧ postb_90v n9 n4 H3 H4) (f25 : (hLe T0 H4 H5 ∧ hFr s_92v.2.2.2.2 H4 H5 ∧ ((0 : Int) = 0 → H5.length = H4.length) ∧ hWt T0 H5) ∧ postb_92v n4 H4 H5) (f26 : (hLe T0 H5 H6 ∧ hFr s_91.2.2.2.2 H5 H6 ∧ ((0 : Int) = 0 → H6.length = H5.length) ∧ hWt T0 H6) ∧ True) (f27 : n2 ≠ 0) (f28 : 0 ≤ n10) (f29 : n10 = hV H6 (n4).toNat 8) (f30 : n11 = 10043) (f31 : (hLe T0 H6 H7 ∧ hFr s_98.2.2.2.2 H6 H7 ∧ ((0 : Int) = 0 → H7.length = H6.length) ∧ hWt T0 H7) ∧ True) (f32 : n12 ≤ 2147483647) (f33 : (-2147483648) ≤ n12) (f34 : n12 = hV H7 (n4).toNat 2) (f35 : n13 = 43) (f36 : n12 ≠ n13) (f37 : n14 = 0) (f38 : n14 = 0) (f39 : n3 ≠ 0) (f40 : 0 ≤ n15) (f41 : n15 = hV H7 (n4).toNat 8) (f42 : n16 = 10042) (f43 : (hLe T0 H7 H8 ∧ hFr s_98.2.2.2.2 H7 H8 ∧ ((0 : Int) = 0 → H8.length = H7.length) ∧ hWt T0 H8) ∧ True) (f44 : n17 = 0) (f45 : n18 ≤ 2147483647) (f46 : (-2147483648) ≤ n18) (f47 : n18 = hV H8 (n4).toNat 2) (f48 : n19 = 42) (f49 : n18 = n19) (f50 : n20 = 1) (f51 : n21 = o32 (fun x y => x ||| y) n17 n20) : Ab_88v_122 n5 n4 n21 n14 n1 n0 n8 n9 H0 H8 ∧ ∀ q, some q0 = some q → mub_88v_122 n5 n4 n21 n14 n1 n0 n8 n9 H0 H8 < q := by
  have pz := f10.2.1.2
  unfold preb_88v at pz
  have ga := f10.2.1.1
  unfold Ab_88v_9 at ga
  have vz : vwC H1 = vwC H0 := vwC_fr f10.1.2.1 (by decide +kernel)
  have c0 := f20.2
  unfold postb_89v at c0
  rw [vz] at c0
  have a0 : absC H2 = (pNots (vwC H0) (502 - (absC H1).1).toNat (absC H1)) := c0.2
  clear c0
  have v0 : vwC H2 = vwC H0 := (vwC_fr f20.1.2.1 (by decide +kernel)).trans vz
  have c1 := f21.2
  unfold postb_92v at c1
  rw [v0] at c1
  rw [a0] at c1
  have a1 : absC H3 = (pExp (vwC H0) (pNots (vwC H0) (502 - (absC H1).1).toNat (absC H1))) := c1.2
  clear c1
  have v1 : vwC H3 = vwC H0 := (vwC_fr f21.1.2.1 (by decide +kernel)).trans v0
  have c2 := f24.2
  unfold postb_90v at c2
  rw [v1] at c2
  rw [a1] at c2
  have a2 : absC H4 = (pRel (vwC H0) (pExp (vwC H0) (pNots (vwC H0) (502 - (absC H1).1).toNat (absC H1)))) := c2.2
  clear c2
  have v2 : vwC H4 = vwC H0 := (vwC_fr f24.1.2.1 (by decide +kernel)).trans v1
  have c3 := f25.2
  unfold postb_92v at c3
  rw [v2] at c3
  rw [a2] at c3
  have a3 : absC H5 = (pExp (vwC H0) (pRel (vwC H0) (pExp (vwC H0) (pNots (vwC H0) (502 - (absC H1).1).toNat (absC H1))))) := c3.2
  have v3 : vwC H5 = vwC H0 := (vwC_fr f25.1.2.1 (by decide +kernel)).trans v2
  have s4 := PF_fr f26.1.1 f26.1.2.1 (by decide +kernel) c3.1
  clear c3
  have a4 : absC H6 = (pExp (vwC H0) (pRel (vwC H0) (pExp (vwC H0) (pNots (vwC H0) (502 - (absC H1).1).toNat (absC H1))))) := s4.1.trans a3
  have v4 : vwC H6 = vwC H0 := s4.2.1.trans v3
  have s5 := PF_fr f31.1.1 f31.1.2.1 (by decide +kernel) s4.2.2
  have a5 : absC H7 = (pExp (vwC H0) (pRel (vwC H0) (pExp (vwC H0) (pNots (vwC H0) (502 - (absC H1).1).toNat (absC H1))))) := s5.1.trans a4
  have v5 : vwC H7 = vwC H0 := s5.2.1.trans v4
  have s6 := PF_fr f43.1.1 f43.1.2.1 (by decide +kernel) s5.2.2
  have a6 : absC H8 = (pExp (vwC H0) (pRel (vwC H0) (pExp (vwC H0) (pNots (vwC H0) (502 - (absC H1).1).toNat (absC H1))))) := s6.1.trans a5
  have v6 : vwC H8 = vwC H0 := s6.2.1.trans v5
  have b0 := kd_at s5.2.2
  rw [v5] at b0
  rw [a5] at b0
  have g0 := f34
  rw [f8] at g0
  rw [show ((30 : Int)).toNat = 30 from rfl] at g0
  have h0 : (pExp (vwC H0) (pRel (vwC H0) (pExp (vwC H0) (pNots (vwC H0) (502 - (absC H1).1).toNat (absC H1))))).1 < 0 ∨ ¬ (vwC H0).1 (pExp (vwC H0) (pRel (vwC H0) (pExp (vwC H0) (pNots (vwC H0) (502 - (absC H1).1).toNat (absC H1))))).1 = 43 := by
    rcases b0 with q | q
    · exact .inl q
    · right
      rw [q]
      omega
  clear b0 h0
  have b1 := kd_at s6.2.2
  rw [v6] at b1
  rw [a6] at b1
  have g1 := f47
  rw [f8] at g1
  rw [show ((30 : Int)).toNat = 30 from rfl] at g1
  have h1 : (pExp (vwC H0) (pRel (vwC H0) (pExp (vwC H0) (pNots (vwC H0) (502 - (absC H1).1).toNat (absC H1))))).1 < 0 ∨ (vwC H0).1 (pExp (vwC H0) (pRel (vwC H0) (pExp (vwC H0) (pNots (vwC H0) (502 - (absC H1).1).toNat (absC H1))))).1 = 42 := by
    rcases b1 with q | q
    · exact .inl q
    · right
      rw [q]
      omega
  clear b1 h1
  have ga1_ := ga.1
  have gb := ga
  obtain ⟨_, s0_, m01, xn, ya, yb⟩ := gb
  clear ga
  clear yb
  have rf := f15
  rw [f8] at rf
  rw [show ((30 : Int)).toNat = 30 from rfl] at rf
  have ap := absC_pos ga1_ (by (first | exact Int.le_antisymm (by omega) (by omega) | omega))
  have u := xn (by (first | exact Int.le_antisymm (by omega) (by omega) | omega))
  clear xn
  have nw := ga1_.2.2.2.1.2.1
  have y := ya (by (first | exact Int.le_antisymm (by omega) (by omega) | omega))
  clear ya
  rw [show 502 - (n0).toNat = (502 - (n0).toNat - 1) + 1 by (first | exact Int.le_antisymm (by omega) (by omega) | omega), pCond_step] at y
  have al : absC H8 = pLit (vwC H0) (absC H1) := a6
  have g5 := Option.some.inj f10.2.2
  unfold mub_88v_9 at g5
  unfold Ab_88v_122 mub_88v_122
  refine ⟨⟨s6.2.2, by (first | exact Int.le_antisymm (by omega) (by omega) | omega), by (first | exact Int.le_antisymm (by omega) (by omega) | omega), fun hf => ?_, ?_⟩, fun q hq => ?_⟩
  · have a2 := absC_pos s6.2.2 hf
    have a3 := pLit_mono (p := absC H1) pz.2.1 (absC_ok ga1_) (by rw [← al]; exact a2.2)
    rw [← al] at a3
    omega
  · rw [al]
    exact y
  · have g6 := Option.some.inj hq
    subst g6
    omega
theorem c_88v_9_24 {q0 : Nat} : vOkm T0 (eP e_88v L_88v A_88v mu_88v (some q0)) 1 ([(5, [21, 17, 20], [], 0), (0, [20], [], 1), (40, [18, 19], [], 0), (0, [19], [], 42), (20, [18, 1], [8], 2), (90, [18], [], -2147483648), (91, [18], [], 2147483647), (0, [17], [], 0), (1098, [15, 16], [7, 8], 0), (0, [16], [], 10042), (20, [15, 1], [7], 8), (51, [15], [], 0), (31, [2], [], 0), (30, [14], [], 0), (0, [14], [], 0), (41, [12, 13], [], 0), (0, [13], [], 43), (20, [12, 1], [7], 2), (90, [12], [], -2147483648), (91, [12], [], 2147483647), (1098, [10, 11], [6, 7], 0), (0, [11], [], 10043), (20, [10, 1], [6], 8), (51, [10], [], 0), (31, [3], [], 0), (1091, [1, 9, 8], [5, 6], 0), (1092, [1], [4, 5], 0), (1090, [9, 1], [3, 4], 0), (90, [9], [], -2147483648), (91, [9], [], 2147483647), (1092, [1], [2, 3], 0), (1089, [8, 1], [1, 2], 0), (90, [8], [], 0), (91, [8], [], 1), (31, [4], [], 0), (30, [7], [], 0), (20, [7, 1], [1], 3), (90, [7], [], -2147483648), (91, [7], [], 2147483647), (45, [5, 6], [], 0), (0, [6], [], 500), (5000, [0, 1, 2, 3, 4, 5], [0, 1], 9), (0, [0], [], 30), (0, [1], [], 30), (90, [2], [], -2147483648), (91, [2], [], 2147483647), (90, [3], [], -2147483648), (91, [3], [], 2147483647), (90, [4], [], -2147483648), (91, [4], [], 2147483647), (90, [5], [], -2147483648), (91, [5], [], 2147483647)], (4000, [1, 21, 14, 4, 5, 8, 9], [8], 122)) := vOk_in fun ρ η h => by
  obtain ⟨f0, f1, f2, f3, f4, f5, f6, f7, f8, f9, f10, f11, f12, f13, f14, f15, f16, f17, f18, f19, f20, f21, f22, f23, f24, f25, f26, f27, f28, f29, f30, f31, f32, f33, f34, f35, f36, f37, f38, f39, f40, f41, f42, f43, f44, f45, f46, f47, f48, f49, f50, f51, _⟩ := h
  exact q_88v_25 (q0 := q0) (n0 := ρ 5) (n1 := ρ 4) (n2 := ρ 3) (n3 := ρ 2) (n4 := ρ 1) (n5 := ρ 0) (n6 := ρ 6) (n7 := ρ 7) (n8 := ρ 8) (n9 := ρ 9) (n10 := ρ 10) (n11 := ρ 11) (n12 := ρ 12) (n13 := ρ 13) (n14 := ρ 14) (n15 := ρ 15) (n16 := ρ 16) (n17 := ρ 17) (n18 := ρ 18) (n19 := ρ 19) (n20 := ρ 20) (n21 := ρ 21) (H0 := η 0) (H1 := η 1) (H2 := η 2) (H3 := η 3) (H4 := η 4) (H5 := η 5) (H6 := η 6) (H7 := η 7) (H8 := η 8) f51 f50 f49 f48 f47 f46 f45 f44 f43 f42 f41 f40 f39 f38 f37 f36 f35 f34 f33 f32 f31 f30 f29 f28 f27 f26 f25 f24 f23 f22 f21 f20 f19 f18 f17 f16 f15 f14 f13 f12 f11 f10 f9 f8 f7 f6 f5 f4 f3 f2 f1 f0
theorem q_88v_26 {q0 : Nat} {n0 n1 n2 n3 n4 n5 n6 n7 n8 n9 n10 n11 n12 n13 n14 n15 n16 n17 n18 : Int} {H0 H1 H2 H3 H4 H5 H6 H7 : gH} (f0 : n0 ≤ 2147483647) (f1 : (-2147483648) ≤ n0) (f2 : n1 ≤ 2147483647) (f3 : (-2147483648) ≤ n1) (f4 : n2 ≤ 2147483647) (f5 : (-2147483648) ≤ n2) (f6 : n3 ≤ 2147483647) (f7 : (-2147483648) ≤ n3) (f8 : n4 = 30) (f9 : n5 = 30) (f10 : (hLe T0 H0 H1 ∧ hFr s_88v.2.2.2.2 H0 H1 ∧ hWt T0 H1) ∧ (Ab_88v_9 n5 n4 n3 n2 n1 n0 H0 H1 ∧ preb_88v n5 H0) ∧ some q0 = some (mub_88v_9 n5 n4 n3 n2 n1 n0 H0 H1)) (f11 : n6 = 500) (f12 : n0 ≤ n6) (f13 : n7 ≤ 2147483647) (f14 : (-2147483648) ≤ n7) (f15 : n7 = hV H1 (n4).toNat 3) (f16 : n7 = 0) (f17 : n1 ≠ 0) (f18 : n8 ≤ 1) (f19 : 0 ≤ n8) (f20 : (hLe T0 H1 H2 ∧ hFr s_89v.2.2.2.2 H1 H2 ∧ ((0 : Int) = 0 → H2.length = H1.length) ∧ hWt T0 H2) ∧ postb_89v n8 n4 H1 H2) (f21 : (hLe T0 H2 H3 ∧ hFr s_92v.2.2.2.2 H2 H3 ∧ ((0 : Int) = 0 → H3.length = H2.length) ∧ hWt T0 H3) ∧ postb_92v n4 H2 H3) (f22 : n9 ≤ 2147483647) (f23 : (-2147483648) ≤ n9) (f24 : (hLe T0 H3 H4 ∧ hFr s_90v.2.2.2.2 H3 H4 ∧ ((0 : Int) = 0 → H4.length = H3.length) ∧ hWt T0 H4) ∧ postb_90v n9 n4 H3 H4) (f25 : (hLe T0 H4 H5 ∧ hFr s_92v.2.2.2.2 H4 H5 ∧ ((0 : Int) = 0 → H5.length = H4.length) ∧ hWt T0 H5) ∧ postb_92v n4 H4 H5) (f26 : (hLe T0 H5 H6 ∧ hFr s_91.2.2.2.2 H5 H6 ∧ ((0 : Int) = 0 → H6.length = H5.length) ∧ hWt T0 H6) ∧ True) (f27 : n2 ≠ 0) (f28 : 0 ≤ n10) (f29 : n10 = hV H6 (n4).toNat 8) (f30 : n11 = 10043) (f31 : (hLe T0 H6 H7 ∧ hFr s_98.2.2.2.2 H6 H7 ∧ ((0 : Int) = 0 → H7.length = H6.length) ∧ hWt T0 H7) ∧ True) (f32 : n12 ≤ 2147483647) (f33 : (-2147483648) ≤ n12) (f34 : n12 = hV H7 (n4).toNat 2) (f35 : n13 = 43) (f36 : n12 = n13) (f37 : n14 = 1) (f38 : n14 ≠ 0) (f39 : n15 ≤ 2147483647) (f40 : (-2147483648) ≤ n15) (f41 : n15 = hV H7 (n4).toNat 2) (f42 : n16 = 42) (f43 : n15 ≠ n16) (f44 : n17 = 0) (f45 : n18 = o32 (fun x y => x ||| y) n3 n17) : Ab_88v_122 n5 n4 n18 n14 n1 n0 n8 n9 H0 H7 ∧ ∀ q, some q0 = some q → mub_88v_122 n5 n4 n18 n14 n1 n0 n8 n9 H0 H7 < q := by
  have pz := f10.2.1.2
  unfold preb_88v at pz
  have ga := f10.2.1.1
  unfold Ab_88v_9 at ga
  have vz : vwC H1 = vwC H0 := vwC_fr f10.1.2.1 (by decide +kernel)
  have c0 := f20.2
  unfold postb_89v at c0
  rw [vz] at c0
  have a0 : absC H2 = (pNots (vwC H0) (502 - (absC H1).1).toNat (absC H1)) := c0.2
  clear c0
  have v0 : vwC H2 = vwC H0 := (vwC_fr f20.1.2.1 (by decide +kernel)).trans vz
  have c1 := f21.2
  unfold postb_92v at c1
  rw [v0] at c1
  rw [a0] at c1
  have a1 : absC H3 = (pExp (vwC H0) (pNots (vwC H0) (502 - (absC H1).1).toNat (absC H1))) := c1.2
  clear c1
  have v1 : vwC H3 = vwC H0 := (vwC_fr f21.1.2.1 (by decide +kernel)).trans v0
  have c2 := f24.2
  unfold postb_90v at c2
  rw [v1] at c2
  rw [a1] at c2
  have a2 : absC H4 = (pRel (vwC H0) (pExp (vwC H0) (pNots (vwC H0) (502 - (absC H1).1).toNat (absC H1)))) := c2.2
  clear c2
  have v2 : vwC H4 = vwC H0 := (vwC_fr f24.1.2.1 (by decide +kernel)).trans v1
  have c3 := f25.2
  unfold postb_92v at c3
  rw [v2] at c3
  rw [a2] at c3
  have a3 : absC H5 = (pExp (vwC H0) (pRel (vwC H0) (pExp (vwC H0) (pNots (vwC H0) (502 - (absC H1).1).toNat (absC H1))))) := c3.2
  have v3 : vwC H5 = vwC H0 := (vwC_fr f25.1.2.1 (by decide +kernel)).trans v2
  have s4 := PF_fr f26.1.1 f26.1.2.1 (by decide +kernel) c3.1
  clear c3
  have a4 : absC H6 = (pExp (vwC H0) (pRel (vwC H0) (pExp (vwC H0) (pNots (vwC H0) (502 - (absC H1).1).toNat (absC H1))))) := s4.1.trans a3
  have v4 : vwC H6 = vwC H0 := s4.2.1.trans v3
  have s5 := PF_fr f31.1.1 f31.1.2.1 (by decide +kernel) s4.2.2
  have a5 : absC H7 = (pExp (vwC H0) (pRel (vwC H0) (pExp (vwC H0) (pNots (vwC H0) (502 - (absC H1).1).toNat (absC H1))))) := s5.1.trans a4
  have v5 : vwC H7 = vwC H0 := s5.2.1.trans v4
  have b0 := kd_at s5.2.2
  rw [v5] at b0
  rw [a5] at b0
  have g0 := f34
  rw [f8] at g0
  rw [show ((30 : Int)).toNat = 30 from rfl] at g0
  have h0 : (pExp (vwC H0) (pRel (vwC H0) (pExp (vwC H0) (pNots (vwC H0) (502 - (absC H1).1).toNat (absC H1))))).1 < 0 ∨ (vwC H0).1 (pExp (vwC H0) (pRel (vwC H0) (pExp (vwC H0) (pNots (vwC H0) (502 - (absC H1).1).toNat (absC H1))))).1 = 43 := by
    rcases b0 with q | q
    · exact .inl q
    · right
      rw [q]
      omega
  clear b0 h0
  have b1 := kd_at s5.2.2
  rw [v5] at b1
  rw [a5] at b1
  have g1 := f41
  rw [f8] at g1
  rw [show ((30 : Int)).toNat = 30 from rfl] at g1
  have h1 : (pExp (vwC H0) (pRel (vwC H0) (pExp (vwC H0) (pNots (vwC H0) (502 - (absC H1).1).toNat (absC H1))))).1 < 0 ∨ ¬ (vwC H0).1 (pExp (vwC H0) (pRel (vwC H0) (pExp (vwC H0) (pNots (vwC H0) (502 - (absC H1).1).toNat (absC H1))))).1 = 42 := by
    rcases b1 with q | q
    · exact .inl q
    · right
      rw [q]
      omega
  clear b1 h1
  have ga1_ := ga.1
  have gb := ga
  obtain ⟨_, s0_, m01, xn, ya, yb⟩ := gb
  clear ga
  clear yb
  have rf := f15
  rw [f8] at rf
  rw [show ((30 : Int)).toNat = 30 from rfl] at rf
  have ap := absC_pos ga1_ (by (first | exact Int.le_antisymm (by omega) (by omega) | omega))
  have u := xn (by (first | exact Int.le_antisymm (by omega) (by omega) | omega))
  clear xn
  have nw := ga1_.2.2.2.1.2.1
  have y := ya (by (first | exact Int.le_antisymm (by omega) (by omega) | omega))
  clear ya
  rw [show 502 - (n0).toNat = (502 - (n0).toNat - 1) + 1 by (first | exact Int.le_antisymm (by omega) (by omega) | omega), pCond_step] at y
  have al : absC H7 = pLit (vwC H0) (absC H1) := a5
  have g5 := Option.some.inj f10.2.2
  unfold mub_88v_9 at g5
  unfold Ab_88v_122 mub_88v_122
  refine ⟨⟨s5.2.2, by (first | exact Int.le_antisymm (by omega) (by omega) | omega), by (first | exact Int.le_antisymm (by omega) (by omega) | omega), fun hf => ?_, ?_⟩, fun q hq => ?_⟩
  · have a2 := absC_pos s5.2.2 hf
    have a3 := pLit_mono (p := absC H1) pz.2.1 (absC_ok ga1_) (by rw [← al]; exact a2.2)
    rw [← al] at a3
    omega
  · rw [al]
    exact y
  · have g6 := Option.some.inj hq
    subst g6
    omega
theorem c_88v_9_25 {q0 : Nat} : vOkm T0 (eP e_88v L_88v A_88v mu_88v (some q0)) 1 ([(5, [18, 2, 17], [], 0), (0, [17], [], 0), (41, [15, 16], [], 0), (0, [16], [], 42), (20, [15, 1], [7], 2), (90, [15], [], -2147483648), (91, [15], [], 2147483647), (31, [14], [], 0), (0, [14], [], 1), (40, [12, 13], [], 0), (0, [13], [], 43), (20, [12, 1], [7], 2), (90, [12], [], -2147483648), (91, [12], [], 2147483647), (1098, [10, 11], [6, 7], 0), (0, [11], [], 10043), (20, [10, 1], [6], 8), (51, [10], [], 0), (31, [3], [], 0), (1091, [1, 9, 8], [5, 6], 0), (1092, [1], [4, 5], 0), (1090, [9, 1], [3, 4], 0), (90, [9], [], -2147483648), (91, [9], [], 2147483647), (1092, [1], [2, 3], 0), (1089, [8, 1], [1, 2], 0), (90, [8], [], 0), (91, [8], [], 1), (31, [4], [], 0), (30, [7], [], 0), (20, [7, 1], [1], 3), (90, [7], [], -2147483648), (91, [7], [], 2147483647), (45, [5, 6], [], 0), (0, [6], [], 500), (5000, [0, 1, 2, 3, 4, 5], [0, 1], 9), (0, [0], [], 30), (0, [1], [], 30), (90, [2], [], -2147483648), (91, [2], [], 2147483647), (90, [3], [], -2147483648), (91, [3], [], 2147483647), (90, [4], [], -2147483648), (91, [4], [], 2147483647), (90, [5], [], -2147483648), (91, [5], [], 2147483647)], (4000, [1, 18, 14, 4, 5, 8, 9], [7], 122)) := vOk_in fun ρ η h => by
  obtain ⟨f0, f1, f2, f3, f4, f5, f6, f7, f8, f9, f10, f11, f12, f13, f14, f15, f16, f17, f18, f19, f20, f21, f22, f23, f24, f25, f26, f27, f28, f29, f30, f31, f32, f33, f34, f35, f36, f37, f38, f39, f40, f41, f42, f43, f44, f45, _⟩ := h
  exact q_88v_26 (q0 := q0) (n0 := ρ 5) (n1 := ρ 4) (n2 := ρ 3) (n3 := ρ 2) (n4 := ρ 1) (n5 := ρ 0) (n6 := ρ 6) (n7 := ρ 7) (n8 := ρ 8) (n9 := ρ 9) (n10 := ρ 10) (n11 := ρ 11) (n12 := ρ 12) (n13 := ρ 13) (n14 := ρ 14) (n15 := ρ 15) (n16 := ρ 16) (n17 := ρ 17) (n18 := ρ 18) (H0 := η 0) (H1 := η 1) (H2 := η 2) (H3 := η 3) (H4 := η 4) (H5 := η 5) (H6 := η 6) (H7 := η 7) f45 f44 f43 f42 f41 f40 f39 f38 f37 f36 f35 f34 f33 f32 f31 f30 f29 f28 f27 f26 f25 f24 f23 f22 f21 f20 f19 f18 f17 f16 f15 f14 f13 f12 f11 f10 f9 f8 f7 f6 f5 f4 f3 f2 f1 f0
theorem q_88v_27 {q0 : Nat} {n0 n1 n2 n3 n4 n5 n6 n7 n8 n9 n10 n11 n12 n13 n14 n15 n16 n17 n18 : Int} {H0 H1 H2 H3 H4 H5 H6 H7 : gH} (f0 : n0 ≤ 2147483647) (f1 : (-2147483648) ≤ n0) (f2 : n1 ≤ 2147483647) (f3 : (-2147483648) ≤ n1) (f4 : n2 ≤ 2147483647) (f5 : (-2147483648) ≤ n2) (f6 : n3 ≤ 2147483647) (f7 : (-2147483648) ≤ n3) (f8 : n4 = 30) (f9 : n5 = 30) (f10 : (hLe T0 H0 H1 ∧ hFr s_88v.2.2.2.2 H0 H1 ∧ hWt T0 H1) ∧ (Ab_88v_9 n5 n4 n3 n2 n1 n0 H0 H1 ∧ preb_88v n5 H0) ∧ some q0 = some (mub_88v_9 n5 n4 n3 n2 n1 n0 H0 H1)) (f11 : n6 = 500) (f12 : n0 ≤ n6) (f13 : n7 ≤ 2147483647) (f14 : (-2147483648) ≤ n7) (f15 : n7 = hV H1 (n4).toNat 3) (f16 : n7 = 0) (f17 : n1 ≠ 0) (f18 : n8 ≤ 1) (f19 : 0 ≤ n8) (f20 : (hLe T0 H1 H2 ∧ hFr s_89v.2.2.2.2 H1 H2 ∧ ((0 : Int) = 0 → H2.length = H1.length) ∧ hWt T0 H2) ∧ postb_89v n8 n4 H1 H2) (f21 : (hLe T0 H2 H3 ∧ hFr s_92v.2.2.2.2 H2 H3 ∧ ((0 : Int) = 0 → H3.length = H2.length) ∧ hWt T0 H3) ∧ postb_92v n4 H2 H3) (f22 : n9 ≤ 2147483647) (f23 : (-2147483648) ≤ n9) (f24 : (hLe T0 H3 H4 ∧ hFr s_90v.2.2.2.2 H3 H4 ∧ ((0 : Int) = 0 → H4.length = H3.length) ∧ hWt T0 H4) ∧ postb_90v n9 n4 H3 H4) (f25 : (hLe T0 H4 H5 ∧ hFr s_92v.2.2.2.2 H4 H5 ∧ ((0 : Int) = 0 → H5.length = H4.length) ∧ hWt T0 H5) ∧ postb_92v n4 H4 H5) (f26 : (hLe T0 H5 H6 ∧ hFr s_91.2.2.2.2 H5 H6 ∧ ((0 : Int) = 0 → H6.length = H5.length) ∧ hWt T0 H6) ∧ True) (f27 : n2 ≠ 0) (f28 : 0 ≤ n10) (f29 : n10 = hV H6 (n4).toNat 8) (f30 : n11 = 10043) (f31 : (hLe T0 H6 H7 ∧ hFr s_98.2.2.2.2 H6 H7 ∧ ((0 : Int) = 0 → H7.length = H6.length) ∧ hWt T0 H7) ∧ True) (f32 : n12 ≤ 2147483647) (f33 : (-2147483648) ≤ n12) (f34 : n12 = hV H7 (n4).toNat 2) (f35 : n13 = 43) (f36 : n12 = n13) (f37 : n14 = 1) (f38 : n14 ≠ 0) (f39 : n15 ≤ 2147483647) (f40 : (-2147483648) ≤ n15) (f41 : n15 = hV H7 (n4).toNat 2) (f42 : n16 = 42) (f43 : n15 = n16) (f44 : n17 = 1) (f45 : n18 = o32 (fun x y => x ||| y) n3 n17) : Ab_88v_122 n5 n4 n18 n14 n1 n0 n8 n9 H0 H7 ∧ ∀ q, some q0 = some q → mub_88v_122 n5 n4 n18 n14 n1 n0 n8 n9 H0 H7 < q := by
  exfalso
  clear f0 f1 f2 f3 f4 f5 f6 f7 f8 f9 f10 f11 f12 f13 f14 f15 f16 f17 f18 f19 f20 f21 f22 f23 f24 f25 f26 f27 f28 f29 f30 f31 f32 f33 f37 f38 f39 f40 f44 f45
  omega
theorem c_88v_9_26 {q0 : Nat} : vOkm T0 (eP e_88v L_88v A_88v mu_88v (some q0)) 1 ([(5, [18, 2, 17], [], 0), (0, [17], [], 1), (40, [15, 16], [], 0), (0, [16], [], 42), (20, [15, 1], [7], 2), (90, [15], [], -2147483648), (91, [15], [], 2147483647), (31, [14], [], 0), (0, [14], [], 1), (40, [12, 13], [], 0), (0, [13], [], 43), (20, [12, 1], [7], 2), (90, [12], [], -2147483648), (91, [12], [], 2147483647), (1098, [10, 11], [6, 7], 0), (0, [11], [], 10043), (20, [10, 1], [6], 8), (51, [10], [], 0), (31, [3], [], 0), (1091, [1, 9, 8], [5, 6], 0), (1092, [1], [4, 5], 0), (1090, [9, 1], [3, 4], 0), (90, [9], [], -2147483648), (91, [9], [], 2147483647), (1092, [1], [2, 3], 0), (1089, [8, 1], [1, 2], 0), (90, [8], [], 0), (91, [8], [], 1), (31, [4], [], 0), (30, [7], [], 0), (20, [7, 1], [1], 3), (90, [7], [], -2147483648), (91, [7], [], 2147483647), (45, [5, 6], [], 0), (0, [6], [], 500), (5000, [0, 1, 2, 3, 4, 5], [0, 1], 9), (0, [0], [], 30), (0, [1], [], 30), (90, [2], [], -2147483648), (91, [2], [], 2147483647), (90, [3], [], -2147483648), (91, [3], [], 2147483647), (90, [4], [], -2147483648), (91, [4], [], 2147483647), (90, [5], [], -2147483648), (91, [5], [], 2147483647)], (4000, [1, 18, 14, 4, 5, 8, 9], [7], 122)) := vOk_in fun ρ η h => by
  obtain ⟨f0, f1, f2, f3, f4, f5, f6, f7, f8, f9, f10, f11, f12, f13, f14, f15, f16, f17, f18, f19, f20, f21, f22, f23, f24, f25, f26, f27, f28, f29, f30, f31, f32, f33, f34, f35, f36, f37, f38, f39, f40, f41, f42, f43, f44, f45, _⟩ := h
  exact q_88v_27 (q0 := q0) (n0 := ρ 5) (n1 := ρ 4) (n2 := ρ 3) (n3 := ρ 2) (n4 := ρ 1) (n5 := ρ 0) (n6 := ρ 6) (n7 := ρ 7) (n8 := ρ 8) (n9 := ρ 9) (n10 := ρ 10) (n11 := ρ 11) (n12 := ρ 12) (n13 := ρ 13) (n14 := ρ 14) (n15 := ρ 15) (n16 := ρ 16) (n17 := ρ 17) (n18 := ρ 18) (H0 := η 0) (H1 := η 1) (H2 := η 2) (H3 := η 3) (H4 := η 4) (H5 := η 5) (H6 := η 6) (H7 := η 7) f45 f44 f43 f42 f41 f40 f39 f38 f37 f36 f35 f34 f33 f32 f31 f30 f29 f28 f27 f26 f25 f24 f23 f22 f21 f20 f19 f18 f17 f16 f15 f14 f13 f12 f11 f10 f9 f8 f7 f6 f5 f4 f3 f2 f1 f0
theorem q_88v_28 {q0 : Nat} {n0 n1 n2 n3 n4 n5 n6 n7 n8 n9 n10 n11 n12 n13 n14 n15 n16 n17 n18 : Int} {H0 H1 H2 H3 H4 H5 H6 H7 : gH} (f0 : n0 ≤ 2147483647) (f1 : (-2147483648) ≤ n0) (f2 : n1 ≤ 2147483647) (f3 : (-2147483648) ≤ n1) (f4 : n2 ≤ 2147483647) (f5 : (-2147483648) ≤ n2) (f6 : n3 ≤ 2147483647) (f7 : (-2147483648) ≤ n3) (f8 : n4 = 30) (f9 : n5 = 30) (f10 : (hLe T0 H0 H1 ∧ hFr s_88v.2.2.2.2 H0 H1 ∧ hWt T0 H1) ∧ (Ab_88v_9 n5 n4 n3 n2 n1 n0 H0 H1 ∧ preb_88v n5 H0) ∧ some q0 = some (mub_88v_9 n5 n4 n3 n2 n1 n0 H0 H1)) (f11 : n6 = 500) (f12 : n0 ≤ n6) (f13 : n7 ≤ 2147483647) (f14 : (-2147483648) ≤ n7) (f15 : n7 = hV H1 (n4).toNat 3) (f16 : n7 = 0) (f17 : n1 ≠ 0) (f18 : n8 ≤ 1) (f19 : 0 ≤ n8) (f20 : (hLe T0 H1 H2 ∧ hFr s_89v.2.2.2.2 H1 H2 ∧ ((0 : Int) = 0 → H2.length = H1.length) ∧ hWt T0 H2) ∧ postb_89v n8 n4 H1 H2) (f21 : (hLe T0 H2 H3 ∧ hFr s_92v.2.2.2.2 H2 H3 ∧ ((0 : Int) = 0 → H3.length = H2.length) ∧ hWt T0 H3) ∧ postb_92v n4 H2 H3) (f22 : n9 ≤ 2147483647) (f23 : (-2147483648) ≤ n9) (f24 : (hLe T0 H3 H4 ∧ hFr s_90v.2.2.2.2 H3 H4 ∧ ((0 : Int) = 0 → H4.length = H3.length) ∧ hWt T0 H4) ∧ postb_90v n9 n4 H3 H4) (f25 : (hLe T0 H4 H5 ∧ hFr s_92v.2.2.2.2 H4 H5 ∧ ((0 : Int) = 0 → H5.length = H4.length) ∧ hWt T0 H5) ∧ postb_92v n4 H4 H5) (f26 : (hLe T0 H5 H6 ∧ hFr s_91.2.2.2.2 H5 H6 ∧ ((0 : Int) = 0 → H6.length = H5.length) ∧ hWt T0 H6) ∧ True) (f27 : n2 ≠ 0) (f28 : 0 ≤ n10) (f29 : n10 = hV H6 (n4).toNat 8) (f30 : n11 = 10043) (f31 : (hLe T0 H6 H7 ∧ hFr s_98.2.2.2.2 H6 H7 ∧ ((0 : Int) = 0 → H7.length = H6.length) ∧ hWt T0 H7) ∧ True) (f32 : n12 ≤ 2147483647) (f33 : (-2147483648) ≤ n12) (f34 : n12 = hV H7 (n4).toNat 2) (f35 : n13 = 43) (f36 : n12 = n13) (f37 : n14 = 1) (f38 : n14 = 0) (f39 : n3 = 0) (f40 : n15 ≤ 2147483647) (f41 : (-2147483648) ≤ n15) (f42 : n15 = hV H7 (n4).toNat 2) (f43 : n16 = 42) (f44 : n15 ≠ n16) (f45 : n17 = 0) (f46 : n18 = o32 (fun x y => x ||| y) n3 n17) : Ab_88v_122 n5 n4 n18 n14 n1 n0 n8 n9 H0 H7 ∧ ∀ q, some q0 = some q → mub_88v_122 n5 n4 n18 n14 n1 n0 n8 n9 H0 H7 < q := by
  exfalso
  omega
theorem c_88v_9_27 {q0 : Nat} : vOkm T0 (eP e_88v L_88v A_88v mu_88v (some q0)) 1 ([(5, [18, 2, 17], [], 0), (0, [17], [], 0), (41, [15, 16], [], 0), (0, [16], [], 42), (20, [15, 1], [7], 2), (90, [15], [], -2147483648), (91, [15], [], 2147483647), (30, [2], [], 0), (30, [14], [], 0), (0, [14], [], 1), (40, [12, 13], [], 0), (0, [13], [], 43), (20, [12, 1], [7], 2), (90, [12], [], -2147483648), (91, [12], [], 2147483647), (1098, [10, 11], [6, 7], 0), (0, [11], [], 10043), (20, [10, 1], [6], 8), (51, [10], [], 0), (31, [3], [], 0), (1091, [1, 9, 8], [5, 6], 0), (1092, [1], [4, 5], 0), (1090, [9, 1], [3, 4], 0), (90, [9], [], -2147483648), (91, [9], [], 2147483647), (1092, [1], [2, 3], 0), (1089, [8, 1], [1, 2], 0), (90, [8], [], 0), (91, [8], [], 1), (31, [4], [], 0), (30, [7], [], 0), (20, [7, 1], [1], 3), (90, [7], [], -2147483648), (91, [7], [], 2147483647), (45, [5, 6], [], 0), (0, [6], [], 500), (5000, [0, 1, 2, 3, 4, 5], [0, 1], 9), (0, [0], [], 30), (0, [1], [], 30), (90, [2], [], -2147483648), (91, [2], [], 2147483647), (90, [3], [], -2147483648), (91, [3], [], 2147483647), (90, [4], [], -2147483648), (91, [4], [], 2147483647), (90, [5], [], -2147483648), (91, [5], [], 2147483647)], (4000, [1, 18, 14, 4, 5, 8, 9], [7], 122)) := vOk_in fun ρ η h => by
  obtain ⟨f0, f1, f2, f3, f4, f5, f6, f7, f8, f9, f10, f11, f12, f13, f14, f15, f16, f17, f18, f19, f20, f21, f22, f23, f24, f25, f26, f27, f28, f29, f30, f31, f32, f33, f34, f35, f36, f37, f38, f39, f40, f41, f42, f43, f44, f45, f46, _⟩ := h
  exact q_88v_28 (q0 := q0) (n0 := ρ 5) (n1 := ρ 4) (n2 := ρ 3) (n3 := ρ 2) (n4 := ρ 1) (n5 := ρ 0) (n6 := ρ 6) (n7 := ρ 7) (n8 := ρ 8) (n9 := ρ 9) (n10 := ρ 10) (n11 := ρ 11) (n12 := ρ 12) (n13 := ρ 13) (n14 := ρ 14) (n15 := ρ 15) (n16 := ρ 16) (n17 := ρ 17) (n18 := ρ 18) (H0 := η 0) (H1 := η 1) (H2 := η 2) (H3 := η 3) (H4 := η 4) (H5 := η 5) (H6 := η 6) (H7 := η 7) f46 f45 f44 f43 f42 f41 f40 f39 f38 f37 f36 f35 f34 f33 f32 f31 f30 f29 f28 f27 f26 f25 f24 f23 f22 f21 f20 f19 f18 f17 f16 f15 f14 f13 f12 f11 f10 f9 f8 f7 f6 f5 f4 f3 f2 f1 f0
theorem q_88v_29 {q0 : Nat} {n0 n1 n2 n3 n4 n5 n6 n7 n8 n9 n10 n11 n12 n13 n14 n15 n16 n17 n18 : Int} {H0 H1 H2 H3 H4 H5 H6 H7 : gH} (f0 : n0 ≤ 2147483647) (f1 : (-2147483648) ≤ n0) (f2 : n1 ≤ 2147483647) (f3 : (-2147483648) ≤ n1) (f4 : n2 ≤ 2147483647) (f5 : (-2147483648) ≤ n2) (f6 : n3 ≤ 2147483647) (f7 : (-2147483648) ≤ n3) (f8 : n4 = 30) (f9 : n5 = 30) (f10 : (hLe T0 H0 H1 ∧ hFr s_88v.2.2.2.2 H0 H1 ∧ hWt T0 H1) ∧ (Ab_88v_9 n5 n4 n3 n2 n1 n0 H0 H1 ∧ preb_88v n5 H0) ∧ some q0 = some (mub_88v_9 n5 n4 n3 n2 n1 n0 H0 H1)) (f11 : n6 = 500) (f12 : n0 ≤ n6) (f13 : n7 ≤ 2147483647) (f14 : (-2147483648) ≤ n7) (f15 : n7 = hV H1 (n4).toNat 3) (f16 : n7 = 0) (f17 : n1 ≠ 0) (f18 : n8 ≤ 1) (f19 : 0 ≤ n8) (f20 : (hLe T0 H1 H2 ∧ hFr s_89v.2.2.2.2 H1 H2 ∧ ((0 : Int) = 0 → H2.length = H1.length) ∧ hWt T0 H2) ∧ postb_89v n8 n4 H1 H2) (f21 : (hLe T0 H2 H3 ∧ hFr s_92v.2.2.2.2 H2 H3 ∧ ((0 : Int) = 0 → H3.length = H2.length) ∧ hWt T0 H3) ∧ postb_92v n4 H2 H3) (f22 : n9 ≤ 2147483647) (f23 : (-2147483648) ≤ n9) (f24 : (hLe T0 H3 H4 ∧ hFr s_90v.2.2.2.2 H3 H4 ∧ ((0 : Int) = 0 → H4.length = H3.length) ∧ hWt T0 H4) ∧ postb_90v n9 n4 H3 H4) (f25 : (hLe T0 H4 H5 ∧ hFr s_92v.2.2.2.2 H4 H5 ∧ ((0 : Int) = 0 → H5.length = H4.length) ∧ hWt T0 H5) ∧ postb_92v n4 H4 H5) (f26 : (hLe T0 H5 H6 ∧ hFr s_91.2.2.2.2 H5 H6 ∧ ((0 : Int) = 0 → H6.length = H5.length) ∧ hWt T0 H6) ∧ True) (f27 : n2 ≠ 0) (f28 : 0 ≤ n10) (f29 : n10 = hV H6 (n4).toNat 8) (f30 : n11 = 10043) (f31 : (hLe T0 H6 H7 ∧ hFr s_98.2.2.2.2 H6 H7 ∧ ((0 : Int) = 0 → H7.length = H6.length) ∧ hWt T0 H7) ∧ True) (f32 : n12 ≤ 2147483647) (f33 : (-2147483648) ≤ n12) (f34 : n12 = hV H7 (n4).toNat 2) (f35 : n13 = 43) (f36 : n12 = n13) (f37 : n14 = 1) (f38 : n14 = 0) (f39 : n3 = 0) (f40 : n15 ≤ 2147483647) (f41 : (-2147483648) ≤ n15) (f42 : n15 = hV H7 (n4).toNat 2) (f43 : n16 = 42) (f44 : n15 = n16) (f45 : n17 = 1) (f46 : n18 = o32 (fun x y => x ||| y) n3 n17) : Ab_88v_122 n5 n4 n18 n14 n1 n0 n8 n9 H0 H7 ∧ ∀ q, some q0 = some q → mub_88v_122 n5 n4 n18 n14 n1 n0 n8 n9 H0 H7 < q := by
  exfalso
  omega
theorem c_88v_9_28 {q0 : Nat} : vOkm T0 (eP e_88v L_88v A_88v mu_88v (some q0)) 1 ([(5, [18, 2, 17], [], 0), (0, [17], [], 1), (40, [15, 16], [], 0), (0, [16], [], 42), (20, [15, 1], [7], 2), (90, [15], [], -2147483648), (91, [15], [], 2147483647), (30, [2], [], 0), (30, [14], [], 0), (0, [14], [], 1), (40, [12, 13], [], 0), (0, [13], [], 43), (20, [12, 1], [7], 2), (90, [12], [], -2147483648), (91, [12], [], 2147483647), (1098, [10, 11], [6, 7], 0), (0, [11], [], 10043), (20, [10, 1], [6], 8), (51, [10], [], 0), (31, [3], [], 0), (1091, [1, 9, 8], [5, 6], 0), (1092, [1], [4, 5], 0), (1090, [9, 1], [3, 4], 0), (90, [9], [], -2147483648), (91, [9], [], 2147483647), (1092, [1], [2, 3], 0), (1089, [8, 1], [1, 2], 0), (90, [8], [], 0), (91, [8], [], 1), (31, [4], [], 0), (30, [7], [], 0), (20, [7, 1], [1], 3), (90, [7], [], -2147483648), (91, [7], [], 2147483647), (45, [5, 6], [], 0), (0, [6], [], 500), (5000, [0, 1, 2, 3, 4, 5], [0, 1], 9), (0, [0], [], 30), (0, [1], [], 30), (90, [2], [], -2147483648), (91, [2], [], 2147483647), (90, [3], [], -2147483648), (91, [3], [], 2147483647), (90, [4], [], -2147483648), (91, [4], [], 2147483647), (90, [5], [], -2147483648), (91, [5], [], 2147483647)], (4000, [1, 18, 14, 4, 5, 8, 9], [7], 122)) := vOk_in fun ρ η h => by
  obtain ⟨f0, f1, f2, f3, f4, f5, f6, f7, f8, f9, f10, f11, f12, f13, f14, f15, f16, f17, f18, f19, f20, f21, f22, f23, f24, f25, f26, f27, f28, f29, f30, f31, f32, f33, f34, f35, f36, f37, f38, f39, f40, f41, f42, f43, f44, f45, f46, _⟩ := h
  exact q_88v_29 (q0 := q0) (n0 := ρ 5) (n1 := ρ 4) (n2 := ρ 3) (n3 := ρ 2) (n4 := ρ 1) (n5 := ρ 0) (n6 := ρ 6) (n7 := ρ 7) (n8 := ρ 8) (n9 := ρ 9) (n10 := ρ 10) (n11 := ρ 11) (n12 := ρ 12) (n13 := ρ 13) (n14 := ρ 14) (n15 := ρ 15) (n16 := ρ 16) (n17 := ρ 17) (n18 := ρ 18) (H0 := η 0) (H1 := η 1) (H2 := η 2) (H3 := η 3) (H4 := η 4) (H5 := η 5) (H6 := η 6) (H7 := η 7) f46 f45 f44 f43 f42 f41 f40 f39 f38 f37 f36 f35 f34 f33 f32 f31 f30 f29 f28 f27 f26 f25 f24 f23 f22 f21 f20 f19 f18 f17 f16 f15 f14 f13 f12 f11 f10 f9 f8 f7 f6 f5 f4 f3 f2 f1 f0
theorem q_88v_30 {q0 : Nat} {n0 n1 n2 n3 n4 n5 n6 n7 n8 n9 n10 n11 n12 n13 n14 n15 n16 n17 n18 n19 n20 n21 : Int} {H0 H1 H2 H3 H4 H5 H6 H7 H8 : gH} (f0 : n0 ≤ 2147483647) (f1 : (-2147483648) ≤ n0) (f2 : n1 ≤ 2147483647) (f3 : (-2147483648) ≤ n1) (f4 : n2 ≤ 2147483647) (f5 : (-2147483648) ≤ n2) (f6 : n3 ≤ 2147483647) (f7 : (-2147483648) ≤ n3) (f8 : n4 = 30) (f9 : n5 = 30) (f10 : (hLe T0 H0 H1 ∧ hFr s_88v.2.2.2.2 H0 H1 ∧ hWt T0 H1) ∧ (Ab_88v_9 n5 n4 n3 n2 n1 n0 H0 H1 ∧ preb_88v n5 H0) ∧ some q0 = some (mub_88v_9 n5 n4 n3 n2 n1 n0 H0 H1)) (f11 : n6 = 500) (f12 : n0 ≤ n6) (f13 : n7 ≤ 2147483647) (f14 : (-2147483648) ≤ n7) (f15 : n7 = hV H1 (n4).toNat 3) (f16 : n7 = 0) (f17 : n1 ≠ 0) (f18 : n8 ≤ 1) (f19 : 0 ≤ n8) (f20 : (hLe T0 H1 H2 ∧ hFr s_89v.2.2.2.2 H1 H2 ∧ ((0 : Int) = 0 → H2.length = H1.length) ∧ hWt T0 H2) ∧ postb_89v n8 n4 H1 H2) (f21 : (hLe T0 H2 H3 ∧ hFr s_92v.2.2.2.2 H2 H3 ∧ ((0 : Int) = 0 → H3.length = H2.length) ∧ hWt T0 H3) ∧ postb_92v n4 H2 H3) (f22 : n9 ≤ 2147483647) (f23 : (-2147483648) ≤ n9) (f24 : (hLe T0 H3 H4 ∧ hFr s_90v.2.2.2.2 H3 H4 ∧ ((0 : Int) = 0 → H4.length = H3.length) ∧ hWt T0 H4) ∧ postb_90v n9 n4 H3 H4) (f25 : (hLe T0 H4 H5 ∧ hFr s_92v.2.2.2.2 H4 H5 ∧ ((0 : Int) = 0 → H5.length = H4.length) ∧ hWt T0 H5) ∧ postb_92v n4 H4 H5) (f26 : (hLe T0 H5 H6 ∧ hFr s_91.2.2.2.2 H5 H6 ∧ ((0 : Int) = 0 → H6.length = H5.length) ∧ hWt T0 H6) ∧ True) (f27 : n2 ≠ 0) (f28 : 0 ≤ n10) (f29 : n10 = hV H6 (n4).toNat 8) (f30 : n11 = 10043) (f31 : (hLe T0 H6 H7 ∧ hFr s_98.2.2.2.2 H6 H7 ∧ ((0 : Int) = 0 → H7.length = H6.length) ∧ hWt T0 H7) ∧ True) (f32 : n12 ≤ 2147483647) (f33 : (-2147483648) ≤ n12) (f34 : n12 = hV H7 (n4).toNat 2) (f35 : n13 = 43) (f36 : n12 = n13) (f37 : n14 = 1) (f38 : n14 = 0) (f39 : n3 ≠ 0) (f40 : 0 ≤ n15) (f41 : n15 = hV H7 (n4).toNat 8) (f42 : n16 = 10042) (f43 : (hLe T0 H7 H8 ∧ hFr s_98.2.2.2.2 H7 H8 ∧ ((0 : Int) = 0 → H8.length = H7.length) ∧ hWt T0 H8) ∧ True) (f44 : n17 = 0) (f45 : n18 ≤ 2147483647) (f46 : (-2147483648) ≤ n18) (f47 : n18 = hV H8 (n4).toNat 2) (f48 : n19 = 42) (f49 : n18 ≠ n19) (f50 : n20 = 0) (f51 : n21 = o32 (fun x y => x ||| y) n17 n20) : Ab_88v_122 n5 n4 n21 n14 n1 n0 n8 n9 H0 H8 ∧ ∀ q, some q0 = some q → mub_88v_122 n5 n4 n21 n14 n1 n0 n8 n9 H0 H8 < q := by
  exfalso
  omega
theorem c_88v_9_29 {q0 : Nat} : vOkm T0 (eP e_88v L_88v A_88v mu_88v (some q0)) 1 ([(5, [21, 17, 20], [], 0), (0, [20], [], 0), (41, [18, 19], [], 0), (0, [19], [], 42), (20, [18, 1], [8], 2), (90, [18], [], -2147483648), (91, [18], [], 2147483647), (0, [17], [], 0), (1098, [15, 16], [7, 8], 0), (0, [16], [], 10042), (20, [15, 1], [7], 8), (51, [15], [], 0), (31, [2], [], 0), (30, [14], [], 0), (0, [14], [], 1), (40, [12, 13], [], 0), (0, [13], [], 43), (20, [12, 1], [7], 2), (90, [12], [], -2147483648), (91, [12], [], 2147483647), (1098, [10, 11], [6, 7], 0), (0, [11], [], 10043), (20, [10, 1], [6], 8), (51, [10], [], 0), (31, [3], [], 0), (1091, [1, 9, 8], [5, 6], 0), (1092, [1], [4, 5], 0), (1090, [9, 1], [3, 4], 0), (90, [9], [], -2147483648), (91, [9], [], 2147483647), (1092, [1], [2, 3], 0), (1089, [8, 1], [1, 2], 0), (90, [8], [], 0), (91, [8], [], 1), (31, [4], [], 0), (30, [7], [], 0), (20, [7, 1], [1], 3), (90, [7], [], -2147483648), (91, [7], [], 2147483647), (45, [5, 6], [], 0), (0, [6], [], 500), (5000, [0, 1, 2, 3, 4, 5], [0, 1], 9), (0, [0], [], 30), (0, [1], [], 30), (90, [2], [], -2147483648), (91, [2], [], 2147483647), (90, [3], [], -2147483648), (91, [3], [], 2147483647), (90, [4], [], -2147483648), (91, [4], [], 2147483647), (90, [5], [], -2147483648), (91, [5], [], 2147483647)], (4000, [1, 21, 14, 4, 5, 8, 9], [8], 122)) := vOk_in fun ρ η h => by
  obtain ⟨f0, f1, f2, f3, f4, f5, f6, f7, f8, f9, f10, f11, f12, f13, f14, f15, f16, f17, f18, f19, f20, f21, f22, f23, f24, f25, f26, f27, f28, f29, f30, f31, f32, f33, f34, f35, f36, f37, f38, f39, f40, f41, f42, f43, f44, f45, f46, f47, f48, f49, f50, f51, _⟩ := h
  exact q_88v_30 (q0 := q0) (n0 := ρ 5) (n1 := ρ 4) (n2 := ρ 3) (n3 := ρ 2) (n4 := ρ 1) (n5 := ρ 0) (n6 := ρ 6) (n7 := ρ 7) (n8 := ρ 8) (n9 := ρ 9) (n10 := ρ 10) (n11 := ρ 11) (n12 := ρ 12) (n13 := ρ 13) (n14 := ρ 14) (n15 := ρ 15) (n16 := ρ 16) (n17 := ρ 17) (n18 := ρ 18) (n19 := ρ 19) (n20 := ρ 20) (n21 := ρ 21) (H0 := η 0) (H1 := η 1) (H2 := η 2) (H3 := η 3) (H4 := η 4) (H5 := η 5) (H6 := η 6) (H7 := η 7) (H8 := η 8) f51 f50 f49 f48 f47 f46 f45 f44 f43 f42 f41 f40 f39 f38 f37 f36 f35 f34 f33 f32 f31 f30 f29 f28 f27 f26 f25 f24 f23 f22 f21 f20 f19 f18 f17 f16 f15 f14 f13 f12 f11 f10 f9 f8 f7 f6 f5 f4 f3 f2 f1 f0
theorem q_88v_31 {q0 : Nat} {n0 n1 n2 n3 n4 n5 n6 n7 n8 n9 n10 n11 n12 n13 n14 n15 n16 n17 n18 n19 n20 n21 : Int} {H0 H1 H2 H3 H4 H5 H6 H7 H8 : gH} (f0 : n0 ≤ 2147483647) (f1 : (-2147483648) ≤ n0) (f2 : n1 ≤ 2147483647) (f3 : (-2147483648) ≤ n1) (f4 : n2 ≤ 2147483647) (f5 : (-2147483648) ≤ n2) (f6 : n3 ≤ 2147483647) (f7 : (-2147483648) ≤ n3) (f8 : n4 = 30) (f9 : n5 = 30) (f10 : (hLe T0 H0 H1 ∧ hFr s_88v.2.2.2.2 H0 H1 ∧ hWt T0 H1) ∧ (Ab_88v_9 n5 n4 n3 n2 n1 n0 H0 H1 ∧ preb_88v n5 H0) ∧ some q0 = some (mub_88v_9 n5 n4 n3 n2 n1 n0 H0 H1)) (f11 : n6 = 500) (f12 : n0 ≤ n6) (f13 : n7 ≤ 2147483647) (f14 : (-2147483648) ≤ n7) (f15 : n7 = hV H1 (n4).toNat 3) (f16 : n7 = 0) (f17 : n1 ≠ 0) (f18 : n8 ≤ 1) (f19 : 0 ≤ n8) (f20 : (hLe T0 H1 H2 ∧ hFr s_89v.2.2.2.2 H1 H2 ∧ ((0 : Int) = 0 → H2.length = H1.length) ∧ hWt T0 H2) ∧ postb_89v n8 n4 H1 H2) (f21 : (hLe T0 H2 H3 ∧ hFr s_92v.2.2.2.2 H2 H3 ∧ ((0 : Int) = 0 → H3.length = H2.length) ∧ hWt T0 H3) ∧ postb_92v n4 H2 H3) (f22 : n9 ≤ 2147483647) (f23 : (-2147483648) ≤ n9) (f24 : (hLe T0 H3 H4 ∧ hFr s_90v.2.2.2.2 H3 H4 ∧ ((0 : Int) = 0 → H4.length = H3.length) ∧ hWt T0 H4) ∧ postb_90v n9 n4 H3 H4) (f25 : (hLe T0 H4 H5 ∧ hFr s_92v.2.2.2.2 H4 H5 ∧ ((0 : Int) = 0 → H5.length = H4.length) ∧ hWt T0 H5) ∧ postb_92v n4 H4 H5) (f26 : (hLe T0 H5 H6 ∧ hFr s_91.2.2.2.2 H5 H6 ∧ ((0 : Int) = 0 → H6.length = H5.length) ∧ hWt T0 H6) ∧ True) (f27 : n2 ≠ 0) (f28 : 0 ≤ n10) (f29 : n10 = hV H6 (n4).toNat 8) (f30 : n11 = 10043) (f31 : (hLe T0 H6 H7 ∧ hFr s_98.2.2.2.2 H6 H7 ∧ ((0 : Int) = 0 → H7.length = H6.length) ∧ hWt T0 H7) ∧ True) (f32 : n12 ≤ 2147483647) (f33 : (-2147483648) ≤ n12) (f34 : n12 = hV H7 (n4).toNat 2) (f35 : n13 = 43) (f36 : n12 = n13) (f37 : n14 = 1) (f38 : n14 = 0) (f39 : n3 ≠ 0) (f40 : 0 ≤ n15) (f41 : n15 = hV H7 (n4).toNat 8) (f42 : n16 = 10042) (f43 : (hLe T0 H7 H8 ∧ hFr s_98.2.2.2.2 H7 H8 ∧ ((0 : Int) = 0 → H8.length = H7.length) ∧ hWt T0 H8) ∧ True) (f44 : n17 = 0) (f45 : n18 ≤ 2147483647) (f46 : (-2147483648) ≤ n18) (f47 : n18 = hV H8 (n4).toNat 2) (f48 : n19 = 42) (f49 : n18 = n19) (f50 : n20 = 1) (f51 : n21 = o32 (fun x y => x ||| y) n17 n20) : Ab_88v_122 n5 n4 n21 n14 n1 n0 n8 n9 H0 H8 ∧ ∀ q, some q0 = some q → mub_88v_122 n5 n4 n21 n14 n1 n0 n8 n9 H0 H8 < q := by
  exfalso
  omega
theorem c_88v_9_30 {q0 : Nat} : vOkm T0 (eP e_88v L_88v A_88v mu_88v (some q0)) 1 ([(5, [21, 17, 20], [], 0), (0, [20], [], 1), (40, [18, 19], [], 0), (0, [19], [], 42), (20, [18, 1], [8], 2), (90, [18], [], -2147483648), (91, [18], [], 2147483647), (0, [17], [], 0), (1098, [15, 16], [7, 8], 0), (0, [16], [], 10042), (20, [15, 1], [7], 8), (51, [15], [], 0), (31, [2], [], 0), (30, [14], [], 0), (0, [14], [], 1), (40, [12, 13], [], 0), (0, [13], [], 43), (20, [12, 1], [7], 2), (90, [12], [], -2147483648), (91, [12], [], 2147483647), (1098, [10, 11], [6, 7], 0), (0, [11], [], 10043), (20, [10, 1], [6], 8), (51, [10], [], 0), (31, [3], [], 0), (1091, [1, 9, 8], [5, 6], 0), (1092, [1], [4, 5], 0), (1090, [9, 1], [3, 4], 0), (90, [9], [], -2147483648), (91, [9], [], 2147483647), (1092, [1], [2, 3], 0), (1089, [8, 1], [1, 2], 0), (90, [8], [], 0), (91, [8], [], 1), (31, [4], [], 0), (30, [7], [], 0), (20, [7, 1], [1], 3), (90, [7], [], -2147483648), (91, [7], [], 2147483647), (45, [5, 6], [], 0), (0, [6], [], 500), (5000, [0, 1, 2, 3, 4, 5], [0, 1], 9), (0, [0], [], 30), (0, [1], [], 30), (90, [2], [], -2147483648), (91, [2], [], 2147483647), (90, [3], [], -2147483648), (91, [3], [], 2147483647), (90, [4], [], -2147483648), (91, [4], [], 2147483647), (90, [5], [], -2147483648), (91, [5], [], 2147483647)], (4000, [1, 21, 14, 4, 5, 8, 9], [8], 122)) := vOk_in fun ρ η h => by
  obtain ⟨f0, f1, f2, f3, f4, f5, f6, f7, f8, f9, f10, f11, f12, f13, f14, f15, f16, f17, f18, f19, f20, f21, f22, f23, f24, f25, f26, f27, f28, f29, f30, f31, f32, f33, f34, f35, f36, f37, f38, f39, f40, f41, f42, f43, f44, f45, f46, f47, f48, f49, f50, f51, _⟩ := h
  exact q_88v_31 (q0 := q0) (n0 := ρ 5) (n1 := ρ 4) (n2 := ρ 3) (n3 := ρ 2) (n4 := ρ 1) (n5 := ρ 0) (n6 := ρ 6) (n7 := ρ 7) (n8 := ρ 8) (n9 := ρ 9) (n10 := ρ 10) (n11 := ρ 11) (n12 := ρ 12) (n13 := ρ 13) (n14 := ρ 14) (n15 := ρ 15) (n16 := ρ 16) (n17 := ρ 17) (n18 := ρ 18) (n19 := ρ 19) (n20 := ρ 20) (n21 := ρ 21) (H0 := η 0) (H1 := η 1) (H2 := η 2) (H3 := η 3) (H4 := η 4) (H5 := η 5) (H6 := η 6) (H7 := η 7) (H8 := η 8) f51 f50 f49 f48 f47 f46 f45 f44 f43 f42 f41 f40 f39 f38 f37 f36 f35 f34 f33 f32 f31 f30 f29 f28 f27 f26 f25 f24 f23 f22 f21 f20 f19 f18 f17 f16 f15 f14 f13 f12 f11 f10 f9 f8 f7 f6 f5 f4 f3 f2 f1 f0
set_option maxHeartbeats 20000000 in
def p_88v_9 : List vG := [([(44, [5, 6], [], 0), (0, [6], [], 500), (5000, [0, 1, 2, 3, 4, 5], [0, 1], 9), (0, [0], [], 30), (0, [1], [], 30), (90, [2], [], -2147483648), (91, [2], [], 2147483647), (90, [3], [], -2147483648), (91, [3], [], 2147483647), (90, [4], [], -2147483648), (91, [4], [], 2147483647), (90, [5], [], -2147483648), (91, [5], [], 2147483647)], (3000, [], [1], 164)),
  ([(31, [7], [], 0), (20, [7, 1], [1], 3), (90, [7], [], -2147483648), (91, [7], [], 2147483647), (45, [5, 6], [], 0), (0, [6], [], 500), (5000, [0, 1, 2, 3, 4, 5], [0, 1], 9), (0, [0], [], 30), (0, [1], [], 30), (90, [2], [], -2147483648), (91, [2], [], 2147483647), (90, [3], [], -2147483648), (91, [3], [], 2147483647), (90, [4], [], -2147483648), (91, [4], [], 2147483647), (90, [5], [], -2147483648), (91, [5], [], 2147483647)], (3000, [], [1], 164)),
  ([(30, [4], [], 0), (30, [7], [], 0), (20, [7, 1], [1], 3), (90, [7], [], -2147483648), (91, [7], [], 2147483647), (45, [5, 6], [], 0), (0, [6], [], 500), (5000, [0, 1, 2, 3, 4, 5], [0, 1], 9), (0, [0], [], 30), (0, [1], [], 30), (90, [2], [], -2147483648), (91, [2], [], 2147483647), (90, [3], [], -2147483648), (91, [3], [], 2147483647), (90, [4], [], -2147483648), (91, [4], [], 2147483647), (90, [5], [], -2147483648), (91, [5], [], 2147483647)], (3000, [], [1], 164)),
  ([(31, [4], [], 0), (30, [7], [], 0), (20, [7, 1], [1], 3), (90, [7], [], -2147483648), (91, [7], [], 2147483647), (45, [5, 6], [], 0), (0, [6], [], 500), (5000, [0, 1, 2, 3, 4, 5], [0, 1], 9), (0, [0], [], 30), (0, [1], [], 30), (90, [2], [], -2147483648), (91, [2], [], 2147483647), (90, [3], [], -2147483648), (91, [3], [], 2147483647), (90, [4], [], -2147483648), (91, [4], [], 2147483647), (90, [5], [], -2147483648), (91, [5], [], 2147483647)], (2089, [1], [1], 0)),
  ([(1089, [8, 1], [1, 2], 0), (90, [8], [], 0), (91, [8], [], 1), (31, [4], [], 0), (30, [7], [], 0), (20, [7, 1], [1], 3), (90, [7], [], -2147483648), (91, [7], [], 2147483647), (45, [5, 6], [], 0), (0, [6], [], 500), (5000, [0, 1, 2, 3, 4, 5], [0, 1], 9), (0, [0], [], 30), (0, [1], [], 30), (90, [2], [], -2147483648), (91, [2], [], 2147483647), (90, [3], [], -2147483648), (91, [3], [], 2147483647), (90, [4], [], -2147483648), (91, [4], [], 2147483647), (90, [5], [], -2147483648), (91, [5], [], 2147483647)], (2092, [1], [2], 0)),
  ([(1092, [1], [2, 3], 0), (1089, [8, 1], [1, 2], 0), (90, [8], [], 0), (91, [8], [], 1), (31, [4], [], 0), (30, [7], [], 0), (20, [7, 1], [1], 3), (90, [7], [], -2147483648), (91, [7], [], 2147483647), (45, [5, 6], [], 0), (0, [6], [], 500), (5000, [0, 1, 2, 3, 4, 5], [0, 1], 9), (0, [0], [], 30), (0, [1], [], 30), (90, [2], [], -2147483648), (91, [2], [], 2147483647), (90, [3], [], -2147483648), (91, [3], [], 2147483647), (90, [4], [], -2147483648), (91, [4], [], 2147483647), (90, [5], [], -2147483648), (91, [5], [], 2147483647)], (2090, [1], [3], 0)),
  ([(1090, [9, 1], [3, 4], 0), (90, [9], [], -2147483648), (91, [9], [], 2147483647), (1092, [1], [2, 3], 0), (1089, [8, 1], [1, 2], 0), (90, [8], [], 0), (91, [8], [], 1), (31, [4], [], 0), (30, [7], [], 0), (20, [7, 1], [1], 3), (90, [7], [], -2147483648), (91, [7], [], 2147483647), (45, [5, 6], [], 0), (0, [6], [], 500), (5000, [0, 1, 2, 3, 4, 5], [0, 1], 9), (0, [0], [], 30), (0, [1], [], 30), (90, [2], [], -2147483648), (91, [2], [], 2147483647), (90, [3], [], -2147483648), (91, [3], [], 2147483647), (90, [4], [], -2147483648), (91, [4], [], 2147483647), (90, [5], [], -2147483648), (91, [5], [], 2147483647)], (2092, [1], [4], 0)),
  ([(5, [16, 2, 15], [], 0), (0, [15], [], 0), (41, [13, 14], [], 0), (0, [14], [], 42), (20, [13, 1], [6], 2), (90, [13], [], -2147483648), (91, [13], [], 2147483647), (31, [12], [], 0), (0, [12], [], 0), (41, [10, 11], [], 0), (0, [11], [], 43), (20, [10, 1], [6], 2), (90, [10], [], -2147483648), (91, [10], [], 2147483647), (30, [3], [], 0), (1091, [1, 9, 8], [5, 6], 0), (1092, [1], [4, 5], 0), (1090, [9, 1], [3, 4], 0), (90, [9], [], -2147483648), (91, [9], [], 2147483647), (1092, [1], [2, 3], 0), (1089, [8, 1], [1, 2], 0), (90, [8], [], 0), (91, [8], [], 1), (31, [4], [], 0), (30, [7], [], 0), (20, [7, 1], [1], 3), (90, [7], [], -2147483648), (91, [7], [], 2147483647), (45, [5, 6], [], 0), (0, [6], [], 500), (5000, [0, 1, 2, 3, 4, 5], [0, 1], 9), (0, [0], [], 30), (0, [1], [], 30), (90, [2], [], -2147483648), (91, [2], [], 2147483647), (90, [3], [], -2147483648), (91, [3], [], 2147483647), (90, [4], [], -2147483648), (91, [4], [], 2147483647), (90, [5], [], -2147483648), (91, [5], [], 2147483647)], (4000, [1, 16, 12, 4, 5, 8, 9], [6], 122)),
  ([(5, [16, 2, 15], [], 0), (0, [15], [], 1), (40, [13, 14], [], 0), (0, [14], [], 42), (20, [13, 1], [6], 2), (90, [13], [], -2147483648), (91, [13], [], 2147483647), (31, [12], [], 0), (0, [12], [], 0), (41, [10, 11], [], 0), (0, [11], [], 43), (20, [10, 1], [6], 2), (90, [10], [], -2147483648), (91, [10], [], 2147483647), (30, [3], [], 0), (1091, [1, 9, 8], [5, 6], 0), (1092, [1], [4, 5], 0), (1090, [9, 1], [3, 4], 0), (90, [9], [], -2147483648), (91, [9], [], 2147483647), (1092, [1], [2, 3], 0), (1089, [8, 1], [1, 2], 0), (90, [8], [], 0), (91, [8], [], 1), (31, [4], [], 0), (30, [7], [], 0), (20, [7, 1], [1], 3), (90, [7], [], -2147483648), (91, [7], [], 2147483647), (45, [5, 6], [], 0), (0, [6], [], 500), (5000, [0, 1, 2, 3, 4, 5], [0, 1], 9), (0, [0], [], 30), (0, [1], [], 30), (90, [2], [], -2147483648), (91, [2], [], 2147483647), (90, [3], [], -2147483648), (91, [3], [], 2147483647), (90, [4], [], -2147483648), (91, [4], [], 2147483647), (90, [5], [], -2147483648), (91, [5], [], 2147483647)], (4000, [1, 16, 12, 4, 5, 8, 9], [6], 122)),
  ([(5, [16, 2, 15], [], 0), (0, [15], [], 0), (41, [13, 14], [], 0), (0, [14], [], 42), (20, [13, 1], [6], 2), (90, [13], [], -2147483648), (91, [13], [], 2147483647), (30, [2], [], 0), (30, [12], [], 0), (0, [12], [], 0), (41, [10, 11], [], 0), (0, [11], [], 43), (20, [10, 1], [6], 2), (90, [10], [], -2147483648), (91, [10], [], 2147483647), (30, [3], [], 0), (1091, [1, 9, 8], [5, 6], 0), (1092, [1], [4, 5], 0), (1090, [9, 1], [3, 4], 0), (90, [9], [], -2147483648), (91, [9], [], 2147483647), (1092, [1], [2, 3], 0), (1089, [8, 1], [1, 2], 0), (90, [8], [], 0), (91, [8], [], 1), (31, [4], [], 0), (30, [7], [], 0), (20, [7, 1], [1], 3), (90, [7], [], -2147483648), (91, [7], [], 2147483647), (45, [5, 6], [], 0), (0, [6], [], 500), (5000, [0, 1, 2, 3, 4, 5], [0, 1], 9), (0, [0], [], 30), (0, [1], [], 30), (90, [2], [], -2147483648), (91, [2], [], 2147483647), (90, [3], [], -2147483648), (91, [3], [], 2147483647), (90, [4], [], -2147483648), (91, [4], [], 2147483647), (90, [5], [], -2147483648), (91, [5], [], 2147483647)], (4000, [1, 16, 12, 4, 5, 8, 9], [6], 122)),
  ([(5, [16, 2, 15], [], 0), (0, [15], [], 1), (40, [13, 14], [], 0), (0, [14], [], 42), (20, [13, 1], [6], 2), (90, [13], [], -2147483648), (91, [13], [], 2147483647), (30, [2], [], 0), (30, [12], [], 0), (0, [12], [], 0), (41, [10, 11], [], 0), (0, [11], [], 43), (20, [10, 1], [6], 2), (90, [10], [], -2147483648), (91, [10], [], 2147483647), (30, [3], [], 0), (1091, [1, 9, 8], [5, 6], 0), (1092, [1], [4, 5], 0), (1090, [9, 1], [3, 4], 0), (90, [9], [], -2147483648), (91, [9], [], 2147483647), (1092, [1], [2, 3], 0), (1089, [8, 1], [1, 2], 0), (90, [8], [], 0), (91, [8], [], 1), (31, [4], [], 0), (30, [7], [], 0), (20, [7, 1], [1], 3), (90, [7], [], -2147483648), (91, [7], [], 2147483647), (45, [5, 6], [], 0), (0, [6], [], 500), (5000, [0, 1, 2, 3, 4, 5], [0, 1], 9), (0, [0], [], 30), (0, [1], [], 30), (90, [2], [], -2147483648), (91, [2], [], 2147483647), (90, [3], [], -2147483648), (91, [3], [], 2147483647), (90, [4], [], -2147483648), (91, [4], [], 2147483647), (90, [5], [], -2147483648), (91, [5], [], 2147483647)], (4000, [1, 16, 12, 4, 5, 8, 9], [6], 122)),
  ([(5, [19, 15, 18], [], 0), (0, [18], [], 0), (41, [16, 17], [], 0), (0, [17], [], 42), (20, [16, 1], [7], 2), (90, [16], [], -2147483648), (91, [16], [], 2147483647), (0, [15], [], 0), (1098, [13, 14], [6, 7], 0), (0, [14], [], 10042), (20, [13, 1], [6], 8), (51, [13], [], 0), (31, [2], [], 0), (30, [12], [], 0), (0, [12], [], 0), (41, [10, 11], [], 0), (0, [11], [], 43), (20, [10, 1], [6], 2), (90, [10], [], -2147483648), (91, [10], [], 2147483647), (30, [3], [], 0), (1091, [1, 9, 8], [5, 6], 0), (1092, [1], [4, 5], 0), (1090, [9, 1], [3, 4], 0), (90, [9], [], -2147483648), (91, [9], [], 2147483647), (1092, [1], [2, 3], 0), (1089, [8, 1], [1, 2], 0), (90, [8], [], 0), (91, [8], [], 1), (31, [4], [], 0), (30, [7], [], 0), (20, [7, 1], [1], 3), (90, [7], [], -2147483648), (91, [7], [], 2147483647), (45, [5, 6], [], 0), (0, [6], [], 500), (5000, [0, 1, 2, 3, 4, 5], [0, 1], 9), (0, [0], [], 30), (0, [1], [], 30), (90, [2], [], -2147483648), (91, [2], [], 2147483647), (90, [3], [], -2147483648), (91, [3], [], 2147483647), (90, [4], [], -2147483648), (91, [4], [], 2147483647), (90, [5], [], -2147483648), (91, [5], [], 2147483647)], (4000, [1, 19, 12, 4, 5, 8, 9], [7], 122)),
  ([(5, [19, 15, 18], [], 0), (0, [18], [], 1), (40, [16, 17], [], 0), (0, [17], [], 42), (20, [16, 1], [7], 2), (90, [16], [], -2147483648), (91, [16], [], 2147483647), (0, [15], [], 0), (1098, [13, 14], [6, 7], 0), (0, [14], [], 10042), (20, [13, 1], [6], 8), (51, [13], [], 0), (31, [2], [], 0), (30, [12], [], 0), (0, [12], [], 0), (41, [10, 11], [], 0), (0, [11], [], 43), (20, [10, 1], [6], 2), (90, [10], [], -2147483648), (91, [10], [], 2147483647), (30, [3], [], 0), (1091, [1, 9, 8], [5, 6], 0), (1092, [1], [4, 5], 0), (1090, [9, 1], [3, 4], 0), (90, [9], [], -2147483648), (91, [9], [], 2147483647), (1092, [1], [2, 3], 0), (1089, [8, 1], [1, 2], 0), (90, [8], [], 0), (91, [8], [], 1), (31, [4], [], 0), (30, [7], [], 0), (20, [7, 1], [1], 3), (90, [7], [], -2147483648), (91, [7], [], 2147483647), (45, [5, 6], [], 0), (0, [6], [], 500), (5000, [0, 1, 2, 3, 4, 5], [0, 1], 9), (0, [0], [], 30), (0, [1], [], 30), (90, [2], [], -2147483648), (91, [2], [], 2147483647), (90, [3], [], -2147483648), (91, [3], [], 2147483647), (90, [4], [], -2147483648), (91, [4], [], 2147483647), (90, [5], [], -2147483648), (91, [5], [], 2147483647)], (4000, [1, 19, 12, 4, 5, 8, 9], [7], 122)),
  ([(5, [16, 2, 15], [], 0), (0, [15], [], 0), (41, [13, 14], [], 0), (0, [14], [], 42), (20, [13, 1], [6], 2), (90, [13], [], -2147483648), (91, [13], [], 2147483647), (31, [12], [], 0), (0, [12], [], 1), (40, [10, 11], [], 0), (0, [11], [], 43), (20, [10, 1], [6], 2), (90, [10], [], -2147483648), (91, [10], [], 2147483647), (30, [3], [], 0), (1091, [1, 9, 8], [5, 6], 0), (1092, [1], [4, 5], 0), (1090, [9, 1], [3, 4], 0), (90, [9], [], -2147483648), (91, [9], [], 2147483647), (1092, [1], [2, 3], 0), (1089, [8, 1], [1, 2], 0), (90, [8], [], 0), (91, [8], [], 1), (31, [4], [], 0), (30, [7], [], 0), (20, [7, 1], [1], 3), (90, [7], [], -2147483648), (91, [7], [], 2147483647), (45, [5, 6], [], 0), (0, [6], [], 500), (5000, [0, 1, 2, 3, 4, 5], [0, 1], 9), (0, [0], [], 30), (0, [1], [], 30), (90, [2], [], -2147483648), (91, [2], [], 2147483647), (90, [3], [], -2147483648), (91, [3], [], 2147483647), (90, [4], [], -2147483648), (91, [4], [], 2147483647), (90, [5], [], -2147483648), (91, [5], [], 2147483647)], (4000, [1, 16, 12, 4, 5, 8, 9], [6], 122)),
  ([(5, [16, 2, 15], [], 0), (0, [15], [], 1), (40, [13, 14], [], 0), (0, [14], [], 42), (20, [13, 1], [6], 2), (90, [13], [], -2147483648), (91, [13], [], 2147483647), (31, [12], [], 0), (0, [12], [], 1), (40, [10, 11], [], 0), (0, [11], [], 43), (20, [10, 1], [6], 2), (90, [10], [], -2147483648), (91, [10], [], 2147483647), (30, [3], [], 0), (1091, [1, 9, 8], [5, 6], 0), (1092, [1], [4, 5], 0), (1090, [9, 1], [3, 4], 0), (90, [9], [], -2147483648), (91, [9], [], 2147483647), (1092, [1], [2, 3], 0), (1089, [8, 1], [1, 2], 0), (90, [8], [], 0), (91, [8], [], 1), (31, [4], [], 0), (30, [7], [], 0), (20, [7, 1], [1], 3), (90, [7], [], -2147483648), (91, [7], [], 2147483647), (45, [5, 6], [], 0), (0, [6], [], 500), (5000, [0, 1, 2, 3, 4, 5], [0, 1], 9), (0, [0], [], 30), (0, [1], [], 30), (90, [2], [], -2147483648), (91, [2], [], 2147483647), (90, [3], [], -2147483648), (91, [3], [], 2147483647), (90, [4], [], -2147483648), (91, [4], [], 2147483647), (90, [5], [], -2147483648), (91, [5], [], 2147483647)], (4000, [1, 16, 12, 4, 5, 8, 9], [6], 122)),
  ([(5, [16, 2, 15], [], 0), (0, [15], [], 0), (41, [13, 14], [], 0), (0, [14], [], 42), (20, [13, 1], [6], 2), (90, [13], [], -2147483648), (91, [13], [], 2147483647), (30, [2], [], 0), (30, [12], [], 0), (0, [12], [], 1), (40, [10, 11], [], 0), (0, [11], [], 43), (20, [10, 1], [6], 2), (90, [10], [], -2147483648), (91, [10], [], 2147483647), (30, [3], [], 0), (1091, [1, 9, 8], [5, 6], 0), (1092, [1], [4, 5], 0), (1090, [9, 1], [3, 4], 0), (90, [9], [], -2147483648), (91, [9], [], 2147483647), (1092, [1], [2, 3], 0), (1089, [8, 1], [1, 2], 0), (90, [8], [], 0), (91, [8], [], 1), (31, [4], [], 0), (30, [7], [], 0), (20, [7, 1], [1], 3), (90, [7], [], -2147483648), (91, [7], [], 2147483647), (45, [5, 6], [], 0), (0, [6], [], 500), (5000, [0, 1, 2, 3, 4, 5], [0, 1], 9), (0, [0], [], 30), (0, [1], [], 30), (90, [2], [], -2147483648), (91, [2], [], 2147483647), (90, [3], [], -2147483648), (91, [3], [], 2147483647), (90, [4], [], -2147483648), (91, [4], [], 2147483647), (90, [5], [], -2147483648), (91, [5], [], 2147483647)], (4000, [1, 16, 12, 4, 5, 8, 9], [6], 122)),
  ([(5, [16, 2, 15], [], 0), (0, [15], [], 1), (40, [13, 14], [], 0), (0, [14], [], 42), (20, [13, 1], [6], 2), (90, [13], [], -2147483648), (91, [13], [], 2147483647), (30, [2], [], 0), (30, [12], [], 0), (0, [12], [], 1), (40, [10, 11], [], 0), (0, [11], [], 43), (20, [10, 1], [6], 2), (90, [10], [], -2147483648), (91, [10], [], 2147483647), (30, [3], [], 0), (1091, [1, 9, 8], [5, 6], 0), (1092, [1], [4, 5], 0), (1090, [9, 1], [3, 4], 0), (90, [9], [], -2147483648), (91, [9], [], 2147483647), (1092, [1], [2, 3], 0), (1089, [8, 1], [1, 2], 0), (90, [8], [], 0), (91, [8], [], 1), (31, [4], [], 0), (30, [7], [], 0), (20, [7, 1], [1], 3), (90, [7], [], -2147483648), (91, [7], [], 2147483647), (45, [5, 6], [], 0), (0, [6], [], 500), (5000, [0, 1, 2, 3, 4, 5], [0, 1], 9), (0, [0], [], 30), (0, [1], [], 30), (90, [2], [], -2147483648), (91, [2], [], 2147483647), (90, [3], [], -2147483648), (91, [3], [], 2147483647), (90, [4], [], -2147483648), (91, [4], [], 2147483647), (90, [5], [], -2147483648), (91, [5], [], 2147483647)], (4000, [1, 16, 12, 4, 5, 8, 9], [6], 122)),
  ([(5, [19, 15, 18], [], 0), (0, [18], [], 0), (41, [16, 17], [], 0), (0, [17], [], 42), (20, [16, 1], [7], 2), (90, [16], [], -2147483648), (91, [16], [], 2147483647), (0, [15], [], 0), (1098, [13, 14], [6, 7], 0), (0, [14], [], 10042), (20, [13, 1], [6], 8), (51, [13], [], 0), (31, [2], [], 0), (30, [12], [], 0), (0, [12], [], 1), (40, [10, 11], [], 0), (0, [11], [], 43), (20, [10, 1], [6], 2), (90, [10], [], -2147483648), (91, [10], [], 2147483647), (30, [3], [], 0), (1091, [1, 9, 8], [5, 6], 0), (1092, [1], [4, 5], 0), (1090, [9, 1], [3, 4], 0), (90, [9], [], -2147483648), (91, [9], [], 2147483647), (1092, [1], [2, 3], 0), (1089, [8, 1], [1, 2], 0), (90, [8], [], 0), (91, [8], [], 1), (31, [4], [], 0), (30, [7], [], 0), (20, [7, 1], [1], 3), (90, [7], [], -2147483648), (91, [7], [], 2147483647), (45, [5, 6], [], 0), (0, [6], [], 500), (5000, [0, 1, 2, 3, 4, 5], [0, 1], 9), (0, [0], [], 30), (0, [1], [], 30), (90, [2], [], -2147483648), (91, [2], [], 2147483647), (90, [3], [], -2147483648), (91, [3], [], 2147483647), (90, [4], [], -2147483648), (91, [4], [], 2147483647), (90, [5], [], -2147483648), (91, [5], [], 2147483647)], (4000, [1, 19, 12, 4, 5, 8, 9], [7], 122)),
  ([(5, [19, 15, 18], [], 0), (0, [18], [], 1), (40, [16, 17], [], 0), (0, [17], [], 42), (20, [16, 1], [7], 2), (90, [16], [], -2147483648), (91, [16], [], 2147483647), (0, [15], [], 0), (1098, [13, 14], [6, 7], 0), (0, [14], [], 10042), (20, [13, 1], [6], 8), (51, [13], [], 0), (31, [2], [], 0), (30, [12], [], 0), (0, [12], [], 1), (40, [10, 11], [], 0), (0, [11], [], 43), (20, [10, 1], [6], 2), (90, [10], [], -2147483648), (91, [10], [], 2147483647), (30, [3], [], 0), (1091, [1, 9, 8], [5, 6], 0), (1092, [1], [4, 5], 0), (1090, [9, 1], [3, 4], 0), (90, [9], [], -2147483648), (91, [9], [], 2147483647), (1092, [1], [2, 3], 0), (1089, [8, 1], [1, 2], 0), (90, [8], [], 0), (91, [8], [], 1), (31, [4], [], 0), (30, [7], [], 0), (20, [7, 1], [1], 3), (90, [7], [], -2147483648), (91, [7], [], 2147483647), (45, [5, 6], [], 0), (0, [6], [], 500), (5000, [0, 1, 2, 3, 4, 5], [0, 1], 9), (0, [0], [], 30), (0, [1], [], 30), (90, [2], [], -2147483648), (91, [2], [], 2147483647), (90, [3], [], -2147483648), (91, [3], [], 2147483647), (90, [4], [], -2147483648), (91, [4], [], 2147483647), (90, [5], [], -2147483648), (91, [5], [], 2147483647)], (4000, [1, 19, 12, 4, 5, 8, 9], [7], 122)),
  ([(5, [18, 2, 17], [], 0), (0, [17], [], 0), (41, [15, 16], [], 0), (0, [16], [], 42), (20, [15, 1], [7], 2), (90, [15], [], -2147483648), (91, [15], [], 2147483647), (31, [14], [], 0), (0, [14], [], 0), (41, [12, 13], [], 0), (0, [13], [], 43), (20, [12, 1], [7], 2), (90, [12], [], -2147483648), (91, [12], [], 2147483647), (1098, [10, 11], [6, 7], 0), (0, [11], [], 10043), (20, [10, 1], [6], 8), (51, [10], [], 0), (31, [3], [], 0), (1091, [1, 9, 8], [5, 6], 0), (1092, [1], [4, 5], 0), (1090, [9, 1], [3, 4], 0), (90, [9], [], -2147483648), (91, [9], [], 2147483647), (1092, [1], [2, 3], 0), (1089, [8, 1], [1, 2], 0), (90, [8], [], 0), (91, [8], [], 1), (31, [4], [], 0), (30, [7], [], 0), (20, [7, 1], [1], 3), (90, [7], [], -2147483648), (91, [7], [], 2147483647), (45, [5, 6], [], 0), (0, [6], [], 500), (5000, [0, 1, 2, 3, 4, 5], [0, 1], 9), (0, [0], [], 30), (0, [1], [], 30), (90, [2], [], -2147483648), (91, [2], [], 2147483647), (90, [3], [], -2147483648), (91, [3], [], 2147483647), (90, [4], [], -2147483648), (91, [4], [], 2147483647), (90, [5], [], -2147483648), (91, [5], [], 2147483647)], (4000, [1, 18, 14, 4, 5, 8, 9], [7], 122)),
  ([(5, [18, 2, 17], [], 0), (0, [17], [], 1), (40, [15, 16], [], 0), (0, [16], [], 42), (20, [15, 1], [7], 2), (90, [15], [], -2147483648), (91, [15], [], 2147483647), (31, [14], [], 0), (0, [14], [], 0), (41, [12, 13], [], 0), (0, [13], [], 43), (20, [12, 1], [7], 2), (90, [12], [], -2147483648), (91, [12], [], 2147483647), (1098, [10, 11], [6, 7], 0), (0, [11], [], 10043), (20, [10, 1], [6], 8), (51, [10], [], 0), (31, [3], [], 0), (1091, [1, 9, 8], [5, 6], 0), (1092, [1], [4, 5], 0), (1090, [9, 1], [3, 4], 0), (90, [9], [], -2147483648), (91, [9], [], 2147483647), (1092, [1], [2, 3], 0), (1089, [8, 1], [1, 2], 0), (90, [8], [], 0), (91, [8], [], 1), (31, [4], [], 0), (30, [7], [], 0), (20, [7, 1], [1], 3), (90, [7], [], -2147483648), (91, [7], [], 2147483647), (45, [5, 6], [], 0), (0, [6], [], 500), (5000, [0, 1, 2, 3, 4, 5], [0, 1], 9), (0, [0], [], 30), (0, [1], [], 30), (90, [2], [], -2147483648), (91, [2], [], 2147483647), (90, [3], [], -2147483648), (91, [3], [], 2147483647), (90, [4], [], -2147483648), (91, [4], [], 2147483647), (90, [5], [], -2147483648), (91, [5], [], 2147483647)], (4000, [1, 18, 14, 4, 5, 8, 9], [7], 122)),
  ([(5, [18, 2, 17], [], 0), (0, [17], [], 0), (41, [15, 16], [], 0), (0, [16], [], 42), (20, [15, 1], [7], 2), (90, [15], [], -2147483648), (91, [15], [], 2147483647), (30, [2], [], 0), (30, [14], [], 0), (0, [14], [], 0), (41, [12, 13], [], 0), (0, [13], [], 43), (20, [12, 1], [7], 2), (90, [12], [], -2147483648), (91, [12], [], 2147483647), (1098, [10, 11], [6, 7], 0), (0, [11], [], 10043), (20, [10, 1], [6], 8), (51, [10], [], 0), (31, [3], [], 0), (1091, [1, 9, 8], [5, 6], 0), (1092, [1], [4, 5], 0), (1090, [9, 1], [3, 4], 0), (90, [9], [], -2147483648), (91, [9], [], 2147483647), (1092, [1], [2, 3], 0), (1089, [8, 1], [1, 2], 0), (90, [8], [], 0), (91, [8], [], 1), (31, [4], [], 0), (30, [7], [], 0), (20, [7, 1], [1], 3), (90, [7], [], -2147483648), (91, [7], [], 2147483647), (45, [5, 6], [], 0), (0, [6], [], 500), (5000, [0, 1, 2, 3, 4, 5], [0, 1], 9), (0, [0], [], 30), (0, [1], [], 30), (90, [2], [], -2147483648), (91, [2], [], 2147483647), (90, [3], [], -2147483648), (91, [3], [], 2147483647), (90, [4], [], -2147483648), (91, [4], [], 2147483647), (90, [5], [], -2147483648), (91, [5], [], 2147483647)], (4000, [1, 18, 14, 4, 5, 8, 9], [7], 122)),
  ([(5, [18, 2, 17], [], 0), (0, [17], [], 1), (40, [15, 16], [], 0), (0, [16], [], 42), (20, [15, 1], [7], 2), (90, [15], [], -2147483648), (91, [15], [], 2147483647), (30, [2], [], 0), (30, [14], [], 0), (0, [14], [], 0), (41, [12, 13], [], 0), (0, [13], [], 43), (20, [12, 1], [7], 2), (90, [12], [], -2147483648), (91, [12], [], 2147483647), (1098, [10, 11], [6, 7], 0), (0, [11], [], 10043), (20, [10, 1], [6], 8), (51, [10], [], 0), (31, [3], [], 0), (1091, [1, 9, 8], [5, 6], 0), (1092, [1], [4, 5], 0), (1090, [9, 1], [3, 4], 0), (90, [9], [], -2147483648), (91, [9], [], 2147483647), (1092, [1], [2, 3], 0), (1089, [8, 1], [1, 2], 0), (90, [8], [], 0), (91, [8], [], 1), (31, [4], [], 0), (30, [7], [], 0), (20, [7, 1], [1], 3), (90, [7], [], -2147483648), (91, [7], [], 2147483647), (45, [5, 6], [], 0), (0, [6], [], 500), (5000, [0, 1, 2, 3, 4, 5], [0, 1], 9), (0, [0], [], 30), (0, [1], [], 30), (90, [2], [], -2147483648), (91, [2], [], 2147483647), (90, [3], [], -2147483648), (91, [3], [], 2147483647), (90, [4], [], -2147483648), (91, [4], [], 2147483647), (90, [5], [], -2147483648), (91, [5], [], 2147483647)], (4000, [1, 18, 14, 4, 5, 8, 9], [7], 122)),
  ([(5, [21, 17, 20], [], 0), (0, [20], [], 0), (41, [18, 19], [], 0), (0, [19], [], 42), (20, [18, 1], [8], 2), (90, [18], [], -2147483648), (91, [18], [], 2147483647), (0, [17], [], 0), (1098, [15, 16], [7, 8], 0), (0, [16], [], 10042), (20, [15, 1], [7], 8), (51, [15], [], 0), (31, [2], [], 0), (30, [14], [], 0), (0, [14], [], 0), (41, [12, 13], [], 0), (0, [13], [], 43), (20, [12, 1], [7], 2), (90, [12], [], -2147483648), (91, [12], [], 2147483647), (1098, [10, 11], [6, 7], 0), (0, [11], [], 10043), (20, [10, 1], [6], 8), (51, [10], [], 0), (31, [3], [], 0), (1091, [1, 9, 8], [5, 6], 0), (1092, [1], [4, 5], 0), (1090, [9, 1], [3, 4], 0), (90, [9], [], -2147483648), (91, [9], [], 2147483647), (1092, [1], [2, 3], 0), (1089, [8, 1], [1, 2], 0), (90, [8], [], 0), (91, [8], [], 1), (31, [4], [], 0), (30, [7], [], 0), (20, [7, 1], [1], 3), (90, [7], [], -2147483648), (91, [7], [], 2147483647), (45, [5, 6], [], 0), (0, [6], [], 500), (5000, [0, 1, 2, 3, 4, 5], [0, 1], 9), (0, [0], [], 30), (0, [1], [], 30), (90, [2], [], -2147483648), (91, [2], [], 2147483647), (90, [3], [], -2147483648), (91, [3], [], 2147483647), (90, [4], [], -2147483648), (91, [4], [], 2147483647), (90, [5], [], -2147483648), (91, [5], [], 2147483647)], (4000, [1, 21, 14, 4, 5, 8, 9], [8], 122)),
  ([(5, [21, 17, 20], [], 0), (0, [20], [], 1), (40, [18, 19], [], 0), (0, [19], [], 42), (20, [18, 1], [8], 2), (90, [18], [], -2147483648), (91, [18], [], 2147483647), (0, [17], [], 0), (1098, [15, 16], [7, 8], 0), (0, [16], [], 10042), (20, [15, 1], [7], 8), (51, [15], [], 0), (31, [2], [], 0), (30, [14], [], 0), (0, [14], [], 0), (41, [12, 13], [], 0), (0, [13], [], 43), (20, [12, 1], [7], 2), (90, [12], [], -2147483648), (91, [12], [], 2147483647), (1098, [10, 11], [6, 7], 0), (0, [11], [], 10043), (20, [10, 1], [6], 8), (51, [10], [], 0), (31, [3], [], 0), (1091, [1, 9, 8], [5, 6], 0), (1092, [1], [4, 5], 0), (1090, [9, 1], [3, 4], 0), (90, [9], [], -2147483648), (91, [9], [], 2147483647), (1092, [1], [2, 3], 0), (1089, [8, 1], [1, 2], 0), (90, [8], [], 0), (91, [8], [], 1), (31, [4], [], 0), (30, [7], [], 0), (20, [7, 1], [1], 3), (90, [7], [], -2147483648), (91, [7], [], 2147483647), (45, [5, 6], [], 0), (0, [6], [], 500), (5000, [0, 1, 2, 3, 4, 5], [0, 1], 9), (0, [0], [], 30), (0, [1], [], 30), (90, [2], [], -2147483648), (91, [2], [], 2147483647), (90, [3], [], -2147483648), (91, [3], [], 2147483647), (90, [4], [], -2147483648), (91, [4], [], 2147483647), (90, [5], [], -2147483648), (91, [5], [], 2147483647)], (4000, [1, 21, 14, 4, 5, 8, 9], [8], 122)),
  ([(5, [18, 2, 17], [], 0), (0, [17], [], 0), (41, [15, 16], [], 0), (0, [16], [], 42), (20, [15, 1], [7], 2), (90, [15], [], -2147483648), (91, [15], [], 2147483647), (31, [14], [], 0), (0, [14], [], 1), (40, [12, 13], [], 0), (0, [13], [], 43), (20, [12, 1], [7], 2), (90, [12], [], -2147483648), (91, [12], [], 2147483647), (1098, [10, 11], [6, 7], 0), (0, [11], [], 10043), (20, [10, 1], [6], 8), (51, [10], [], 0), (31, [3], [], 0), (1091, [1, 9, 8], [5, 6], 0), (1092, [1], [4, 5], 0), (1090, [9, 1], [3, 4], 0), (90, [9], [], -2147483648), (91, [9], [], 2147483647), (1092, [1], [2, 3], 0), (1089, [8, 1], [1, 2], 0), (90, [8], [], 0), (91, [8], [], 1), (31, [4], [], 0), (30, [7], [], 0), (20, [7, 1], [1], 3), (90, [7], [], -2147483648), (91, [7], [], 2147483647), (45, [5, 6], [], 0), (0, [6], [], 500), (5000, [0, 1, 2, 3, 4, 5], [0, 1], 9), (0, [0], [], 30), (0, [1], [], 30), (90, [2], [], -2147483648), (91, [2], [], 2147483647), (90, [3], [], -2147483648), (91, [3], [], 2147483647), (90, [4], [], -2147483648), (91, [4], [], 2147483647), (90, [5], [], -2147483648), (91, [5], [], 2147483647)], (4000, [1, 18, 14, 4, 5, 8, 9], [7], 122)),
  ([(5, [18, 2, 17], [], 0), (0, [17], [], 1), (40, [15, 16], [], 0), (0, [16], [], 42), (20, [15, 1], [7], 2), (90, [15], [], -2147483648), (91, [15], [], 2147483647), (31, [14], [], 0), (0, [14], [], 1), (40, [12, 13], [], 0), (0, [13], [], 43), (20, [12, 1], [7], 2), (90, [12], [], -2147483648), (91, [12], [], 2147483647), (1098, [10, 11], [6, 7], 0), (0, [11], [], 10043), (20, [10, 1], [6], 8), (51, [10], [], 0), (31, [3], [], 0), (1091, [1, 9, 8], [5, 6], 0), (1092, [1], [4, 5], 0), (1090, [9, 1], [3, 4], 0), (90, [9], [], -2147483648), (91, [9], [], 2147483647), (1092, [1], [2, 3], 0), (1089, [8, 1], [1, 2], 0), (90, [8], [], 0), (91, [8], [], 1), (31, [4], [], 0), (30, [7], [], 0), (20, [7, 1], [1], 3), (90, [7], [], -2147483648), (91, [7], [], 2147483647), (45, [5, 6], [], 0), (0, [6], [], 500), (5000, [0, 1, 2, 3, 4, 5], [0, 1], 9), (0, [0], [], 30), (0, [1], [], 30), (90, [2], [], -2147483648), (91, [2], [], 2147483647), (90, [3], [], -2147483648), (91, [3], [], 2147483647), (90, [4], [], -2147483648), (91, [4], [], 2147483647), (90, [5], [], -2147483648), (91, [5], [], 2147483647)], (4000, [1, 18, 14, 4, 5, 8, 9], [7], 122)),
  ([(5, [18, 2, 17], [], 0), (0, [17], [], 0), (41, [15, 16], [], 0), (0, [16], [], 42), (20, [15, 1], [7], 2), (90, [15], [], -2147483648), (91, [15], [], 2147483647), (30, [2], [], 0), (30, [14], [], 0), (0, [14], [], 1), (40, [12, 13], [], 0), (0, [13], [], 43), (20, [12, 1], [7], 2), (90, [12], [], -2147483648), (91, [12], [], 2147483647), (1098, [10, 11], [6, 7], 0), (0, [11], [], 10043), (20, [10, 1], [6], 8), (51, [10], [], 0), (31, [3], [], 0), (1091, [1, 9, 8], [5, 6], 0), (1092, [1], [4, 5], 0), (1090, [9, 1], [3, 4], 0), (90, [9], [], -2147483648), (91, [9], [], 2147483647), (1092, [1], [2, 3], 0), (1089, [8, 1], [1, 2], 0), (90, [8], [], 0), (91, [8], [], 1), (31, [4], [], 0), (30, [7], [], 0), (20, [7, 1], [1], 3), (90, [7], [], -2147483648), (91, [7], [], 2147483647), (45, [5, 6], [], 0), (0, [6], [], 500), (5000, [0, 1, 2, 3, 4, 5], [0, 1], 9), (0, [0], [], 30), (0, [1], [], 30), (90, [2], [], -2147483648), (91, [2], [], 2147483647), (90, [3], [], -2147483648), (91, [3], [], 2147483647), (90, [4], [], -2147483648), (91, [4], [], 2147483647), (90, [5], [], -2147483648), (91, [5], [], 2147483647)], (4000, [1, 18, 14, 4, 5, 8, 9], [7], 122)),
  ([(5, [18, 2, 17], [], 0), (0, [17], [], 1), (40, [15, 16], [], 0), (0, [16], [], 42), (20, [15, 1], [7], 2), (90, [15], [], -2147483648), (91, [15], [], 2147483647), (30, [2], [], 0), (30, [14], [], 0), (0, [14], [], 1), (40, [12, 13], [], 0), (0, [13], [], 43), (20, [12, 1], [7], 2), (90, [12], [], -2147483648), (91, [12], [], 2147483647), (1098, [10, 11], [6, 7], 0), (0, [11], [], 10043), (20, [10, 1], [6], 8), (51, [10], [], 0), (31, [3], [], 0), (1091, [1, 9, 8], [5, 6], 0), (1092, [1], [4, 5], 0), (1090, [9, 1], [3, 4], 0), (90, [9], [], -2147483648), (91, [9], [], 2147483647), (1092, [1], [2, 3], 0), (1089, [8, 1], [1, 2], 0), (90, [8], [], 0), (91, [8], [], 1), (31, [4], [], 0), (30, [7], [], 0), (20, [7, 1], [1], 3), (90, [7], [], -2147483648), (91, [7], [], 2147483647), (45, [5, 6], [], 0), (0, [6], [], 500), (5000, [0, 1, 2, 3, 4, 5], [0, 1], 9), (0, [0], [], 30), (0, [1], [], 30), (90, [2], [], -2147483648), (91, [2], [], 2147483647), (90, [3], [], -2147483648), (91, [3], [], 2147483647), (90, [4], [], -2147483648), (91, [4], [], 2147483647), (90, [5], [], -2147483648), (91, [5], [], 2147483647)], (4000, [1, 18, 14, 4, 5, 8, 9], [7], 122)),
  ([(5, [21, 17, 20], [], 0), (0, [20], [], 0), (41, [18, 19], [], 0), (0, [19], [], 42), (20, [18, 1], [8], 2), (90, [18], [], -2147483648), (91, [18], [], 2147483647), (0, [17], [], 0), (1098, [15, 16], [7, 8], 0), (0, [16], [], 10042), (20, [15, 1], [7], 8), (51, [15], [], 0), (31, [2], [], 0), (30, [14], [], 0), (0, [14], [], 1), (40, [12, 13], [], 0), (0, [13], [], 43), (20, [12, 1], [7], 2), (90, [12], [], -2147483648), (91, [12], [], 2147483647), (1098, [10, 11], [6, 7], 0), (0, [11], [], 10043), (20, [10, 1], [6], 8), (51, [10], [], 0), (31, [3], [], 0), (1091, [1, 9, 8], [5, 6], 0), (1092, [1], [4, 5], 0), (1090, [9, 1], [3, 4], 0), (90, [9], [], -2147483648), (91, [9], [], 2147483647), (1092, [1], [2, 3], 0), (1089, [8, 1], [1, 2], 0), (90, [8], [], 0), (91, [8], [], 1), (31, [4], [], 0), (30, [7], [], 0), (20, [7, 1], [1], 3), (90, [7], [], -2147483648), (91, [7], [], 2147483647), (45, [5, 6], [], 0), (0, [6], [], 500), (5000, [0, 1, 2, 3, 4, 5], [0, 1], 9), (0, [0], [], 30), (0, [1], [], 30), (90, [2], [], -2147483648), (91, [2], [], 2147483647), (90, [3], [], -2147483648), (91, [3], [], 2147483647), (90, [4], [], -2147483648), (91, [4], [], 2147483647), (90, [5], [], -2147483648), (91, [5], [], 2147483647)], (4000, [1, 21, 14, 4, 5, 8, 9], [8], 122)),
  ([(5, [21, 17, 20], [], 0), (0, [20], [], 1), (40, [18, 19], [], 0), (0, [19], [], 42), (20, [18, 1], [8], 2), (90, [18], [], -2147483648), (91, [18], [], 2147483647), (0, [17], [], 0), (1098, [15, 16], [7, 8], 0), (0, [16], [], 10042), (20, [15, 1], [7], 8), (51, [15], [], 0), (31, [2], [], 0), (30, [14], [], 0), (0, [14], [], 1), (40, [12, 13], [], 0), (0, [13], [], 43), (20, [12, 1], [7], 2), (90, [12], [], -2147483648), (91, [12], [], 2147483647), (1098, [10, 11], [6, 7], 0), (0, [11], [], 10043), (20, [10, 1], [6], 8), (51, [10], [], 0), (31, [3], [], 0), (1091, [1, 9, 8], [5, 6], 0), (1092, [1], [4, 5], 0), (1090, [9, 1], [3, 4], 0), (90, [9], [], -2147483648), (91, [9], [], 2147483647), (1092, [1], [2, 3], 0), (1089, [8, 1], [1, 2], 0), (90, [8], [], 0), (91, [8], [], 1), (31, [4], [], 0), (30, [7], [], 0), (20, [7, 1], [1], 3), (90, [7], [], -2147483648), (91, [7], [], 2147483647), (45, [5, 6], [], 0), (0, [6], [], 500), (5000, [0, 1, 2, 3, 4, 5], [0, 1], 9), (0, [0], [], 30), (0, [1], [], 30), (90, [2], [], -2147483648), (91, [2], [], 2147483647), (90, [3], [], -2147483648), (91, [3], [], 2147483647), (90, [4], [], -2147483648), (91, [4], [], 2147483647), (90, [5], [], -2147483648), (91, [5], [], 2147483647)], (4000, [1, 21, 14, 4, 5, 8, 9], [8], 122))]
theorem r_88v_9 : vCovO false (eRc e_88v L_88v cs_88v 2000 (9, [(0, (3, 4, 30, 0)), (1, (0, -2147483648, 2147483647, 0)), (2, (0, -2147483648, 2147483647, 0)), (3, (0, -2147483648, 2147483647, 0)), (4, (0, -2147483648, 2147483647, 0))])) p_88v_9 = true := by decide +kernel
theorem q_88v_32 {q0 : Nat} {n0 n1 n2 n3 n4 n5 n6 n7 n8 n9 n10 n11 : Int} {H0 H1 : gH} (f0 : n0 ≤ 2147483647) (f1 : (-2147483648) ≤ n0) (f2 : n1 ≤ 2147483647) (f3 : (-2147483648) ≤ n1) (f4 : n2 ≤ 2147483647) (f5 : (-2147483648) ≤ n2) (f6 : n3 ≤ 2147483647) (f7 : (-2147483648) ≤ n3) (f8 : n4 ≤ 2147483647) (f9 : (-2147483648) ≤ n4) (f10 : n5 ≤ 2147483647) (f11 : (-2147483648) ≤ n5) (f12 : n6 = 30) (f13 : n7 = 30) (f14 : (hLe T0 H0 H1 ∧ hFr s_88v.2.2.2.2 H0 H1 ∧ hWt T0 H1) ∧ (Ab_88v_122 n7 n6 n5 n4 n3 n2 n1 n0 H0 H1 ∧ preb_88v n7 H0) ∧ some q0 = some (mub_88v_122 n7 n6 n5 n4 n3 n2 n1 n0 H0 H1)) (f15 : n8 ≤ 2147483647) (f16 : (-2147483648) ≤ n8) (f17 : n8 = hV H1 (n6).toNat 2) (f18 : n9 = 43) (f19 : n8 = n9) (f20 : n10 = 1) (f21 : n10 = 0) (f22 : n11 = w32 (n2 + 1)) : Ab_88v_9 n7 n6 n5 n4 n10 n11 H0 H1 ∧ ∀ q, some q0 = some q → mub_88v_9 n7 n6 n5 n4 n10 n11 H0 H1 < q := by
  exfalso
  omega
theorem c_88v_122_0 {q0 : Nat} : vOkm T0 (eP e_88v L_88v A_88v mu_88v (some q0)) 1 ([(10, [11, 5], [], 1), (30, [10], [], 0), (0, [10], [], 1), (40, [8, 9], [], 0), (0, [9], [], 43), (20, [8, 1], [1], 2), (90, [8], [], -2147483648), (91, [8], [], 2147483647), (5000, [0, 1, 2, 3, 4, 5, 6, 7], [0, 1], 122), (0, [0], [], 30), (0, [1], [], 30), (90, [2], [], -2147483648), (91, [2], [], 2147483647), (90, [3], [], -2147483648), (91, [3], [], 2147483647), (90, [4], [], -2147483648), (91, [4], [], 2147483647), (90, [5], [], -2147483648), (91, [5], [], 2147483647), (90, [6], [], -2147483648), (91, [6], [], 2147483647), (90, [7], [], -2147483648), (91, [7], [], 2147483647)], (4000, [1, 2, 3, 10, 11], [1], 9)) := vOk_in fun ρ η h => by
  obtain ⟨f0, f1, f2, f3, f4, f5, f6, f7, f8, f9, f10, f11, f12, f13, f14, f15, f16, f17, f18, f19, f20, f21, f22, _⟩ := h
  exact q_88v_32 (q0 := q0) (n0 := ρ 7) (n1 := ρ 6) (n2 := ρ 5) (n3 := ρ 4) (n4 := ρ 3) (n5 := ρ 2) (n6 := ρ 1) (n7 := ρ 0) (n8 := ρ 8) (n9 := ρ 9) (n10 := ρ 10) (n11 := ρ 11) (H0 := η 0) (H1 := η 1) f22 f21 f20 f19 f18 f17 f16 f15 f14 f13 f12 f11 f10 f9 f8 f7 f6 f5 f4 f3 f2 f1 f0
theorem q_88v_33 {q0 : Nat} {n0 n1 n2 n3 n4 n5 n6 n7 n8 n9 n10 : Int} {H0 H1 : gH} (f0 : n0 ≤ 2147483647) (f1 : (-2147483648) ≤ n0) (f2 : n1 ≤ 2147483647) (f3 : (-2147483648) ≤ n1) (f4 : n2 ≤ 2147483647) (f5 : (-2147483648) ≤ n2) (f6 : n3 ≤ 2147483647) (f7 : (-2147483648) ≤ n3) (f8 : n4 ≤ 2147483647) (f9 : (-2147483648) ≤ n4) (f10 : n5 ≤ 2147483647) (f11 : (-2147483648) ≤ n5) (f12 : n6 = 30) (f13 : n7 = 30) (f14 : (hLe T0 H0 H1 ∧ hFr s_88v.2.2.2.2 H0 H1 ∧ hWt T0 H1) ∧ (Ab_88v_122 n7 n6 n5 n4 n3 n2 n1 n0 H0 H1 ∧ preb_88v n7 H0) ∧ some q0 = some (mub_88v_122 n7 n6 n5 n4 n3 n2 n1 n0 H0 H1)) (f15 : n8 ≤ 2147483647) (f16 : (-2147483648) ≤ n8) (f17 : n8 = hV H1 (n6).toNat 2) (f18 : n9 = 43) (f19 : n8 = n9) (f20 : n10 ≤ 2147483647) (f21 : (-2147483648) ≤ n10) (f22 : n10 = hV H1 (n6).toNat 2) : preb_66v n6 n10 H1 := by
  have pz := f14.2.1.2
  unfold preb_88v at pz
  have ga := f14.2.1.1
  unfold Ab_88v_122 at ga
  have vz : vwC H1 = vwC H0 := vwC_fr f14.1.2.1 (by decide +kernel)
  have b0 := kd_at ga.1
  rw [vz] at b0
  have g0 := f17
  rw [f12] at g0
  rw [show ((30 : Int)).toNat = 30 from rfl] at g0
  have h0 : (absC H1).1 < 0 ∨ (vwC H0).1 (absC H1).1 = 43 := by
    rcases b0 with q | q
    · exact .inl q
    · right
      rw [q]
      omega
  clear b0 h0
  have ga1_ := ga.1
  have gb := ga
  obtain ⟨_, s0_, s5, xn, yc⟩ := gb
  clear ga
  have gq22 := f22
  rw [f12] at gq22
  rw [show ((30 : Int)).toNat = 30 from rfl] at gq22
  unfold preb_66v
  exact ⟨ga1_, .inl (by (first | exact Int.le_antisymm (by omega) (by omega) | omega))⟩
theorem c_88v_122_1 {q0 : Nat} : vOkm T0 (eP e_88v L_88v A_88v mu_88v (some q0)) 1 ([(20, [11, 1], [1], 2), (90, [11], [], -2147483648), (91, [11], [], 2147483647), (40, [8, 9], [], 0), (0, [9], [], 43), (20, [8, 1], [1], 2), (90, [8], [], -2147483648), (91, [8], [], 2147483647), (5000, [0, 1, 2, 3, 4, 5, 6, 7], [0, 1], 122), (0, [0], [], 30), (0, [1], [], 30), (90, [2], [], -2147483648), (91, [2], [], 2147483647), (90, [3], [], -2147483648), (91, [3], [], 2147483647), (90, [4], [], -2147483648), (91, [4], [], 2147483647), (90, [5], [], -2147483648), (91, [5], [], 2147483647), (90, [6], [], -2147483648), (91, [6], [], 2147483647), (90, [7], [], -2147483648), (91, [7], [], 2147483647)], (2066, [1, 11], [1], 0)) := vOk_in fun ρ η h => by
  obtain ⟨f0, f1, f2, f3, f4, f5, f6, f7, f8, f9, f10, f11, f12, f13, f14, f15, f16, f17, f18, f19, f20, f21, f22, _⟩ := h
  exact q_88v_33 (q0 := q0) (n0 := ρ 7) (n1 := ρ 6) (n2 := ρ 5) (n3 := ρ 4) (n4 := ρ 3) (n5 := ρ 2) (n6 := ρ 1) (n7 := ρ 0) (n8 := ρ 8) (n9 := ρ 9) (n10 := ρ 11) (H0 := η 0) (H1 := η 1) f22 f21 f20 f19 f18 f17 f16 f15 f14 f13 f12 f11 f10 f9 f8 f7 f6 f5 f4 f3 f2 f1 f0
theorem q_88v_34 {q0 : Nat} {n0 n1 n2 n3 n4 n5 n6 n7 n8 n9 n10 n11 n12 : Int} {H0 H1 H2 : gH} (f0 : n0 ≤ 2147483647) (f1 : (-2147483648) ≤ n0) (f2 : n1 ≤ 2147483647) (f3 : (-2147483648) ≤ n1) (f4 : n2 ≤ 2147483647) (f5 : (-2147483648) ≤ n2) (f6 : n3 ≤ 2147483647) (f7 : (-2147483648) ≤ n3) (f8 : n4 ≤ 2147483647) (f9 : (-2147483648) ≤ n4) (f10 : n5 ≤ 2147483647) (f11 : (-2147483648) ≤ n5) (f12 : n6 = 30) (f13 : n7 = 30) (f14 : (hLe T0 H0 H1 ∧ hFr s_88v.2.2.2.2 H0 H1 ∧ hWt T0 H1) ∧ (Ab_88v_122 n7 n6 n5 n4 n3 n2 n1 n0 H0 H1 ∧ preb_88v n7 H0) ∧ some q0 = some (mub_88v_122 n7 n6 n5 n4 n3 n2 n1 n0 H0 H1)) (f15 : n8 ≤ 2147483647) (f16 : (-2147483648) ≤ n8) (f17 : n8 = hV H1 (n6).toNat 2) (f18 : n9 = 43) (f19 : n8 = n9) (f20 : n10 = 1) (f21 : n10 ≠ 0) (f22 : n11 ≤ 2147483647) (f23 : (-2147483648) ≤ n11) (f24 : n11 = hV H1 (n6).toNat 2) (f25 : (hLe T0 H1 H2 ∧ hFr s_66v.2.2.2.2 H1 H2 ∧ ((0 : Int) = 0 → H2.length = H1.length) ∧ hWt T0 H2) ∧ postb_66v n6 n11 H1 H2) (f26 : n12 = w32 (n2 + 1)) : Ab_88v_9 n7 n6 n5 n4 n10 n12 H0 H2 ∧ ∀ q, some q0 = some q → mub_88v_9 n7 n6 n5 n4 n10 n12 H0 H2 < q := by
  have pz := f14.2.1.2
  unfold preb_88v at pz
  have ga := f14.2.1.1
  unfold Ab_88v_122 at ga
  have vz : vwC H1 = vwC H0 := vwC_fr f14.1.2.1 (by decide +kernel)
  have x0_11 := f24
  rw [f12] at x0_11
  rw [show ((30 : Int)).toNat = 30 from rfl] at x0_11
  have u0_11 := f17
  rw [f12] at u0_11
  rw [show ((30 : Int)).toNat = 30 from rfl] at u0_11
  have kx0_11 : n11 = 43 := by (first | exact Int.le_antisymm (by omega) (by omega) | omega)
  have c0 := f25.2
  unfold postb_66v at c0
  rw [kx0_11] at c0
  rw [vz] at c0
  have a0 : absC H2 = (ptk (vwC H0) 43 (absC H1)) := c0.2
  have v0 : vwC H2 = vwC H0 := (vwC_fr f25.1.2.1 (by decide +kernel)).trans vz
  have b0 := kd_at ga.1
  rw [vz] at b0
  have g0 := f17
  rw [f12] at g0
  rw [show ((30 : Int)).toNat = 30 from rfl] at g0
  have h0 : (absC H1).1 < 0 ∨ (vwC H0).1 (absC H1).1 = 43 := by
    rcases b0 with q | q
    · exact .inl q
    · right
      rw [q]
      omega
  clear b0
  have ga1_ := ga.1
  have gb := ga
  obtain ⟨_, s0_, s5, xn, yc⟩ := gb
  clear ga
  have q26_ := f26
  unfold w32 at q26_
  have g5 := Option.some.inj f14.2.2
  unfold mub_88v_122 at g5
  unfold Ab_88v_9 mub_88v_9
  refine ⟨⟨c0.1, by (first | exact Int.le_antisymm (by omega) (by omega) | omega), by (first | exact Int.le_antisymm (by omega) (by omega) | omega), fun hf => ?_, fun h3 => ?_, fun h3 => ?_⟩, fun q hq => ?_⟩
  · have a2 := absC_pos c0.1 hf
    have a3 := ptk_mono (c := 43) (p := absC H1) pz.2.1 (by rw [← a0]; exact a2.2)
    have a4 := absC_pos ga1_ (fault_no ga1_ a3.1)
    have u := xn (fault_no ga1_ a3.1)
    rw [← a0] at a3
    omega
  · rw [a0, show 502 - (n12).toNat = 502 - (n2).toNat - 1 by (first | exact Int.le_antisymm (by omega) (by omega) | omega)]
    rcases h0 with q | q
    · rw [ptk_neg q (absC_ok ga1_), pCond_neg (vwC_ok H0) q (absC_ok ga1_)]
      rw [if_neg (by rw [vwC_ok H0 _ q]; decide)] at yc
      exact yc
    · rw [if_pos (by (first | exact Int.le_antisymm (by omega) (by omega) | omega)), q] at yc
      exact yc
  · exact absurd h3 (by (first | exact Int.le_antisymm (by omega) (by omega) | omega))
  · have g6 := Option.some.inj hq
    subst g6
    omega
theorem c_88v_122_2 {q0 : Nat} : vOkm T0 (eP e_88v L_88v A_88v mu_88v (some q0)) 1 ([(10, [12, 5], [], 1), (1066, [1, 11], [1, 2], 0), (20, [11, 1], [1], 2), (90, [11], [], -2147483648), (91, [11], [], 2147483647), (31, [10], [], 0), (0, [10], [], 1), (40, [8, 9], [], 0), (0, [9], [], 43), (20, [8, 1], [1], 2), (90, [8], [], -2147483648), (91, [8], [], 2147483647), (5000, [0, 1, 2, 3, 4, 5, 6, 7], [0, 1], 122), (0, [0], [], 30), (0, [1], [], 30), (90, [2], [], -2147483648), (91, [2], [], 2147483647), (90, [3], [], -2147483648), (91, [3], [], 2147483647), (90, [4], [], -2147483648), (91, [4], [], 2147483647), (90, [5], [], -2147483648), (91, [5], [], 2147483647), (90, [6], [], -2147483648), (91, [6], [], 2147483647), (90, [7], [], -2147483648), (91, [7], [], 2147483647)], (4000, [1, 2, 3, 10, 12], [2], 9)) := vOk_in fun ρ η h => by
  obtain ⟨f0, f1, f2, f3, f4, f5, f6, f7, f8, f9, f10, f11, f12, f13, f14, f15, f16, f17, f18, f19, f20, f21, f22, f23, f24, f25, f26, _⟩ := h
  exact q_88v_34 (q0 := q0) (n0 := ρ 7) (n1 := ρ 6) (n2 := ρ 5) (n3 := ρ 4) (n4 := ρ 3) (n5 := ρ 2) (n6 := ρ 1) (n7 := ρ 0) (n8 := ρ 8) (n9 := ρ 9) (n10 := ρ 10) (n11 := ρ 11) (n12 := ρ 12) (H0 := η 0) (H1 := η 1) (H2 := η 2) f26 f25 f24 f23 f22 f21 f20 f19 f18 f17 f16 f15 f14 f13 f12 f11 f10 f9 f8 f7 f6 f5 f4 f3 f2 f1 f0
theorem q_88v_35 {q0 : Nat} {n0 n1 n2 n3 n4 n5 n6 n7 n8 n9 n10 n11 n12 n13 : Int} {H0 H1 : gH} (f0 : n0 ≤ 2147483647) (f1 : (-2147483648) ≤ n0) (f2 : n1 ≤ 2147483647) (f3 : (-2147483648) ≤ n1) (f4 : n2 ≤ 2147483647) (f5 : (-2147483648) ≤ n2) (f6 : n3 ≤ 2147483647) (f7 : (-2147483648) ≤ n3) (f8 : n4 ≤ 2147483647) (f9 : (-2147483648) ≤ n4) (f10 : n5 ≤ 2147483647) (f11 : (-2147483648) ≤ n5) (f12 : n6 = 30) (f13 : n7 = 30) (f14 : (hLe T0 H0 H1 ∧ hFr s_88v.2.2.2.2 H0 H1 ∧ hWt T0 H1) ∧ (Ab_88v_122 n7 n6 n5 n4 n3 n2 n1 n0 H0 H1 ∧ preb_88v n7 H0) ∧ some q0 = some (mub_88v_122 n7 n6 n5 n4 n3 n2 n1 n0 H0 H1)) (f15 : n8 ≤ 2147483647) (f16 : (-2147483648) ≤ n8) (f17 : n8 = hV H1 (n6).toNat 2) (f18 : n9 = 43) (f19 : n8 ≠ n9) (f20 : n10 ≤ 2147483647) (f21 : (-2147483648) ≤ n10) (f22 : n10 = hV H1 (n6).toNat 2) (f23 : n11 = 42) (f24 : n10 ≠ n11) (f25 : n12 = 0) (f26 : n12 = 0) (f27 : n13 = w32 (n2 + 1)) : Ab_88v_9 n7 n6 n5 n4 n12 n13 H0 H1 ∧ ∀ q, some q0 = some q → mub_88v_9 n7 n6 n5 n4 n12 n13 H0 H1 < q := by
  have pz := f14.2.1.2
  unfold preb_88v at pz
  have ga := f14.2.1.1
  unfold Ab_88v_122 at ga
  have vz : vwC H1 = vwC H0 := vwC_fr f14.1.2.1 (by decide +kernel)
  have b0 := kd_at ga.1
  rw [vz] at b0
  have g0 := f17
  rw [f12] at g0
  rw [show ((30 : Int)).toNat = 30 from rfl] at g0
  have h0 : (absC H1).1 < 0 ∨ ¬ (vwC H0).1 (absC H1).1 = 43 := by
    rcases b0 with q | q
    · exact .inl q
    · right
      rw [q]
      omega
  clear b0
  have b1 := kd_at ga.1
  rw [vz] at b1
  have g1 := f22
  rw [f12] at g1
  rw [show ((30 : Int)).toNat = 30 from rfl] at g1
  have h1 : (absC H1).1 < 0 ∨ ¬ (vwC H0).1 (absC H1).1 = 42 := by
    rcases b1 with q | q
    · exact .inl q
    · right
      rw [q]
      omega
  clear b1
  have ga1_ := ga.1
  have gb := ga
  obtain ⟨_, s0_, s5, xn, yc⟩ := gb
  clear ga
  have q27_ := f27
  unfold w32 at q27_
  have g5 := Option.some.inj f14.2.2
  unfold mub_88v_122 at g5
  unfold Ab_88v_9 mub_88v_9
  refine ⟨⟨ga1_, by (first | exact Int.le_antisymm (by omega) (by omega) | omega), by (first | exact Int.le_antisymm (by omega) (by omega) | omega), fun hf => ?_, fun h3 => ?_, fun h3 => ?_⟩, fun q hq => ?_⟩
  · have u := xn hf
    omega
  · exact absurd h3 (by (first | exact Int.le_antisymm (by omega) (by omega) | omega))
  · rw [if_neg (fun w => by
      rcases w with w | w
      · rcases h1 with q | q
        · rw [vwC_ok H0 _ q] at w
          exact absurd w (by decide)
        · exact q w
      · rcases h0 with q | q
        · rw [vwC_ok H0 _ q] at w
          exact absurd w (by decide)
        · exact q w)] at yc
    exact yc
  · have g6 := Option.some.inj hq
    subst g6
    omega
theorem c_88v_122_3 {q0 : Nat} : vOkm T0 (eP e_88v L_88v A_88v mu_88v (some q0)) 1 ([(10, [13, 5], [], 1), (30, [12], [], 0), (0, [12], [], 0), (41, [10, 11], [], 0), (0, [11], [], 42), (20, [10, 1], [1], 2), (90, [10], [], -2147483648), (91, [10], [], 2147483647), (41, [8, 9], [], 0), (0, [9], [], 43), (20, [8, 1], [1], 2), (90, [8], [], -2147483648), (91, [8], [], 2147483647), (5000, [0, 1, 2, 3, 4, 5, 6, 7], [0, 1], 122), (0, [0], [], 30), (0, [1], [], 30), (90, [2], [], -2147483648), (91, [2], [], 2147483647), (90, [3], [], -2147483648), (91, [3], [], 2147483647), (90, [4], [], -2147483648), (91, [4], [], 2147483647), (90, [5], [], -2147483648), (91, [5], [], 2147483647), (90, [6], [], -2147483648), (91, [6], [], 2147483647), (90, [7], [], -2147483648), (91, [7], [], 2147483647)], (4000, [1, 2, 3, 12, 13], [1], 9)) := vOk_in fun ρ η h => by
  obtain ⟨f0, f1, f2, f3, f4, f5, f6, f7, f8, f9, f10, f11, f12, f13, f14, f15, f16, f17, f18, f19, f20, f21, f22, f23, f24, f25, f26, f27, _⟩ := h
  exact q_88v_35 (q0 := q0) (n0 := ρ 7) (n1 := ρ 6) (n2 := ρ 5) (n3 := ρ 4) (n4 := ρ 3) (n5 := ρ 2) (n6 := ρ 1) (n7 := ρ 0) (n8 := ρ 8) (n9 := ρ 9) (n10 := ρ 10) (n11 := ρ 11) (n12 := ρ 12) (n13 := ρ 13) (H0 := η 0) (H1 := η 1) f27 f26 f25 f24 f23 f22 f21 f20 f19 f18 f17 f16 f15 f14 f13 f12 f11 f10 f9 f8 f7 f6 f5 f4 f3 f2 f1 f0
theorem q_88v_36 {q0 : Nat} {n0 n1 n2 n3 n4 n5 n6 n7 n8 n9 n10 n11 n12 n13 : Int} {H0 H1 : gH} (f0 : n0 ≤ 2147483647) (f1 : (-2147483648) ≤ n0) (f2 : n1 ≤ 2147483647) (f3 : (-2147483648) ≤ n1) (f4 : n2 ≤ 2147483647) (f5 : (-2147483648) ≤ n2) (f6 : n3 ≤ 2147483647) (f7 : (-2147483648) ≤ n3) (f8 : n4 ≤ 2147483647) (f9 : (-2147483648) ≤ n4) (f10 : n5 ≤ 2147483647) (f11 : (-2147483648) ≤ n5) (f12 : n6 = 30) (f13 : n7 = 30) (f14 : (hLe T0 H0 H1 ∧ hFr s_88v.2.2.2.2 H0 H1 ∧ hWt T0 H1) ∧ (Ab_88v_122 n7 n6 n5 n4 n3 n2 n1 n0 H0 H1 ∧ preb_88v n7 H0) ∧ some q0 = some (mub_88v_122 n7 n6 n5 n4 n3 n2 n1 n0 H0 H1)) (f15 : n8 ≤ 2147483647) (f16 : (-2147483648) ≤ n8) (f17 : n8 = hV H1 (n6).toNat 2) (f18 : n9 = 43) (f19 : n8 ≠ n9) (f20 : n10 ≤ 2147483647) (f21 : (-2147483648) ≤ n10) (f22 : n10 = hV H1 (n6).toNat 2) (f23 : n11 = 42) (f24 : n10 ≠ n11) (f25 : n12 = 0) (f26 : n12 ≠ 0) (f27 : n13 ≤ 2147483647) (f28 : (-2147483648) ≤ n13) (f29 : n13 = hV H1 (n6).toNat 2) : preb_66v n6 n13 H1 := by
  exfalso
  omega
theorem c_88v_122_4 {q0 : Nat} : vOkm T0 (eP e_88v L_88v A_88v mu_88v (some q0)) 1 ([(20, [13, 1], [1], 2), (90, [13], [], -2147483648), (91, [13], [], 2147483647), (31, [12], [], 0), (0, [12], [], 0), (41, [10, 11], [], 0), (0, [11], [], 42), (20, [10, 1], [1], 2), (90, [10], [], -2147483648), (91, [10], [], 2147483647), (41, [8, 9], [], 0), (0, [9], [], 43), (20, [8, 1], [1], 2), (90, [8], [], -2147483648), (91, [8], [], 2147483647), (5000, [0, 1, 2, 3, 4, 5, 6, 7], [0, 1], 122), (0, [0], [], 30), (0, [1], [], 30), (90, [2], [], -2147483648), (91, [2], [], 2147483647), (90, [3], [], -2147483648), (91, [3], [], 2147483647), (90, [4], [], -2147483648), (91, [4], [], 2147483647), (90, [5], [], -2147483648), (91, [5], [], 2147483647), (90, [6], [], -2147483648), (91, [6], [], 2147483647), (90, [7], [], -2147483648), (91, [7], [], 2147483647)], (2066, [1, 13], [1], 0)) := vOk_in fun ρ η h => by
  obtain ⟨f0, f1, f2, f3, f4, f5, f6, f7, f8, f9, f10, f11, f12, f13, f14, f15, f16, f17, f18, f19, f20, f21, f22, f23, f24, f25, f26, f27, f28, f29, _⟩ := h
  exact q_88v_36 (q0 := q0) (n0 := ρ 7) (n1 := ρ 6) (n2 := ρ 5) (n3 := ρ 4) (n4 := ρ 3) (n5 := ρ 2) (n6 := ρ 1) (n7 := ρ 0) (n8 := ρ 8) (n9 := ρ 9) (n10 := ρ 10) (n11 := ρ 11) (n12 := ρ 12) (n13 := ρ 13) (H0 := η 0) (H1 := η 1) f29 f28 f27 f26 f25 f24 f23 f22 f21 f20 f19 f18 f17 f16 f15 f14 f13 f12 f11 f10 f9 f8 f7 f6 f5 f4 f3 f2 f1 f0
theorem q_88v_37 {q0 : Nat} {n0 n1 n2 n3 n4 n5 n6 n7 n8 n9 n10 n11 n12 n13 n14 : Int} {H0 H1 H2 : gH} (f0 : n0 ≤ 2147483647) (f1 : (-2147483648) ≤ n0) (f2 : n1 ≤ 2147483647) (f3 : (-2147483648) ≤ n1) (f4 : n2 ≤ 2147483647) (f5 : (-2147483648) ≤ n2) (f6 : n3 ≤ 2147483647) (f7 : (-2147483648) ≤ n3) (f8 : n4 ≤ 2147483647) (f9 : (-2147483648) ≤ n4) (f10 : n5 ≤ 2147483647) (f11 : (-2147483648) ≤ n5) (f12 : n6 = 30) (f13 : n7 = 30) (f14 : (hLe T0 H0 H1 ∧ hFr s_88v.2.2.2.2 H0 H1 ∧ hWt T0 H1) ∧ (Ab_88v_122 n7 n6 n5 n4 n3 n2 n1 n0 H0 H1 ∧ preb_88v n7 H0) ∧ some q0 = some (mub_88v_122 n7 n6 n5 n4 n3 n2 n1 n0 H0 H1)) (f15 : n8 ≤ 2147483647) (f16 : (-2147483648) ≤ n8) (f17 : n8 = hV H1 (n6).toNat 2) (f18 : n9 = 43) (f19 : n8 ≠ n9) (f20 : n10 ≤ 2147483647) (f21 : (-2147483648) ≤ n10) (f22 : n10 = hV H1 (n6).toNat 2) (f23 : n11 = 42) (f24 : n10 ≠ n11) (f25 : n12 = 0) (f26 : n12 ≠ 0) (f27 : n13 ≤ 2147483647) (f28 : (-2147483648) ≤ n13) (f29 : n13 = hV H1 (n6).toNat 2) (f30 : (hLe T0 H1 H2 ∧ hFr s_66v.2.2.2.2 H1 H2 ∧ ((0 : Int) = 0 → H2.length = H1.length) ∧ hWt T0 H2) ∧ postb_66v n6 n13 H1 H2) (f31 : n14 = w32 (n2 + 1)) : Ab_88v_9 n7 n6 n5 n4 n12 n14 H0 H2 ∧ ∀ q, some q0 = some q → mub_88v_9 n7 n6 n5 n4 n12 n14 H0 H2 < q := by
  exfalso
  omega
theorem c_88v_122_5 {q0 : Nat} : vOkm T0 (eP e_88v L_88v A_88v mu_88v (some q0)) 1 ([(10, [14, 5], [], 1), (1066, [1, 13], [1, 2], 0), (20, [13, 1], [1], 2), (90, [13], [], -2147483648), (91, [13], [], 2147483647), (31, [12], [], 0), (0, [12], [], 0), (41, [10, 11], [], 0), (0, [11], [], 42), (20, [10, 1], [1], 2), (90, [10], [], -2147483648), (91, [10], [], 2147483647), (41, [8, 9], [], 0), (0, [9], [], 43), (20, [8, 1], [1], 2), (90, [8], [], -2147483648), (91, [8], [], 2147483647), (5000, [0, 1, 2, 3, 4, 5, 6, 7], [0, 1], 122), (0, [0], [], 30), (0, [1], [], 30), (90, [2], [], -2147483648), (91, [2], [], 2147483647), (90, [3], [], -2147483648), (91, [3], [], 2147483647), (90, [4], [], -2147483648), (91, [4], [], 2147483647), (90, [5], [], -2147483648), (91, [5], [], 2147483647), (90, [6], [], -2147483648), (91, [6], [], 2147483647), (90, [7], [], -2147483648), (91, [7], [], 2147483647)], (4000, [1, 2, 3, 12, 14], [2], 9)) := vOk_in fun ρ η h => by
  obtain ⟨f0, f1, f2, f3, f4, f5, f6, f7, f8, f9, f10, f11, f12, f13, f14, f15, f16, f17, f18, f19, f20, f21, f22, f23, f24, f25, f26, f27, f28, f29, f30, f31, _⟩ := h
  exact q_88v_37 (q0 := q0) (n0 := ρ 7) (n1 := ρ 6) (n2 := ρ 5) (n3 := ρ 4) (n4 := ρ 3) (n5 := ρ 2) (n6 := ρ 1) (n7 := ρ 0) (n8 := ρ 8) (n9 := ρ 9) (n10 := ρ 10) (n11 := ρ 11) (n12 := ρ 12) (n13 := ρ 13) (n14 := ρ 14) (H0 := η 0) (H1 := η 1) (H2 := η 2) f31 f30 f29 f28 f27 f26 f25 f24 f23 f22 f21 f20 f19 f18 f17 f16 f15 f14 f13 f12 f11 f10 f9 f8 f7 f6 f5 f4 f3 f2 f1 f0
theorem q_88v_38 {q0 : Nat} {n0 n1 n2 n3 n4 n5 n6 n7 n8 n9 n10 n11 n12 n13 : Int} {H0 H1 : gH} (f0 : n0 ≤ 2147483647) (f1 : (-2147483648) ≤ n0) (f2 : n1 ≤ 2147483647) (f3 : (-2147483648) ≤ n1) (f4 : n2 ≤ 2147483647) (f5 : (-2147483648) ≤ n2) (f6 : n3 ≤ 2147483647) (f7 : (-2147483648) ≤ n3) (f8 : n4 ≤ 2147483647) (f9 : (-2147483648) ≤ n4) (f10 : n5 ≤ 2147483647) (f11 : (-2147483648) ≤ n5) (f12 : n6 = 30) (f13 : n7 = 30) (f14 : (hLe T0 H0 H1 ∧ hFr s_88v.2.2.2.2 H0 H1 ∧ hWt T0 H1) ∧ (Ab_88v_122 n7 n6 n5 n4 n3 n2 n1 n0 H0 H1 ∧ preb_88v n7 H0) ∧ some q0 = some (mub_88v_122 n7 n6 n5 n4 n3 n2 n1 n0 H0 H1)) (f15 : n8 ≤ 2147483647) (f16 : (-2147483648) ≤ n8) (f17 : n8 = hV H1 (n6).toNat 2) (f18 : n9 = 43) (f19 : n8 ≠ n9) (f20 : n10 ≤ 2147483647) (f21 : (-2147483648) ≤ n10) (f22 : n10 = hV H1 (n6).toNat 2) (f23 : n11 = 42) (f24 : n10 = n11) (f25 : n12 = 1) (f26 : n12 = 0) (f27 : n13 = w32 (n2 + 1)) : Ab_88v_9 n7 n6 n5 n4 n12 n13 H0 H1 ∧ ∀ q, some q0 = some q → mub_88v_9 n7 n6 n5 n4 n12 n13 H0 H1 < q := by
  exfalso
  omega
theorem c_88v_122_6 {q0 : Nat} : vOkm T0 (eP e_88v L_88v A_88v mu_88v (some q0)) 1 ([(10, [13, 5], [], 1), (30, [12], [], 0), (0, [12], [], 1), (40, [10, 11], [], 0), (0, [11], [], 42), (20, [10, 1], [1], 2), (90, [10], [], -2147483648), (91, [10], [], 2147483647), (41, [8, 9], [], 0), (0, [9], [], 43), (20, [8, 1], [1], 2), (90, [8], [], -2147483648), (91, [8], [], 2147483647), (5000, [0, 1, 2, 3, 4, 5, 6, 7], [0, 1], 122), (0, [0], [], 30), (0, [1], [], 30), (90, [2], [], -2147483648), (91, [2], [], 2147483647), (90, [3], [], -2147483648), (91, [3], [], 2147483647), (90, [4], [], -2147483648), (91, [4], [], 2147483647), (90, [5], [], -2147483648), (91, [5], [], 2147483647), (90, [6], [], -2147483648), (91, [6], [], 2147483647), (90, [7], [], -2147483648), (91, [7], [], 2147483647)], (4000, [1, 2, 3, 12, 13], [1], 9)) := vOk_in fun ρ η h => by
  obtain ⟨f0, f1, f2, f3, f4, f5, f6, f7, f8, f9, f10, f11, f12, f13, f14, f15, f16, f17, f18, f19, f20, f21, f22, f23, f24, f25, f26, f27, _⟩ := h
  exact q_88v_38 (q0 := q0) (n0 := ρ 7) (n1 := ρ 6) (n2 := ρ 5) (n3 := ρ 4) (n4 := ρ 3) (n5 := ρ 2) (n6 := ρ 1) (n7 := ρ 0) (n8 := ρ 8) (n9 := ρ 9) (n10 := ρ 10) (n11 := ρ 11) (n12 := ρ 12) (n13 := ρ 13) (H0 := η 0) (H1 := η 1) f27 f26 f25 f24 f23 f22 f21 f20 f19 f18 f17 f16 f15 f14 f13 f12 f11 f10 f9 f8 f7 f6 f5 f4 f3 f2 f1 f0
theorem q_88v_39 {q0 : Nat} {n0 n1 n2 n3 n4 n5 n6 n7 n8 n9 n10 n11 n12 : Int} {H0 H1 : gH} (f0 : n0 ≤ 2147483647) (f1 : (-2147483648) ≤ n0) (f2 : n1 ≤ 2147483647) (f3 : (-2147483648) ≤ n1) (f4 : n2 ≤ 2147483647) (f5 : (-2147483648) ≤ n2) (f6 : n3 ≤ 2147483647) (f7 : (-2147483648) ≤ n3) (f8 : n4 ≤ 2147483647) (f9 : (-2147483648) ≤ n4) (f10 : n5 ≤ 2147483647) (f11 : (-2147483648) ≤ n5) (f12 : n6 = 30) (f13 : n7 = 30) (f14 : (hLe T0 H0 H1 ∧ hFr s_88v.2.2.2.2 H0 H1 ∧ hWt T0 H1) ∧ (Ab_88v_122 n7 n6 n5 n4 n3 n2 n1 n0 H0 H1 ∧ preb_88v n7 H0) ∧ some q0 = some (mub_88v_122 n7 n6 n5 n4 n3 n2 n1 n0 H0 H1)) (f15 : n8 ≤ 2147483647) (f16 : (-2147483648) ≤ n8) (f17 : n8 = hV H1 (n6).toNat 2) (f18 : n9 = 43) (f19 : n8 ≠ n9) (f20 : n10 ≤ 2147483647) (f21 : (-2147483648) ≤ n10) (f22 : n10 = hV H1 (n6).toNat 2) (f23 : n11 = 42) (f24 : n10 = n11) (f25 : n12 ≤ 2147483647) (f26 : (-2147483648) ≤ n12) (f27 : n12 = hV H1 (n6).toNat 2) : preb_66v n6 n12 H1 := by
  have pz := f14.2.1.2
  unfold preb_88v at pz
  have ga := f14.2.1.1
  unfold Ab_88v_122 at ga
  have vz : vwC H1 = vwC H0 := vwC_fr f14.1.2.1 (by decide +kernel)
  have b0 := kd_at ga.1
  rw [vz] at b0
  have g0 := f17
  rw [f12] at g0
  rw [show ((30 : Int)).toNat = 30 from rfl] at g0
  have h0 : (absC H1).1 < 0 ∨ ¬ (vwC H0).1 (absC H1).1 = 43 := by
    rcases b0 with q | q
    · exact .inl q
    · right
      rw [q]
      omega
  clear b0 h0
  have b1 := kd_at ga.1
  rw [vz] at b1
  have g1 := f22
  rw [f12] at g1
  rw [show ((30 : Int)).toNat = 30 from rfl] at g1
  have h1 : (absC H1).1 < 0 ∨ (vwC H0).1 (absC H1).1 = 42 := by
    rcases b1 with q | q
    · exact .inl q
    · right
      rw [q]
      omega
  clear b1 h1
  have ga1_ := ga.1
  have gb := ga
  obtain ⟨_, s0_, s5, xn, yc⟩ := gb
  clear ga
  have gq27 := f27
  rw [f12] at gq27
  rw [show ((30 : Int)).toNat = 30 from rfl] at gq27
  unfold preb_66v
  exact ⟨ga1_, .inl (by (first | exact Int.le_antisymm (by omega) (by omega) | omega))⟩
theorem c_88v_122_7 {q0 : Nat} : vOkm T0 (eP e_88v L_88v A_88v mu_88v (some q0)) 1 ([(20, [13, 1], [1], 2), (90, [13], [], -2147483648), (91, [13], [], 2147483647), (40, [10, 11], [], 0), (0, [11], [], 42), (20, [10, 1], [1], 2), (90, [10], [], -2147483648), (91, [10], [], 2147483647), (41, [8, 9], [], 0), (0, [9], [], 43), (20, [8, 1], [1], 2), (90, [8], [], -2147483648), (91, [8], [], 2147483647), (5000, [0, 1, 2, 3, 4, 5, 6, 7], [0, 1], 122), (0, [0], [], 30), (0, [1], [], 30), (90, [2], [], -2147483648), (91, [2], [], 2147483647), (90, [3], [], -2147483648), (91, [3], [], 2147483647), (90, [4], [], -2147483648), (91, [4], [], 2147483647), (90, [5], [], -2147483648), (91, [5], [], 2147483647), (90, [6], [], -2147483648), (91, [6], [], 2147483647), (90, [7], [], -2147483648), (91, [7], [], 2147483647)], (2066, [1, 13], [1], 0)) := vOk_in fun ρ η h => by
  obtain ⟨f0, f1, f2, f3, f4, f5, f6, f7, f8, f9, f10, f11, f12, f13, f14, f15, f16, f17, f18, f19, f20, f21, f22, f23, f24, f25, f26, f27, _⟩ := h
  exact q_88v_39 (q0 := q0) (n0 := ρ 7) (n1 := ρ 6) (n2 := ρ 5) (n3 := ρ 4) (n4 := ρ 3) (n5 := ρ 2) (n6 := ρ 1) (n7 := ρ 0) (n8 := ρ 8) (n9 := ρ 9) (n10 := ρ 10) (n11 := ρ 11) (n12 := ρ 13) (H0 := η 0) (H1 := η 1) f27 f26 f25 f24 f23 f22 f21 f20 f19 f18 f17 f16 f15 f14 f13 f12 f11 f10 f9 f8 f7 f6 f5 f4 f3 f2 f1 f0
theorem q_88v_40 {q0 : Nat} {n0 n1 n2 n3 n4 n5 n6 n7 n8 n9 n10 n11 n12 n13 n14 : Int} {H0 H1 H2 : gH} (f0 : n0 ≤ 2147483647) (f1 : (-2147483648) ≤ n0) (f2 : n1 ≤ 2147483647) (f3 : (-2147483648) ≤ n1) (f4 : n2 ≤ 2147483647) (f5 : (-2147483648) ≤ n2) (f6 : n3 ≤ 2147483647) (f7 : (-2147483648) ≤ n3) (f8 : n4 ≤ 2147483647) (f9 : (-2147483648) ≤ n4) (f10 : n5 ≤ 2147483647) (f11 : (-2147483648) ≤ n5) (f12 : n6 = 30) (f13 : n7 = 30) (f14 : (hLe T0 H0 H1 ∧ hFr s_88v.2.2.2.2 H0 H1 ∧ hWt T0 H1) ∧ (Ab_88v_122 n7 n6 n5 n4 n3 n2 n1 n0 H0 H1 ∧ preb_88v n7 H0) ∧ some q0 = some (mub_88v_122 n7 n6 n5 n4 n3 n2 n1 n0 H0 H1)) (f15 : n8 ≤ 2147483647) (f16 : (-2147483648) ≤ n8) (f17 : n8 = hV H1 (n6).toNat 2) (f18 : n9 = 43) (f19 : n8 ≠ n9) (f20 : n10 ≤ 2147483647) (f21 : (-2147483648) ≤ n10) (f22 : n10 = hV H1 (n6).toNat 2) (f23 : n11 = 42) (f24 : n10 = n11) (f25 : n12 = 1) (f26 : n12 ≠ 0) (f27 : n13 ≤ 2147483647) (f28 : (-2147483648) ≤ n13) (f29 : n13 = hV H1 (n6).toNat 2) (f30 : (hLe T0 H1 H2 ∧ hFr s_66v.2.2.2.2 H1 H2 ∧ ((0 : Int) = 0 → H2.length = H1.length) ∧ hWt T0 H2) ∧ postb_66v n6 n13 H1 H2) (f31 : n14 = w32 (n2 + 1)) : Ab_88v_9 n7 n6 n5 n4 n12 n14 H0 H2 ∧ ∀ q, some q0 = some q → mub_88v_9 n7 n6 n5 n4 n12 n14 H0 H2 < q := by
  have pz := f14.2.1.2
  unfold preb_88v at pz
  have ga := f14.2.1.1
  unfold Ab_88v_122 at ga
  have vz : vwC H1 = vwC H0 := vwC_fr f14.1.2.1 (by decide +kernel)
  have x0_13 := f29
  rw [f12] at x0_13
  rw [show ((30 : Int)).toNat = 30 from rfl] at x0_13
  have u0_13 := f22
  rw [f12] at u0_13
  rw [show ((30 : Int)).toNat = 30 from rfl] at u0_13
  have kx0_13 : n13 = 42 := by (first | exact Int.le_antisymm (by omega) (by omega) | omega)
  have c0 := f30.2
  unfold postb_66v at c0
  rw [kx0_13] at c0
  rw [vz] at c0
  have a0 : absC H2 = (ptk (vwC H0) 42 (absC H1)) := c0.2
  have v0 : vwC H2 = vwC H0 := (vwC_fr f30.1.2.1 (by decide +kernel)).trans vz
  have b0 := kd_at ga.1
  rw [vz] at b0
  have g0 := f17
  rw [f12] at g0
  rw [show ((30 : Int)).toNat = 30 from rfl] at g0
  have h0 : (absC H1).1 < 0 ∨ ¬ (vwC H0).1 (absC H1).1 = 43 := by
    rcases b0 with q | q
    · exact .inl q
    · right
      rw [q]
      omega
  clear b0 h0
  have b1 := kd_at ga.1
  rw [vz] at b1
  have g1 := f22
  rw [f12] at g1
  rw [show ((30 : Int)).toNat = 30 from rfl] at g1
  have h1 : (absC H1).1 < 0 ∨ (vwC H0).1 (absC H1).1 = 42 := by
    rcases b1 with q | q
    · exact .inl q
    · right
      rw [q]
      omega
  clear b1
  have ga1_ := ga.1
  have gb := ga
  obtain ⟨_, s0_, s5, xn, yc⟩ := gb
  clear ga
  have q31_ := f31
  unfold w32 at q31_
  have g5 := Option.some.inj f14.2.2
  unfold mub_88v_122 at g5
  unfold Ab_88v_9 mub_88v_9
  refine ⟨⟨c0.1, by (first | exact Int.le_antisymm (by omega) (by omega) | omega), by (first | exact Int.le_antisymm (by omega) (by omega) | omega), fun hf => ?_, fun h3 => ?_, fun h3 => ?_⟩, fun q hq => ?_⟩
  · have a2 := absC_pos c0.1 hf
    have a3 := ptk_mono (c := 42) (p := absC H1) pz.2.1 (by rw [← a0]; exact a2.2)
    have a4 := absC_pos ga1_ (fault_no ga1_ a3.1)
    have u := xn (fault_no ga1_ a3.1)
    rw [← a0] at a3
    omega
  · rw [a0, show 502 - (n14).toNat = 502 - (n2).toNat - 1 by (first | exact Int.le_antisymm (by omega) (by omega) | omega)]
    rcases h1 with q | q
    · rw [ptk_neg q (absC_ok ga1_), pCond_neg (vwC_ok H0) q (absC_ok ga1_)]
      rw [if_neg (by rw [vwC_ok H0 _ q]; decide)] at yc
      exact yc
    · rw [if_pos (by (first | exact Int.le_antisymm (by omega) (by omega) | omega)), q] at yc
      exact yc
  · exact absurd h3 (by (first | exact Int.le_antisymm (by omega) (by omega) | omega))
  · have g6 := Option.some.inj hq
    subst g6
    omega
theorem c_88v_122_8 {q0 : Nat} : vOkm T0 (eP e_88v L_88v A_88v mu_88v (some q0)) 1 ([(10, [14, 5], [], 1), (1066, [1, 13], [1, 2], 0), (20, [13, 1], [1], 2), (90, [13], [], -2147483648), (91, [13], [], 2147483647), (31, [12], [], 0), (0, [12], [], 1), (40, [10, 11], [], 0), (0, [11], [], 42), (20, [10, 1], [1], 2), (90, [10], [], -2147483648), (91, [10], [], 2147483647), (41, [8, 9], [], 0), (0, [9], [], 43), (20, [8, 1], [1], 2), (90, [8], [], -2147483648), (91, [8], [], 2147483647), (5000, [0, 1, 2, 3, 4, 5, 6, 7], [0, 1], 122), (0, [0], [], 30), (0, [1], [], 30), (90, [2], [], -2147483648), (91, [2], [], 2147483647), (90, [3], [], -2147483648), (91, [3], [], 2147483647), (90, [4], [], -2147483648), (91, [4], [], 2147483647), (90, [5], [], -2147483648), (91, [5], [], 2147483647), (90, [6], [], -2147483648), (91, [6], [], 2147483647), (90, [7], [], -2147483648), (91, [7], [], 2147483647)], (4000, [1, 2, 3, 12, 14], [2], 9)) := vOk_in fun ρ η h => by
  obtain ⟨f0, f1, f2, f3, f4, f5, f6, f7, f8, f9, f10, f11, f12, f13, f14, f15, f16, f17, f18, f19, f20, f21, f22, f23, f24, f25, f26, f27, f28, f29, f30, f31, _⟩ := h
  exact q_88v_40 (q0 := q0) (n0 := ρ 7) (n1 := ρ 6) (n2 := ρ 5) (n3 := ρ 4) (n4 := ρ 3) (n5 := ρ 2) (n6 := ρ 1) (n7 := ρ 0) (n8 := ρ 8) (n9 := ρ 9) (n10 := ρ 10) (n11 := ρ 11) (n12 := ρ 12) (n13 := ρ 13) (n14 := ρ 14) (H0 := η 0) (H1 := η 1) (H2 := η 2) f31 f30 f29 f28 f27 f26 f25 f24 f23 f22 f21 f20 f19 f18 f17 f16 f15 f14 f13 f12 f11 f10 f9 f8 f7 f6 f5 f4 f3 f2 f1 f0
def p_88v_122 : List vG := [([(10, [11, 5], [], 1), (30, [10], [], 0), (0, [10], [], 1), (40, [8, 9], [], 0), (0, [9], [], 43), (20, [8, 1], [1], 2), (90, [8], [], -2147483648), (91, [8], [], 2147483647), (5000, [0, 1, 2, 3, 4, 5, 6, 7], [0, 1], 122), (0, [0], [], 30), (0, [1], [], 30), (90, [2], [], -2147483648), (91, [2], [], 2147483647), (90, [3], [], -2147483648), (91, [3], [], 2147483647), (90, [4], [], -2147483648), (91, [4], [], 2147483647), (90, [5], [], -2147483648), (91, [5], [], 2147483647), (90, [6], [], -2147483648), (91, [6], [], 2147483647), (90, [7], [], -2147483648), (91, [7], [], 2147483647)], (4000, [1, 2, 3, 10, 11], [1], 9)),
  ([(20, [11, 1], [1], 2), (90, [11], [], -2147483648), (91, [11], [], 2147483647), (40, [8, 9], [], 0), (0, [9], [], 43), (20, [8, 1], [1], 2), (90, [8], [], -2147483648), (91, [8], [], 2147483647), (5000, [0, 1, 2, 3, 4, 5, 6, 7], [0, 1], 122), (0, [0], [], 30), (0, [1], [], 30), (90, [2], [], -2147483648), (91, [2], [], 2147483647), (90, [3], [], -2147483648), (91, [3], [], 2147483647), (90, [4], [], -2147483648), (91, [4], [], 2147483647), (90, [5], [], -2147483648), (91, [5], [], 2147483647), (90, [6], [], -2147483648), (91, [6], [], 2147483647), (90, [7], [], -2147483648), (91, [7], [], 2147483647)], (2066, [1, 11], [1], 0)),
  ([(10, [12, 5], [], 1), (1066, [1, 11], [1, 2], 0), (20, [11, 1], [1], 2), (90, [11], [], -2147483648), (91, [11], [], 2147483647), (31, [10], [], 0), (0, [10], [], 1), (40, [8, 9], [], 0), (0, [9], [], 43), (20, [8, 1], [1], 2), (90, [8], [], -2147483648), (91, [8], [], 2147483647), (5000, [0, 1, 2, 3, 4, 5, 6, 7], [0, 1], 122), (0, [0], [], 30), (0, [1], [], 30), (90, [2], [], -2147483648), (91, [2], [], 2147483647), (90, [3], [], -2147483648), (91, [3], [], 2147483647), (90, [4], [], -2147483648), (91, [4], [], 2147483647), (90, [5], [], -2147483648), (91, [5], [], 2147483647), (90, [6], [], -2147483648), (91, [6], [], 2147483647), (90, [7], [], -2147483648), (91, [7], [], 2147483647)], (4000, [1, 2, 3, 10, 12], [2], 9)),
  ([(10, [13, 5], [], 1), (30, [12], [], 0), (0, [12], [], 0), (41, [10, 11], [], 0), (0, [11], [], 42), (20, [10, 1], [1], 2), (90, [10], [], -2147483648), (91, [10], [], 2147483647), (41, [8, 9], [], 0), (0, [9], [], 43), (20, [8, 1], [1], 2), (90, [8], [], -2147483648), (91, [8], [], 2147483647), (5000, [0, 1, 2, 3, 4, 5, 6, 7], [0, 1], 122), (0, [0], [], 30), (0, [1], [], 30), (90, [2], [], -2147483648), (91, [2], [], 2147483647), (90, [3], [], -2147483648), (91, [3], [], 2147483647), (90, [4], [], -2147483648), (91, [4], [], 2147483647), (90, [5], [], -2147483648), (91, [5], [], 2147483647), (90, [6], [], -2147483648), (91, [6], [], 2147483647), (90, [7], [], -2147483648), (91, [7], [], 2147483647)], (4000, [1, 2, 3, 12, 13], [1], 9)),
  ([(20, [13, 1], [1], 2), (90, [13], [], -2147483648), (91, [13], [], 2147483647), (31, [12], [], 0), (0, [12], [], 0), (41, [10, 11], [], 0), (0, [11], [], 42), (20, [10, 1], [1], 2), (90, [10], [], -2147483648), (91, [10], [], 2147483647), (41, [8, 9], [], 0), (0, [9], [], 43), (20, [8, 1], [1], 2), (90, [8], [], -2147483648), (91, [8], [], 2147483647), (5000, [0, 1, 2, 3, 4, 5, 6, 7], [0, 1], 122), (0, [0], [], 30), (0, [1], [], 30), (90, [2], [], -2147483648), (91, [2], [], 2147483647), (90, [3], [], -2147483648), (91, [3], [], 2147483647), (90, [4], [], -2147483648), (91, [4], [], 2147483647), (90, [5], [], -2147483648), (91, [5], [], 2147483647), (90, [6], [], -2147483648), (91, [6], [], 2147483647), (90, [7], [], -2147483648), (91, [7], [], 2147483647)], (2066, [1, 13], [1], 0)),
  ([(10, [14, 5], [], 1), (1066, [1, 13], [1, 2], 0), (20, [13, 1], [1], 2), (90, [13], [], -2147483648), (91, [13], [], 2147483647), (31, [12], [], 0), (0, [12], [], 0), (41, [10, 11], [], 0), (0, [11], [], 42), (20, [10, 1], [1], 2), (90, [10], [], -2147483648), (91, [10], [], 2147483647), (41, [8, 9], [], 0), (0, [9], [], 43), (20, [8, 1], [1], 2), (90, [8], [], -2147483648), (91, [8], [], 2147483647), (5000, [0, 1, 2, 3, 4, 5, 6, 7], [0, 1], 122), (0, [0], [], 30), (0, [1], [], 30), (90, [2], [], -2147483648), (91, [2], [], 2147483647), (90, [3], [], -2147483648), (91, [3], [], 2147483647), (90, [4], [], -2147483648), (91, [4], [], 2147483647), (90, [5], [], -2147483648), (91, [5], [], 2147483647), (90, [6], [], -2147483648), (91, [6], [], 2147483647), (90, [7], [], -2147483648), (91, [7], [], 2147483647)], (4000, [1, 2, 3, 12, 14], [2], 9)),
  ([(10, [13, 5], [], 1), (30, [12], [], 0), (0, [12], [], 1), (40, [10, 11], [], 0), (0, [11], [], 42), (20, [10, 1], [1], 2), (90, [10], [], -2147483648), (91, [10], [], 2147483647), (41, [8, 9], [], 0), (0, [9], [], 43), (20, [8, 1], [1], 2), (90, [8], [], -2147483648), (91, [8], [], 2147483647), (5000, [0, 1, 2, 3, 4, 5, 6, 7], [0, 1], 122), (0, [0], [], 30), (0, [1], [], 30), (90, [2], [], -2147483648), (91, [2], [], 2147483647), (90, [3], [], -2147483648), (91, [3], [], 2147483647), (90, [4], [], -2147483648), (91, [4], [], 2147483647), (90, [5], [], -2147483648), (91, [5], [], 2147483647), (90, [6], [], -2147483648), (91, [6], [], 2147483647), (90, [7], [], -2147483648), (91, [7], [], 2147483647)], (4000, [1, 2, 3, 12, 13], [1], 9)),
  ([(20, [13, 1], [1], 2), (90, [13], [], -2147483648), (91, [13], [], 2147483647), (40, [10, 11], [], 0), (0, [11], [], 42), (20, [10, 1], [1], 2), (90, [10], [], -2147483648), (91, [10], [], 2147483647), (41, [8, 9], [], 0), (0, [9], [], 43), (20, [8, 1], [1], 2), (90, [8], [], -2147483648), (91, [8], [], 2147483647), (5000, [0, 1, 2, 3, 4, 5, 6, 7], [0, 1], 122), (0, [0], [], 30), (0, [1], [], 30), (90, [2], [], -2147483648), (91, [2], [], 2147483647), (90, [3], [], -2147483648), (91, [3], [], 2147483647), (90, [4], [], -2147483648), (91, [4], [], 2147483647), (90, [5], [], -2147483648), (91, [5], [], 2147483647), (90, [6], [], -2147483648), (91, [6], [], 2147483647), (90, [7], [], -2147483648), (91, [7], [], 2147483647)], (2066, [1, 13], [1], 0)),
  ([(10, [14, 5], [], 1), (1066, [1, 13], [1, 2], 0), (20, [13, 1], [1], 2), (90, [13], [], -2147483648), (91, [13], [], 2147483647), (31, [12], [], 0), (0, [12], [], 1), (40, [10, 11], [], 0), (0, [11], [], 42), (20, [10, 1], [1], 2), (90, [10], [], -2147483648), (91, [10], [], 2147483647), (41, [8, 9], [], 0), (0, [9], [], 43), (20, [8, 1], [1], 2), (90, [8], [], -2147483648), (91, [8], [], 2147483647), (5000, [0, 1, 2, 3, 4, 5, 6, 7], [0, 1], 122), (0, [0], [], 30), (0, [1], [], 30), (90, [2], [], -2147483648), (91, [2], [], 2147483647), (90, [3], [], -2147483648), (91, [3], [], 2147483647), (90, [4], [], -2147483648), (91, [4], [], 2147483647), (90, [5], [], -2147483648), (91, [5], [], 2147483647), (90, [6], [], -2147483648), (91, [6], [], 2147483647), (90, [7], [], -2147483648), (91, [7], [], 2147483647)], (4000, [1, 2, 3, 12, 14], [2], 9))]
theorem r_88v_122 : vCovO false (eRc e_88v L_88v cs_88v 2000 (122, [(0, (3, 4, 30, 0)), (1, (0, -2147483648, 2147483647, 0)), (2, (0, -2147483648, 2147483647, 0)), (3, (0, -2147483648, 2147483647, 0)), (4, (0, -2147483648, 2147483647, 0)), (5, (0, -2147483648, 2147483647, 0)), (6, (0, -2147483648, 2147483647, 0))])) p_88v_122 = true := by decide +kernel
theorem m_88v (d : Nat) : eC e_88v (d + 4) := eC_ok (e := e_88v) (L := L_88v) (cs := cs_88v) (n := 2000) (d := d + 3) (A := A_88v) (μ := mu_88v) (tp := false) (p0 := p_88v_s) rfl ⟨m_66v (d + 1), ⟨m_89v d, ⟨m_90v d, ⟨m_91 (d + 1), ⟨m_92v d, ⟨m_98 (d + 2), trivial⟩⟩⟩⟩⟩⟩ rfl (.inl rfl) (by decide +kernel) (fun z => nomatch z) r_88v_s (allC c_88v_s_0 allN) (allC (.inl ⟨p_88v_9, r_88v_9, fun q0 => (allC c_88v_9_0 (allC c_88v_9_1 (allC c_88v_9_2 (allC c_88v_9_3 (allC c_88v_9_4 (allC c_88v_9_5 (allC c_88v_9_6 (allC c_88v_9_7 (allC c_88v_9_8 (allC c_88v_9_9 (allC c_88v_9_10 (allC c_88v_9_11 (allC c_88v_9_12 (allC c_88v_9_13 (allC c_88v_9_14 (allC c_88v_9_15 (allC c_88v_9_16 (allC c_88v_9_17 (allC c_88v_9_18 (allC c_88v_9_19 (allC c_88v_9_20 (allC c_88v_9_21 (allC c_88v_9_22 (allC c_88v_9_23 (allC c_88v_9_24 (allC c_88v_9_25 (allC c_88v_9_26 (allC c_88v_9_27 (allC c_88v_9_28 (allC c_88v_9_29 (allC c_88v_9_30 allN)))))))))))))))))))))))))))))))⟩) (allC (.inl ⟨p_88v_122, r_88v_122, fun q0 => (allC c_88v_122_0 (allC c_88v_122_1 (allC c_88v_122_2 (allC c_88v_122_3 (allC c_88v_122_4 (allC c_88v_122_5 (allC c_88v_122_6 (allC c_88v_122_7 (allC c_88v_122_8 allN)))))))))⟩) allN))
