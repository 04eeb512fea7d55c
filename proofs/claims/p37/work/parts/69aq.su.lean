/- Reader.readSum ()V, more fully -/
def nbo_92 (a0 : Int) (h0 h : gH) : Prop := ∀ d : Int, d = hV h0 30 8 → RO h0 d → W49 h0 → KO h0 h d ∧ W49 h ∧ ∀ L : List Int, CODE h0 d L → (L.length : Int) ≤ (absC h0).1 → 0 ≤ (absC h).1 → (absC h0).1 ≤ (absC h).1 ∧ CODE h d (L ++ (xE (vwC h0) (absC h0).1 (absC h).1).map enc) ∧ GE (xE (vwC h0) (absC h0).1 (absC h).1)
def no_92 : List Int → gH → gH → Prop := fun xs h0 h => match xs with
  | [a0] => nbo_92 a0 h0 h
  | _ => True
noncomputable def e_92o : vE := eV e_92v no_92
noncomputable def L_92o : List vE := [e_64v, e_66v, e_93o, e_94o, e_95o, e_98o, e_123v]
def Bbo_92_14 (a0 x0 x1 x2 x3 x4 : Int) (h0 h : gH) : Prop := ∀ d : Int, d = hV h0 30 8 → RO h0 d → W49 h0 → KO h0 h d ∧ W49 h ∧ ∀ L : List Int, CODE h0 d L → (L.length : Int) ≤ (absC h0).1 → 0 ≤ (absC h).1 → RSs h d L (vwC h0) (absC h0).1 (absC h).1 x2 x1 ∧ (x3 = 0 → x2 = 0)
def Bbo_92_228 (a0 x0 x1 x2 x3 x4 x5 : Int) (h0 h : gH) : Prop := ∀ d : Int, d = hV h0 30 8 → RO h0 d → W49 h0 → KO h0 h d ∧ W49 h ∧ ∀ L : List Int, CODE h0 d L → (L.length : Int) ≤ (absC h0).1 → 0 ≤ (absC h).1 → (x3 = 1 → x5 = (vwC h0).1 (absC h).1 → RTk h d L (vwC h0) (absC h0).1 (absC h).1 x2 x1) ∧ (x3 = 0 → RSs h d L (vwC h0) (absC h0).1 (absC h).1 x2 x1 ∧ x2 = 0)
def Bo_92 : Int → List Int → gH → gH → Prop := fun c xs h0 h => match c.toNat with
  | 14 => (match xs with
    | [a0, x0, x1, x2, x3, x4] => Bbo_92_14 a0 x0 x1 x2 x3 x4 h0 h
    | _ => False)
  | 228 => (match xs with
    | [a0, x0, x1, x2, x3, x4, x5] => Bbo_92_228 a0 x0 x1 x2 x3 x4 x5 h0 h
    | _ => False)
  | _ => True
theorem q_92o_0 {n0 n1 n2 n3 n4 n5 n6 : Int} {H0 H1 : gH} (f0 : n0 = 30) (f1 : hWt T0 H0 ∧ preb_92v n0 H0) (f2 : n1 = 0) (f3 : n2 = 1) (f4 : n3 = 1) (f5 : n4 = 0) (f6 : hK H0 (n0).toNat = 4) (f7 : n5 = 15) (f8 : hUpd H1 H0 n0 n5 n4) (f9 : n6 = 0) : Bbo_92_14 n0 n0 n1 n2 n3 n6 H0 H1 := by
  unfold Bbo_92_14
  intro d ed zo w49
  have pz := f1.2
  unfold preb_92v at pz
  have s0 := PF_30 f8 f0 (by omega) pz
  have a0 : absC H1 = (absC H0) := s0.1
  have v0 : vwC H1 = vwC H0 := s0.2.1
  have k30 : hK H0 30 = 4 := by
    have w := f6
    rw [f0] at w
    exact w
  refine ⟨KO_rd zo k30 f8 f0, W49_up f8 w49, fun L cd hl hp => ⟨?_, fun m0 => by omega⟩⟩
  rw [a0, show n2 = 1 by omega, show n1 = 0 by omega]
  refine RSs_0 (CODE_rd zo f8 f0 cd) ?_
  exact (uSame f8 30 15 (by rw [f0]; rfl) (by rw [f7]; rfl)).trans f5
def g_92o_s_0 : vG := ([(0, [6], [], 0), (80, [0, 5, 4], [1, 0], 0), (0, [5], [], 15), (23, [0], [0], 4), (0, [4], [], 0), (0, [3], [], 1), (0, [2], [], 1), (0, [1], [], 0), (6000, [0], [0], 0), (0, [0], [], 30)], (4000, [0, 1, 2, 3, 6], [1], 14))
theorem c_92o_s_0 : vOkm T0 (eN e_92v L_92o A_92v mu_92v no_92 Bo_92 none) 1 g_92o_s_0 := vOk_inI fun ρ η f0 f1 f2 f3 f4 f5 f6 f7 f8 f9 => q_92o_0 (n0 := ρ 0) (n1 := ρ 1) (n2 := ρ 2) (n3 := ρ 3) (n4 := ρ 4) (n5 := ρ 5) (n6 := ρ 6) (H0 := η 0) (H1 := η 1) f9 f8 f7 f6 f5 f4 f3 f2 f1 f0
def p_92o_s : List vG := [g_92o_s_0]
theorem r_92o_s : vCovBO (eR0 e_92v L_92v cs_92v 2000) p_92o_s = true := by decide +kernel
theorem q_92o_1 {q0 : Nat} {n0 n1 n2 n3 n4 n5 n6 n7 : Int} {H0 H1 H2 : gH} (f0 : n0 ≤ 2147483647) (f1 : (-2147483648) ≤ n0) (f2 : n1 ≤ 2147483647) (f3 : (-2147483648) ≤ n1) (f4 : n2 ≤ 2147483647) (f5 : (-2147483648) ≤ n2) (f6 : n3 ≤ 2147483647) (f7 : (-2147483648) ≤ n3) (f8 : n4 = 30) (f9 : n5 = 30) (f10 : (hLe T0 H0 H1 ∧ hFr s_92v.2.2.2.2 H0 H1 ∧ hWt T0 H1) ∧ ((Ab_92v_14 n5 n4 n3 n2 n1 n0 H0 H1 ∧ Bbo_92_14 n5 n4 n3 n2 n1 n0 H0 H1) ∧ preb_92v n5 H0) ∧ some q0 = some (mub_92v_14 n5 n4 n3 n2 n1 n0 H0 H1)) (f11 : n6 = 500) (f12 : n6 < n0) (f13 : n3 ≤ 0) (f14 : n7 = 1) (f15 : (hLe T0 H1 H2 ∧ hFr s_95.2.2.2.2 H1 H2 ∧ ((0 : Int) = 0 → H2.length = H1.length) ∧ hWt T0 H2) ∧ (True ∧ nbo_95 n4 n7 H1 H2)) : nbo_92 n5 H0 H2 := by
  unfold nbo_92
  intro d ed zo w49
  have pz := f10.2.1.2
  unfold preb_92v at pz
  have ga := f10.2.1.1.1
  unfold Ab_92v_14 at ga
  have vz : vwC H1 = vwC H0 := vwC_fr f10.1.2.1 (by decide +kernel)
  have s0 := PF_fr f15.1.1 f15.1.2.1 (by decide +kernel) ga.1
  have a0 : absC H2 = (absC H1) := s0.1
  have v0 : vwC H2 = vwC H0 := s0.2.1.trans vz
  have gb := f10.2.1.1.2
  unfold Bbo_92_14 at gb
  obtain ⟨ko, w1, k⟩ := gb d ed zo w49
  have zo1 := ko.1
  have e8 : hV H1 30 8 = d := (f10.1.2.1.1 30 8 (by decide +kernel)).trans ed.symm
  have gc := ga
  have nw := ga.1.2.2.2.1.2.1
  obtain ⟨_, s0_, o0, o7, w01, m01, xn, ya, yb⟩ := gc
  have q15 := f15.2.2
  unfold nbo_95 at q15
  have q15 := q15 d (show hV H1 30 8 = d from (rfl).trans e8).symm (by omega)
  rw [decide_eq_false (by omega)] at q15
  refine ⟨KO_tr ko (q15 zo1 w1).1, W49_le f15.1.1 w1, fun L cd hl hp => ?_⟩
  rw [a0] at hp ⊢
  have hf : hV H1 30 3 = 0 := Classical.byContradiction fun n => by
    have := absC_neg ga.1 n
    omega
  have x5 := xn hf
  obtain ⟨rs, mz⟩ := k L cd hl hp
  have ap := absC_pos ga.1 hf
  exact RSs_end zo1 w1 rs (mz (by omega)) (by omega) hl (by omega) q15
def g_92o_14_0 : vG := ([(1095, [1, 7], [1, 2], 0), (0, [7], [], 1), (35, [2], [], 0), (44, [5, 6], [], 0), (0, [6], [], 500), (5000, [0, 1, 2, 3, 4, 5], [0, 1], 14), (0, [0], [], 30), (0, [1], [], 30), (90, [2], [], -2147483648), (91, [2], [], 2147483647), (90, [3], [], -2147483648), (91, [3], [], 2147483647), (90, [4], [], -2147483648), (91, [4], [], 2147483647), (90, [5], [], -2147483648), (91, [5], [], 2147483647)], (3000, [], [2], 272))
theorem c_92o_14_0 {q0 : Nat} : vOkm T0 (eN e_92v L_92o A_92v mu_92v no_92 Bo_92 (some q0)) 1 g_92o_14_0 := vOk_inI fun ρ η f0 f1 f2 f3 f4 f5 f6 f7 f8 f9 f10 f11 f12 f13 f14 f15 => q_92o_1 (q0 := q0) (n0 := ρ 5) (n1 := ρ 4) (n2 := ρ 3) (n3 := ρ 2) (n4 := ρ 1) (n5 := ρ 0) (n6 := ρ 6) (n7 := ρ 7) (H0 := η 0) (H1 := η 1) (H2 := η 2) f15 f14 f13 f12 f11 f10 f9 f8 f7 f6 f5 f4 f3 f2 f1 f0
theorem q_92o_2 {q0 : Nat} {n0 n1 n2 n3 n4 n5 n6 n7 n8 : Int} {H0 H1 H2 H3 : gH} (f0 : n0 ≤ 2147483647) (f1 : (-2147483648) ≤ n0) (f2 : n1 ≤ 2147483647) (f3 : (-2147483648) ≤ n1) (f4 : n2 ≤ 2147483647) (f5 : (-2147483648) ≤ n2) (f6 : n3 ≤ 2147483647) (f7 : (-2147483648) ≤ n3) (f8 : n4 = 30) (f9 : n5 = 30) (f10 : (hLe T0 H0 H1 ∧ hFr s_92v.2.2.2.2 H0 H1 ∧ hWt T0 H1) ∧ ((Ab_92v_14 n5 n4 n3 n2 n1 n0 H0 H1 ∧ Bbo_92_14 n5 n4 n3 n2 n1 n0 H0 H1) ∧ preb_92v n5 H0) ∧ some q0 = some (mub_92v_14 n5 n4 n3 n2 n1 n0 H0 H1)) (f11 : n6 = 500) (f12 : n6 < n0) (f13 : 0 < n3) (f14 : n7 = 1) (f15 : (hLe T0 H1 H2 ∧ hFr s_64v.2.2.2.2 H1 H2 ∧ ((0 : Int) = 0 → H2.length = H1.length) ∧ hWt T0 H2) ∧ postb_64v n4 n7 H1 H2) (f16 : n8 = 1) (f17 : (hLe T0 H2 H3 ∧ hFr s_95.2.2.2.2 H2 H3 ∧ ((0 : Int) = 0 → H3.length = H2.length) ∧ hWt T0 H3) ∧ (True ∧ nbo_95 n4 n8 H2 H3)) : nbo_92 n5 H0 H3 := by
  unfold nbo_92
  intro d ed zo w49
  have pz := f10.2.1.2
  unfold preb_92v at pz
  have ga := f10.2.1.1.1
  unfold Ab_92v_14 at ga
  have vz : vwC H1 = vwC H0 := vwC_fr f10.1.2.1 (by decide +kernel)
  have c0 := f15.2
  unfold postb_64v at c0
  try rw [f14] at c0
  rw [vz] at c0
  have a0 : absC H2 = (pfail (vwC H0) 1 (absC H1)) := c0.2
  have v0 : vwC H2 = vwC H0 := (vwC_fr f15.1.2.1 (by decide +kernel)).trans vz
  have s1 := PF_fr f17.1.1 f17.1.2.1 (by decide +kernel) c0.1
  have a1 : absC H3 = (pfail (vwC H0) 1 (absC H1)) := s1.1.trans a0
  have v1 : vwC H3 = vwC H0 := s1.2.1.trans v0
  have gb := f10.2.1.1.2
  unfold Bbo_92_14 at gb
  obtain ⟨ko, w1, k⟩ := gb d ed zo w49
  have zo1 := ko.1
  have e8 : hV H1 30 8 = d := (f10.1.2.1.1 30 8 (by decide +kernel)).trans ed.symm
  have gc := ga
  have nw := ga.1.2.2.2.1.2.1
  obtain ⟨_, s0_, o0, o7, w01, m01, xn, ya, yb⟩ := gc
  have q17 := f17.2.2
  unfold nbo_95 at q17
  have q17 := q17 d (show hV H2 30 8 = d from (f15.1.2.1.1 30 8 (by decide +kernel)).trans e8).symm (by omega)
  rw [decide_eq_false (by omega)] at q17
  have kf := KO_sm zo1 (SMf_fr f15.1.1 f15.1.2.1 (by decide +kernel) (by decide +kernel))
  have wf := W49_le f15.1.1 w1
  refine ⟨KO_tr ko (KO_tr kf (q17 kf.1 wf).1), W49_le f17.1.1 wf, fun L cd hl hp => ?_⟩
  exfalso
  rw [a1] at hp
  have := pfail_lt pz (f := 1) (by decide) (p := absC H1)
  omega
def g_92o_14_1 : vG := ([(1095, [1, 8], [2, 3], 0), (0, [8], [], 1), (1064, [1, 7], [1, 2], 0), (0, [7], [], 1), (34, [2], [], 0), (44, [5, 6], [], 0), (0, [6], [], 500), (5000, [0, 1, 2, 3, 4, 5], [0, 1], 14), (0, [0], [], 30), (0, [1], [], 30), (90, [2], [], -2147483648), (91, [2], [], 2147483647), (90, [3], [], -2147483648), (91, [3], [], 2147483647), (90, [4], [], -2147483648), (91, [4], [], 2147483647), (90, [5], [], -2147483648), (91, [5], [], 2147483647)], (3000, [], [3], 272))
theorem c_92o_14_1 {q0 : Nat} : vOkm T0 (eN e_92v L_92o A_92v mu_92v no_92 Bo_92 (some q0)) 1 g_92o_14_1 := vOk_inI fun ρ η f0 f1 f2 f3 f4 f5 f6 f7 f8 f9 f10 f11 f12 f13 f14 f15 f16 f17 => q_92o_2 (q0 := q0) (n0 := ρ 5) (n1 := ρ 4) (n2 := ρ 3) (n3 := ρ 2) (n4 := ρ 1) (n5 := ρ 0) (n6 := ρ 6) (n7 := ρ 7) (n8 := ρ 8) (H0 := η 0) (H1 := η 1) (H2 := η 2) (H3 := η 3) f17 f16 f15 f14 f13 f12 f11 f10 f9 f8 f7 f6 f5 f4 f3 f2 f1 f0
theorem q_92o_3 {q0 : Nat} {n0 n1 n2 n3 n4 n5 n6 n7 n8 : Int} {H0 H1 H2 : gH} (f0 : n0 ≤ 2147483647) (f1 : (-2147483648) ≤ n0) (f2 : n1 ≤ 2147483647) (f3 : (-2147483648) ≤ n1) (f4 : n2 ≤ 2147483647) (f5 : (-2147483648) ≤ n2) (f6 : n3 ≤ 2147483647) (f7 : (-2147483648) ≤ n3) (f8 : n4 = 30) (f9 : n5 = 30) (f10 : (hLe T0 H0 H1 ∧ hFr s_92v.2.2.2.2 H0 H1 ∧ hWt T0 H1) ∧ ((Ab_92v_14 n5 n4 n3 n2 n1 n0 H0 H1 ∧ Bbo_92_14 n5 n4 n3 n2 n1 n0 H0 H1) ∧ preb_92v n5 H0) ∧ some q0 = some (mub_92v_14 n5 n4 n3 n2 n1 n0 H0 H1)) (f11 : n6 = 500) (f12 : n0 ≤ n6) (f13 : n7 ≤ 2147483647) (f14 : (-2147483648) ≤ n7) (f15 : hK H1 (n4).toNat = 4) (f16 : n7 = hV H1 (n4).toNat 3) (f17 : n7 ≠ 0) (f18 : n3 ≤ 0) (f19 : n8 = 1) (f20 : (hLe T0 H1 H2 ∧ hFr s_95.2.2.2.2 H1 H2 ∧ ((0 : Int) = 0 → H2.length = H1.length) ∧ hWt T0 H2) ∧ (True ∧ nbo_95 n4 n8 H1 H2)) : nbo_92 n5 H0 H2 := by
  unfold nbo_92
  intro d ed zo w49
  have pz := f10.2.1.2
  unfold preb_92v at pz
  have ga := f10.2.1.1.1
  unfold Ab_92v_14 at ga
  have vz : vwC H1 = vwC H0 := vwC_fr f10.1.2.1 (by decide +kernel)
  have s0 := PF_fr f20.1.1 f20.1.2.1 (by decide +kernel) ga.1
  have a0 : absC H2 = (absC H1) := s0.1
  have v0 : vwC H2 = vwC H0 := s0.2.1.trans vz
  have gb := f10.2.1.1.2
  unfold Bbo_92_14 at gb
  obtain ⟨ko, w1, k⟩ := gb d ed zo w49
  have zo1 := ko.1
  have e8 : hV H1 30 8 = d := (f10.1.2.1.1 30 8 (by decide +kernel)).trans ed.symm
  have gc := ga
  have nw := ga.1.2.2.2.1.2.1
  have r16 : n7 = hV H1 30 3 := by
    have w := f16
    rw [f8] at w
    exact w
  obtain ⟨_, s0_, o0, o7, w01, m01, xn, ya, yb⟩ := gc
  have q20 := f20.2.2
  unfold nbo_95 at q20
  have q20 := q20 d (show hV H1 30 8 = d from (rfl).trans e8).symm (by omega)
  rw [decide_eq_false (by omega)] at q20
  refine ⟨KO_tr ko (q20 zo1 w1).1, W49_le f20.1.1 w1, fun L cd hl hp => ?_⟩
  rw [a0] at hp ⊢
  have hf : hV H1 30 3 = 0 := Classical.byContradiction fun n => by
    have := absC_neg ga.1 n
    omega
  have x5 := xn hf
  obtain ⟨rs, mz⟩ := k L cd hl hp
  have ap := absC_pos ga.1 hf
  exact RSs_end zo1 w1 rs (mz (by omega)) (by omega) hl (by omega) q20
def g_92o_14_2 : vG := ([(1095, [1, 8], [1, 2], 0), (0, [8], [], 1), (35, [2], [], 0), (31, [7], [], 0), (20, [7, 1], [1], 3), (23, [1], [1], 4), (90, [7], [], -2147483648), (91, [7], [], 2147483647), (45, [5, 6], [], 0), (0, [6], [], 500), (5000, [0, 1, 2, 3, 4, 5], [0, 1], 14), (0, [0], [], 30), (0, [1], [], 30), (90, [2], [], -2147483648), (91, [2], [], 2147483647), (90, [3], [], -2147483648), (91, [3], [], 2147483647), (90, [4], [], -2147483648), (91, [4], [], 2147483647), (90, [5], [], -2147483648), (91, [5], [], 2147483647)], (3000, [], [2], 272))
theorem c_92o_14_2 {q0 : Nat} : vOkm T0 (eN e_92v L_92o A_92v mu_92v no_92 Bo_92 (some q0)) 1 g_92o_14_2 := vOk_inI fun ρ η f0 f1 f2 f3 f4 f5 f6 f7 f8 f9 f10 f11 f12 f13 f14 f15 f16 f17 f18 f19 f20 => q_92o_3 (q0 := q0) (n0 := ρ 5) (n1 := ρ 4) (n2 := ρ 3) (n3 := ρ 2) (n4 := ρ 1) (n5 := ρ 0) (n6 := ρ 6) (n7 := ρ 7) (n8 := ρ 8) (H0 := η 0) (H1 := η 1) (H2 := η 2) f20 f19 f18 f17 f16 f15 f14 f13 f12 f11 f10 f9 f8 f7 f6 f5 f4 f3 f2 f1 f0
theorem q_92o_4 {q0 : Nat} {n0 n1 n2 n3 n4 n5 n6 n7 n8 n9 : Int} {H0 H1 H2 H3 : gH} (f0 : n0 ≤ 2147483647) (f1 : (-2147483648) ≤ n0) (f2 : n1 ≤ 2147483647) (f3 : (-2147483648) ≤ n1) (f4 : n2 ≤ 2147483647) (f5 : (-2147483648) ≤ n2) (f6 : n3 ≤ 2147483647) (f7 : (-2147483648) ≤ n3) (f8 : n4 = 30) (f9 : n5 = 30) (f10 : (hLe T0 H0 H1 ∧ hFr s_92v.2.2.2.2 H0 H1 ∧ hWt T0 H1) ∧ ((Ab_92v_14 n5 n4 n3 n2 n1 n0 H0 H1 ∧ Bbo_92_14 n5 n4 n3 n2 n1 n0 H0 H1) ∧ preb_92v n5 H0) ∧ some q0 = some (mub_92v_14 n5 n4 n3 n2 n1 n0 H0 H1)) (f11 : n6 = 500) (f12 : n0 ≤ n6) (f13 : n7 ≤ 2147483647) (f14 : (-2147483648) ≤ n7) (f15 : hK H1 (n4).toNat = 4) (f16 : n7 = hV H1 (n4).toNat 3) (f17 : n7 ≠ 0) (f18 : 0 < n3) (f19 : n8 = 1) (f20 : (hLe T0 H1 H2 ∧ hFr s_64v.2.2.2.2 H1 H2 ∧ ((0 : Int) = 0 → H2.length = H1.length) ∧ hWt T0 H2) ∧ postb_64v n4 n8 H1 H2) (f21 : n9 = 1) (f22 : (hLe T0 H2 H3 ∧ hFr s_95.2.2.2.2 H2 H3 ∧ ((0 : Int) = 0 → H3.length = H2.length) ∧ hWt T0 H3) ∧ (True ∧ nbo_95 n4 n9 H2 H3)) : nbo_92 n5 H0 H3 := by
  unfold nbo_92
  intro d ed zo w49
  have pz := f10.2.1.2
  unfold preb_92v at pz
  have ga := f10.2.1.1.1
  unfold Ab_92v_14 at ga
  have vz : vwC H1 = vwC H0 := vwC_fr f10.1.2.1 (by decide +kernel)
  have c0 := f20.2
  unfold postb_64v at c0
  try rw [f19] at c0
  rw [vz] at c0
  have a0 : absC H2 = (pfail (vwC H0) 1 (absC H1)) := c0.2
  have v0 : vwC H2 = vwC H0 := (vwC_fr f20.1.2.1 (by decide +kernel)).trans vz
  have s1 := PF_fr f22.1.1 f22.1.2.1 (by decide +kernel) c0.1
  have a1 : absC H3 = (pfail (vwC H0) 1 (absC H1)) := s1.1.trans a0
  have v1 : vwC H3 = vwC H0 := s1.2.1.trans v0
  have gb := f10.2.1.1.2
  unfold Bbo_92_14 at gb
  obtain ⟨ko, w1, k⟩ := gb d ed zo w49
  have zo1 := ko.1
  have e8 : hV H1 30 8 = d := (f10.1.2.1.1 30 8 (by decide +kernel)).trans ed.symm
  have gc := ga
  have nw := ga.1.2.2.2.1.2.1
  have r16 : n7 = hV H1 30 3 := by
    have w := f16
    rw [f8] at w
    exact w
  obtain ⟨_, s0_, o0, o7, w01, m01, xn, ya, yb⟩ := gc
  have q22 := f22.2.2
  unfold nbo_95 at q22
  have q22 := q22 d (show hV H2 30 8 = d from (f20.1.2.1.1 30 8 (by decide +kernel)).trans e8).symm (by omega)
  rw [decide_eq_false (by omega)] at q22
  have kf := KO_sm zo1 (SMf_fr f20.1.1 f20.1.2.1 (by decide +kernel) (by decide +kernel))
  have wf := W49_le f20.1.1 w1
  refine ⟨KO_tr ko (KO_tr kf (q22 kf.1 wf).1), W49_le f22.1.1 wf, fun L cd hl hp => ?_⟩
  exfalso
  rw [a1] at hp
  have := pfail_lt pz (f := 1) (by decide) (p := absC H1)
  omega
def g_92o_14_3 : vG := ([(1095, [1, 9], [2, 3], 0), (0, [9], [], 1), (1064, [1, 8], [1, 2], 0), (0, [8], [], 1), (34, [2], [], 0), (31, [7], [], 0), (20, [7, 1], [1], 3), (23, [1], [1], 4), (90, [7], [], -2147483648), (91, [7], [], 2147483647), (45, [5, 6], [], 0), (0, [6], [], 500), (5000, [0, 1, 2, 3, 4, 5], [0, 1], 14), (0, [0], [], 30), (0, [1], [], 30), (90, [2], [], -2147483648), (91, [2], [], 2147483647), (90, [3], [], -2147483648), (91, [3], [], 2147483647), (90, [4], [], -2147483648), (91, [4], [], 2147483647), (90, [5], [], -2147483648), (91, [5], [], 2147483647)], (3000, [], [3], 272))
theorem c_92o_14_3 {q0 : Nat} : vOkm T0 (eN e_92v L_92o A_92v mu_92v no_92 Bo_92 (some q0)) 1 g_92o_14_3 := vOk_inI fun ρ η f0 f1 f2 f3 f4 f5 f6 f7 f8 f9 f10 f11 f12 f13 f14 f15 f16 f17 f18 f19 f20 f21 f22 => q_92o_4 (q0 := q0) (n0 := ρ 5) (n1 := ρ 4) (n2 := ρ 3) (n3 := ρ 2) (n4 := ρ 1) (n5 := ρ 0) (n6 := ρ 6) (n7 := ρ 7) (n8 := ρ 8) (n9 := ρ 9) (H0 := η 0) (H1 := η 1) (H2 := η 2) (H3 := η 3) f22 f21 f20 f19 f18 f17 f16 f15 f14 f13 f12 f11 f10 f9 f8 f7 f6 f5 f4 f3 f2 f1 f0
theorem q_92o_5 {q0 : Nat} {n0 n1 n2 n3 n4 n5 n6 n7 n8 : Int} {H0 H1 H2 : gH} (f0 : n0 ≤ 2147483647) (f1 : (-2147483648) ≤ n0) (f2 : n1 ≤ 2147483647) (f3 : (-2147483648) ≤ n1) (f4 : n2 ≤ 2147483647) (f5 : (-2147483648) ≤ n2) (f6 : n3 ≤ 2147483647) (f7 : (-2147483648) ≤ n3) (f8 : n4 = 30) (f9 : n5 = 30) (f10 : (hLe T0 H0 H1 ∧ hFr s_92v.2.2.2.2 H0 H1 ∧ hWt T0 H1) ∧ ((Ab_92v_14 n5 n4 n3 n2 n1 n0 H0 H1 ∧ Bbo_92_14 n5 n4 n3 n2 n1 n0 H0 H1) ∧ preb_92v n5 H0) ∧ some q0 = some (mub_92v_14 n5 n4 n3 n2 n1 n0 H0 H1)) (f11 : n6 = 500) (f12 : n0 ≤ n6) (f13 : n7 ≤ 2147483647) (f14 : (-2147483648) ≤ n7) (f15 : hK H1 (n4).toNat = 4) (f16 : n7 = hV H1 (n4).toNat 3) (f17 : n7 = 0) (f18 : n1 = 0) (f19 : n3 ≤ 0) (f20 : n8 = 1) (f21 : (hLe T0 H1 H2 ∧ hFr s_95.2.2.2.2 H1 H2 ∧ ((0 : Int) = 0 → H2.length = H1.length) ∧ hWt T0 H2) ∧ (True ∧ nbo_95 n4 n8 H1 H2)) : nbo_92 n5 H0 H2 := by
  unfold nbo_92
  intro d ed zo w49
  have pz := f10.2.1.2
  unfold preb_92v at pz
  have ga := f10.2.1.1.1
  unfold Ab_92v_14 at ga
  have vz : vwC H1 = vwC H0 := vwC_fr f10.1.2.1 (by decide +kernel)
  have s0 := PF_fr f21.1.1 f21.1.2.1 (by decide +kernel) ga.1
  have a0 : absC H2 = (absC H1) := s0.1
  have v0 : vwC H2 = vwC H0 := s0.2.1.trans vz
  have gb := f10.2.1.1.2
  unfold Bbo_92_14 at gb
  obtain ⟨ko, w1, k⟩ := gb d ed zo w49
  have zo1 := ko.1
  have e8 : hV H1 30 8 = d := (f10.1.2.1.1 30 8 (by decide +kernel)).trans ed.symm
  have gc := ga
  have nw := ga.1.2.2.2.1.2.1
  have r16 : n7 = hV H1 30 3 := by
    have w := f16
    rw [f8] at w
    exact w
  obtain ⟨_, s0_, o0, o7, w01, m01, xn, ya, yb⟩ := gc
  have q21 := f21.2.2
  unfold nbo_95 at q21
  have q21 := q21 d (show hV H1 30 8 = d from (rfl).trans e8).symm (by omega)
  rw [decide_eq_false (by omega)] at q21
  refine ⟨KO_tr ko (q21 zo1 w1).1, W49_le f21.1.1 w1, fun L cd hl hp => ?_⟩
  rw [a0] at hp ⊢
  have hf : hV H1 30 3 = 0 := Classical.byContradiction fun n => by
    have := absC_neg ga.1 n
    omega
  have x5 := xn hf
  obtain ⟨rs, mz⟩ := k L cd hl hp
  have ap := absC_pos ga.1 hf
  exact RSs_end zo1 w1 rs (mz (by omega)) (by omega) hl (by omega) q21
def g_92o_14_4 : vG := ([(1095, [1, 8], [1, 2], 0), (0, [8], [], 1), (35, [2], [], 0), (30, [4], [], 0), (30, [7], [], 0), (20, [7, 1], [1], 3), (23, [1], [1], 4), (90, [7], [], -2147483648), (91, [7], [], 2147483647), (45, [5, 6], [], 0), (0, [6], [], 500), (5000, [0, 1, 2, 3, 4, 5], [0, 1], 14), (0, [0], [], 30), (0, [1], [], 30), (90, [2], [], -2147483648), (91, [2], [], 2147483647), (90, [3], [], -2147483648), (91, [3], [], 2147483647), (90, [4], [], -2147483648), (91, [4], [], 2147483647), (90, [5], [], -2147483648), (91, [5], [], 2147483647)], (3000, [], [2], 272))
theorem c_92o_14_4 {q0 : Nat} : vOkm T0 (eN e_92v L_92o A_92v mu_92v no_92 Bo_92 (some q0)) 1 g_92o_14_4 := vOk_inI fun ρ η f0 f1 f2 f3 f4 f5 f6 f7 f8 f9 f10 f11 f12 f13 f14 f15 f16 f17 f18 f19 f20 f21 => q_92o_5 (q0 := q0) (n0 := ρ 5) (n1 := ρ 4) (n2 := ρ 3) (n3 := ρ 2) (n4 := ρ 1) (n5 := ρ 0) (n6 := ρ 6) (n7 := ρ 7) (n8 := ρ 8) (H0 := η 0) (H1 := η 1) (H2 := η 2) f21 f20 f19 f18 f17 f16 f15 f14 f13 f12 f11 f10 f9 f8 f7 f6 f5 f4 f3 f2 f1 f0
theorem q_92o_6 {q0 : Nat} {n0 n1 n2 n3 n4 n5 n6 n7 n8 n9 : Int} {H0 H1 H2 H3 : gH} (f0 : n0 ≤ 2147483647) (f1 : (-2147483648) ≤ n0) (f2 : n1 ≤ 2147483647) (f3 : (-2147483648) ≤ n1) (f4 : n2 ≤ 2147483647) (f5 : (-2147483648) ≤ n2) (f6 : n3 ≤ 2147483647) (f7 : (-2147483648) ≤ n3) (f8 : n4 = 30) (f9 : n5 = 30) (f10 : (hLe T0 H0 H1 ∧ hFr s_92v.2.2.2.2 H0 H1 ∧ hWt T0 H1) ∧ ((Ab_92v_14 n5 n4 n3 n2 n1 n0 H0 H1 ∧ Bbo_92_14 n5 n4 n3 n2 n1 n0 H0 H1) ∧ preb_92v n5 H0) ∧ some q0 = some (mub_92v_14 n5 n4 n3 n2 n1 n0 H0 H1)) (f11 : n6 = 500) (f12 : n0 ≤ n6) (f13 : n7 ≤ 2147483647) (f14 : (-2147483648) ≤ n7) (f15 : hK H1 (n4).toNat = 4) (f16 : n7 = hV H1 (n4).toNat 3) (f17 : n7 = 0) (f18 : n1 = 0) (f19 : 0 < n3) (f20 : n8 = 1) (f21 : (hLe T0 H1 H2 ∧ hFr s_64v.2.2.2.2 H1 H2 ∧ ((0 : Int) = 0 → H2.length = H1.length) ∧ hWt T0 H2) ∧ postb_64v n4 n8 H1 H2) (f22 : n9 = 1) (f23 : (hLe T0 H2 H3 ∧ hFr s_95.2.2.2.2 H2 H3 ∧ ((0 : Int) = 0 → H3.length = H2.length) ∧ hWt T0 H3) ∧ (True ∧ nbo_95 n4 n9 H2 H3)) : nbo_92 n5 H0 H3 := by
  unfold nbo_92
  intro d ed zo w49
  have pz := f10.2.1.2
  unfold preb_92v at pz
  have ga := f10.2.1.1.1
  unfold Ab_92v_14 at ga
  have vz : vwC H1 = vwC H0 := vwC_fr f10.1.2.1 (by decide +kernel)
  have c0 := f21.2
  unfold postb_64v at c0
  try rw [f20] at c0
  rw [vz] at c0
  have a0 : absC H2 = (pfail (vwC H0) 1 (absC H1)) := c0.2
  have v0 : vwC H2 = vwC H0 := (vwC_fr f21.1.2.1 (by decide +kernel)).trans vz
  have s1 := PF_fr f23.1.1 f23.1.2.1 (by decide +kernel) c0.1
  have a1 : absC H3 = (pfail (vwC H0) 1 (absC H1)) := s1.1.trans a0
  have v1 : vwC H3 = vwC H0 := s1.2.1.trans v0
  have gb := f10.2.1.1.2
  unfold Bbo_92_14 at gb
  obtain ⟨ko, w1, k⟩ := gb d ed zo w49
  have zo1 := ko.1
  have e8 : hV H1 30 8 = d := (f10.1.2.1.1 30 8 (by decide +kernel)).trans ed.symm
  have gc := ga
  have nw := ga.1.2.2.2.1.2.1
  have r16 : n7 = hV H1 30 3 := by
    have w := f16
    rw [f8] at w
    exact w
  obtain ⟨_, s0_, o0, o7, w01, m01, xn, ya, yb⟩ := gc
  have q23 := f23.2.2
  unfold nbo_95 at q23
  have q23 := q23 d (show hV H2 30 8 = d from (f21.1.2.1.1 30 8 (by decide +kernel)).trans e8).symm (by omega)
  rw [decide_eq_false (by omega)] at q23
  have kf := KO_sm zo1 (SMf_fr f21.1.1 f21.1.2.1 (by decide +kernel) (by decide +kernel))
  have wf := W49_le f21.1.1 w1
  refine ⟨KO_tr ko (KO_tr kf (q23 kf.1 wf).1), W49_le f23.1.1 wf, fun L cd hl hp => ?_⟩
  exfalso
  rw [a1] at hp
  have := pfail_lt pz (f := 1) (by decide) (p := absC H1)
  omega
def g_92o_14_5 : vG := ([(1095, [1, 9], [2, 3], 0), (0, [9], [], 1), (1064, [1, 8], [1, 2], 0), (0, [8], [], 1), (34, [2], [], 0), (30, [4], [], 0), (30, [7], [], 0), (20, [7, 1], [1], 3), (23, [1], [1], 4), (90, [7], [], -2147483648), (91, [7], [], 2147483647), (45, [5, 6], [], 0), (0, [6], [], 500), (5000, [0, 1, 2, 3, 4, 5], [0, 1], 14), (0, [0], [], 30), (0, [1], [], 30), (90, [2], [], -2147483648), (91, [2], [], 2147483647), (90, [3], [], -2147483648), (91, [3], [], 2147483647), (90, [4], [], -2147483648), (91, [4], [], 2147483647), (90, [5], [], -2147483648), (91, [5], [], 2147483647)], (3000, [], [3], 272))
theorem c_92o_14_5 {q0 : Nat} : vOkm T0 (eN e_92v L_92o A_92v mu_92v no_92 Bo_92 (some q0)) 1 g_92o_14_5 := vOk_inI fun ρ η f0 f1 f2 f3 f4 f5 f6 f7 f8 f9 f10 f11 f12 f13 f14 f15 f16 f17 f18 f19 f20 f21 f22 f23 => q_92o_6 (q0 := q0) (n0 := ρ 5) (n1 := ρ 4) (n2 := ρ 3) (n3 := ρ 2) (n4 := ρ 1) (n5 := ρ 0) (n6 := ρ 6) (n7 := ρ 7) (n8 := ρ 8) (n9 := ρ 9) (H0 := η 0) (H1 := η 1) (H2 := η 2) (H3 := η 3) f23 f22 f21 f20 f19 f18 f17 f16 f15 f14 f13 f12 f11 f10 f9 f8 f7 f6 f5 f4 f3 f2 f1 f0
theorem q_92o_7 {q0 : Nat} {n0 n1 n2 n3 n4 n5 n6 n7 n8 n9 n10 n11 n12 n13 : Int} {H0 H1 : gH} (f0 : n0 ≤ 2147483647) (f1 : (-2147483648) ≤ n0) (f2 : n1 ≤ 2147483647) (f3 : (-2147483648) ≤ n1) (f4 : n2 ≤ 2147483647) (f5 : (-2147483648) ≤ n2) (f6 : n3 ≤ 2147483647) (f7 : (-2147483648) ≤ n3) (f8 : n4 = 30) (f9 : n5 = 30) (f10 : (hLe T0 H0 H1 ∧ hFr s_92v.2.2.2.2 H0 H1 ∧ hWt T0 H1) ∧ ((Ab_92v_14 n5 n4 n3 n2 n1 n0 H0 H1 ∧ Bbo_92_14 n5 n4 n3 n2 n1 n0 H0 H1) ∧ preb_92v n5 H0) ∧ some q0 = some (mub_92v_14 n5 n4 n3 n2 n1 n0 H0 H1)) (f11 : n6 = 500) (f12 : n0 ≤ n6) (f13 : n7 ≤ 2147483647) (f14 : (-2147483648) ≤ n7) (f15 : hK H1 (n4).toNat = 4) (f16 : n7 = hV H1 (n4).toNat 3) (f17 : n7 = 0) (f18 : n1 ≠ 0) (f19 : n8 ≤ 2147483647) (f20 : (-2147483648) ≤ n8) (f21 : hK H1 (n4).toNat = 4) (f22 : n8 = hV H1 (n4).toNat 2) (f23 : n2 = 0) (f24 : n2 = 0) (f25 : n9 ≤ 2147483647) (f26 : (-2147483648) ≤ n9) (f27 : hK H1 (n4).toNat = 4) (f28 : n9 = hV H1 (n4).toNat 2) (f29 : n10 = 11) (f30 : n9 ≠ n10) (f31 : n11 ≤ 2147483647) (f32 : (-2147483648) ≤ n11) (f33 : hK H1 (n4).toNat = 4) (f34 : n11 = hV H1 (n4).toNat 2) (f35 : n12 = 6) (f36 : n11 < n12) (f37 : n13 = 0) : Bbo_92_228 n5 n4 n3 n2 n13 n0 n8 H0 H1 := by
  unfold Bbo_92_228
  intro d ed zo w49
  have pz := f10.2.1.2
  unfold preb_92v at pz
  have ga := f10.2.1.1.1
  unfold Ab_92v_14 at ga
  have vz : vwC H1 = vwC H0 := vwC_fr f10.1.2.1 (by decide +kernel)
  have gb := f10.2.1.1.2
  unfold Bbo_92_14 at gb
  obtain ⟨ko, w1, k⟩ := gb d ed zo w49
  have zo1 := ko.1
  have e8 : hV H1 30 8 = d := (f10.1.2.1.1 30 8 (by decide +kernel)).trans ed.symm
  have gc := ga
  have nw := ga.1.2.2.2.1.2.1
  have r16 : n7 = hV H1 30 3 := by
    have w := f16
    rw [f8] at w
    exact w
  have r22 : n8 = hV H1 30 2 := by
    have w := f22
    rw [f8] at w
    exact w
  have r28 : n9 = hV H1 30 2 := by
    have w := f28
    rw [f8] at w
    exact w
  have r34 : n11 = hV H1 30 2 := by
    have w := f34
    rw [f8] at w
    exact w
  obtain ⟨_, s0_, o0, o7, w01, m01, xn, ya, yb⟩ := gc
  have hf : hV H1 30 3 = 0 := by omega
  have ap := absC_pos ga.1 hf
  have x5 := xn hf
  have hv : (vwC H0).1 (absC H1).1 = hV H1 30 2 := by
    have u := (kd_at ga.1).resolve_left (by omega)
    rw [vz] at u
    exact u
  refine ⟨ko, w1, fun L cd hl hp => ⟨fun m1 => by exfalso; omega, fun m0 => ?_⟩⟩
  obtain ⟨rs, mz⟩ := k L cd hl ap.2
  exact ⟨rs, by omega⟩
def g_92o_14_6 : vG := ([(0, [13], [], 0), (42, [11, 12], [], 0), (0, [12], [], 6), (20, [11, 1], [1], 2), (23, [1], [1], 4), (90, [11], [], -2147483648), (91, [11], [], 2147483647), (41, [9, 10], [], 0), (0, [10], [], 11), (20, [9, 1], [1], 2), (23, [1], [1], 4), (90, [9], [], -2147483648), (91, [9], [], 2147483647), (30, [3], [], 0), (30, [3], [], 0), (20, [8, 1], [1], 2), (23, [1], [1], 4), (90, [8], [], -2147483648), (91, [8], [], 2147483647), (31, [4], [], 0), (30, [7], [], 0), (20, [7, 1], [1], 3), (23, [1], [1], 4), (90, [7], [], -2147483648), (91, [7], [], 2147483647), (45, [5, 6], [], 0), (0, [6], [], 500), (5000, [0, 1, 2, 3, 4, 5], [0, 1], 14), (0, [0], [], 30), (0, [1], [], 30), (90, [2], [], -2147483648), (91, [2], [], 2147483647), (90, [3], [], -2147483648), (91, [3], [], 2147483647), (90, [4], [], -2147483648), (91, [4], [], 2147483647), (90, [5], [], -2147483648), (91, [5], [], 2147483647)], (4000, [1, 2, 3, 13, 5, 8], [1], 228))
theorem c_92o_14_6 {q0 : Nat} : vOkm T0 (eN e_92v L_92o A_92v mu_92v no_92 Bo_92 (some q0)) 1 g_92o_14_6 := vOk_inI fun ρ η f0 f1 f2 f3 f4 f5 f6 f7 f8 f9 f10 f11 f12 f13 f14 f15 f16 f17 f18 f19 f20 f21 f22 f23 f24 f25 f26 f27 f28 f29 f30 f31 f32 f33 f34 f35 f36 f37 => q_92o_7 (q0 := q0) (n0 := ρ 5) (n1 := ρ 4) (n2 := ρ 3) (n3 := ρ 2) (n4 := ρ 1) (n5 := ρ 0) (n6 := ρ 6) (n7 := ρ 7) (n8 := ρ 8) (n9 := ρ 9) (n10 := ρ 10) (n11 := ρ 11) (n12 := ρ 12) (n13 := ρ 13) (H0 := η 0) (H1 := η 1) f37 f36 f35 f34 f33 f32 f31 f30 f29 f28 f27 f26 f25 f24 f23 f22 f21 f20 f19 f18 f17 f16 f15 f14 f13 f12 f11 f10 f9 f8 f7 f6 f5 f4 f3 f2 f1 f0
theorem q_92o_8 {q0 : Nat} {n0 n1 n2 n3 n4 n5 n6 n7 n8 n9 n10 n11 n12 n13 n14 n15 : Int} {H0 H1 : gH} (f0 : n0 ≤ 2147483647) (f1 : (-2147483648) ≤ n0) (f2 : n1 ≤ 2147483647) (f3 : (-2147483648) ≤ n1) (f4 : n2 ≤ 2147483647) (f5 : (-2147483648) ≤ n2) (f6 : n3 ≤ 2147483647) (f7 : (-2147483648) ≤ n3) (f8 : n4 = 30) (f9 : n5 = 30) (f10 : (hLe T0 H0 H1 ∧ hFr s_92v.2.2.2.2 H0 H1 ∧ hWt T0 H1) ∧ ((Ab_92v_14 n5 n4 n3 n2 n1 n0 H0 H1 ∧ Bbo_92_14 n5 n4 n3 n2 n1 n0 H0 H1) ∧ preb_92v n5 H0) ∧ some q0 = some (mub_92v_14 n5 n4 n3 n2 n1 n0 H0 H1)) (f11 : n6 = 500) (f12 : n0 ≤ n6) (f13 : n7 ≤ 2147483647) (f14 : (-2147483648) ≤ n7) (f15 : hK H1 (n4).toNat = 4) (f16 : n7 = hV H1 (n4).toNat 3) (f17 : n7 = 0) (f18 : n1 ≠ 0) (f19 : n8 ≤ 2147483647) (f20 : (-2147483648) ≤ n8) (f21 : hK H1 (n4).toNat = 4) (f22 : n8 = hV H1 (n4).toNat 2) (f23 : n2 = 0) (f24 : n2 = 0) (f25 : n9 ≤ 2147483647) (f26 : (-2147483648) ≤ n9) (f27 : hK H1 (n4).toNat = 4) (f28 : n9 = hV H1 (n4).toNat 2) (f29 : n10 = 11) (f30 : n9 ≠ n10) (f31 : n11 ≤ 2147483647) (f32 : (-2147483648) ≤ n11) (f33 : hK H1 (n4).toNat = 4) (f34 : n11 = hV H1 (n4).toNat 2) (f35 : n12 = 6) (f36 : n12 ≤ n11) (f37 : n13 ≤ 2147483647) (f38 : (-2147483648) ≤ n13) (f39 : hK H1 (n4).toNat = 4) (f40 : n13 = hV H1 (n4).toNat 2) (f41 : n14 = 9) (f42 : n14 < n13) (f43 : n15 = 0) : Bbo_92_228 n5 n4 n3 n2 n15 n0 n8 H0 H1 := by
  unfold Bbo_92_228
  intro d ed zo w49
  have pz := f10.2.1.2
  unfold preb_92v at pz
  have ga := f10.2.1.1.1
  unfold Ab_92v_14 at ga
  have vz : vwC H1 = vwC H0 := vwC_fr f10.1.2.1 (by decide +kernel)
  have gb := f10.2.1.1.2
  unfold Bbo_92_14 at gb
  obtain ⟨ko, w1, k⟩ := gb d ed zo w49
  have zo1 := ko.1
  have e8 : hV H1 30 8 = d := (f10.1.2.1.1 30 8 (by decide +kernel)).trans ed.symm
  have gc := ga
  have nw := ga.1.2.2.2.1.2.1
  have r16 : n7 = hV H1 30 3 := by
    have w := f16
    rw [f8] at w
    exact w
  have r22 : n8 = hV H1 30 2 := by
    have w := f22
    rw [f8] at w
    exact w
  have r28 : n9 = hV H1 30 2 := by
    have w := f28
    rw [f8] at w
    exact w
  have r34 : n11 = hV H1 30 2 := by
    have w := f34
    rw [f8] at w
    exact w
  have r40 : n13 = hV H1 30 2 := by
    have w := f40
    rw [f8] at w
    exact w
  obtain ⟨_, s0_, o0, o7, w01, m01, xn, ya, yb⟩ := gc
  have hf : hV H1 30 3 = 0 := by omega
  have ap := absC_pos ga.1 hf
  have x5 := xn hf
  have hv : (vwC H0).1 (absC H1).1 = hV H1 30 2 := by
    have u := (kd_at ga.1).resolve_left (by omega)
    rw [vz] at u
    exact u
  refine ⟨ko, w1, fun L cd hl hp => ⟨fun m1 => by exfalso; omega, fun m0 => ?_⟩⟩
  obtain ⟨rs, mz⟩ := k L cd hl ap.2
  exact ⟨rs, by omega⟩
def g_92o_14_7 : vG := ([(0, [15], [], 0), (44, [13, 14], [], 0), (0, [14], [], 9), (20, [13, 1], [1], 2), (23, [1], [1], 4), (90, [13], [], -2147483648), (91, [13], [], 2147483647), (43, [11, 12], [], 0), (0, [12], [], 6), (20, [11, 1], [1], 2), (23, [1], [1], 4), (90, [11], [], -2147483648), (91, [11], [], 2147483647), (41, [9, 10], [], 0), (0, [10], [], 11), (20, [9, 1], [1], 2), (23, [1], [1], 4), (90, [9], [], -2147483648), (91, [9], [], 2147483647), (30, [3], [], 0), (30, [3], [], 0), (20, [8, 1], [1], 2), (23, [1], [1], 4), (90, [8], [], -2147483648), (91, [8], [], 2147483647), (31, [4], [], 0), (30, [7], [], 0), (20, [7, 1], [1], 3), (23, [1], [1], 4), (90, [7], [], -2147483648), (91, [7], [], 2147483647), (45, [5, 6], [], 0), (0, [6], [], 500), (5000, [0, 1, 2, 3, 4, 5], [0, 1], 14), (0, [0], [], 30), (0, [1], [], 30), (90, [2], [], -2147483648), (91, [2], [], 2147483647), (90, [3], [], -2147483648), (91, [3], [], 2147483647), (90, [4], [], -2147483648), (91, [4], [], 2147483647), (90, [5], [], -2147483648), (91, [5], [], 2147483647)], (4000, [1, 2, 3, 15, 5, 8], [1], 228))
theorem c_92o_14_7 {q0 : Nat} : vOkm T0 (eN e_92v L_92o A_92v mu_92v no_92 Bo_92 (some q0)) 1 g_92o_14_7 := vOk_inI fun ρ η f0 f1 f2 f3 f4 f5 f6 f7 f8 f9 f10 f11 f12 f13 f14 f15 f16 f17 f18 f19 f20 f21 f22 f23 f24 f25 f26 f27 f28 f29 f30 f31 f32 f33 f34 f35 f36 f37 f38 f39 f40 f41 f42 f43 => q_92o_8 (q0 := q0) (n0 := ρ 5) (n1 := ρ 4) (n2 := ρ 3) (n3 := ρ 2) (n4 := ρ 1) (n5 := ρ 0) (n6 := ρ 6) (n7 := ρ 7) (n8 := ρ 8) (n9 := ρ 9) (n10 := ρ 10) (n11 := ρ 11) (n12 := ρ 12) (n13 := ρ 13) (n14 := ρ 14) (n15 := ρ 15) (H0 := η 0) (H1 := η 1) f43 f42 f41 f40 f39 f38 f37 f36 f35 f34 f33 f32 f31 f30 f29 f28 f27 f26 f25 f24 f23 f22 f21 f20 f19 f18 f17 f16 f15 f14 f13 f12 f11 f10 f9 f8 f7 f6 f5 f4 f3 f2 f1 f0
theorem q_92o_9 {q0 : Nat} {n0 n1 n2 n3 n4 n5 n6 n7 n8 n9 n10 n11 n12 n13 n14 n15 n16 n17 n18 : Int} {H0 H1 H2 H3 H4 : gH} (f0 : n0 ≤ 2147483647) (f1 : (-2147483648) ≤ n0) (f2 : n1 ≤ 2147483647) (f3 : (-2147483648) ≤ n1) (f4 : n2 ≤ 2147483647) (f5 : (-2147483648) ≤ n2) (f6 : n3 ≤ 2147483647) (f7 : (-2147483648) ≤ n3) (f8 : n4 = 30) (f9 : n5 = 30) (f10 : (hLe T0 H0 H1 ∧ hFr s_92v.2.2.2.2 H0 H1 ∧ hWt T0 H1) ∧ ((Ab_92v_14 n5 n4 n3 n2 n1 n0 H0 H1 ∧ Bbo_92_14 n5 n4 n3 n2 n1 n0 H0 H1) ∧ preb_92v n5 H0) ∧ some q0 = some (mub_92v_14 n5 n4 n3 n2 n1 n0 H0 H1)) (f11 : n6 = 500) (f12 : n0 ≤ n6) (f13 : n7 ≤ 2147483647) (f14 : (-2147483648) ≤ n7) (f15 : hK H1 (n4).toNat = 4) (f16 : n7 = hV H1 (n4).toNat 3) (f17 : n7 = 0) (f18 : n1 ≠ 0) (f19 : n8 ≤ 2147483647) (f20 : (-2147483648) ≤ n8) (f21 : hK H1 (n4).toNat = 4) (f22 : n8 = hV H1 (n4).toNat 2) (f23 : n2 = 0) (f24 : n2 = 0) (f25 : n9 ≤ 2147483647) (f26 : (-2147483648) ≤ n9) (f27 : hK H1 (n4).toNat = 4) (f28 : n9 = hV H1 (n4).toNat 2) (f29 : n10 = 11) (f30 : n9 ≠ n10) (f31 : n11 ≤ 2147483647) (f32 : (-2147483648) ≤ n11) (f33 : hK H1 (n4).toNat = 4) (f34 : n11 = hV H1 (n4).toNat 2) (f35 : n12 = 6) (f36 : n12 ≤ n11) (f37 : n13 ≤ 2147483647) (f38 : (-2147483648) ≤ n13) (f39 : hK H1 (n4).toNat = 4) (f40 : n13 = hV H1 (n4).toNat 2) (f41 : n14 = 9) (f42 : n13 ≤ n14) (f43 : n15 ≤ 2147483647) (f44 : (-2147483648) ≤ n15) (f45 : hK H1 (n4).toNat = 4) (f46 : n15 = hV H1 (n4).toNat 2) (f47 : n16 ≤ 2147483647) (f48 : (-2147483648) ≤ n16) (f49 : (hLe T0 H1 H2 ∧ hFr s_93.2.2.2.2 H1 H2 ∧ ((0 : Int) = 0 → H2.length = H1.length) ∧ hWt T0 H2) ∧ (True ∧ nbo_93 n16 n15 H1 H2)) (f50 : (hLe T0 H2 H3 ∧ hFr s_95.2.2.2.2 H2 H3 ∧ ((0 : Int) = 0 → H3.length = H2.length) ∧ hWt T0 H3) ∧ (True ∧ nbo_95 n4 n16 H2 H3)) (f51 : n17 ≤ 2147483647) (f52 : (-2147483648) ≤ n17) (f53 : hK H3 (n4).toNat = 4) (f54 : n17 = hV H3 (n4).toNat 2) (f55 : (hLe T0 H3 H4 ∧ hFr s_94.2.2.2.2 H3 H4 ∧ ((0 : Int) = 0 → H4.length = H3.length) ∧ hWt T0 H4) ∧ (True ∧ nbo_94 n4 n17 H3 H4)) (f56 : n18 = 1) : Bbo_92_228 n5 n4 n3 n18 n1 n0 n8 H0 H4 := by
  unfold Bbo_92_228
  intro d ed zo w49
  have pz := f10.2.1.2
  unfold preb_92v at pz
  have ga := f10.2.1.1.1
  unfold Ab_92v_14 at ga
  have vz : vwC H1 = vwC H0 := vwC_fr f10.1.2.1 (by decide +kernel)
  have s0 := PF_fr f49.1.1 f49.1.2.1 (by decide +kernel) ga.1
  have a0 : absC H2 = (absC H1) := s0.1
  have v0 : vwC H2 = vwC H0 := s0.2.1.trans vz
  have s1 := PF_fr f50.1.1 f50.1.2.1 (by decide +kernel) s0.2.2
  have a1 : absC H3 = (absC H1) := s1.1.trans a0
  have v1 : vwC H3 = vwC H0 := s1.2.1.trans v0
  have s2 := PF_fr f55.1.1 f55.1.2.1 (by decide +kernel) s1.2.2
  have a2 : absC H4 = (absC H1) := s2.1.trans a1
  have v2 : vwC H4 = vwC H0 := s2.2.1.trans v1
  have gb := f10.2.1.1.2
  unfold Bbo_92_14 at gb
  obtain ⟨ko, w1, k⟩ := gb d ed zo w49
  have zo1 := ko.1
  have e8 : hV H1 30 8 = d := (f10.1.2.1.1 30 8 (by decide +kernel)).trans ed.symm
  have gc := ga
  have nw := ga.1.2.2.2.1.2.1
  have r16 : n7 = hV H1 30 3 := by
    have w := f16
    rw [f8] at w
    exact w
  have r22 : n8 = hV H1 30 2 := by
    have w := f22
    rw [f8] at w
    exact w
  have r28 : n9 = hV H1 30 2 := by
    have w := f28
    rw [f8] at w
    exact w
  have r34 : n11 = hV H1 30 2 := by
    have w := f34
    rw [f8] at w
    exact w
  have r40 : n13 = hV H1 30 2 := by
    have w := f40
    rw [f8] at w
    exact w
  have r46 : n15 = hV H1 30 2 := by
    have w := f46
    rw [f8] at w
    exact w
  have r54 : n17 = hV H3 30 2 := by
    have w := f54
    rw [f8] at w
    exact w
  obtain ⟨_, s0_, o0, o7, w01, m01, xn, ya, yb⟩ := gc
  have hf : hV H1 30 3 = 0 := by omega
  have ap := absC_pos ga.1 hf
  have x5 := xn hf
  have hv : (vwC H0).1 (absC H1).1 = hV H1 30 2 := by
    have u := (kd_at ga.1).resolve_left (by omega)
    rw [vz] at u
    exact u
  have rk := f49.2.2
  unfold nbo_93 at rk
  have rc := rkF_c (k := n15) (by omega) (by omega)
  rw [← rk] at rc
  have q50 := f50.2.2
  unfold nbo_95 at q50
  have q50 := q50 d (show hV H2 30 8 = d from (f49.1.2.1.1 30 8 (by decide +kernel)).trans e8).symm rc.1
  rw [rc.2] at q50
  have z2 := KO_sm zo1 (SMf_fr f49.1.1 f49.1.2.1 (by decide +kernel) (by decide +kernel))
  have w2 := W49_le f49.1.1 w1
  have kr := (q50 z2.1 w2).1
  have w3 := W49_le f50.1.1 w2
  have qh := f55.2.2
  unfold nbo_94 at qh
  refine ⟨KO_tr ko (KO_tr z2 (KO_tr kr (KO_sm kr.1 (SMf_fr f55.1.1 f55.1.2.1 (by decide +kernel) (by decide +kernel))))), W49_le f55.1.1 w3, fun L cd hl hp => ⟨fun m1 x5 => ?_, fun m0 => by exfalso; omega⟩⟩
  rw [a2]
  obtain ⟨rs, mz⟩ := k L cd hl ap.2
  have rs2 := RSs_sm zo1 rs (SMf_fr f49.1.1 f49.1.2.1 (by decide +kernel) (by decide +kernel)) (f49.1.2.1.1 30 15 (by decide +kernel)) (fRow f49.1.2.1 49 (by decide +kernel))
  rw [show n18 = 1 by omega, show n3 = n3 by omega]
  exact RTk_sign z2.1 w2 rs2 (by omega) hl (by omega) (by omega) (by omega) (by omega) q50 (by rw [hv, show n15 = hV H1 30 2 by omega]) w3 (SMf_fr f55.1.1 f55.1.2.1 (by decide +kernel) (by decide +kernel)) qh (by rw [hv, r54]; exact (f50.1.2.1.1 30 2 (by decide +kernel)).trans (f49.1.2.1.1 30 2 (by decide +kernel)))
def g_92o_14_8 : vG := ([(0, [18], [], 1), (1094, [1, 17], [3, 4], 0), (20, [17, 1], [3], 2), (23, [1], [3], 4), (90, [17], [], -2147483648), (91, [17], [], 2147483647), (1095, [1, 16], [2, 3], 0), (1093, [16, 15], [1, 2], 0), (90, [16], [], -2147483648), (91, [16], [], 2147483647), (20, [15, 1], [1], 2), (23, [1], [1], 4), (90, [15], [], -2147483648), (91, [15], [], 2147483647), (45, [13, 14], [], 0), (0, [14], [], 9), (20, [13, 1], [1], 2), (23, [1], [1], 4), (90, [13], [], -2147483648), (91, [13], [], 2147483647), (43, [11, 12], [], 0), (0, [12], [], 6), (20, [11, 1], [1], 2), (23, [1], [1], 4), (90, [11], [], -2147483648), (91, [11], [], 2147483647), (41, [9, 10], [], 0), (0, [10], [], 11), (20, [9, 1], [1], 2), (23, [1], [1], 4), (90, [9], [], -2147483648), (91, [9], [], 2147483647), (30, [3], [], 0), (30, [3], [], 0), (20, [8, 1], [1], 2), (23, [1], [1], 4), (90, [8], [], -2147483648), (91, [8], [], 2147483647), (31, [4], [], 0), (30, [7], [], 0), (20, [7, 1], [1], 3), (23, [1], [1], 4), (90, [7], [], -2147483648), (91, [7], [], 2147483647), (45, [5, 6], [], 0), (0, [6], [], 500), (5000, [0, 1, 2, 3, 4, 5], [0, 1], 14), (0, [0], [], 30), (0, [1], [], 30), (90, [2], [], -2147483648), (91, [2], [], 2147483647), (90, [3], [], -2147483648), (91, [3], [], 2147483647), (90, [4], [], -2147483648), (91, [4], [], 2147483647), (90, [5], [], -2147483648), (91, [5], [], 2147483647)], (4000, [1, 2, 18, 4, 5, 8], [4], 228))
theorem c_92o_14_8 {q0 : Nat} : vOkm T0 (eN e_92v L_92o A_92v mu_92v no_92 Bo_92 (some q0)) 1 g_92o_14_8 := vOk_inI fun ρ η f0 f1 f2 f3 f4 f5 f6 f7 f8 f9 f10 f11 f12 f13 f14 f15 f16 f17 f18 f19 f20 f21 f22 f23 f24 f25 f26 f27 f28 f29 f30 f31 f32 f33 f34 f35 f36 f37 f38 f39 f40 f41 f42 f43 f44 f45 f46 f47 f48 f49 f50 f51 f52 f53 f54 f55 f56 => q_92o_9 (q0 := q0) (n0 := ρ 5) (n1 := ρ 4) (n2 := ρ 3) (n3 := ρ 2) (n4 := ρ 1) (n5 := ρ 0) (n6 := ρ 6) (n7 := ρ 7) (n8 := ρ 8) (n9 := ρ 9) (n10 := ρ 10) (n11 := ρ 11) (n12 := ρ 12) (n13 := ρ 13) (n14 := ρ 14) (n15 := ρ 15) (n16 := ρ 16) (n17 := ρ 17) (n18 := ρ 18) (H0 := η 0) (H1 := η 1) (H2 := η 2) (H3 := η 3) (H4 := η 4) f56 f55 f54 f53 f52 f51 f50 f49 f48 f47 f46 f45 f44 f43 f42 f41 f40 f39 f38 f37 f36 f35 f34 f33 f32 f31 f30 f29 f28 f27 f26 f25 f24 f23 f22 f21 f20 f19 f18 f17 f16 f15 f14 f13 f12 f11 f10 f9 f8 f7 f6 f5 f4 f3 f2 f1 f0
theorem q_92o_10 {q0 : Nat} {n0 n1 n2 n3 n4 n5 n6 n7 n8 n9 n10 n11 n12 n13 : Int} {H0 H1 : gH} (f0 : n0 ≤ 2147483647) (f1 : (-2147483648) ≤ n0) (f2 : n1 ≤ 2147483647) (f3 : (-2147483648) ≤ n1) (f4 : n2 ≤ 2147483647) (f5 : (-2147483648) ≤ n2) (f6 : n3 ≤ 2147483647) (f7 : (-2147483648) ≤ n3) (f8 : n4 = 30) (f9 : n5 = 30) (f10 : (hLe T0 H0 H1 ∧ hFr s_92v.2.2.2.2 H0 H1 ∧ hWt T0 H1) ∧ ((Ab_92v_14 n5 n4 n3 n2 n1 n0 H0 H1 ∧ Bbo_92_14 n5 n4 n3 n2 n1 n0 H0 H1) ∧ preb_92v n5 H0) ∧ some q0 = some (mub_92v_14 n5 n4 n3 n2 n1 n0 H0 H1)) (f11 : n6 = 500) (f12 : n0 ≤ n6) (f13 : n7 ≤ 2147483647) (f14 : (-2147483648) ≤ n7) (f15 : hK H1 (n4).toNat = 4) (f16 : n7 = hV H1 (n4).toNat 3) (f17 : n7 = 0) (f18 : n1 ≠ 0) (f19 : n8 ≤ 2147483647) (f20 : (-2147483648) ≤ n8) (f21 : hK H1 (n4).toNat = 4) (f22 : n8 = hV H1 (n4).toNat 2) (f23 : n2 = 0) (f24 : n2 = 0) (f25 : n9 ≤ 2147483647) (f26 : (-2147483648) ≤ n9) (f27 : hK H1 (n4).toNat = 4) (f28 : n9 = hV H1 (n4).toNat 2) (f29 : n10 = 11) (f30 : n9 = n10) (f31 : n3 ≤ 0) (f32 : n11 ≤ 2147483647) (f33 : (-2147483648) ≤ n11) (f34 : hK H1 (n4).toNat = 4) (f35 : n11 = hV H1 (n4).toNat 2) (f36 : n12 = 6) (f37 : n11 < n12) (f38 : n13 = 0) : Bbo_92_228 n5 n4 n3 n2 n13 n0 n8 H0 H1 := by
  unfold Bbo_92_228
  intro d ed zo w49
  have pz := f10.2.1.2
  unfold preb_92v at pz
  have ga := f10.2.1.1.1
  unfold Ab_92v_14 at ga
  have vz : vwC H1 = vwC H0 := vwC_fr f10.1.2.1 (by decide +kernel)
  have gb := f10.2.1.1.2
  unfold Bbo_92_14 at gb
  obtain ⟨ko, w1, k⟩ := gb d ed zo w49
  have zo1 := ko.1
  have e8 : hV H1 30 8 = d := (f10.1.2.1.1 30 8 (by decide +kernel)).trans ed.symm
  have gc := ga
  have nw := ga.1.2.2.2.1.2.1
  have r16 : n7 = hV H1 30 3 := by
    have w := f16
    rw [f8] at w
    exact w
  have r22 : n8 = hV H1 30 2 := by
    have w := f22
    rw [f8] at w
    exact w
  have r28 : n9 = hV H1 30 2 := by
    have w := f28
    rw [f8] at w
    exact w
  have r35 : n11 = hV H1 30 2 := by
    have w := f35
    rw [f8] at w
    exact w
  obtain ⟨_, s0_, o0, o7, w01, m01, xn, ya, yb⟩ := gc
  have hf : hV H1 30 3 = 0 := by omega
  have ap := absC_pos ga.1 hf
  have x5 := xn hf
  have hv : (vwC H0).1 (absC H1).1 = hV H1 30 2 := by
    have u := (kd_at ga.1).resolve_left (by omega)
    rw [vz] at u
    exact u
  refine ⟨ko, w1, fun L cd hl hp => ⟨fun m1 => by exfalso; omega, fun m0 => ?_⟩⟩
  obtain ⟨rs, mz⟩ := k L cd hl ap.2
  exact ⟨rs, by omega⟩
def g_92o_14_9 : vG := ([(0, [13], [], 0), (42, [11, 12], [], 0), (0, [12], [], 6), (20, [11, 1], [1], 2), (23, [1], [1], 4), (90, [11], [], -2147483648), (91, [11], [], 2147483647), (35, [2], [], 0), (40, [9, 10], [], 0), (0, [10], [], 11), (20, [9, 1], [1], 2), (23, [1], [1], 4), (90, [9], [], -2147483648), (91, [9], [], 2147483647), (30, [3], [], 0), (30, [3], [], 0), (20, [8, 1], [1], 2), (23, [1], [1], 4), (90, [8], [], -2147483648), (91, [8], [], 2147483647), (31, [4], [], 0), (30, [7], [], 0), (20, [7, 1], [1], 3), (23, [1], [1], 4), (90, [7], [], -2147483648), (91, [7], [], 2147483647), (45, [5, 6], [], 0), (0, [6], [], 500), (5000, [0, 1, 2, 3, 4, 5], [0, 1], 14), (0, [0], [], 30), (0, [1], [], 30), (90, [2], [], -2147483648), (91, [2], [], 2147483647), (90, [3], [], -2147483648), (91, [3], [], 2147483647), (90, [4], [], -2147483648), (91, [4], [], 2147483647), (90, [5], [], -2147483648), (91, [5], [], 2147483647)], (4000, [1, 2, 3, 13, 5, 8], [1], 228))
theorem c_92o_14_9 {q0 : Nat} : vOkm T0 (eN e_92v L_92o A_92v mu_92v no_92 Bo_92 (some q0)) 1 g_92o_14_9 := vOk_inI fun ρ η f0 f1 f2 f3 f4 f5 f6 f7 f8 f9 f10 f11 f12 f13 f14 f15 f16 f17 f18 f19 f20 f21 f22 f23 f24 f25 f26 f27 f28 f29 f30 f31 f32 f33 f34 f35 f36 f37 f38 => q_92o_10 (q0 := q0) (n0 := ρ 5) (n1 := ρ 4) (n2 := ρ 3) (n3 := ρ 2) (n4 := ρ 1) (n5 := ρ 0) (n6 := ρ 6) (n7 := ρ 7) (n8 := ρ 8) (n9 := ρ 9) (n10 := ρ 10) (n11 := ρ 11) (n12 := ρ 12) (n13 := ρ 13) (H0 := η 0) (H1 := η 1) f38 f37 f36 f35 f34 f33 f32 f31 f30 f29 f28 f27 f26 f25 f24 f23 f22 f21 f20 f19 f18 f17 f16 f15 f14 f13 f12 f11 f10 f9 f8 f7 f6 f5 f4 f3 f2 f1 f0
theorem q_92o_11 {q0 : Nat} {n0 n1 n2 n3 n4 n5 n6 n7 n8 n9 n10 n11 n12 n13 n14 n15 : Int} {H0 H1 : gH} (f0 : n0 ≤ 2147483647) (f1 : (-2147483648) ≤ n0) (f2 : n1 ≤ 2147483647) (f3 : (-2147483648) ≤ n1) (f4 : n2 ≤ 2147483647) (f5 : (-2147483648) ≤ n2) (f6 : n3 ≤ 2147483647) (f7 : (-2147483648) ≤ n3) (f8 : n4 = 30) (f9 : n5 = 30) (f10 : (hLe T0 H0 H1 ∧ hFr s_92v.2.2.2.2 H0 H1 ∧ hWt T0 H1) ∧ ((Ab_92v_14 n5 n4 n3 n2 n1 n0 H0 H1 ∧ Bbo_92_14 n5 n4 n3 n2 n1 n0 H0 H1) ∧ preb_92v n5 H0) ∧ some q0 = some (mub_92v_14 n5 n4 n3 n2 n1 n0 H0 H1)) (f11 : n6 = 500) (f12 : n0 ≤ n6) (f13 : n7 ≤ 2147483647) (f14 : (-2147483648) ≤ n7) (f15 : hK H1 (n4).toNat = 4) (f16 : n7 = hV H1 (n4).toNat 3) (f17 : n7 = 0) (f18 : n1 ≠ 0) (f19 : n8 ≤ 2147483647) (f20 : (-2147483648) ≤ n8) (f21 : hK H1 (n4).toNat = 4) (f22 : n8 = hV H1 (n4).toNat 2) (f23 : n2 = 0) (f24 : n2 = 0) (f25 : n9 ≤ 2147483647) (f26 : (-2147483648) ≤ n9) (f27 : hK H1 (n4).toNat = 4) (f28 : n9 = hV H1 (n4).toNat 2) (f29 : n10 = 11) (f30 : n9 = n10) (f31 : n3 ≤ 0) (f32 : n11 ≤ 2147483647) (f33 : (-2147483648) ≤ n11) (f34 : hK H1 (n4).toNat = 4) (f35 : n11 = hV H1 (n4).toNat 2) (f36 : n12 = 6) (f37 : n12 ≤ n11) (f38 : n13 ≤ 2147483647) (f39 : (-2147483648) ≤ n13) (f40 : hK H1 (n4).toNat = 4) (f41 : n13 = hV H1 (n4).toNat 2) (f42 : n14 = 9) (f43 : n14 < n13) (f44 : n15 = 0) : Bbo_92_228 n5 n4 n3 n2 n15 n0 n8 H0 H1 := by
  unfold Bbo_92_228
  intro d ed zo w49
  have pz := f10.2.1.2
  unfold preb_92v at pz
  have ga := f10.2.1.1.1
  unfold Ab_92v_14 at ga
  have vz : vwC H1 = vwC H0 := vwC_fr f10.1.2.1 (by decide +kernel)
  have gb := f10.2.1.1.2
  unfold Bbo_92_14 at gb
  obtain ⟨ko, w1, k⟩ := gb d ed zo w49
  have zo1 := ko.1
  have e8 : hV H1 30 8 = d := (f10.1.2.1.1 30 8 (by decide +kernel)).trans ed.symm
  have gc := ga
  have nw := ga.1.2.2.2.1.2.1
  have r16 : n7 = hV H1 30 3 := by
    have w := f16
    rw [f8] at w
    exact w
  have r22 : n8 = hV H1 30 2 := by
    have w := f22
    rw [f8] at w
    exact w
  have r28 : n9 = hV H1 30 2 := by
    have w := f28
    rw [f8] at w
    exact w
  have r35 : n11 = hV H1 30 2 := by
    have w := f35
    rw [f8] at w
    exact w
  have r41 : n13 = hV H1 30 2 := by
    have w := f41
    rw [f8] at w
    exact w
  obtain ⟨_, s0_, o0, o7, w01, m01, xn, ya, yb⟩ := gc
  have hf : hV H1 30 3 = 0 := by omega
  have ap := absC_pos ga.1 hf
  have x5 := xn hf
  have hv : (vwC H0).1 (absC H1).1 = hV H1 30 2 := by
    have u := (kd_at ga.1).resolve_left (by omega)
    rw [vz] at u
    exact u
  refine ⟨ko, w1, fun L cd hl hp => ⟨fun m1 => by exfalso; omega, fun m0 => ?_⟩⟩
  obtain ⟨rs, mz⟩ := k L cd hl ap.2
  exact ⟨rs, by omega⟩
def g_92o_14_10 : vG := ([(0, [15], [], 0), (44, [13, 14], [], 0), (0, [14], [], 9), (20, [13, 1], [1], 2), (23, [1], [1], 4), (90, [13], [], -2147483648), (91, [13], [], 2147483647), (43, [11, 12], [], 0), (0, [12], [], 6), (20, [11, 1], [1], 2), (23, [1], [1], 4), (90, [11], [], -2147483648), (91, [11], [], 2147483647), (35, [2], [], 0), (40, [9, 10], [], 0), (0, [10], [], 11), (20, [9, 1], [1], 2), (23, [1], [1], 4), (90, [9], [], -2147483648), (91, [9], [], 2147483647), (30, [3], [], 0), (30, [3], [], 0), (20, [8, 1], [1], 2), (23, [1], [1], 4), (90, [8], [], -2147483648), (91, [8], [], 2147483647), (31, [4], [], 0), (30, [7], [], 0), (20, [7, 1], [1], 3), (23, [1], [1], 4), (90, [7], [], -2147483648), (91, [7], [], 2147483647), (45, [5, 6], [], 0), (0, [6], [], 500), (5000, [0, 1, 2, 3, 4, 5], [0, 1], 14), (0, [0], [], 30), (0, [1], [], 30), (90, [2], [], -2147483648), (91, [2], [], 2147483647), (90, [3], [], -2147483648), (91, [3], [], 2147483647), (90, [4], [], -2147483648), (91, [4], [], 2147483647), (90, [5], [], -2147483648), (91, [5], [], 2147483647)], (4000, [1, 2, 3, 15, 5, 8], [1], 228))
theorem c_92o_14_10 {q0 : Nat} : vOkm T0 (eN e_92v L_92o A_92v mu_92v no_92 Bo_92 (some q0)) 1 g_92o_14_10 := vOk_inI fun ρ η f0 f1 f2 f3 f4 f5 f6 f7 f8 f9 f10 f11 f12 f13 f14 f15 f16 f17 f18 f19 f20 f21 f22 f23 f24 f25 f26 f27 f28 f29 f30 f31 f32 f33 f34 f35 f36 f37 f38 f39 f40 f41 f42 f43 f44 => q_92o_11 (q0 := q0) (n0 := ρ 5) (n1 := ρ 4) (n2 := ρ 3) (n3 := ρ 2) (n4 := ρ 1) (n5 := ρ 0) (n6 := ρ 6) (n7 := ρ 7) (n8 := ρ 8) (n9 := ρ 9) (n10 := ρ 10) (n11 := ρ 11) (n12 := ρ 12) (n13 := ρ 13) (n14 := ρ 14) (n15 := ρ 15) (H0 := η 0) (H1 := η 1) f44 f43 f42 f41 f40 f39 f38 f37 f36 f35 f34 f33 f32 f31 f30 f29 f28 f27 f26 f25 f24 f23 f22 f21 f20 f19 f18 f17 f16 f15 f14 f13 f12 f11 f10 f9 f8 f7 f6 f5 f4 f3 f2 f1 f0
theorem q_92o_12 {q0 : Nat} {n0 n1 n2 n3 n4 n5 n6 n7 n8 n9 n10 n11 n12 n13 n14 n15 n16 n17 n18 : Int} {H0 H1 H2 H3 H4 : gH} (f0 : n0 ≤ 2147483647) (f1 : (-2147483648) ≤ n0) (f2 : n1 ≤ 2147483647) (f3 : (-2147483648) ≤ n1) (f4 : n2 ≤ 2147483647) (f5 : (-2147483648) ≤ n2) (f6 : n3 ≤ 2147483647) (f7 : (-2147483648) ≤ n3) (f8 : n4 = 30) (f9 : n5 = 30) (f10 : (hLe T0 H0 H1 ∧ hFr s_92v.2.2.2.2 H0 H1 ∧ hWt T0 H1) ∧ ((Ab_92v_14 n5 n4 n3 n2 n1 n0 H0 H1 ∧ Bbo_92_14 n5 n4 n3 n2 n1 n0 H0 H1) ∧ preb_92v n5 H0) ∧ some q0 = some (mub_92v_14 n5 n4 n3 n2 n1 n0 H0 H1)) (f11 : n6 = 500) (f12 : n0 ≤ n6) (f13 : n7 ≤ 2147483647) (f14 : (-2147483648) ≤ n7) (f15 : hK H1 (n4).toNat = 4) (f16 : n7 = hV H1 (n4).toNat 3) (f17 : n7 = 0) (f18 : n1 ≠ 0) (f19 : n8 ≤ 2147483647) (f20 : (-2147483648) ≤ n8) (f21 : hK H1 (n4).toNat = 4) (f22 : n8 = hV H1 (n4).toNat 2) (f23 : n2 = 0) (f24 : n2 = 0) (f25 : n9 ≤ 2147483647) (f26 : (-2147483648) ≤ n9) (f27 : hK H1 (n4).toNat = 4) (f28 : n9 = hV H1 (n4).toNat 2) (f29 : n10 = 11) (f30 : n9 = n10) (f31 : n3 ≤ 0) (f32 : n11 ≤ 2147483647) (f33 : (-2147483648) ≤ n11) (f34 : hK H1 (n4).toNat = 4) (f35 : n11 = hV H1 (n4).toNat 2) (f36 : n12 = 6) (f37 : n12 ≤ n11) (f38 : n13 ≤ 2147483647) (f39 : (-2147483648) ≤ n13) (f40 : hK H1 (n4).toNat = 4) (f41 : n13 = hV H1 (n4).toNat 2) (f42 : n14 = 9) (f43 : n13 ≤ n14) (f44 : n15 ≤ 2147483647) (f45 : (-2147483648) ≤ n15) (f46 : hK H1 (n4).toNat = 4) (f47 : n15 = hV H1 (n4).toNat 2) (f48 : n16 ≤ 2147483647) (f49 : (-2147483648) ≤ n16) (f50 : (hLe T0 H1 H2 ∧ hFr s_93.2.2.2.2 H1 H2 ∧ ((0 : Int) = 0 → H2.length = H1.length) ∧ hWt T0 H2) ∧ (True ∧ nbo_93 n16 n15 H1 H2)) (f51 : (hLe T0 H2 H3 ∧ hFr s_95.2.2.2.2 H2 H3 ∧ ((0 : Int) = 0 → H3.length = H2.length) ∧ hWt T0 H3) ∧ (True ∧ nbo_95 n4 n16 H2 H3)) (f52 : n17 ≤ 2147483647) (f53 : (-2147483648) ≤ n17) (f54 : hK H3 (n4).toNat = 4) (f55 : n17 = hV H3 (n4).toNat 2) (f56 : (hLe T0 H3 H4 ∧ hFr s_94.2.2.2.2 H3 H4 ∧ ((0 : Int) = 0 → H4.length = H3.length) ∧ hWt T0 H4) ∧ (True ∧ nbo_94 n4 n17 H3 H4)) (f57 : n18 = 1) : Bbo_92_228 n5 n4 n3 n18 n1 n0 n8 H0 H4 := by
  unfold Bbo_92_228
  intro d ed zo w49
  have pz := f10.2.1.2
  unfold preb_92v at pz
  have ga := f10.2.1.1.1
  unfold Ab_92v_14 at ga
  have vz : vwC H1 = vwC H0 := vwC_fr f10.1.2.1 (by decide +kernel)
  have s0 := PF_fr f50.1.1 f50.1.2.1 (by decide +kernel) ga.1
  have a0 : absC H2 = (absC H1) := s0.1
  have v0 : vwC H2 = vwC H0 := s0.2.1.trans vz
  have s1 := PF_fr f51.1.1 f51.1.2.1 (by decide +kernel) s0.2.2
  have a1 : absC H3 = (absC H1) := s1.1.trans a0
  have v1 : vwC H3 = vwC H0 := s1.2.1.trans v0
  have s2 := PF_fr f56.1.1 f56.1.2.1 (by decide +kernel) s1.2.2
  have a2 : absC H4 = (absC H1) := s2.1.trans a1
  have v2 : vwC H4 = vwC H0 := s2.2.1.trans v1
  have gb := f10.2.1.1.2
  unfold Bbo_92_14 at gb
  obtain ⟨ko, w1, k⟩ := gb d ed zo w49
  have zo1 := ko.1
  have e8 : hV H1 30 8 = d := (f10.1.2.1.1 30 8 (by decide +kernel)).trans ed.symm
  have gc := ga
  have nw := ga.1.2.2.2.1.2.1
  have r16 : n7 = hV H1 30 3 := by
    have w := f16
    rw [f8] at w
    exact w
  have r22 : n8 = hV H1 30 2 := by
    have w := f22
    rw [f8] at w
    exact w
  have r28 : n9 = hV H1 30 2 := by
    have w := f28
    rw [f8] at w
    exact w
  have r35 : n11 = hV H1 30 2 := by
    have w := f35
    rw [f8] at w
    exact w
  have r41 : n13 = hV H1 30 2 := by
    have w := f41
    rw [f8] at w
    exact w
  have r47 : n15 = hV H1 30 2 := by
    have w := f47
    rw [f8] at w
    exact w
  have r55 : n17 = hV H3 30 2 := by
    have w := f55
    rw [f8] at w
    exact w
  obtain ⟨_, s0_, o0, o7, w01, m01, xn, ya, yb⟩ := gc
  have hf : hV H1 30 3 = 0 := by omega
  have ap := absC_pos ga.1 hf
  have x5 := xn hf
  have hv : (vwC H0).1 (absC H1).1 = hV H1 30 2 := by
    have u := (kd_at ga.1).resolve_left (by omega)
    rw [vz] at u
    exact u
  have rk := f50.2.2
  unfold nbo_93 at rk
  have rc := rkF_c (k := n15) (by omega) (by omega)
  rw [← rk] at rc
  have q51 := f51.2.2
  unfold nbo_95 at q51
  have q51 := q51 d (show hV H2 30 8 = d from (f50.1.2.1.1 30 8 (by decide +kernel)).trans e8).symm rc.1
  rw [rc.2] at q51
  have z2 := KO_sm zo1 (SMf_fr f50.1.1 f50.1.2.1 (by decide +kernel) (by decide +kernel))
  have w2 := W49_le f50.1.1 w1
  have kr := (q51 z2.1 w2).1
  have w3 := W49_le f51.1.1 w2
  have qh := f56.2.2
  unfold nbo_94 at qh
  refine ⟨KO_tr ko (KO_tr z2 (KO_tr kr (KO_sm kr.1 (SMf_fr f56.1.1 f56.1.2.1 (by decide +kernel) (by decide +kernel))))), W49_le f56.1.1 w3, fun L cd hl hp => ⟨fun m1 x5 => ?_, fun m0 => by exfalso; omega⟩⟩
  rw [a2]
  obtain ⟨rs, mz⟩ := k L cd hl ap.2
  have rs2 := RSs_sm zo1 rs (SMf_fr f50.1.1 f50.1.2.1 (by decide +kernel) (by decide +kernel)) (f50.1.2.1.1 30 15 (by decide +kernel)) (fRow f50.1.2.1 49 (by decide +kernel))
  rw [show n18 = 1 by omega, show n3 = n3 by omega]
  exact RTk_sign z2.1 w2 rs2 (by omega) hl (by omega) (by omega) (by omega) (by omega) q51 (by rw [hv, show n15 = hV H1 30 2 by omega]) w3 (SMf_fr f56.1.1 f56.1.2.1 (by decide +kernel) (by decide +kernel)) qh (by rw [hv, r55]; exact (f51.1.2.1.1 30 2 (by decide +kernel)).trans (f50.1.2.1.1 30 2 (by decide +kernel)))
def g_92o_14_11 : vG := ([(0, [18], [], 1), (1094, [1, 17], [3, 4], 0), (20, [17, 1], [3], 2), (23, [1], [3], 4), (90, [17], [], -2147483648), (91, [17], [], 2147483647), (1095, [1, 16], [2, 3], 0), (1093, [16, 15], [1, 2], 0), (90, [16], [], -2147483648), (91, [16], [], 2147483647), (20, [15, 1], [1], 2), (23, [1], [1], 4), (90, [15], [], -2147483648), (91, [15], [], 2147483647), (45, [13, 14], [], 0), (0, [14], [], 9), (20, [13, 1], [1], 2), (23, [1], [1], 4), (90, [13], [], -2147483648), (91, [13], [], 2147483647), (43, [11, 12], [], 0), (0, [12], [], 6), (20, [11, 1], [1], 2), (23, [1], [1], 4), (90, [11], [], -2147483648), (91, [11], [], 2147483647), (35, [2], [], 0), (40, [9, 10], [], 0), (0, [10], [], 11), (20, [9, 1], [1], 2), (23, [1], [1], 4), (90, [9], [], -2147483648), (91, [9], [], 2147483647), (30, [3], [], 0), (30, [3], [], 0), (20, [8, 1], [1], 2), (23, [1], [1], 4), (90, [8], [], -2147483648), (91, [8], [], 2147483647), (31, [4], [], 0), (30, [7], [], 0), (20, [7, 1], [1], 3), (23, [1], [1], 4), (90, [7], [], -2147483648), (91, [7], [], 2147483647), (45, [5, 6], [], 0), (0, [6], [], 500), (5000, [0, 1, 2, 3, 4, 5], [0, 1], 14), (0, [0], [], 30), (0, [1], [], 30), (90, [2], [], -2147483648), (91, [2], [], 2147483647), (90, [3], [], -2147483648), (91, [3], [], 2147483647), (90, [4], [], -2147483648), (91, [4], [], 2147483647), (90, [5], [], -2147483648), (91, [5], [], 2147483647)], (4000, [1, 2, 18, 4, 5, 8], [4], 228))
theorem c_92o_14_11 {q0 : Nat} : vOkm T0 (eN e_92v L_92o A_92v mu_92v no_92 Bo_92 (some q0)) 1 g_92o_14_11 := vOk_inI fun ρ η f0 f1 f2 f3 f4 f5 f6 f7 f8 f9 f10 f11 f12 f13 f14 f15 f16 f17 f18 f19 f20 f21 f22 f23 f24 f25 f26 f27 f28 f29 f30 f31 f32 f33 f34 f35 f36 f37 f38 f39 f40 f41 f42 f43 f44 f45 f46 f47 f48 f49 f50 f51 f52 f53 f54 f55 f56 f57 => q_92o_12 (q0 := q0) (n0 := ρ 5) (n1 := ρ 4) (n2 := ρ 3) (n3 := ρ 2) (n4 := ρ 1) (n5 := ρ 0) (n6 := ρ 6) (n7 := ρ 7) (n8 := ρ 8) (n9 := ρ 9) (n10 := ρ 10) (n11 := ρ 11) (n12 := ρ 12) (n13 := ρ 13) (n14 := ρ 14) (n15 := ρ 15) (n16 := ρ 16) (n17 := ρ 17) (n18 := ρ 18) (H0 := η 0) (H1 := η 1) (H2 := η 2) (H3 := η 3) (H4 := η 4) f57 f56 f55 f54 f53 f52 f51 f50 f49 f48 f47 f46 f45 f44 f43 f42 f41 f40 f39 f38 f37 f36 f35 f34 f33 f32 f31 f30 f29 f28 f27 f26 f25 f24 f23 f22 f21 f20 f19 f18 f17 f16 f15 f14 f13 f12 f11 f10 f9 f8 f7 f6 f5 f4 f3 f2 f1 f0
theorem q_92o_13 {q0 : Nat} {n0 n1 n2 n3 n4 n5 n6 n7 n8 n9 n10 n11 n12 n13 n14 n15 n16 : Int} {H0 H1 H2 H3 : gH} (f0 : n0 ≤ 2147483647) (f1 : (-2147483648) ≤ n0) (f2 : n1 ≤ 2147483647) (f3 : (-2147483648) ≤ n1) (f4 : n2 ≤ 2147483647) (f5 : (-2147483648) ≤ n2) (f6 : n3 ≤ 2147483647) (f7 : (-2147483648) ≤ n3) (f8 : n4 = 30) (f9 : n5 = 30) (f10 : (hLe T0 H0 H1 ∧ hFr s_92v.2.2.2.2 H0 H1 ∧ hWt T0 H1) ∧ ((Ab_92v_14 n5 n4 n3 n2 n1 n0 H0 H1 ∧ Bbo_92_14 n5 n4 n3 n2 n1 n0 H0 H1) ∧ preb_92v n5 H0) ∧ some q0 = some (mub_92v_14 n5 n4 n3 n2 n1 n0 H0 H1)) (f11 : n6 = 500) (f12 : n0 ≤ n6) (f13 : n7 ≤ 2147483647) (f14 : (-2147483648) ≤ n7) (f15 : hK H1 (n4).toNat = 4) (f16 : n7 = hV H1 (n4).toNat 3) (f17 : n7 = 0) (f18 : n1 ≠ 0) (f19 : n8 ≤ 2147483647) (f20 : (-2147483648) ≤ n8) (f21 : hK H1 (n4).toNat = 4) (f22 : n8 = hV H1 (n4).toNat 2) (f23 : n2 = 0) (f24 : n2 = 0) (f25 : n9 ≤ 2147483647) (f26 : (-2147483648) ≤ n9) (f27 : hK H1 (n4).toNat = 4) (f28 : n9 = hV H1 (n4).toNat 2) (f29 : n10 = 11) (f30 : n9 = n10) (f31 : 0 < n3) (f32 : n11 = 1) (f33 : (hLe T0 H1 H2 ∧ hFr s_95.2.2.2.2 H1 H2 ∧ ((0 : Int) = 0 → H2.length = H1.length) ∧ hWt T0 H2) ∧ (True ∧ nbo_95 n4 n11 H1 H2)) (f34 : n12 ≤ 2147483647) (f35 : (-2147483648) ≤ n12) (f36 : hK H2 (n4).toNat = 4) (f37 : n12 = hV H2 (n4).toNat 15) (f38 : n13 = 1) (f39 : n14 = w32 (n12 - n13)) (f40 : hK H2 (n4).toNat = 4) (f41 : n15 = 15) (f42 : hUpd H3 H2 n4 n15 n14) (f43 : n16 = w32 (n3 + (-1))) : Bbo_92_228 n5 n4 n16 n2 n1 n0 n8 H0 H3 := by
  unfold Bbo_92_228
  intro d ed zo w49
  have pz := f10.2.1.2
  unfold preb_92v at pz
  have ga := f10.2.1.1.1
  unfold Ab_92v_14 at ga
  have vz : vwC H1 = vwC H0 := vwC_fr f10.1.2.1 (by decide +kernel)
  have s0 := PF_fr f33.1.1 f33.1.2.1 (by decide +kernel) ga.1
  have a0 : absC H2 = (absC H1) := s0.1
  have v0 : vwC H2 = vwC H0 := s0.2.1.trans vz
  have s1 := PF_30 f42 f8 (by omega) s0.2.2
  have a1 : absC H3 = (absC H1) := s1.1.trans a0
  have v1 : vwC H3 = vwC H0 := s1.2.1.trans v0
  have gb := f10.2.1.1.2
  unfold Bbo_92_14 at gb
  obtain ⟨ko, w1, k⟩ := gb d ed zo w49
  have zo1 := ko.1
  have e8 : hV H1 30 8 = d := (f10.1.2.1.1 30 8 (by decide +kernel)).trans ed.symm
  have gc := ga
  have nw := ga.1.2.2.2.1.2.1
  have r16 : n7 = hV H1 30 3 := by
    have w := f16
    rw [f8] at w
    exact w
  have r22 : n8 = hV H1 30 2 := by
    have w := f22
    rw [f8] at w
    exact w
  have r28 : n9 = hV H1 30 2 := by
    have w := f28
    rw [f8] at w
    exact w
  have r37 : n12 = hV H2 30 15 := by
    have w := f37
    rw [f8] at w
    exact w
  obtain ⟨_, s0_, o0, o7, w01, m01, xn, ya, yb⟩ := gc
  have q43_ := f43
  unfold w32 at q43_
  have hf : hV H1 30 3 = 0 := by omega
  have ap := absC_pos ga.1 hf
  have x5 := xn hf
  have hv : (vwC H0).1 (absC H1).1 = hV H1 30 2 := by
    have u := (kd_at ga.1).resolve_left (by omega)
    rw [vz] at u
    exact u
  have q33 := f33.2.2
  unfold nbo_95 at q33
  have q33 := q33 d (show hV H1 30 8 = d from (rfl).trans e8).symm (by omega)
  rw [decide_eq_false (by omega)] at q33
  have k30 : hK H2 30 = 4 := by
    have w := f36
    rw [f8] at w
    exact w
  have kr := (q33 zo1 w1).1
  have en := f39
  rw [f38] at en
  refine ⟨KO_tr ko (KO_tr kr (KO_rd kr.1 k30 f42 f8)), W49_up f42 (W49_le f33.1.1 w1), fun L cd hl hp => ⟨fun m1 x5 => ?_, fun m0 => by exfalso; omega⟩⟩
  rw [a1]
  obtain ⟨rs, mz⟩ := k L cd hl ap.2
  rw [show n2 = 0 by omega]
  exact RTk_close zo1 w1 rs (by omega) hl (by omega) (by omega) (by omega) (by omega) q33 r37 en f42 f8 f41 (by omega)
def g_92o_14_12 : vG := ([(10, [16, 2], [], -1), (80, [1, 15, 14], [3, 2], 0), (0, [15], [], 15), (23, [1], [2], 4), (2, [14, 12, 13], [], 0), (0, [13], [], 1), (20, [12, 1], [2], 15), (23, [1], [2], 4), (90, [12], [], -2147483648), (91, [12], [], 2147483647), (1095, [1, 11], [1, 2], 0), (0, [11], [], 1), (34, [2], [], 0), (40, [9, 10], [], 0), (0, [10], [], 11), (20, [9, 1], [1], 2), (23, [1], [1], 4), (90, [9], [], -2147483648), (91, [9], [], 2147483647), (30, [3], [], 0), (30, [3], [], 0), (20, [8, 1], [1], 2), (23, [1], [1], 4), (90, [8], [], -2147483648), (91, [8], [], 2147483647), (31, [4], [], 0), (30, [7], [], 0), (20, [7, 1], [1], 3), (23, [1], [1], 4), (90, [7], [], -2147483648), (91, [7], [], 2147483647), (45, [5, 6], [], 0), (0, [6], [], 500), (5000, [0, 1, 2, 3, 4, 5], [0, 1], 14), (0, [0], [], 30), (0, [1], [], 30), (90, [2], [], -2147483648), (91, [2], [], 2147483647), (90, [3], [], -2147483648), (91, [3], [], 2147483647), (90, [4], [], -2147483648), (91, [4], [], 2147483647), (90, [5], [], -2147483648), (91, [5], [], 2147483647)], (4000, [1, 16, 3, 4, 5, 8], [3], 228))
theorem c_92o_14_12 {q0 : Nat} : vOkm T0 (eN e_92v L_92o A_92v mu_92v no_92 Bo_92 (some q0)) 1 g_92o_14_12 := vOk_inI fun ρ η f0 f1 f2 f3 f4 f5 f6 f7 f8 f9 f10 f11 f12 f13 f14 f15 f16 f17 f18 f19 f20 f21 f22 f23 f24 f25 f26 f27 f28 f29 f30 f31 f32 f33 f34 f35 f36 f37 f38 f39 f40 f41 f42 f43 => q_92o_13 (q0 := q0) (n0 := ρ 5) (n1 := ρ 4) (n2 := ρ 3) (n3 := ρ 2) (n4 := ρ 1) (n5 := ρ 0) (n6 := ρ 6) (n7 := ρ 7) (n8 := ρ 8) (n9 := ρ 9) (n10 := ρ 10) (n11 := ρ 11) (n12 := ρ 12) (n13 := ρ 13) (n14 := ρ 14) (n15 := ρ 15) (n16 := ρ 16) (H0 := η 0) (H1 := η 1) (H2 := η 2) (H3 := η 3) f43 f42 f41 f40 f39 f38 f37 f36 f35 f34 f33 f32 f31 f30 f29 f28 f27 f26 f25 f24 f23 f22 f21 f20 f19 f18 f17 f16 f15 f14 f13 f12 f11 f10 f9 f8 f7 f6 f5 f4 f3 f2 f1 f0
theorem q_92o_14 {q0 : Nat} {n0 n1 n2 n3 n4 n5 n6 n7 n8 n9 n10 n11 n12 n13 n14 n15 n16 n17 n18 : Int} {H0 H1 H2 H3 : gH} (f0 : n0 ≤ 2147483647) (f1 : (-2147483648) ≤ n0) (f2 : n1 ≤ 2147483647) (f3 : (-2147483648) ≤ n1) (f4 : n2 ≤ 2147483647) (f5 : (-2147483648) ≤ n2) (f6 : n3 ≤ 2147483647) (f7 : (-2147483648) ≤ n3) (f8 : n4 = 30) (f9 : n5 = 30) (f10 : (hLe T0 H0 H1 ∧ hFr s_92v.2.2.2.2 H0 H1 ∧ hWt T0 H1) ∧ ((Ab_92v_14 n5 n4 n3 n2 n1 n0 H0 H1 ∧ Bbo_92_14 n5 n4 n3 n2 n1 n0 H0 H1) ∧ preb_92v n5 H0) ∧ some q0 = some (mub_92v_14 n5 n4 n3 n2 n1 n0 H0 H1)) (f11 : n6 = 500) (f12 : n0 ≤ n6) (f13 : n7 ≤ 2147483647) (f14 : (-2147483648) ≤ n7) (f15 : hK H1 (n4).toNat = 4) (f16 : n7 = hV H1 (n4).toNat 3) (f17 : n7 = 0) (f18 : n1 ≠ 0) (f19 : n8 ≤ 2147483647) (f20 : (-2147483648) ≤ n8) (f21 : hK H1 (n4).toNat = 4) (f22 : n8 = hV H1 (n4).toNat 2) (f23 : n2 = 0) (f24 : n2 ≠ 0) (f25 : n9 ≤ 2147483647) (f26 : (-2147483648) ≤ n9) (f27 : hK H1 (n4).toNat = 4) (f28 : n9 = hV H1 (n4).toNat 2) (f29 : n10 = 45) (f30 : n9 < n10) (f31 : n11 = 0) (f32 : 0 ≤ n12) (f33 : hK H1 (n4).toNat = 4) (f34 : n12 = hV H1 (n4).toNat 8) (f35 : n11 = 0) (f36 : n13 = 31) (f37 : hK H1 (n4).toNat = 4) (f38 : n13 = hV H1 (n4).toNat 0) (f39 : n14 ≤ 2147483647) (f40 : (-2147483648) ≤ n14) (f41 : hK H1 (n4).toNat = 4) (f42 : n14 = hV H1 (n4).toNat 1) (f43 : (hLe T0 H1 H2 ∧ hFr s_123v.2.2.2.2 H1 H2 ∧ ((0 : Int) = 0 → H2.length = H1.length) ∧ hWt T0 H2) ∧ postb_123v n15 n13 n14 H1 H2) (f44 : n16 = (Int64.ofInt n15).toInt32.toInt) (f45 : (hLe T0 H2 H3 ∧ hFr s_98.2.2.2.2 H2 H3 ∧ ((0 : Int) = 0 → H3.length = H2.length) ∧ hWt T0 H3) ∧ (True ∧ nbo_98 n12 n16 H2 H3)) (f46 : n11 = 0) (f47 : n17 = 3) (f48 : n18 = 0) : Bbo_92_228 n5 n4 n3 n18 n1 n0 n17 H0 H3 := by
  unfold Bbo_92_228
  intro d ed zo w49
  have pz := f10.2.1.2
  unfold preb_92v at pz
  have ga := f10.2.1.1.1
  unfold Ab_92v_14 at ga
  have vz : vwC H1 = vwC H0 := vwC_fr f10.1.2.1 (by decide +kernel)
  have s0 := PF_fr f43.1.1 f43.1.2.1 (by decide +kernel) ga.1
  have a0 : absC H2 = (absC H1) := s0.1
  have v0 : vwC H2 = vwC H0 := s0.2.1.trans vz
  have s1 := PF_fr f45.1.1 f45.1.2.1 (by decide +kernel) s0.2.2
  have a1 : absC H3 = (absC H1) := s1.1.trans a0
  have v1 : vwC H3 = vwC H0 := s1.2.1.trans v0
  have gb := f10.2.1.1.2
  unfold Bbo_92_14 at gb
  obtain ⟨ko, w1, k⟩ := gb d ed zo w49
  have zo1 := ko.1
  have e8 : hV H1 30 8 = d := (f10.1.2.1.1 30 8 (by decide +kernel)).trans ed.symm
  have gc := ga
  have nw := ga.1.2.2.2.1.2.1
  have r16 : n7 = hV H1 30 3 := by
    have w := f16
    rw [f8] at w
    exact w
  have r22 : n8 = hV H1 30 2 := by
    have w := f22
    rw [f8] at w
    exact w
  have r28 : n9 = hV H1 30 2 := by
    have w := f28
    rw [f8] at w
    exact w
  have r34 : n12 = hV H1 30 8 := by
    have w := f34
    rw [f8] at w
    exact w
  have r38 : n13 = hV H1 30 0 := by
    have w := f38
    rw [f8] at w
    exact w
  have r42 : n14 = hV H1 30 1 := by
    have w := f42
    rw [f8] at w
    exact w
  obtain ⟨_, s0_, o0, o7, w01, m01, xn, ya, yb⟩ := gc
  have hf : hV H1 30 3 = 0 := by omega
  have ap := absC_pos ga.1 hf
  have x5 := xn hf
  have hv : (vwC H0).1 (absC H1).1 = hV H1 30 2 := by
    have u := (kd_at ga.1).resolve_left (by omega)
    rw [vz] at u
    exact u
  have qe := f45.2.2
  unfold nbo_98 at qe
  rw [show n12 = d from (r34.trans (rfl)).trans e8] at qe
  have zr : KO H1 H2 d := KO_sm zo1 (SMf_fr f43.1.1 f43.1.2.1 (by decide +kernel) (by decide +kernel))
  have ke := qe zr.1
  refine ⟨KO_tr ko (KO_tr zr ke.1), W49_le f45.1.1 (W49_le f43.1.1 w1), fun L cd hl hp => ⟨fun m1 x5 => ?_, fun m0 => by exfalso; omega⟩⟩
  rw [a1]
  rw [a1] at x5
  obtain ⟨rs, mz⟩ := k L cd hl ap.2
  have pv := f43.2
  unfold postb_123v at pv
  rw [r42] at pv
  have hx := val_at ga.1 pv f44
  rw [vz] at hx
  have tv := TV_of pz.2.1 (absC H1).1
  rw [show n18 = 0 by omega, show n3 = n3 by omega]
  exact RTk_unit zr.1 (RSs_sm zo1 rs (SMf_fr f43.1.1 f43.1.2.1 (by decide +kernel) (by decide +kernel)) (f43.1.2.1.1 30 15 (by decide +kernel)) (fRow f43.1.2.1 49 (by decide +kernel))) (by omega) hl (by omega) (by omega) (.inl ⟨by omega, hx (by omega), tv.1, tv.2⟩) qe (f45.1.2.1.1 30 15 (by decide +kernel)) (fRow f45.1.2.1 49 (by decide +kernel))
def g_92o_14_13 : vG := ([(0, [18], [], 0), (0, [17], [], 3), (30, [11], [], 0), (1098, [12, 16], [2, 3], 0), (18, [16, 15], [], 0), (1123, [15, 13, 14], [1, 2], 0), (20, [14, 1], [1], 1), (23, [1], [1], 4), (90, [14], [], -2147483648), (91, [14], [], 2147483647), (20, [13, 1], [1], 0), (23, [1], [1], 4), (0, [13], [], 31), (30, [11], [], 0), (20, [12, 1], [1], 8), (23, [1], [1], 4), (51, [12], [], 0), (0, [11], [], 0), (42, [9, 10], [], 0), (0, [10], [], 45), (20, [9, 1], [1], 2), (23, [1], [1], 4), (90, [9], [], -2147483648), (91, [9], [], 2147483647), (31, [3], [], 0), (30, [3], [], 0), (20, [8, 1], [1], 2), (23, [1], [1], 4), (90, [8], [], -2147483648), (91, [8], [], 2147483647), (31, [4], [], 0), (30, [7], [], 0), (20, [7, 1], [1], 3), (23, [1], [1], 4), (90, [7], [], -2147483648), (91, [7], [], 2147483647), (45, [5, 6], [], 0), (0, [6], [], 500), (5000, [0, 1, 2, 3, 4, 5], [0, 1], 14), (0, [0], [], 30), (0, [1], [], 30), (90, [2], [], -2147483648), (91, [2], [], 2147483647), (90, [3], [], -2147483648), (91, [3], [], 2147483647), (90, [4], [], -2147483648), (91, [4], [], 2147483647), (90, [5], [], -2147483648), (91, [5], [], 2147483647)], (4000, [1, 2, 18, 4, 5, 17], [3], 228))
theorem c_92o_14_13 {q0 : Nat} : vOkm T0 (eN e_92v L_92o A_92v mu_92v no_92 Bo_92 (some q0)) 1 g_92o_14_13 := vOk_inI fun ρ η f0 f1 f2 f3 f4 f5 f6 f7 f8 f9 f10 f11 f12 f13 f14 f15 f16 f17 f18 f19 f20 f21 f22 f23 f24 f25 f26 f27 f28 f29 f30 f31 f32 f33 f34 f35 f36 f37 f38 f39 f40 f41 f42 f43 f44 f45 f46 f47 f48 => q_92o_14 (q0 := q0) (n0 := ρ 5) (n1 := ρ 4) (n2 := ρ 3) (n3 := ρ 2) (n4 := ρ 1) (n5 := ρ 0) (n6 := ρ 6) (n7 := ρ 7) (n8 := ρ 8) (n9 := ρ 9) (n10 := ρ 10) (n11 := ρ 11) (n12 := ρ 12) (n13 := ρ 13) (n14 := ρ 14) (n15 := ρ 15) (n16 := ρ 16) (n17 := ρ 17) (n18 := ρ 18) (H0 := η 0) (H1 := η 1) (H2 := η 2) (H3 := η 3) f48 f47 f46 f45 f44 f43 f42 f41 f40 f39 f38 f37 f36 f35 f34 f33 f32 f31 f30 f29 f28 f27 f26 f25 f24 f23 f22 f21 f20 f19 f18 f17 f16 f15 f14 f13 f12 f11 f10 f9 f8 f7 f6 f5 f4 f3 f2 f1 f0
theorem q_92o_15 {q0 : Nat} {n0 n1 n2 n3 n4 n5 n6 n7 n8 n9 n10 n11 n12 n13 n14 n15 n16 n17 n18 : Int} {H0 H1 H2 H3 : gH} (f0 : n0 ≤ 2147483647) (f1 : (-2147483648) ≤ n0) (f2 : n1 ≤ 2147483647) (f3 : (-2147483648) ≤ n1) (f4 : n2 ≤ 2147483647) (f5 : (-2147483648) ≤ n2) (f6 : n3 ≤ 2147483647) (f7 : (-2147483648) ≤ n3) (f8 : n4 = 30) (f9 : n5 = 30) (f10 : (hLe T0 H0 H1 ∧ hFr s_92v.2.2.2.2 H0 H1 ∧ hWt T0 H1) ∧ ((Ab_92v_14 n5 n4 n3 n2 n1 n0 H0 H1 ∧ Bbo_92_14 n5 n4 n3 n2 n1 n0 H0 H1) ∧ preb_92v n5 H0) ∧ some q0 = some (mub_92v_14 n5 n4 n3 n2 n1 n0 H0 H1)) (f11 : n6 = 500) (f12 : n0 ≤ n6) (f13 : n7 ≤ 2147483647) (f14 : (-2147483648) ≤ n7) (f15 : hK H1 (n4).toNat = 4) (f16 : n7 = hV H1 (n4).toNat 3) (f17 : n7 = 0) (f18 : n1 ≠ 0) (f19 : n8 ≤ 2147483647) (f20 : (-2147483648) ≤ n8) (f21 : hK H1 (n4).toNat = 4) (f22 : n8 = hV H1 (n4).toNat 2) (f23 : n2 = 0) (f24 : n2 ≠ 0) (f25 : n9 ≤ 2147483647) (f26 : (-2147483648) ≤ n9) (f27 : hK H1 (n4).toNat = 4) (f28 : n9 = hV H1 (n4).toNat 2) (f29 : n10 = 45) (f30 : n9 < n10) (f31 : n11 = 0) (f32 : 0 ≤ n12) (f33 : hK H1 (n4).toNat = 4) (f34 : n12 = hV H1 (n4).toNat 8) (f35 : n11 = 0) (f36 : n13 = 31) (f37 : hK H1 (n4).toNat = 4) (f38 : n13 = hV H1 (n4).toNat 0) (f39 : n14 ≤ 2147483647) (f40 : (-2147483648) ≤ n14) (f41 : hK H1 (n4).toNat = 4) (f42 : n14 = hV H1 (n4).toNat 1) (f43 : (hLe T0 H1 H2 ∧ hFr s_123v.2.2.2.2 H1 H2 ∧ ((0 : Int) = 0 → H2.length = H1.length) ∧ hWt T0 H2) ∧ postb_123v n15 n13 n14 H1 H2) (f44 : n16 = (Int64.ofInt n15).toInt32.toInt) (f45 : (hLe T0 H2 H3 ∧ hFr s_98.2.2.2.2 H2 H3 ∧ ((0 : Int) = 0 → H3.length = H2.length) ∧ hWt T0 H3) ∧ (True ∧ nbo_98 n12 n16 H2 H3)) (f46 : n11 ≠ 0) (f47 : n17 ≤ 2147483647) (f48 : (-2147483648) ≤ n17) (f49 : hK H3 (n4).toNat = 4) (f50 : n17 = hV H3 (n4).toNat 2) (f51 : n18 = 0) : Bbo_92_228 n5 n4 n3 n18 n1 n0 n17 H0 H3 := by
  exfalso
  omega
def g_92o_14_14 : vG := ([(0, [18], [], 0), (20, [17, 1], [3], 2), (23, [1], [3], 4), (90, [17], [], -2147483648), (91, [17], [], 2147483647), (31, [11], [], 0), (1098, [12, 16], [2, 3], 0), (18, [16, 15], [], 0), (1123, [15, 13, 14], [1, 2], 0), (20, [14, 1], [1], 1), (23, [1], [1], 4), (90, [14], [], -2147483648), (91, [14], [], 2147483647), (20, [13, 1], [1], 0), (23, [1], [1], 4), (0, [13], [], 31), (30, [11], [], 0), (20, [12, 1], [1], 8), (23, [1], [1], 4), (51, [12], [], 0), (0, [11], [], 0), (42, [9, 10], [], 0), (0, [10], [], 45), (20, [9, 1], [1], 2), (23, [1], [1], 4), (90, [9], [], -2147483648), (91, [9], [], 2147483647), (31, [3], [], 0), (30, [3], [], 0), (20, [8, 1], [1], 2), (23, [1], [1], 4), (90, [8], [], -2147483648), (91, [8], [], 2147483647), (31, [4], [], 0), (30, [7], [], 0), (20, [7, 1], [1], 3), (23, [1], [1], 4), (90, [7], [], -2147483648), (91, [7], [], 2147483647), (45, [5, 6], [], 0), (0, [6], [], 500), (5000, [0, 1, 2, 3, 4, 5], [0, 1], 14), (0, [0], [], 30), (0, [1], [], 30), (90, [2], [], -2147483648), (91, [2], [], 2147483647), (90, [3], [], -2147483648), (91, [3], [], 2147483647), (90, [4], [], -2147483648), (91, [4], [], 2147483647), (90, [5], [], -2147483648), (91, [5], [], 2147483647)], (4000, [1, 2, 18, 4, 5, 17], [3], 228))
theorem c_92o_14_14 {q0 : Nat} : vOkm T0 (eN e_92v L_92o A_92v mu_92v no_92 Bo_92 (some q0)) 1 g_92o_14_14 := vOk_inI fun ρ η f0 f1 f2 f3 f4 f5 f6 f7 f8 f9 f10 f11 f12 f13 f14 f15 f16 f17 f18 f19 f20 f21 f22 f23 f24 f25 f26 f27 f28 f29 f30 f31 f32 f33 f34 f35 f36 f37 f38 f39 f40 f41 f42 f43 f44 f45 f46 f47 f48 f49 f50 f51 => q_92o_15 (q0 := q0) (n0 := ρ 5) (n1 := ρ 4) (n2 := ρ 3) (n3 := ρ 2) (n4 := ρ 1) (n5 := ρ 0) (n6 := ρ 6) (n7 := ρ 7) (n8 := ρ 8) (n9 := ρ 9) (n10 := ρ 10) (n11 := ρ 11) (n12 := ρ 12) (n13 := ρ 13) (n14 := ρ 14) (n15 := ρ 15) (n16 := ρ 16) (n17 := ρ 17) (n18 := ρ 18) (H0 := η 0) (H1 := η 1) (H2 := η 2) (H3 := η 3) f51 f50 f49 f48 f47 f46 f45 f44 f43 f42 f41 f40 f39 f38 f37 f36 f35 f34 f33 f32 f31 f30 f29 f28 f27 f26 f25 f24 f23 f22 f21 f20 f19 f18 f17 f16 f15 f14 f13 f12 f11 f10 f9 f8 f7 f6 f5 f4 f3 f2 f1 f0
theorem q_92o_16 {q0 : Nat} {n0 n1 n2 n3 n4 n5 n6 n7 n8 n9 n10 n11 n12 n13 n14 n15 n16 n17 : Int} {H0 H1 H2 : gH} (f0 : n0 ≤ 2147483647) (f1 : (-2147483648) ≤ n0) (f2 : n1 ≤ 2147483647) (f3 : (-2147483648) ≤ n1) (f4 : n2 ≤ 2147483647) (f5 : (-2147483648) ≤ n2) (f6 : n3 ≤ 2147483647) (f7 : (-2147483648) ≤ n3) (f8 : n4 = 30) (f9 : n5 = 30) (f10 : (hLe T0 H0 H1 ∧ hFr s_92v.2.2.2.2 H0 H1 ∧ hWt T0 H1) ∧ ((Ab_92v_14 n5 n4 n3 n2 n1 n0 H0 H1 ∧ Bbo_92_14 n5 n4 n3 n2 n1 n0 H0 H1) ∧ preb_92v n5 H0) ∧ some q0 = some (mub_92v_14 n5 n4 n3 n2 n1 n0 H0 H1)) (f11 : n6 = 500) (f12 : n0 ≤ n6) (f13 : n7 ≤ 2147483647) (f14 : (-2147483648) ≤ n7) (f15 : hK H1 (n4).toNat = 4) (f16 : n7 = hV H1 (n4).toNat 3) (f17 : n7 = 0) (f18 : n1 ≠ 0) (f19 : n8 ≤ 2147483647) (f20 : (-2147483648) ≤ n8) (f21 : hK H1 (n4).toNat = 4) (f22 : n8 = hV H1 (n4).toNat 2) (f23 : n2 = 0) (f24 : n2 ≠ 0) (f25 : n9 ≤ 2147483647) (f26 : (-2147483648) ≤ n9) (f27 : hK H1 (n4).toNat = 4) (f28 : n9 = hV H1 (n4).toNat 2) (f29 : n10 = 45) (f30 : n9 < n10) (f31 : n11 = 0) (f32 : 0 ≤ n12) (f33 : hK H1 (n4).toNat = 4) (f34 : n12 = hV H1 (n4).toNat 8) (f35 : n11 ≠ 0) (f36 : n13 = 10000) (f37 : n14 ≤ 2147483647) (f38 : (-2147483648) ≤ n14) (f39 : hK H1 (n4).toNat = 4) (f40 : n14 = hV H1 (n4).toNat 2) (f41 : n15 = w32 (n13 + n14)) (f42 : (hLe T0 H1 H2 ∧ hFr s_98.2.2.2.2 H1 H2 ∧ ((0 : Int) = 0 → H2.length = H1.length) ∧ hWt T0 H2) ∧ (True ∧ nbo_98 n12 n15 H1 H2)) (f43 : n11 = 0) (f44 : n16 = 3) (f45 : n17 = 0) : Bbo_92_228 n5 n4 n3 n17 n1 n0 n16 H0 H2 := by
  exfalso
  omega
def g_92o_14_15 : vG := ([(0, [17], [], 0), (0, [16], [], 3), (30, [11], [], 0), (1098, [12, 15], [1, 2], 0), (1, [15, 13, 14], [], 0), (20, [14, 1], [1], 2), (23, [1], [1], 4), (90, [14], [], -2147483648), (91, [14], [], 2147483647), (0, [13], [], 10000), (31, [11], [], 0), (20, [12, 1], [1], 8), (23, [1], [1], 4), (51, [12], [], 0), (0, [11], [], 0), (42, [9, 10], [], 0), (0, [10], [], 45), (20, [9, 1], [1], 2), (23, [1], [1], 4), (90, [9], [], -2147483648), (91, [9], [], 2147483647), (31, [3], [], 0), (30, [3], [], 0), (20, [8, 1], [1], 2), (23, [1], [1], 4), (90, [8], [], -2147483648), (91, [8], [], 2147483647), (31, [4], [], 0), (30, [7], [], 0), (20, [7, 1], [1], 3), (23, [1], [1], 4), (90, [7], [], -2147483648), (91, [7], [], 2147483647), (45, [5, 6], [], 0), (0, [6], [], 500), (5000, [0, 1, 2, 3, 4, 5], [0, 1], 14), (0, [0], [], 30), (0, [1], [], 30), (90, [2], [], -2147483648), (91, [2], [], 2147483647), (90, [3], [], -2147483648), (91, [3], [], 2147483647), (90, [4], [], -2147483648), (91, [4], [], 2147483647), (90, [5], [], -2147483648), (91, [5], [], 2147483647)], (4000, [1, 2, 17, 4, 5, 16], [2], 228))
theorem c_92o_14_15 {q0 : Nat} : vOkm T0 (eN e_92v L_92o A_92v mu_92v no_92 Bo_92 (some q0)) 1 g_92o_14_15 := vOk_inI fun ρ η f0 f1 f2 f3 f4 f5 f6 f7 f8 f9 f10 f11 f12 f13 f14 f15 f16 f17 f18 f19 f20 f21 f22 f23 f24 f25 f26 f27 f28 f29 f30 f31 f32 f33 f34 f35 f36 f37 f38 f39 f40 f41 f42 f43 f44 f45 => q_92o_16 (q0 := q0) (n0 := ρ 5) (n1 := ρ 4) (n2 := ρ 3) (n3 := ρ 2) (n4 := ρ 1) (n5 := ρ 0) (n6 := ρ 6) (n7 := ρ 7) (n8 := ρ 8) (n9 := ρ 9) (n10 := ρ 10) (n11 := ρ 11) (n12 := ρ 12) (n13 := ρ 13) (n14 := ρ 14) (n15 := ρ 15) (n16 := ρ 16) (n17 := ρ 17) (H0 := η 0) (H1 := η 1) (H2 := η 2) f45 f44 f43 f42 f41 f40 f39 f38 f37 f36 f35 f34 f33 f32 f31 f30 f29 f28 f27 f26 f25 f24 f23 f22 f21 f20 f19 f18 f17 f16 f15 f14 f13 f12 f11 f10 f9 f8 f7 f6 f5 f4 f3 f2 f1 f0
theorem q_92o_17 {q0 : Nat} {n0 n1 n2 n3 n4 n5 n6 n7 n8 n9 n10 n11 n12 n13 n14 n15 n16 n17 : Int} {H0 H1 H2 : gH} (f0 : n0 ≤ 2147483647) (f1 : (-2147483648) ≤ n0) (f2 : n1 ≤ 2147483647) (f3 : (-2147483648) ≤ n1) (f4 : n2 ≤ 2147483647) (f5 : (-2147483648) ≤ n2) (f6 : n3 ≤ 2147483647) (f7 : (-2147483648) ≤ n3) (f8 : n4 = 30) (f9 : n5 = 30) (f10 : (hLe T0 H0 H1 ∧ hFr s_92v.2.2.2.2 H0 H1 ∧ hWt T0 H1) ∧ ((Ab_92v_14 n5 n4 n3 n2 n1 n0 H0 H1 ∧ Bbo_92_14 n5 n4 n3 n2 n1 n0 H0 H1) ∧ preb_92v n5 H0) ∧ some q0 = some (mub_92v_14 n5 n4 n3 n2 n1 n0 H0 H1)) (f11 : n6 = 500) (f12 : n0 ≤ n6) (f13 : n7 ≤ 2147483647) (f14 : (-2147483648) ≤ n7) (f15 : hK H1 (n4).toNat = 4) (f16 : n7 = hV H1 (n4).toNat 3) (f17 : n7 = 0) (f18 : n1 ≠ 0) (f19 : n8 ≤ 2147483647) (f20 : (-2147483648) ≤ n8) (f21 : hK H1 (n4).toNat = 4) (f22 : n8 = hV H1 (n4).toNat 2) (f23 : n2 = 0) (f24 : n2 ≠ 0) (f25 : n9 ≤ 2147483647) (f26 : (-2147483648) ≤ n9) (f27 : hK H1 (n4).toNat = 4) (f28 : n9 = hV H1 (n4).toNat 2) (f29 : n10 = 45) (f30 : n9 < n10) (f31 : n11 = 0) (f32 : 0 ≤ n12) (f33 : hK H1 (n4).toNat = 4) (f34 : n12 = hV H1 (n4).toNat 8) (f35 : n11 ≠ 0) (f36 : n13 = 10000) (f37 : n14 ≤ 2147483647) (f38 : (-2147483648) ≤ n14) (f39 : hK H1 (n4).toNat = 4) (f40 : n14 = hV H1 (n4).toNat 2) (f41 : n15 = w32 (n13 + n14)) (f42 : (hLe T0 H1 H2 ∧ hFr s_98.2.2.2.2 H1 H2 ∧ ((0 : Int) = 0 → H2.length = H1.length) ∧ hWt T0 H2) ∧ (True ∧ nbo_98 n12 n15 H1 H2)) (f43 : n11 ≠ 0) (f44 : n16 ≤ 2147483647) (f45 : (-2147483648) ≤ n16) (f46 : hK H2 (n4).toNat = 4) (f47 : n16 = hV H2 (n4).toNat 2) (f48 : n17 = 0) : Bbo_92_228 n5 n4 n3 n17 n1 n0 n16 H0 H2 := by
  exfalso
  omega
def g_92o_14_16 : vG := ([(0, [17], [], 0), (20, [16, 1], [2], 2), (23, [1], [2], 4), (90, [16], [], -2147483648), (91, [16], [], 2147483647), (31, [11], [], 0), (1098, [12, 15], [1, 2], 0), (1, [15, 13, 14], [], 0), (20, [14, 1], [1], 2), (23, [1], [1], 4), (90, [14], [], -2147483648), (91, [14], [], 2147483647), (0, [13], [], 10000), (31, [11], [], 0), (20, [12, 1], [1], 8), (23, [1], [1], 4), (51, [12], [], 0), (0, [11], [], 0), (42, [9, 10], [], 0), (0, [10], [], 45), (20, [9, 1], [1], 2), (23, [1], [1], 4), (90, [9], [], -2147483648), (91, [9], [], 2147483647), (31, [3], [], 0), (30, [3], [], 0), (20, [8, 1], [1], 2), (23, [1], [1], 4), (90, [8], [], -2147483648), (91, [8], [], 2147483647), (31, [4], [], 0), (30, [7], [], 0), (20, [7, 1], [1], 3), (23, [1], [1], 4), (90, [7], [], -2147483648), (91, [7], [], 2147483647), (45, [5, 6], [], 0), (0, [6], [], 500), (5000, [0, 1, 2, 3, 4, 5], [0, 1], 14), (0, [0], [], 30), (0, [1], [], 30), (90, [2], [], -2147483648), (91, [2], [], 2147483647), (90, [3], [], -2147483648), (91, [3], [], 2147483647), (90, [4], [], -2147483648), (91, [4], [], 2147483647), (90, [5], [], -2147483648), (91, [5], [], 2147483647)], (4000, [1, 2, 17, 4, 5, 16], [2], 228))
theorem c_92o_14_16 {q0 : Nat} : vOkm T0 (eN e_92v L_92o A_92v mu_92v no_92 Bo_92 (some q0)) 1 g_92o_14_16 := vOk_inI fun ρ η f0 f1 f2 f3 f4 f5 f6 f7 f8 f9 f10 f11 f12 f13 f14 f15 f16 f17 f18 f19 f20 f21 f22 f23 f24 f25 f26 f27 f28 f29 f30 f31 f32 f33 f34 f35 f36 f37 f38 f39 f40 f41 f42 f43 f44 f45 f46 f47 f48 => q_92o_17 (q0 := q0) (n0 := ρ 5) (n1 := ρ 4) (n2 := ρ 3) (n3 := ρ 2) (n4 := ρ 1) (n5 := ρ 0) (n6 := ρ 6) (n7 := ρ 7) (n8 := ρ 8) (n9 := ρ 9) (n10 := ρ 10) (n11 := ρ 11) (n12 := ρ 12) (n13 := ρ 13) (n14 := ρ 14) (n15 := ρ 15) (n16 := ρ 16) (n17 := ρ 17) (H0 := η 0) (H1 := η 1) (H2 := η 2) f48 f47 f46 f45 f44 f43 f42 f41 f40 f39 f38 f37 f36 f35 f34 f33 f32 f31 f30 f29 f28 f27 f26 f25 f24 f23 f22 f21 f20 f19 f18 f17 f16 f15 f14 f13 f12 f11 f10 f9 f8 f7 f6 f5 f4 f3 f2 f1 f0
theorem q_92o_18 {q0 : Nat} {n0 n1 n2 n3 n4 n5 n6 n7 n8 n9 n10 n11 n12 n13 n14 n15 n16 n17 n18 n19 n20 : Int} {H0 H1 H2 H3 : gH} (f0 : n0 ≤ 2147483647) (f1 : (-2147483648) ≤ n0) (f2 : n1 ≤ 2147483647) (f3 : (-2147483648) ≤ n1) (f4 : n2 ≤ 2147483647) (f5 : (-2147483648) ≤ n2) (f6 : n3 ≤ 2147483647) (f7 : (-2147483648) ≤ n3) (f8 : n4 = 30) (f9 : n5 = 30) (f10 : (hLe T0 H0 H1 ∧ hFr s_92v.2.2.2.2 H0 H1 ∧ hWt T0 H1) ∧ ((Ab_92v_14 n5 n4 n3 n2 n1 n0 H0 H1 ∧ Bbo_92_14 n5 n4 n3 n2 n1 n0 H0 H1) ∧ preb_92v n5 H0) ∧ some q0 = some (mub_92v_14 n5 n4 n3 n2 n1 n0 H0 H1)) (f11 : n6 = 500) (f12 : n0 ≤ n6) (f13 : n7 ≤ 2147483647) (f14 : (-2147483648) ≤ n7) (f15 : hK H1 (n4).toNat = 4) (f16 : n7 = hV H1 (n4).toNat 3) (f17 : n7 = 0) (f18 : n1 ≠ 0) (f19 : n8 ≤ 2147483647) (f20 : (-2147483648) ≤ n8) (f21 : hK H1 (n4).toNat = 4) (f22 : n8 = hV H1 (n4).toNat 2) (f23 : n2 = 0) (f24 : n2 ≠ 0) (f25 : n9 ≤ 2147483647) (f26 : (-2147483648) ≤ n9) (f27 : hK H1 (n4).toNat = 4) (f28 : n9 = hV H1 (n4).toNat 2) (f29 : n10 = 45) (f30 : n10 ≤ n9) (f31 : n11 ≤ 2147483647) (f32 : (-2147483648) ≤ n11) (f33 : hK H1 (n4).toNat = 4) (f34 : n11 = hV H1 (n4).toNat 2) (f35 : n12 = 49) (f36 : n12 < n11) (f37 : n13 = 0) (f38 : 0 ≤ n14) (f39 : hK H1 (n4).toNat = 4) (f40 : n14 = hV H1 (n4).toNat 8) (f41 : n13 = 0) (f42 : n15 = 31) (f43 : hK H1 (n4).toNat = 4) (f44 : n15 = hV H1 (n4).toNat 0) (f45 : n16 ≤ 2147483647) (f46 : (-2147483648) ≤ n16) (f47 : hK H1 (n4).toNat = 4) (f48 : n16 = hV H1 (n4).toNat 1) (f49 : (hLe T0 H1 H2 ∧ hFr s_123v.2.2.2.2 H1 H2 ∧ ((0 : Int) = 0 → H2.length = H1.length) ∧ hWt T0 H2) ∧ postb_123v n17 n15 n16 H1 H2) (f50 : n18 = (Int64.ofInt n17).toInt32.toInt) (f51 : (hLe T0 H2 H3 ∧ hFr s_98.2.2.2.2 H2 H3 ∧ ((0 : Int) = 0 → H3.length = H2.length) ∧ hWt T0 H3) ∧ (True ∧ nbo_98 n14 n18 H2 H3)) (f52 : n13 = 0) (f53 : n19 = 3) (f54 : n20 = 0) : Bbo_92_228 n5 n4 n3 n20 n1 n0 n19 H0 H3 := by
  unfold Bbo_92_228
  intro d ed zo w49
  have pz := f10.2.1.2
  unfold preb_92v at pz
  have ga := f10.2.1.1.1
  unfold Ab_92v_14 at ga
  have vz : vwC H1 = vwC H0 := vwC_fr f10.1.2.1 (by decide +kernel)
  have s0 := PF_fr f49.1.1 f49.1.2.1 (by decide +kernel) ga.1
  have a0 : absC H2 = (absC H1) := s0.1
  have v0 : vwC H2 = vwC H0 := s0.2.1.trans vz
  have s1 := PF_fr f51.1.1 f51.1.2.1 (by decide +kernel) s0.2.2
  have a1 : absC H3 = (absC H1) := s1.1.trans a0
  have v1 : vwC H3 = vwC H0 := s1.2.1.trans v0
  have gb := f10.2.1.1.2
  unfold Bbo_92_14 at gb
  obtain ⟨ko, w1, k⟩ := gb d ed zo w49
  have zo1 := ko.1
  have e8 : hV H1 30 8 = d := (f10.1.2.1.1 30 8 (by decide +kernel)).trans ed.symm
  have gc := ga
  have nw := ga.1.2.2.2.1.2.1
  have r16 : n7 = hV H1 30 3 := by
    have w := f16
    rw [f8] at w
    exact w
  have r22 : n8 = hV H1 30 2 := by
    have w := f22
    rw [f8] at w
    exact w
  have r28 : n9 = hV H1 30 2 := by
    have w := f28
    rw [f8] at w
    exact w
  have r34 : n11 = hV H1 30 2 := by
    have w := f34
    rw [f8] at w
    exact w
  have r40 : n14 = hV H1 30 8 := by
    have w := f40
    rw [f8] at w
    exact w
  have r44 : n15 = hV H1 30 0 := by
    have w := f44
    rw [f8] at w
    exact w
  have r48 : n16 = hV H1 30 1 := by
    have w := f48
    rw [f8] at w
    exact w
  obtain ⟨_, s0_, o0, o7, w01, m01, xn, ya, yb⟩ := gc
  have hf : hV H1 30 3 = 0 := by omega
  have ap := absC_pos ga.1 hf
  have x5 := xn hf
  have hv : (vwC H0).1 (absC H1).1 = hV H1 30 2 := by
    have u := (kd_at ga.1).resolve_left (by omega)
    rw [vz] at u
    exact u
  have qe := f51.2.2
  unfold nbo_98 at qe
  rw [show n14 = d from (r40.trans (rfl)).trans e8] at qe
  have zr : KO H1 H2 d := KO_sm zo1 (SMf_fr f49.1.1 f49.1.2.1 (by decide +kernel) (by decide +kernel))
  have ke := qe zr.1
  refine ⟨KO_tr ko (KO_tr zr ke.1), W49_le f51.1.1 (W49_le f49.1.1 w1), fun L cd hl hp => ⟨fun m1 x5 => ?_, fun m0 => by exfalso; omega⟩⟩
  rw [a1]
  rw [a1] at x5
  obtain ⟨rs, mz⟩ := k L cd hl ap.2
  have pv := f49.2
  unfold postb_123v at pv
  rw [r48] at pv
  have hx := val_at ga.1 pv f50
  rw [vz] at hx
  have tv := TV_of pz.2.1 (absC H1).1
  rw [show n20 = 0 by omega, show n3 = n3 by omega]
  exact RTk_unit zr.1 (RSs_sm zo1 rs (SMf_fr f49.1.1 f49.1.2.1 (by decide +kernel) (by decide +kernel)) (f49.1.2.1.1 30 15 (by decide +kernel)) (fRow f49.1.2.1 49 (by decide +kernel))) (by omega) hl (by omega) (by omega) (.inl ⟨by omega, hx (by omega), tv.1, tv.2⟩) qe (f51.1.2.1.1 30 15 (by decide +kernel)) (fRow f51.1.2.1 49 (by decide +kernel))
def g_92o_14_17 : vG := ([(0, [20], [], 0), (0, [19], [], 3), (30, [13], [], 0), (1098, [14, 18], [2, 3], 0), (18, [18, 17], [], 0), (1123, [17, 15, 16], [1, 2], 0), (20, [16, 1], [1], 1), (23, [1], [1], 4), (90, [16], [], -2147483648), (91, [16], [], 2147483647), (20, [15, 1], [1], 0), (23, [1], [1], 4), (0, [15], [], 31), (30, [13], [], 0), (20, [14, 1], [1], 8), (23, [1], [1], 4), (51, [14], [], 0), (0, [13], [], 0), (44, [11, 12], [], 0), (0, [12], [], 49), (20, [11, 1], [1], 2), (23, [1], [1], 4), (90, [11], [], -2147483648), (91, [11], [], 2147483647), (43, [9, 10], [], 0), (0, [10], [], 45), (20, [9, 1], [1], 2), (23, [1], [1], 4), (90, [9], [], -2147483648), (91, [9], [], 2147483647), (31, [3], [], 0), (30, [3], [], 0), (20, [8, 1], [1], 2), (23, [1], [1], 4), (90, [8], [], -2147483648), (91, [8], [], 2147483647), (31, [4], [], 0), (30, [7], [], 0), (20, [7, 1], [1], 3), (23, [1], [1], 4), (90, [7], [], -2147483648), (91, [7], [], 2147483647), (45, [5, 6], [], 0), (0, [6], [], 500), (5000, [0, 1, 2, 3, 4, 5], [0, 1], 14), (0, [0], [], 30), (0, [1], [], 30), (90, [2], [], -2147483648), (91, [2], [], 2147483647), (90, [3], [], -2147483648), (91, [3], [], 2147483647), (90, [4], [], -2147483648), (91, [4], [], 2147483647), (90, [5], [], -2147483648), (91, [5], [], 2147483647)], (4000, [1, 2, 20, 4, 5, 19], [3], 228))
theorem c_92o_14_17 {q0 : Nat} : vOkm T0 (eN e_92v L_92o A_92v mu_92v no_92 Bo_92 (some q0)) 1 g_92o_14_17 := vOk_inI fun ρ η f0 f1 f2 f3 f4 f5 f6 f7 f8 f9 f10 f11 f12 f13 f14 f15 f16 f17 f18 f19 f20 f21 f22 f23 f24 f25 f26 f27 f28 f29 f30 f31 f32 f33 f34 f35 f36 f37 f38 f39 f40 f41 f42 f43 f44 f45 f46 f47 f48 f49 f50 f51 f52 f53 f54 => q_92o_18 (q0 := q0) (n0 := ρ 5) (n1 := ρ 4) (n2 := ρ 3) (n3 := ρ 2) (n4 := ρ 1) (n5 := ρ 0) (n6 := ρ 6) (n7 := ρ 7) (n8 := ρ 8) (n9 := ρ 9) (n10 := ρ 10) (n11 := ρ 11) (n12 := ρ 12) (n13 := ρ 13) (n14 := ρ 14) (n15 := ρ 15) (n16 := ρ 16) (n17 := ρ 17) (n18 := ρ 18) (n19 := ρ 19) (n20 := ρ 20) (H0 := η 0) (H1 := η 1) (H2 := η 2) (H3 := η 3) f54 f53 f52 f51 f50 f49 f48 f47 f46 f45 f44 f43 f42 f41 f40 f39 f38 f37 f36 f35 f34 f33 f32 f31 f30 f29 f28 f27 f26 f25 f24 f23 f22 f21 f20 f19 f18 f17 f16 f15 f14 f13 f12 f11 f10 f9 f8 f7 f6 f5 f4 f3 f2 f1 f0
theorem q_92o_19 {q0 : Nat} {n0 n1 n2 n3 n4 n5 n6 n7 n8 n9 n10 n11 n12 n13 n14 n15 n16 n17 n18 n19 n20 : Int} {H0 H1 H2 H3 : gH} (f0 : n0 ≤ 2147483647) (f1 : (-2147483648) ≤ n0) (f2 : n1 ≤ 2147483647) (f3 : (-2147483648) ≤ n1) (f4 : n2 ≤ 2147483647) (f5 : (-2147483648) ≤ n2) (f6 : n3 ≤ 2147483647) (f7 : (-2147483648) ≤ n3) (f8 : n4 = 30) (f9 : n5 = 30) (f10 : (hLe T0 H0 H1 ∧ hFr s_92v.2.2.2.2 H0 H1 ∧ hWt T0 H1) ∧ ((Ab_92v_14 n5 n4 n3 n2 n1 n0 H0 H1 ∧ Bbo_92_14 n5 n4 n3 n2 n1 n0 H0 H1) ∧ preb_92v n5 H0) ∧ some q0 = some (mub_92v_14 n5 n4 n3 n2 n1 n0 H0 H1)) (f11 : n6 = 500) (f12 : n0 ≤ n6) (f13 : n7 ≤ 2147483647) (f14 : (-2147483648) ≤ n7) (f15 : hK H1 (n4).toNat = 4) (f16 : n7 = hV H1 (n4).toNat 3) (f17 : n7 = 0) (f18 : n1 ≠ 0) (f19 : n8 ≤ 2147483647) (f20 : (-2147483648) ≤ n8) (f21 : hK H1 (n4).toNat = 4) (f22 : n8 = hV H1 (n4).toNat 2) (f23 : n2 = 0) (f24 : n2 ≠ 0) (f25 : n9 ≤ 2147483647) (f26 : (-2147483648) ≤ n9) (f27 : hK H1 (n4).toNat = 4) (f28 : n9 = hV H1 (n4).toNat 2) (f29 : n10 = 45) (f30 : n10 ≤ n9) (f31 : n11 ≤ 2147483647) (f32 : (-2147483648) ≤ n11) (f33 : hK H1 (n4).toNat = 4) (f34 : n11 = hV H1 (n4).toNat 2) (f35 : n12 = 49) (f36 : n12 < n11) (f37 : n13 = 0) (f38 : 0 ≤ n14) (f39 : hK H1 (n4).toNat = 4) (f40 : n14 = hV H1 (n4).toNat 8) (f41 : n13 = 0) (f42 : n15 = 31) (f43 : hK H1 (n4).toNat = 4) (f44 : n15 = hV H1 (n4).toNat 0) (f45 : n16 ≤ 2147483647) (f46 : (-2147483648) ≤ n16) (f47 : hK H1 (n4).toNat = 4) (f48 : n16 = hV H1 (n4).toNat 1) (f49 : (hLe T0 H1 H2 ∧ hFr s_123v.2.2.2.2 H1 H2 ∧ ((0 : Int) = 0 → H2.length = H1.length) ∧ hWt T0 H2) ∧ postb_123v n17 n15 n16 H1 H2) (f50 : n18 = (Int64.ofInt n17).toInt32.toInt) (f51 : (hLe T0 H2 H3 ∧ hFr s_98.2.2.2.2 H2 H3 ∧ ((0 : Int) = 0 → H3.length = H2.length) ∧ hWt T0 H3) ∧ (True ∧ nbo_98 n14 n18 H2 H3)) (f52 : n13 ≠ 0) (f53 : n19 ≤ 2147483647) (f54 : (-2147483648) ≤ n19) (f55 : hK H3 (n4).toNat = 4) (f56 : n19 = hV H3 (n4).toNat 2) (f57 : n20 = 0) : Bbo_92_228 n5 n4 n3 n20 n1 n0 n19 H0 H3 := by
  exfalso
  omega
def g_92o_14_18 : vG := ([(0, [20], [], 0), (20, [19, 1], [3], 2), (23, [1], [3], 4), (90, [19], [], -2147483648), (91, [19], [], 2147483647), (31, [13], [], 0), (1098, [14, 18], [2, 3], 0), (18, [18, 17], [], 0), (1123, [17, 15, 16], [1, 2], 0), (20, [16, 1], [1], 1), (23, [1], [1], 4), (90, [16], [], -2147483648), (91, [16], [], 2147483647), (20, [15, 1], [1], 0), (23, [1], [1], 4), (0, [15], [], 31), (30, [13], [], 0), (20, [14, 1], [1], 8), (23, [1], [1], 4), (51, [14], [], 0), (0, [13], [], 0), (44, [11, 12], [], 0), (0, [12], [], 49), (20, [11, 1], [1], 2), (23, [1], [1], 4), (90, [11], [], -2147483648), (91, [11], [], 2147483647), (43, [9, 10], [], 0), (0, [10], [], 45), (20, [9, 1], [1], 2), (23, [1], [1], 4), (90, [9], [], -2147483648), (91, [9], [], 2147483647), (31, [3], [], 0), (30, [3], [], 0), (20, [8, 1], [1], 2), (23, [1], [1], 4), (90, [8], [], -2147483648), (91, [8], [], 2147483647), (31, [4], [], 0), (30, [7], [], 0), (20, [7, 1], [1], 3), (23, [1], [1], 4), (90, [7], [], -2147483648), (91, [7], [], 2147483647), (45, [5, 6], [], 0), (0, [6], [], 500), (5000, [0, 1, 2, 3, 4, 5], [0, 1], 14), (0, [0], [], 30), (0, [1], [], 30), (90, [2], [], -2147483648), (91, [2], [], 2147483647), (90, [3], [], -2147483648), (91, [3], [], 2147483647), (90, [4], [], -2147483648), (91, [4], [], 2147483647), (90, [5], [], -2147483648), (91, [5], [], 2147483647)], (4000, [1, 2, 20, 4, 5, 19], [3], 228))
theorem c_92o_14_18 {q0 : Nat} : vOkm T0 (eN e_92v L_92o A_92v mu_92v no_92 Bo_92 (some q0)) 1 g_92o_14_18 := vOk_inI fun ρ η f0 f1 f2 f3 f4 f5 f6 f7 f8 f9 f10 f11 f12 f13 f14 f15 f16 f17 f18 f19 f20 f21 f22 f23 f24 f25 f26 f27 f28 f29 f30 f31 f32 f33 f34 f35 f36 f37 f38 f39 f40 f41 f42 f43 f44 f45 f46 f47 f48 f49 f50 f51 f52 f53 f54 f55 f56 f57 => q_92o_19 (q0 := q0) (n0 := ρ 5) (n1 := ρ 4) (n2 := ρ 3) (n3 := ρ 2) (n4 := ρ 1) (n5 := ρ 0) (n6 := ρ 6) (n7 := ρ 7) (n8 := ρ 8) (n9 := ρ 9) (n10 := ρ 10) (n11 := ρ 11) (n12 := ρ 12) (n13 := ρ 13) (n14 := ρ 14) (n15 := ρ 15) (n16 := ρ 16) (n17 := ρ 17) (n18 := ρ 18) (n19 := ρ 19) (n20 := ρ 20) (H0 := η 0) (H1 := η 1) (H2 := η 2) (H3 := η 3) f57 f56 f55 f54 f53 f52 f51 f50 f49 f48 f47 f46 f45 f44 f43 f42 f41 f40 f39 f38 f37 f36 f35 f34 f33 f32 f31 f30 f29 f28 f27 f26 f25 f24 f23 f22 f21 f20 f19 f18 f17 f16 f15 f14 f13 f12 f11 f10 f9 f8 f7 f6 f5 f4 f3 f2 f1 f0
theorem q_92o_20 {q0 : Nat} {n0 n1 n2 n3 n4 n5 n6 n7 n8 n9 n10 n11 n12 n13 n14 n15 n16 n17 n18 n19 : Int} {H0 H1 H2 : gH} (f0 : n0 ≤ 2147483647) (f1 : (-2147483648) ≤ n0) (f2 : n1 ≤ 2147483647) (f3 : (-2147483648) ≤ n1) (f4 : n2 ≤ 2147483647) (f5 : (-2147483648) ≤ n2) (f6 : n3 ≤ 2147483647) (f7 : (-2147483648) ≤ n3) (f8 : n4 = 30) (f9 : n5 = 30) (f10 : (hLe T0 H0 H1 ∧ hFr s_92v.2.2.2.2 H0 H1 ∧ hWt T0 H1) ∧ ((Ab_92v_14 n5 n4 n3 n2 n1 n0 H0 H1 ∧ Bbo_92_14 n5 n4 n3 n2 n1 n0 H0 H1) ∧ preb_92v n5 H0) ∧ some q0 = some (mub_92v_14 n5 n4 n3 n2 n1 n0 H0 H1)) (f11 : n6 = 500) (f12 : n0 ≤ n6) (f13 : n7 ≤ 2147483647) (f14 : (-2147483648) ≤ n7) (f15 : hK H1 (n4).toNat = 4) (f16 : n7 = hV H1 (n4).toNat 3) (f17 : n7 = 0) (f18 : n1 ≠ 0) (f19 : n8 ≤ 2147483647) (f20 : (-2147483648) ≤ n8) (f21 : hK H1 (n4).toNat = 4) (f22 : n8 = hV H1 (n4).toNat 2) (f23 : n2 = 0) (f24 : n2 ≠ 0) (f25 : n9 ≤ 2147483647) (f26 : (-2147483648) ≤ n9) (f27 : hK H1 (n4).toNat = 4) (f28 : n9 = hV H1 (n4).toNat 2) (f29 : n10 = 45) (f30 : n10 ≤ n9) (f31 : n11 ≤ 2147483647) (f32 : (-2147483648) ≤ n11) (f33 : hK H1 (n4).toNat = 4) (f34 : n11 = hV H1 (n4).toNat 2) (f35 : n12 = 49) (f36 : n12 < n11) (f37 : n13 = 0) (f38 : 0 ≤ n14) (f39 : hK H1 (n4).toNat = 4) (f40 : n14 = hV H1 (n4).toNat 8) (f41 : n13 ≠ 0) (f42 : n15 = 10000) (f43 : n16 ≤ 2147483647) (f44 : (-2147483648) ≤ n16) (f45 : hK H1 (n4).toNat = 4) (f46 : n16 = hV H1 (n4).toNat 2) (f47 : n17 = w32 (n15 + n16)) (f48 : (hLe T0 H1 H2 ∧ hFr s_98.2.2.2.2 H1 H2 ∧ ((0 : Int) = 0 → H2.length = H1.length) ∧ hWt T0 H2) ∧ (True ∧ nbo_98 n14 n17 H1 H2)) (f49 : n13 = 0) (f50 : n18 = 3) (f51 : n19 = 0) : Bbo_92_228 n5 n4 n3 n19 n1 n0 n18 H0 H2 := by
  exfalso
  omega
def g_92o_14_19 : vG := ([(0, [19], [], 0), (0, [18], [], 3), (30, [13], [], 0), (1098, [14, 17], [1, 2], 0), (1, [17, 15, 16], [], 0), (20, [16, 1], [1], 2), (23, [1], [1], 4), (90, [16], [], -2147483648), (91, [16], [], 2147483647), (0, [15], [], 10000), (31, [13], [], 0), (20, [14, 1], [1], 8), (23, [1], [1], 4), (51, [14], [], 0), (0, [13], [], 0), (44, [11, 12], [], 0), (0, [12], [], 49), (20, [11, 1], [1], 2), (23, [1], [1], 4), (90, [11], [], -2147483648), (91, [11], [], 2147483647), (43, [9, 10], [], 0), (0, [10], [], 45), (20, [9, 1], [1], 2), (23, [1], [1], 4), (90, [9], [], -2147483648), (91, [9], [], 2147483647), (31, [3], [], 0), (30, [3], [], 0), (20, [8, 1], [1], 2), (23, [1], [1], 4), (90, [8], [], -2147483648), (91, [8], [], 2147483647), (31, [4], [], 0), (30, [7], [], 0), (20, [7, 1], [1], 3), (23, [1], [1], 4), (90, [7], [], -2147483648), (91, [7], [], 2147483647), (45, [5, 6], [], 0), (0, [6], [], 500), (5000, [0, 1, 2, 3, 4, 5], [0, 1], 14), (0, [0], [], 30), (0, [1], [], 30), (90, [2], [], -2147483648), (91, [2], [], 2147483647), (90, [3], [], -2147483648), (91, [3], [], 2147483647), (90, [4], [], -2147483648), (91, [4], [], 2147483647), (90, [5], [], -2147483648), (91, [5], [], 2147483647)], (4000, [1, 2, 19, 4, 5, 18], [2], 228))
theorem c_92o_14_19 {q0 : Nat} : vOkm T0 (eN e_92v L_92o A_92v mu_92v no_92 Bo_92 (some q0)) 1 g_92o_14_19 := vOk_inI fun ρ η f0 f1 f2 f3 f4 f5 f6 f7 f8 f9 f10 f11 f12 f13 f14 f15 f16 f17 f18 f19 f20 f21 f22 f23 f24 f25 f26 f27 f28 f29 f30 f31 f32 f33 f34 f35 f36 f37 f38 f39 f40 f41 f42 f43 f44 f45 f46 f47 f48 f49 f50 f51 => q_92o_20 (q0 := q0) (n0 := ρ 5) (n1 := ρ 4) (n2 := ρ 3) (n3 := ρ 2) (n4 := ρ 1) (n5 := ρ 0) (n6 := ρ 6) (n7 := ρ 7) (n8 := ρ 8) (n9 := ρ 9) (n10 := ρ 10) (n11 := ρ 11) (n12 := ρ 12) (n13 := ρ 13) (n14 := ρ 14) (n15 := ρ 15) (n16 := ρ 16) (n17 := ρ 17) (n18 := ρ 18) (n19 := ρ 19) (H0 := η 0) (H1 := η 1) (H2 := η 2) f51 f50 f49 f48 f47 f46 f45 f44 f43 f42 f41 f40 f39 f38 f37 f36 f35 f34 f33 f32 f31 f30 f29 f28 f27 f26 f25 f24 f23 f22 f21 f20 f19 f18 f17 f16 f15 f14 f13 f12 f11 f10 f9 f8 f7 f6 f5 f4 f3 f2 f1 f0
theorem q_92o_21 {q0 : Nat} {n0 n1 n2 n3 n4 n5 n6 n7 n8 n9 n10 n11 n12 n13 n14 n15 n16 n17 n18 n19 : Int} {H0 H1 H2 : gH} (f0 : n0 ≤ 2147483647) (f1 : (-2147483648) ≤ n0) (f2 : n1 ≤ 2147483647) (f3 : (-2147483648) ≤ n1) (f4 : n2 ≤ 2147483647) (f5 : (-2147483648) ≤ n2) (f6 : n3 ≤ 2147483647) (f7 : (-2147483648) ≤ n3) (f8 : n4 = 30) (f9 : n5 = 30) (f10 : (hLe T0 H0 H1 ∧ hFr s_92v.2.2.2.2 H0 H1 ∧ hWt T0 H1) ∧ ((Ab_92v_14 n5 n4 n3 n2 n1 n0 H0 H1 ∧ Bbo_92_14 n5 n4 n3 n2 n1 n0 H0 H1) ∧ preb_92v n5 H0) ∧ some q0 = some (mub_92v_14 n5 n4 n3 n2 n1 n0 H0 H1)) (f11 : n6 = 500) (f12 : n0 ≤ n6) (f13 : n7 ≤ 2147483647) (f14 : (-2147483648) ≤ n7) (f15 : hK H1 (n4).toNat = 4) (f16 : n7 = hV H1 (n4).toNat 3) (f17 : n7 = 0) (f18 : n1 ≠ 0) (f19 : n8 ≤ 2147483647) (f20 : (-2147483648) ≤ n8) (f21 : hK H1 (n4).toNat = 4) (f22 : n8 = hV H1 (n4).toNat 2) (f23 : n2 = 0) (f24 : n2 ≠ 0) (f25 : n9 ≤ 2147483647) (f26 : (-2147483648) ≤ n9) (f27 : hK H1 (n4).toNat = 4) (f28 : n9 = hV H1 (n4).toNat 2) (f29 : n10 = 45) (f30 : n10 ≤ n9) (f31 : n11 ≤ 2147483647) (f32 : (-2147483648) ≤ n11) (f33 : hK H1 (n4).toNat = 4) (f34 : n11 = hV H1 (n4).toNat 2) (f35 : n12 = 49) (f36 : n12 < n11) (f37 : n13 = 0) (f38 : 0 ≤ n14) (f39 : hK H1 (n4).toNat = 4) (f40 : n14 = hV H1 (n4).toNat 8) (f41 : n13 ≠ 0) (f42 : n15 = 10000) (f43 : n16 ≤ 2147483647) (f44 : (-2147483648) ≤ n16) (f45 : hK H1 (n4).toNat = 4) (f46 : n16 = hV H1 (n4).toNat 2) (f47 : n17 = w32 (n15 + n16)) (f48 : (hLe T0 H1 H2 ∧ hFr s_98.2.2.2.2 H1 H2 ∧ ((0 : Int) = 0 → H2.length = H1.length) ∧ hWt T0 H2) ∧ (True ∧ nbo_98 n14 n17 H1 H2)) (f49 : n13 ≠ 0) (f50 : n18 ≤ 2147483647) (f51 : (-2147483648) ≤ n18) (f52 : hK H2 (n4).toNat = 4) (f53 : n18 = hV H2 (n4).toNat 2) (f54 : n19 = 0) : Bbo_92_228 n5 n4 n3 n19 n1 n0 n18 H0 H2 := by
  exfalso
  omega
def g_92o_14_20 : vG := ([(0, [19], [], 0), (20, [18, 1], [2], 2), (23, [1], [2], 4), (90, [18], [], -2147483648), (91, [18], [], 2147483647), (31, [13], [], 0), (1098, [14, 17], [1, 2], 0), (1, [17, 15, 16], [], 0), (20, [16, 1], [1], 2), (23, [1], [1], 4), (90, [16], [], -2147483648), (91, [16], [], 2147483647), (0, [15], [], 10000), (31, [13], [], 0), (20, [14, 1], [1], 8), (23, [1], [1], 4), (51, [14], [], 0), (0, [13], [], 0), (44, [11, 12], [], 0), (0, [12], [], 49), (20, [11, 1], [1], 2), (23, [1], [1], 4), (90, [11], [], -2147483648), (91, [11], [], 2147483647), (43, [9, 10], [], 0), (0, [10], [], 45), (20, [9, 1], [1], 2), (23, [1], [1], 4), (90, [9], [], -2147483648), (91, [9], [], 2147483647), (31, [3], [], 0), (30, [3], [], 0), (20, [8, 1], [1], 2), (23, [1], [1], 4), (90, [8], [], -2147483648), (91, [8], [], 2147483647), (31, [4], [], 0), (30, [7], [], 0), (20, [7, 1], [1], 3), (23, [1], [1], 4), (90, [7], [], -2147483648), (91, [7], [], 2147483647), (45, [5, 6], [], 0), (0, [6], [], 500), (5000, [0, 1, 2, 3, 4, 5], [0, 1], 14), (0, [0], [], 30), (0, [1], [], 30), (90, [2], [], -2147483648), (91, [2], [], 2147483647), (90, [3], [], -2147483648), (91, [3], [], 2147483647), (90, [4], [], -2147483648), (91, [4], [], 2147483647), (90, [5], [], -2147483648), (91, [5], [], 2147483647)], (4000, [1, 2, 19, 4, 5, 18], [2], 228))
theorem c_92o_14_20 {q0 : Nat} : vOkm T0 (eN e_92v L_92o A_92v mu_92v no_92 Bo_92 (some q0)) 1 g_92o_14_20 := vOk_inI fun ρ η f0 f1 f2 f3 f4 f5 f6 f7 f8 f9 f10 f11 f12 f13 f14 f15 f16 f17 f18 f19 f20 f21 f22 f23 f24 f25 f26 f27 f28 f29 f30 f31 f32 f33 f34 f35 f36 f37 f38 f39 f40 f41 f42 f43 f44 f45 f46 f47 f48 f49 f50 f51 f52 f53 f54 => q_92o_21 (q0 := q0) (n0 := ρ 5) (n1 := ρ 4) (n2 := ρ 3) (n3 := ρ 2) (n4 := ρ 1) (n5 := ρ 0) (n6 := ρ 6) (n7 := ρ 7) (n8 := ρ 8) (n9 := ρ 9) (n10 := ρ 10) (n11 := ρ 11) (n12 := ρ 12) (n13 := ρ 13) (n14 := ρ 14) (n15 := ρ 15) (n16 := ρ 16) (n17 := ρ 17) (n18 := ρ 18) (n19 := ρ 19) (H0 := η 0) (H1 := η 1) (H2 := η 2) f54 f53 f52 f51 f50 f49 f48 f47 f46 f45 f44 f43 f42 f41 f40 f39 f38 f37 f36 f35 f34 f33 f32 f31 f30 f29 f28 f27 f26 f25 f24 f23 f22 f21 f20 f19 f18 f17 f16 f15 f14 f13 f12 f11 f10 f9 f8 f7 f6 f5 f4 f3 f2 f1 f0
theorem q_92o_22 {q0 : Nat} {n0 n1 n2 n3 n4 n5 n6 n7 n8 n9 n10 n11 n12 n13 n14 n15 n16 n17 n18 n19 n20 : Int} {H0 H1 H2 H3 : gH} (f0 : n0 ≤ 2147483647) (f1 : (-2147483648) ≤ n0) (f2 : n1 ≤ 2147483647) (f3 : (-2147483648) ≤ n1) (f4 : n2 ≤ 2147483647) (f5 : (-2147483648) ≤ n2) (f6 : n3 ≤ 2147483647) (f7 : (-2147483648) ≤ n3) (f8 : n4 = 30) (f9 : n5 = 30) (f10 : (hLe T0 H0 H1 ∧ hFr s_92v.2.2.2.2 H0 H1 ∧ hWt T0 H1) ∧ ((Ab_92v_14 n5 n4 n3 n2 n1 n0 H0 H1 ∧ Bbo_92_14 n5 n4 n3 n2 n1 n0 H0 H1) ∧ preb_92v n5 H0) ∧ some q0 = some (mub_92v_14 n5 n4 n3 n2 n1 n0 H0 H1)) (f11 : n6 = 500) (f12 : n0 ≤ n6) (f13 : n7 ≤ 2147483647) (f14 : (-2147483648) ≤ n7) (f15 : hK H1 (n4).toNat = 4) (f16 : n7 = hV H1 (n4).toNat 3) (f17 : n7 = 0) (f18 : n1 ≠ 0) (f19 : n8 ≤ 2147483647) (f20 : (-2147483648) ≤ n8) (f21 : hK H1 (n4).toNat = 4) (f22 : n8 = hV H1 (n4).toNat 2) (f23 : n2 = 0) (f24 : n2 ≠ 0) (f25 : n9 ≤ 2147483647) (f26 : (-2147483648) ≤ n9) (f27 : hK H1 (n4).toNat = 4) (f28 : n9 = hV H1 (n4).toNat 2) (f29 : n10 = 45) (f30 : n10 ≤ n9) (f31 : n11 ≤ 2147483647) (f32 : (-2147483648) ≤ n11) (f33 : hK H1 (n4).toNat = 4) (f34 : n11 = hV H1 (n4).toNat 2) (f35 : n12 = 49) (f36 : n11 ≤ n12) (f37 : n13 = 1) (f38 : 0 ≤ n14) (f39 : hK H1 (n4).toNat = 4) (f40 : n14 = hV H1 (n4).toNat 8) (f41 : n13 = 0) (f42 : n15 = 31) (f43 : hK H1 (n4).toNat = 4) (f44 : n15 = hV H1 (n4).toNat 0) (f45 : n16 ≤ 2147483647) (f46 : (-2147483648) ≤ n16) (f47 : hK H1 (n4).toNat = 4) (f48 : n16 = hV H1 (n4).toNat 1) (f49 : (hLe T0 H1 H2 ∧ hFr s_123v.2.2.2.2 H1 H2 ∧ ((0 : Int) = 0 → H2.length = H1.length) ∧ hWt T0 H2) ∧ postb_123v n17 n15 n16 H1 H2) (f50 : n18 = (Int64.ofInt n17).toInt32.toInt) (f51 : (hLe T0 H2 H3 ∧ hFr s_98.2.2.2.2 H2 H3 ∧ ((0 : Int) = 0 → H3.length = H2.length) ∧ hWt T0 H3) ∧ (True ∧ nbo_98 n14 n18 H2 H3)) (f52 : n13 = 0) (f53 : n19 = 3) (f54 : n20 = 0) : Bbo_92_228 n5 n4 n3 n20 n1 n0 n19 H0 H3 := by
  exfalso
  omega
def g_92o_14_21 : vG := ([(0, [20], [], 0), (0, [19], [], 3), (30, [13], [], 0), (1098, [14, 18], [2, 3], 0), (18, [18, 17], [], 0), (1123, [17, 15, 16], [1, 2], 0), (20, [16, 1], [1], 1), (23, [1], [1], 4), (90, [16], [], -2147483648), (91, [16], [], 2147483647), (20, [15, 1], [1], 0), (23, [1], [1], 4), (0, [15], [], 31), (30, [13], [], 0), (20, [14, 1], [1], 8), (23, [1], [1], 4), (51, [14], [], 0), (0, [13], [], 1), (45, [11, 12], [], 0), (0, [12], [], 49), (20, [11, 1], [1], 2), (23, [1], [1], 4), (90, [11], [], -2147483648), (91, [11], [], 2147483647), (43, [9, 10], [], 0), (0, [10], [], 45), (20, [9, 1], [1], 2), (23, [1], [1], 4), (90, [9], [], -2147483648), (91, [9], [], 2147483647), (31, [3], [], 0), (30, [3], [], 0), (20, [8, 1], [1], 2), (23, [1], [1], 4), (90, [8], [], -2147483648), (91, [8], [], 2147483647), (31, [4], [], 0), (30, [7], [], 0), (20, [7, 1], [1], 3), (23, [1], [1], 4), (90, [7], [], -2147483648), (91, [7], [], 2147483647), (45, [5, 6], [], 0), (0, [6], [], 500), (5000, [0, 1, 2, 3, 4, 5], [0, 1], 14), (0, [0], [], 30), (0, [1], [], 30), (90, [2], [], -2147483648), (91, [2], [], 2147483647), (90, [3], [], -2147483648), (91, [3], [], 2147483647), (90, [4], [], -2147483648), (91, [4], [], 2147483647), (90, [5], [], -2147483648), (91, [5], [], 2147483647)], (4000, [1, 2, 20, 4, 5, 19], [3], 228))
theorem c_92o_14_21 {q0 : Nat} : vOkm T0 (eN e_92v L_92o A_92v mu_92v no_92 Bo_92 (some q0)) 1 g_92o_14_21 := vOk_inI fun ρ η f0 f1 f2 f3 f4 f5 f6 f7 f8 f9 f10 f11 f12 f13 f14 f15 f16 f17 f18 f19 f20 f21 f22 f23 f24 f25 f26 f27 f28 f29 f30 f31 f32 f33 f34 f35 f36 f37 f38 f39 f40 f41 f42 f43 f44 f45 f46 f47 f48 f49 f50 f51 f52 f53 f54 => q_92o_22 (q0 := q0) (n0 := ρ 5) (n1 := ρ 4) (n2 := ρ 3) (n3 := ρ 2) (n4 := ρ 1) (n5 := ρ 0) (n6 := ρ 6) (n7 := ρ 7) (n8 := ρ 8) (n9 := ρ 9) (n10 := ρ 10) (n11 := ρ 11) (n12 := ρ 12) (n13 := ρ 13) (n14 := ρ 14) (n15 := ρ 15) (n16 := ρ 16) (n17 := ρ 17) (n18 := ρ 18) (n19 := ρ 19) (n20 := ρ 20) (H0 := η 0) (H1 := η 1) (H2 := η 2) (H3 := η 3) f54 f53 f52 f51 f50 f49 f48 f47 f46 f45 f44 f43 f42 f41 f40 f39 f38 f37 f36 f35 f34 f33 f32 f31 f30 f29 f28 f27 f26 f25 f24 f23 f22 f21 f20 f19 f18 f17 f16 f15 f14 f13 f12 f11 f10 f9 f8 f7 f6 f5 f4 f3 f2 f1 f0
theorem q_92o_23 {q0 : Nat} {n0 n1 n2 n3 n4 n5 n6 n7 n8 n9 n10 n11 n12 n13 n14 n15 n16 n17 n18 n19 n20 : Int} {H0 H1 H2 H3 : gH} (f0 : n0 ≤ 2147483647) (f1 : (-2147483648) ≤ n0) (f2 : n1 ≤ 2147483647) (f3 : (-2147483648) ≤ n1) (f4 : n2 ≤ 2147483647) (f5 : (-2147483648) ≤ n2) (f6 : n3 ≤ 2147483647) (f7 : (-2147483648) ≤ n3) (f8 : n4 = 30) (f9 : n5 = 30) (f10 : (hLe T0 H0 H1 ∧ hFr s_92v.2.2.2.2 H0 H1 ∧ hWt T0 H1) ∧ ((Ab_92v_14 n5 n4 n3 n2 n1 n0 H0 H1 ∧ Bbo_92_14 n5 n4 n3 n2 n1 n0 H0 H1) ∧ preb_92v n5 H0) ∧ some q0 = some (mub_92v_14 n5 n4 n3 n2 n1 n0 H0 H1)) (f11 : n6 = 500) (f12 : n0 ≤ n6) (f13 : n7 ≤ 2147483647) (f14 : (-2147483648) ≤ n7) (f15 : hK H1 (n4).toNat = 4) (f16 : n7 = hV H1 (n4).toNat 3) (f17 : n7 = 0) (f18 : n1 ≠ 0) (f19 : n8 ≤ 2147483647) (f20 : (-2147483648) ≤ n8) (f21 : hK H1 (n4).toNat = 4) (f22 : n8 = hV H1 (n4).toNat 2) (f23 : n2 = 0) (f24 : n2 ≠ 0) (f25 : n9 ≤ 2147483647) (f26 : (-2147483648) ≤ n9) (f27 : hK H1 (n4).toNat = 4) (f28 : n9 = hV H1 (n4).toNat 2) (f29 : n10 = 45) (f30 : n10 ≤ n9) (f31 : n11 ≤ 2147483647) (f32 : (-2147483648) ≤ n11) (f33 : hK H1 (n4).toNat = 4) (f34 : n11 = hV H1 (n4).toNat 2) (f35 : n12 = 49) (f36 : n11 ≤ n12) (f37 : n13 = 1) (f38 : 0 ≤ n14) (f39 : hK H1 (n4).toNat = 4) (f40 : n14 = hV H1 (n4).toNat 8) (f41 : n13 = 0) (f42 : n15 = 31) (f43 : hK H1 (n4).toNat = 4) (f44 : n15 = hV H1 (n4).toNat 0) (f45 : n16 ≤ 2147483647) (f46 : (-2147483648) ≤ n16) (f47 : hK H1 (n4).toNat = 4) (f48 : n16 = hV H1 (n4).toNat 1) (f49 : (hLe T0 H1 H2 ∧ hFr s_123v.2.2.2.2 H1 H2 ∧ ((0 : Int) = 0 → H2.length = H1.length) ∧ hWt T0 H2) ∧ postb_123v n17 n15 n16 H1 H2) (f50 : n18 = (Int64.ofInt n17).toInt32.toInt) (f51 : (hLe T0 H2 H3 ∧ hFr s_98.2.2.2.2 H2 H3 ∧ ((0 : Int) = 0 → H3.length = H2.length) ∧ hWt T0 H3) ∧ (True ∧ nbo_98 n14 n18 H2 H3)) (f52 : n13 ≠ 0) (f53 : n19 ≤ 2147483647) (f54 : (-2147483648) ≤ n19) (f55 : hK H3 (n4).toNat = 4) (f56 : n19 = hV H3 (n4).toNat 2) (f57 : n20 = 0) : Bbo_92_228 n5 n4 n3 n20 n1 n0 n19 H0 H3 := by
  exfalso
  omega
def g_92o_14_22 : vG := ([(0, [20], [], 0), (20, [19, 1], [3], 2), (23, [1], [3], 4), (90, [19], [], -2147483648), (91, [19], [], 2147483647), (31, [13], [], 0), (1098, [14, 18], [2, 3], 0), (18, [18, 17], [], 0), (1123, [17, 15, 16], [1, 2], 0), (20, [16, 1], [1], 1), (23, [1], [1], 4), (90, [16], [], -2147483648), (91, [16], [], 2147483647), (20, [15, 1], [1], 0), (23, [1], [1], 4), (0, [15], [], 31), (30, [13], [], 0), (20, [14, 1], [1], 8), (23, [1], [1], 4), (51, [14], [], 0), (0, [13], [], 1), (45, [11, 12], [], 0), (0, [12], [], 49), (20, [11, 1], [1], 2), (23, [1], [1], 4), (90, [11], [], -2147483648), (91, [11], [], 2147483647), (43, [9, 10], [], 0), (0, [10], [], 45), (20, [9, 1], [1], 2), (23, [1], [1], 4), (90, [9], [], -2147483648), (91, [9], [], 2147483647), (31, [3], [], 0), (30, [3], [], 0), (20, [8, 1], [1], 2), (23, [1], [1], 4), (90, [8], [], -2147483648), (91, [8], [], 2147483647), (31, [4], [], 0), (30, [7], [], 0), (20, [7, 1], [1], 3), (23, [1], [1], 4), (90, [7], [], -2147483648), (91, [7], [], 2147483647), (45, [5, 6], [], 0), (0, [6], [], 500), (5000, [0, 1, 2, 3, 4, 5], [0, 1], 14), (0, [0], [], 30), (0, [1], [], 30), (90, [2], [], -2147483648), (91, [2], [], 2147483647), (90, [3], [], -2147483648), (91, [3], [], 2147483647), (90, [4], [], -2147483648), (91, [4], [], 2147483647), (90, [5], [], -2147483648), (91, [5], [], 2147483647)], (4000, [1, 2, 20, 4, 5, 19], [3], 228))
theorem c_92o_14_22 {q0 : Nat} : vOkm T0 (eN e_92v L_92o A_92v mu_92v no_92 Bo_92 (some q0)) 1 g_92o_14_22 := vOk_inI fun ρ η f0 f1 f2 f3 f4 f5 f6 f7 f8 f9 f10 f11 f12 f13 f14 f15 f16 f17 f18 f19 f20 f21 f22 f23 f24 f25 f26 f27 f28 f29 f30 f31 f32 f33 f34 f35 f36 f37 f38 f39 f40 f41 f42 f43 f44 f45 f46 f47 f48 f49 f50 f51 f52 f53 f54 f55 f56 f57 => q_92o_23 (q0 := q0) (n0 := ρ 5) (n1 := ρ 4) (n2 := ρ 3) (n3 := ρ 2) (n4 := ρ 1) (n5 := ρ 0) (n6 := ρ 6) (n7 := ρ 7) (n8 := ρ 8) (n9 := ρ 9) (n10 := ρ 10) (n11 := ρ 11) (n12 := ρ 12) (n13 := ρ 13) (n14 := ρ 14) (n15 := ρ 15) (n16 := ρ 16) (n17 := ρ 17) (n18 := ρ 18) (n19 := ρ 19) (n20 := ρ 20) (H0 := η 0) (H1 := η 1) (H2 := η 2) (H3 := η 3) f57 f56 f55 f54 f53 f52 f51 f50 f49 f48 f47 f46 f45 f44 f43 f42 f41 f40 f39 f38 f37 f36 f35 f34 f33 f32 f31 f30 f29 f28 f27 f26 f25 f24 f23 f22 f21 f20 f19 f18 f17 f16 f15 f14 f13 f12 f11 f10 f9 f8 f7 f6 f5 f4 f3 f2 f1 f0
theorem q_92o_24 {q0 : Nat} {n0 n1 n2 n3 n4 n5 n6 n7 n8 n9 n10 n11 n12 n13 n14 n15 n16 n17 n18 n19 : Int} {H0 H1 H2 : gH} (f0 : n0 ≤ 2147483647) (f1 : (-2147483648) ≤ n0) (f2 : n1 ≤ 2147483647) (f3 : (-2147483648) ≤ n1) (f4 : n2 ≤ 2147483647) (f5 : (-2147483648) ≤ n2) (f6 : n3 ≤ 2147483647) (f7 : (-2147483648) ≤ n3) (f8 : n4 = 30) (f9 : n5 = 30) (f10 : (hLe T0 H0 H1 ∧ hFr s_92v.2.2.2.2 H0 H1 ∧ hWt T0 H1) ∧ ((Ab_92v_14 n5 n4 n3 n2 n1 n0 H0 H1 ∧ Bbo_92_14 n5 n4 n3 n2 n1 n0 H0 H1) ∧ preb_92v n5 H0) ∧ some q0 = some (mub_92v_14 n5 n4 n3 n2 n1 n0 H0 H1)) (f11 : n6 = 500) (f12 : n0 ≤ n6) (f13 : n7 ≤ 2147483647) (f14 : (-2147483648) ≤ n7) (f15 : hK H1 (n4).toNat = 4) (f16 : n7 = hV H1 (n4).toNat 3) (f17 : n7 = 0) (f18 : n1 ≠ 0) (f19 : n8 ≤ 2147483647) (f20 : (-2147483648) ≤ n8) (f21 : hK H1 (n4).toNat = 4) (f22 : n8 = hV H1 (n4).toNat 2) (f23 : n2 = 0) (f24 : n2 ≠ 0) (f25 : n9 ≤ 2147483647) (f26 : (-2147483648) ≤ n9) (f27 : hK H1 (n4).toNat = 4) (f28 : n9 = hV H1 (n4).toNat 2) (f29 : n10 = 45) (f30 : n10 ≤ n9) (f31 : n11 ≤ 2147483647) (f32 : (-2147483648) ≤ n11) (f33 : hK H1 (n4).toNat = 4) (f34 : n11 = hV H1 (n4).toNat 2) (f35 : n12 = 49) (f36 : n11 ≤ n12) (f37 : n13 = 1) (f38 : 0 ≤ n14) (f39 : hK H1 (n4).toNat = 4) (f40 : n14 = hV H1 (n4).toNat 8) (f41 : n13 ≠ 0) (f42 : n15 = 10000) (f43 : n16 ≤ 2147483647) (f44 : (-2147483648) ≤ n16) (f45 : hK H1 (n4).toNat = 4) (f46 : n16 = hV H1 (n4).toNat 2) (f47 : n17 = w32 (n15 + n16)) (f48 : (hLe T0 H1 H2 ∧ hFr s_98.2.2.2.2 H1 H2 ∧ ((0 : Int) = 0 → H2.length = H1.length) ∧ hWt T0 H2) ∧ (True ∧ nbo_98 n14 n17 H1 H2)) (f49 : n13 = 0) (f50 : n18 = 3) (f51 : n19 = 0) : Bbo_92_228 n5 n4 n3 n19 n1 n0 n18 H0 H2 := by
  exfalso
  omega
def g_92o_14_23 : vG := ([(0, [19], [], 0), (0, [18], [], 3), (30, [13], [], 0), (1098, [14, 17], [1, 2], 0), (1, [17, 15, 16], [], 0), (20, [16, 1], [1], 2), (23, [1], [1], 4), (90, [16], [], -2147483648), (91, [16], [], 2147483647), (0, [15], [], 10000), (31, [13], [], 0), (20, [14, 1], [1], 8), (23, [1], [1], 4), (51, [14], [], 0), (0, [13], [], 1), (45, [11, 12], [], 0), (0, [12], [], 49), (20, [11, 1], [1], 2), (23, [1], [1], 4), (90, [11], [], -2147483648), (91, [11], [], 2147483647), (43, [9, 10], [], 0), (0, [10], [], 45), (20, [9, 1], [1], 2), (23, [1], [1], 4), (90, [9], [], -2147483648), (91, [9], [], 2147483647), (31, [3], [], 0), (30, [3], [], 0), (20, [8, 1], [1], 2), (23, [1], [1], 4), (90, [8], [], -2147483648), (91, [8], [], 2147483647), (31, [4], [], 0), (30, [7], [], 0), (20, [7, 1], [1], 3), (23, [1], [1], 4), (90, [7], [], -2147483648), (91, [7], [], 2147483647), (45, [5, 6], [], 0), (0, [6], [], 500), (5000, [0, 1, 2, 3, 4, 5], [0, 1], 14), (0, [0], [], 30), (0, [1], [], 30), (90, [2], [], -2147483648), (91, [2], [], 2147483647), (90, [3], [], -2147483648), (91, [3], [], 2147483647), (90, [4], [], -2147483648), (91, [4], [], 2147483647), (90, [5], [], -2147483648), (91, [5], [], 2147483647)], (4000, [1, 2, 19, 4, 5, 18], [2], 228))
theorem c_92o_14_23 {q0 : Nat} : vOkm T0 (eN e_92v L_92o A_92v mu_92v no_92 Bo_92 (some q0)) 1 g_92o_14_23 := vOk_inI fun ρ η f0 f1 f2 f3 f4 f5 f6 f7 f8 f9 f10 f11 f12 f13 f14 f15 f16 f17 f18 f19 f20 f21 f22 f23 f24 f25 f26 f27 f28 f29 f30 f31 f32 f33 f34 f35 f36 f37 f38 f39 f40 f41 f42 f43 f44 f45 f46 f47 f48 f49 f50 f51 => q_92o_24 (q0 := q0) (n0 := ρ 5) (n1 := ρ 4) (n2 := ρ 3) (n3 := ρ 2) (n4 := ρ 1) (n5 := ρ 0) (n6 := ρ 6) (n7 := ρ 7) (n8 := ρ 8) (n9 := ρ 9) (n10 := ρ 10) (n11 := ρ 11) (n12 := ρ 12) (n13 := ρ 13) (n14 := ρ 14) (n15 := ρ 15) (n16 := ρ 16) (n17 := ρ 17) (n18 := ρ 18) (n19 := ρ 19) (H0 := η 0) (H1 := η 1) (H2 := η 2) f51 f50 f49 f48 f47 f46 f45 f44 f43 f42 f41 f40 f39 f38 f37 f36 f35 f34 f33 f32 f31 f30 f29 f28 f27 f26 f25 f24 f23 f22 f21 f20 f19 f18 f17 f16 f15 f14 f13 f12 f11 f10 f9 f8 f7 f6 f5 f4 f3 f2 f1 f0
theorem q_92o_25 {q0 : Nat} {n0 n1 n2 n3 n4 n5 n6 n7 n8 n9 n10 n11 n12 n13 n14 n15 n16 n17 n18 n19 : Int} {H0 H1 H2 : gH} (f0 : n0 ≤ 2147483647) (f1 : (-2147483648) ≤ n0) (f2 : n1 ≤ 2147483647) (f3 : (-2147483648) ≤ n1) (f4 : n2 ≤ 2147483647) (f5 : (-2147483648) ≤ n2) (f6 : n3 ≤ 2147483647) (f7 : (-2147483648) ≤ n3) (f8 : n4 = 30) (f9 : n5 = 30) (f10 : (hLe T0 H0 H1 ∧ hFr s_92v.2.2.2.2 H0 H1 ∧ hWt T0 H1) ∧ ((Ab_92v_14 n5 n4 n3 n2 n1 n0 H0 H1 ∧ Bbo_92_14 n5 n4 n3 n2 n1 n0 H0 H1) ∧ preb_92v n5 H0) ∧ some q0 = some (mub_92v_14 n5 n4 n3 n2 n1 n0 H0 H1)) (f11 : n6 = 500) (f12 : n0 ≤ n6) (f13 : n7 ≤ 2147483647) (f14 : (-2147483648) ≤ n7) (f15 : hK H1 (n4).toNat = 4) (f16 : n7 = hV H1 (n4).toNat 3) (f17 : n7 = 0) (f18 : n1 ≠ 0) (f19 : n8 ≤ 2147483647) (f20 : (-2147483648) ≤ n8) (f21 : hK H1 (n4).toNat = 4) (f22 : n8 = hV H1 (n4).toNat 2) (f23 : n2 = 0) (f24 : n2 ≠ 0) (f25 : n9 ≤ 2147483647) (f26 : (-2147483648) ≤ n9) (f27 : hK H1 (n4).toNat = 4) (f28 : n9 = hV H1 (n4).toNat 2) (f29 : n10 = 45) (f30 : n10 ≤ n9) (f31 : n11 ≤ 2147483647) (f32 : (-2147483648) ≤ n11) (f33 : hK H1 (n4).toNat = 4) (f34 : n11 = hV H1 (n4).toNat 2) (f35 : n12 = 49) (f36 : n11 ≤ n12) (f37 : n13 = 1) (f38 : 0 ≤ n14) (f39 : hK H1 (n4).toNat = 4) (f40 : n14 = hV H1 (n4).toNat 8) (f41 : n13 ≠ 0) (f42 : n15 = 10000) (f43 : n16 ≤ 2147483647) (f44 : (-2147483648) ≤ n16) (f45 : hK H1 (n4).toNat = 4) (f46 : n16 = hV H1 (n4).toNat 2) (f47 : n17 = w32 (n15 + n16)) (f48 : (hLe T0 H1 H2 ∧ hFr s_98.2.2.2.2 H1 H2 ∧ ((0 : Int) = 0 → H2.length = H1.length) ∧ hWt T0 H2) ∧ (True ∧ nbo_98 n14 n17 H1 H2)) (f49 : n13 ≠ 0) (f50 : n18 ≤ 2147483647) (f51 : (-2147483648) ≤ n18) (f52 : hK H2 (n4).toNat = 4) (f53 : n18 = hV H2 (n4).toNat 2) (f54 : n19 = 0) : Bbo_92_228 n5 n4 n3 n19 n1 n0 n18 H0 H2 := by
  unfold Bbo_92_228
  intro d ed zo w49
  have pz := f10.2.1.2
  unfold preb_92v at pz
  have ga := f10.2.1.1.1
  unfold Ab_92v_14 at ga
  have vz : vwC H1 = vwC H0 := vwC_fr f10.1.2.1 (by decide +kernel)
  have s0 := PF_fr f48.1.1 f48.1.2.1 (by decide +kernel) ga.1
  have a0 : absC H2 = (absC H1) := s0.1
  have v0 : vwC H2 = vwC H0 := s0.2.1.trans vz
  have gb := f10.2.1.1.2
  unfold Bbo_92_14 at gb
  obtain ⟨ko, w1, k⟩ := gb d ed zo w49
  have zo1 := ko.1
  have e8 : hV H1 30 8 = d := (f10.1.2.1.1 30 8 (by decide +kernel)).trans ed.symm
  have gc := ga
  have nw := ga.1.2.2.2.1.2.1
  have r16 : n7 = hV H1 30 3 := by
    have w := f16
    rw [f8] at w
    exact w
  have r22 : n8 = hV H1 30 2 := by
    have w := f22
    rw [f8] at w
    exact w
  have r28 : n9 = hV H1 30 2 := by
    have w := f28
    rw [f8] at w
    exact w
  have r34 : n11 = hV H1 30 2 := by
    have w := f34
    rw [f8] at w
    exact w
  have r40 : n14 = hV H1 30 8 := by
    have w := f40
    rw [f8] at w
    exact w
  have r46 : n16 = hV H1 30 2 := by
    have w := f46
    rw [f8] at w
    exact w
  have r53 : n18 = hV H2 30 2 := by
    have w := f53
    rw [f8] at w
    exact w
  obtain ⟨_, s0_, o0, o7, w01, m01, xn, ya, yb⟩ := gc
  have q47_ := f47
  unfold w32 at q47_
  have hf : hV H1 30 3 = 0 := by omega
  have ap := absC_pos ga.1 hf
  have x5 := xn hf
  have hv : (vwC H0).1 (absC H1).1 = hV H1 30 2 := by
    have u := (kd_at ga.1).resolve_left (by omega)
    rw [vz] at u
    exact u
  have qe := f48.2.2
  unfold nbo_98 at qe
  rw [show n14 = d from (r40.trans (rfl)).trans e8] at qe
  have zr : KO H1 H1 d := KO_rfl zo1
  have ke := qe zr.1
  refine ⟨KO_tr ko (KO_tr zr ke.1), W49_le f48.1.1 w1, fun L cd hl hp => ⟨fun m1 x5 => ?_, fun m0 => by exfalso; omega⟩⟩
  rw [a0]
  rw [a0] at x5
  obtain ⟨rs, mz⟩ := k L cd hl ap.2
  rw [show n19 = 0 by omega, show n3 = n3 by omega]
  exact RTk_unit zr.1 rs (by omega) hl (by omega) (by omega) (.inr ⟨by omega, by omega, by omega⟩) qe (f48.1.2.1.1 30 15 (by decide +kernel)) (fRow f48.1.2.1 49 (by decide +kernel))
def g_92o_14_24 : vG := ([(0, [19], [], 0), (20, [18, 1], [2], 2), (23, [1], [2], 4), (90, [18], [], -2147483648), (91, [18], [], 2147483647), (31, [13], [], 0), (1098, [14, 17], [1, 2], 0), (1, [17, 15, 16], [], 0), (20, [16, 1], [1], 2), (23, [1], [1], 4), (90, [16], [], -2147483648), (91, [16], [], 2147483647), (0, [15], [], 10000), (31, [13], [], 0), (20, [14, 1], [1], 8), (23, [1], [1], 4), (51, [14], [], 0), (0, [13], [], 1), (45, [11, 12], [], 0), (0, [12], [], 49), (20, [11, 1], [1], 2), (23, [1], [1], 4), (90, [11], [], -2147483648), (91, [11], [], 2147483647), (43, [9, 10], [], 0), (0, [10], [], 45), (20, [9, 1], [1], 2), (23, [1], [1], 4), (90, [9], [], -2147483648), (91, [9], [], 2147483647), (31, [3], [], 0), (30, [3], [], 0), (20, [8, 1], [1], 2), (23, [1], [1], 4), (90, [8], [], -2147483648), (91, [8], [], 2147483647), (31, [4], [], 0), (30, [7], [], 0), (20, [7, 1], [1], 3), (23, [1], [1], 4), (90, [7], [], -2147483648), (91, [7], [], 2147483647), (45, [5, 6], [], 0), (0, [6], [], 500), (5000, [0, 1, 2, 3, 4, 5], [0, 1], 14), (0, [0], [], 30), (0, [1], [], 30), (90, [2], [], -2147483648), (91, [2], [], 2147483647), (90, [3], [], -2147483648), (91, [3], [], 2147483647), (90, [4], [], -2147483648), (91, [4], [], 2147483647), (90, [5], [], -2147483648), (91, [5], [], 2147483647)], (4000, [1, 2, 19, 4, 5, 18], [2], 228))
theorem c_92o_14_24 {q0 : Nat} : vOkm T0 (eN e_92v L_92o A_92v mu_92v no_92 Bo_92 (some q0)) 1 g_92o_14_24 := vOk_inI fun ρ η f0 f1 f2 f3 f4 f5 f6 f7 f8 f9 f10 f11 f12 f13 f14 f15 f16 f17 f18 f19 f20 f21 f22 f23 f24 f25 f26 f27 f28 f29 f30 f31 f32 f33 f34 f35 f36 f37 f38 f39 f40 f41 f42 f43 f44 f45 f46 f47 f48 f49 f50 f51 f52 f53 f54 => q_92o_25 (q0 := q0) (n0 := ρ 5) (n1 := ρ 4) (n2 := ρ 3) (n3 := ρ 2) (n4 := ρ 1) (n5 := ρ 0) (n6 := ρ 6) (n7 := ρ 7) (n8 := ρ 8) (n9 := ρ 9) (n10 := ρ 10) (n11 := ρ 11) (n12 := ρ 12) (n13 := ρ 13) (n14 := ρ 14) (n15 := ρ 15) (n16 := ρ 16) (n17 := ρ 17) (n18 := ρ 18) (n19 := ρ 19) (H0 := η 0) (H1 := η 1) (H2 := η 2) f54 f53 f52 f51 f50 f49 f48 f47 f46 f45 f44 f43 f42 f41 f40 f39 f38 f37 f36 f35 f34 f33 f32 f31 f30 f29 f28 f27 f26 f25 f24 f23 f22 f21 f20 f19 f18 f17 f16 f15 f14 f13 f12 f11 f10 f9 f8 f7 f6 f5 f4 f3 f2 f1 f0
theorem q_92o_26 {q0 : Nat} {n0 n1 n2 n3 n4 n5 n6 n7 n8 n9 n10 n11 n12 n13 n14 n15 : Int} {H0 H1 : gH} (f0 : n0 ≤ 2147483647) (f1 : (-2147483648) ≤ n0) (f2 : n1 ≤ 2147483647) (f3 : (-2147483648) ≤ n1) (f4 : n2 ≤ 2147483647) (f5 : (-2147483648) ≤ n2) (f6 : n3 ≤ 2147483647) (f7 : (-2147483648) ≤ n3) (f8 : n4 = 30) (f9 : n5 = 30) (f10 : (hLe T0 H0 H1 ∧ hFr s_92v.2.2.2.2 H0 H1 ∧ hWt T0 H1) ∧ ((Ab_92v_14 n5 n4 n3 n2 n1 n0 H0 H1 ∧ Bbo_92_14 n5 n4 n3 n2 n1 n0 H0 H1) ∧ preb_92v n5 H0) ∧ some q0 = some (mub_92v_14 n5 n4 n3 n2 n1 n0 H0 H1)) (f11 : n6 = 500) (f12 : n0 ≤ n6) (f13 : n7 ≤ 2147483647) (f14 : (-2147483648) ≤ n7) (f15 : hK H1 (n4).toNat = 4) (f16 : n7 = hV H1 (n4).toNat 3) (f17 : n7 = 0) (f18 : n1 ≠ 0) (f19 : n8 ≤ 2147483647) (f20 : (-2147483648) ≤ n8) (f21 : hK H1 (n4).toNat = 4) (f22 : n8 = hV H1 (n4).toNat 2) (f23 : n2 ≠ 0) (f24 : n9 ≤ 2147483647) (f25 : (-2147483648) ≤ n9) (f26 : hK H1 (n4).toNat = 4) (f27 : n9 = hV H1 (n4).toNat 2) (f28 : n10 = 10) (f29 : n9 ≠ n10) (f30 : n2 = 0) (f31 : n11 ≤ 2147483647) (f32 : (-2147483648) ≤ n11) (f33 : hK H1 (n4).toNat = 4) (f34 : n11 = hV H1 (n4).toNat 2) (f35 : n12 = 11) (f36 : n11 ≠ n12) (f37 : n13 ≤ 2147483647) (f38 : (-2147483648) ≤ n13) (f39 : hK H1 (n4).toNat = 4) (f40 : n13 = hV H1 (n4).toNat 2) (f41 : n14 = 6) (f42 : n13 < n14) (f43 : n15 = 0) : Bbo_92_228 n5 n4 n3 n2 n15 n0 n8 H0 H1 := by
  unfold Bbo_92_228
  intro d ed zo w49
  have pz := f10.2.1.2
  unfold preb_92v at pz
  have ga := f10.2.1.1.1
  unfold Ab_92v_14 at ga
  have vz : vwC H1 = vwC H0 := vwC_fr f10.1.2.1 (by decide +kernel)
  have gb := f10.2.1.1.2
  unfold Bbo_92_14 at gb
  obtain ⟨ko, w1, k⟩ := gb d ed zo w49
  have zo1 := ko.1
  have e8 : hV H1 30 8 = d := (f10.1.2.1.1 30 8 (by decide +kernel)).trans ed.symm
  have gc := ga
  have nw := ga.1.2.2.2.1.2.1
  have r16 : n7 = hV H1 30 3 := by
    have w := f16
    rw [f8] at w
    exact w
  have r22 : n8 = hV H1 30 2 := by
    have w := f22
    rw [f8] at w
    exact w
  have r27 : n9 = hV H1 30 2 := by
    have w := f27
    rw [f8] at w
    exact w
  have r34 : n11 = hV H1 30 2 := by
    have w := f34
    rw [f8] at w
    exact w
  have r40 : n13 = hV H1 30 2 := by
    have w := f40
    rw [f8] at w
    exact w
  obtain ⟨_, s0_, o0, o7, w01, m01, xn, ya, yb⟩ := gc
  have hf : hV H1 30 3 = 0 := by omega
  have ap := absC_pos ga.1 hf
  have x5 := xn hf
  have hv : (vwC H0).1 (absC H1).1 = hV H1 30 2 := by
    have u := (kd_at ga.1).resolve_left (by omega)
    rw [vz] at u
    exact u
  refine ⟨ko, w1, fun L cd hl hp => ⟨fun m1 => by exfalso; omega, fun m0 => ?_⟩⟩
  obtain ⟨rs, mz⟩ := k L cd hl ap.2
  exact ⟨rs, by omega⟩
def g_92o_14_25 : vG := ([(0, [15], [], 0), (42, [13, 14], [], 0), (0, [14], [], 6), (20, [13, 1], [1], 2), (23, [1], [1], 4), (90, [13], [], -2147483648), (91, [13], [], 2147483647), (41, [11, 12], [], 0), (0, [12], [], 11), (20, [11, 1], [1], 2), (23, [1], [1], 4), (90, [11], [], -2147483648), (91, [11], [], 2147483647), (30, [3], [], 0), (41, [9, 10], [], 0), (0, [10], [], 10), (20, [9, 1], [1], 2), (23, [1], [1], 4), (90, [9], [], -2147483648), (91, [9], [], 2147483647), (31, [3], [], 0), (20, [8, 1], [1], 2), (23, [1], [1], 4), (90, [8], [], -2147483648), (91, [8], [], 2147483647), (31, [4], [], 0), (30, [7], [], 0), (20, [7, 1], [1], 3), (23, [1], [1], 4), (90, [7], [], -2147483648), (91, [7], [], 2147483647), (45, [5, 6], [], 0), (0, [6], [], 500), (5000, [0, 1, 2, 3, 4, 5], [0, 1], 14), (0, [0], [], 30), (0, [1], [], 30), (90, [2], [], -2147483648), (91, [2], [], 2147483647), (90, [3], [], -2147483648), (91, [3], [], 2147483647), (90, [4], [], -2147483648), (91, [4], [], 2147483647), (90, [5], [], -2147483648), (91, [5], [], 2147483647)], (4000, [1, 2, 3, 15, 5, 8], [1], 228))
theorem c_92o_14_25 {q0 : Nat} : vOkm T0 (eN e_92v L_92o A_92v mu_92v no_92 Bo_92 (some q0)) 1 g_92o_14_25 := vOk_inI fun ρ η f0 f1 f2 f3 f4 f5 f6 f7 f8 f9 f10 f11 f12 f13 f14 f15 f16 f17 f18 f19 f20 f21 f22 f23 f24 f25 f26 f27 f28 f29 f30 f31 f32 f33 f34 f35 f36 f37 f38 f39 f40 f41 f42 f43 => q_92o_26 (q0 := q0) (n0 := ρ 5) (n1 := ρ 4) (n2 := ρ 3) (n3 := ρ 2) (n4 := ρ 1) (n5 := ρ 0) (n6 := ρ 6) (n7 := ρ 7) (n8 := ρ 8) (n9 := ρ 9) (n10 := ρ 10) (n11 := ρ 11) (n12 := ρ 12) (n13 := ρ 13) (n14 := ρ 14) (n15 := ρ 15) (H0 := η 0) (H1 := η 1) f43 f42 f41 f40 f39 f38 f37 f36 f35 f34 f33 f32 f31 f30 f29 f28 f27 f26 f25 f24 f23 f22 f21 f20 f19 f18 f17 f16 f15 f14 f13 f12 f11 f10 f9 f8 f7 f6 f5 f4 f3 f2 f1 f0
theorem q_92o_27 {q0 : Nat} {n0 n1 n2 n3 n4 n5 n6 n7 n8 n9 n10 n11 n12 n13 n14 n15 n16 n17 : Int} {H0 H1 : gH} (f0 : n0 ≤ 2147483647) (f1 : (-2147483648) ≤ n0) (f2 : n1 ≤ 2147483647) (f3 : (-2147483648) ≤ n1) (f4 : n2 ≤ 2147483647) (f5 : (-2147483648) ≤ n2) (f6 : n3 ≤ 2147483647) (f7 : (-2147483648) ≤ n3) (f8 : n4 = 30) (f9 : n5 = 30) (f10 : (hLe T0 H0 H1 ∧ hFr s_92v.2.2.2.2 H0 H1 ∧ hWt T0 H1) ∧ ((Ab_92v_14 n5 n4 n3 n2 n1 n0 H0 H1 ∧ Bbo_92_14 n5 n4 n3 n2 n1 n0 H0 H1) ∧ preb_92v n5 H0) ∧ some q0 = some (mub_92v_14 n5 n4 n3 n2 n1 n0 H0 H1)) (f11 : n6 = 500) (f12 : n0 ≤ n6) (f13 : n7 ≤ 2147483647) (f14 : (-2147483648) ≤ n7) (f15 : hK H1 (n4).toNat = 4) (f16 : n7 = hV H1 (n4).toNat 3) (f17 : n7 = 0) (f18 : n1 ≠ 0) (f19 : n8 ≤ 2147483647) (f20 : (-2147483648) ≤ n8) (f21 : hK H1 (n4).toNat = 4) (f22 : n8 = hV H1 (n4).toNat 2) (f23 : n2 ≠ 0) (f24 : n9 ≤ 2147483647) (f25 : (-2147483648) ≤ n9) (f26 : hK H1 (n4).toNat = 4) (f27 : n9 = hV H1 (n4).toNat 2) (f28 : n10 = 10) (f29 : n9 ≠ n10) (f30 : n2 = 0) (f31 : n11 ≤ 2147483647) (f32 : (-2147483648) ≤ n11) (f33 : hK H1 (n4).toNat = 4) (f34 : n11 = hV H1 (n4).toNat 2) (f35 : n12 = 11) (f36 : n11 ≠ n12) (f37 : n13 ≤ 2147483647) (f38 : (-2147483648) ≤ n13) (f39 : hK H1 (n4).toNat = 4) (f40 : n13 = hV H1 (n4).toNat 2) (f41 : n14 = 6) (f42 : n14 ≤ n13) (f43 : n15 ≤ 2147483647) (f44 : (-2147483648) ≤ n15) (f45 : hK H1 (n4).toNat = 4) (f46 : n15 = hV H1 (n4).toNat 2) (f47 : n16 = 9) (f48 : n16 < n15) (f49 : n17 = 0) : Bbo_92_228 n5 n4 n3 n2 n17 n0 n8 H0 H1 := by
  unfold Bbo_92_228
  intro d ed zo w49
  have pz := f10.2.1.2
  unfold preb_92v at pz
  have ga := f10.2.1.1.1
  unfold Ab_92v_14 at ga
  have vz : vwC H1 = vwC H0 := vwC_fr f10.1.2.1 (by decide +kernel)
  have gb := f10.2.1.1.2
  unfold Bbo_92_14 at gb
  obtain ⟨ko, w1, k⟩ := gb d ed zo w49
  have zo1 := ko.1
  have e8 : hV H1 30 8 = d := (f10.1.2.1.1 30 8 (by decide +kernel)).trans ed.symm
  have gc := ga
  have nw := ga.1.2.2.2.1.2.1
  have r16 : n7 = hV H1 30 3 := by
    have w := f16
    rw [f8] at w
    exact w
  have r22 : n8 = hV H1 30 2 := by
    have w := f22
    rw [f8] at w
    exact w
  have r27 : n9 = hV H1 30 2 := by
    have w := f27
    rw [f8] at w
    exact w
  have r34 : n11 = hV H1 30 2 := by
    have w := f34
    rw [f8] at w
    exact w
  have r40 : n13 = hV H1 30 2 := by
    have w := f40
    rw [f8] at w
    exact w
  have r46 : n15 = hV H1 30 2 := by
    have w := f46
    rw [f8] at w
    exact w
  obtain ⟨_, s0_, o0, o7, w01, m01, xn, ya, yb⟩ := gc
  have hf : hV H1 30 3 = 0 := by omega
  have ap := absC_pos ga.1 hf
  have x5 := xn hf
  have hv : (vwC H0).1 (absC H1).1 = hV H1 30 2 := by
    have u := (kd_at ga.1).resolve_left (by omega)
    rw [vz] at u
    exact u
  refine ⟨ko, w1, fun L cd hl hp => ⟨fun m1 => by exfalso; omega, fun m0 => ?_⟩⟩
  obtain ⟨rs, mz⟩ := k L cd hl ap.2
  exact ⟨rs, by omega⟩
def g_92o_14_26 : vG := ([(0, [17], [], 0), (44, [15, 16], [], 0), (0, [16], [], 9), (20, [15, 1], [1], 2), (23, [1], [1], 4), (90, [15], [], -2147483648), (91, [15], [], 2147483647), (43, [13, 14], [], 0), (0, [14], [], 6), (20, [13, 1], [1], 2), (23, [1], [1], 4), (90, [13], [], -2147483648), (91, [13], [], 2147483647), (41, [11, 12], [], 0), (0, [12], [], 11), (20, [11, 1], [1], 2), (23, [1], [1], 4), (90, [11], [], -2147483648), (91, [11], [], 2147483647), (30, [3], [], 0), (41, [9, 10], [], 0), (0, [10], [], 10), (20, [9, 1], [1], 2), (23, [1], [1], 4), (90, [9], [], -2147483648), (91, [9], [], 2147483647), (31, [3], [], 0), (20, [8, 1], [1], 2), (23, [1], [1], 4), (90, [8], [], -2147483648), (91, [8], [], 2147483647), (31, [4], [], 0), (30, [7], [], 0), (20, [7, 1], [1], 3), (23, [1], [1], 4), (90, [7], [], -2147483648), (91, [7], [], 2147483647), (45, [5, 6], [], 0), (0, [6], [], 500), (5000, [0, 1, 2, 3, 4, 5], [0, 1], 14), (0, [0], [], 30), (0, [1], [], 30), (90, [2], [], -2147483648), (91, [2], [], 2147483647), (90, [3], [], -2147483648), (91, [3], [], 2147483647), (90, [4], [], -2147483648), (91, [4], [], 2147483647), (90, [5], [], -2147483648), (91, [5], [], 2147483647)], (4000, [1, 2, 3, 17, 5, 8], [1], 228))
theorem c_92o_14_26 {q0 : Nat} : vOkm T0 (eN e_92v L_92o A_92v mu_92v no_92 Bo_92 (some q0)) 1 g_92o_14_26 := vOk_inI fun ρ η f0 f1 f2 f3 f4 f5 f6 f7 f8 f9 f10 f11 f12 f13 f14 f15 f16 f17 f18 f19 f20 f21 f22 f23 f24 f25 f26 f27 f28 f29 f30 f31 f32 f33 f34 f35 f36 f37 f38 f39 f40 f41 f42 f43 f44 f45 f46 f47 f48 f49 => q_92o_27 (q0 := q0) (n0 := ρ 5) (n1 := ρ 4) (n2 := ρ 3) (n3 := ρ 2) (n4 := ρ 1) (n5 := ρ 0) (n6 := ρ 6) (n7 := ρ 7) (n8 := ρ 8) (n9 := ρ 9) (n10 := ρ 10) (n11 := ρ 11) (n12 := ρ 12) (n13 := ρ 13) (n14 := ρ 14) (n15 := ρ 15) (n16 := ρ 16) (n17 := ρ 17) (H0 := η 0) (H1 := η 1) f49 f48 f47 f46 f45 f44 f43 f42 f41 f40 f39 f38 f37 f36 f35 f34 f33 f32 f31 f30 f29 f28 f27 f26 f25 f24 f23 f22 f21 f20 f19 f18 f17 f16 f15 f14 f13 f12 f11 f10 f9 f8 f7 f6 f5 f4 f3 f2 f1 f0
theorem q_92o_28 {q0 : Nat} {n0 n1 n2 n3 n4 n5 n6 n7 n8 n9 n10 n11 n12 n13 n14 n15 n16 n17 n18 n19 n20 : Int} {H0 H1 H2 H3 H4 : gH} (f0 : n0 ≤ 2147483647) (f1 : (-2147483648) ≤ n0) (f2 : n1 ≤ 2147483647) (f3 : (-2147483648) ≤ n1) (f4 : n2 ≤ 2147483647) (f5 : (-2147483648) ≤ n2) (f6 : n3 ≤ 2147483647) (f7 : (-2147483648) ≤ n3) (f8 : n4 = 30) (f9 : n5 = 30) (f10 : (hLe T0 H0 H1 ∧ hFr s_92v.2.2.2.2 H0 H1 ∧ hWt T0 H1) ∧ ((Ab_92v_14 n5 n4 n3 n2 n1 n0 H0 H1 ∧ Bbo_92_14 n5 n4 n3 n2 n1 n0 H0 H1) ∧ preb_92v n5 H0) ∧ some q0 = some (mub_92v_14 n5 n4 n3 n2 n1 n0 H0 H1)) (f11 : n6 = 500) (f12 : n0 ≤ n6) (f13 : n7 ≤ 2147483647) (f14 : (-2147483648) ≤ n7) (f15 : hK H1 (n4).toNat = 4) (f16 : n7 = hV H1 (n4).toNat 3) (f17 : n7 = 0) (f18 : n1 ≠ 0) (f19 : n8 ≤ 2147483647) (f20 : (-2147483648) ≤ n8) (f21 : hK H1 (n4).toNat = 4) (f22 : n8 = hV H1 (n4).toNat 2) (f23 : n2 ≠ 0) (f24 : n9 ≤ 2147483647) (f25 : (-2147483648) ≤ n9) (f26 : hK H1 (n4).toNat = 4) (f27 : n9 = hV H1 (n4).toNat 2) (f28 : n10 = 10) (f29 : n9 ≠ n10) (f30 : n2 = 0) (f31 : n11 ≤ 2147483647) (f32 : (-2147483648) ≤ n11) (f33 : hK H1 (n4).toNat = 4) (f34 : n11 = hV H1 (n4).toNat 2) (f35 : n12 = 11) (f36 : n11 ≠ n12) (f37 : n13 ≤ 2147483647) (f38 : (-2147483648) ≤ n13) (f39 : hK H1 (n4).toNat = 4) (f40 : n13 = hV H1 (n4).toNat 2) (f41 : n14 = 6) (f42 : n14 ≤ n13) (f43 : n15 ≤ 2147483647) (f44 : (-2147483648) ≤ n15) (f45 : hK H1 (n4).toNat = 4) (f46 : n15 = hV H1 (n4).toNat 2) (f47 : n16 = 9) (f48 : n15 ≤ n16) (f49 : n17 ≤ 2147483647) (f50 : (-2147483648) ≤ n17) (f51 : hK H1 (n4).toNat = 4) (f52 : n17 = hV H1 (n4).toNat 2) (f53 : n18 ≤ 2147483647) (f54 : (-2147483648) ≤ n18) (f55 : (hLe T0 H1 H2 ∧ hFr s_93.2.2.2.2 H1 H2 ∧ ((0 : Int) = 0 → H2.length = H1.length) ∧ hWt T0 H2) ∧ (True ∧ nbo_93 n18 n17 H1 H2)) (f56 : (hLe T0 H2 H3 ∧ hFr s_95.2.2.2.2 H2 H3 ∧ ((0 : Int) = 0 → H3.length = H2.length) ∧ hWt T0 H3) ∧ (True ∧ nbo_95 n4 n18 H2 H3)) (f57 : n19 ≤ 2147483647) (f58 : (-2147483648) ≤ n19) (f59 : hK H3 (n4).toNat = 4) (f60 : n19 = hV H3 (n4).toNat 2) (f61 : (hLe T0 H3 H4 ∧ hFr s_94.2.2.2.2 H3 H4 ∧ ((0 : Int) = 0 → H4.length = H3.length) ∧ hWt T0 H4) ∧ (True ∧ nbo_94 n4 n19 H3 H4)) (f62 : n20 = 1) : Bbo_92_228 n5 n4 n3 n20 n1 n0 n8 H0 H4 := by
  unfold Bbo_92_228
  intro d ed zo w49
  have pz := f10.2.1.2
  unfold preb_92v at pz
  have ga := f10.2.1.1.1
  unfold Ab_92v_14 at ga
  have vz : vwC H1 = vwC H0 := vwC_fr f10.1.2.1 (by decide +kernel)
  have s0 := PF_fr f55.1.1 f55.1.2.1 (by decide +kernel) ga.1
  have a0 : absC H2 = (absC H1) := s0.1
  have v0 : vwC H2 = vwC H0 := s0.2.1.trans vz
  have s1 := PF_fr f56.1.1 f56.1.2.1 (by decide +kernel) s0.2.2
  have a1 : absC H3 = (absC H1) := s1.1.trans a0
  have v1 : vwC H3 = vwC H0 := s1.2.1.trans v0
  have s2 := PF_fr f61.1.1 f61.1.2.1 (by decide +kernel) s1.2.2
  have a2 : absC H4 = (absC H1) := s2.1.trans a1
  have v2 : vwC H4 = vwC H0 := s2.2.1.trans v1
  have gb := f10.2.1.1.2
  unfold Bbo_92_14 at gb
  obtain ⟨ko, w1, k⟩ := gb d ed zo w49
  have zo1 := ko.1
  have e8 : hV H1 30 8 = d := (f10.1.2.1.1 30 8 (by decide +kernel)).trans ed.symm
  have gc := ga
  have nw := ga.1.2.2.2.1.2.1
  have r16 : n7 = hV H1 30 3 := by
    have w := f16
    rw [f8] at w
    exact w
  have r22 : n8 = hV H1 30 2 := by
    have w := f22
    rw [f8] at w
    exact w
  have r27 : n9 = hV H1 30 2 := by
    have w := f27
    rw [f8] at w
    exact w
  have r34 : n11 = hV H1 30 2 := by
    have w := f34
    rw [f8] at w
    exact w
  have r40 : n13 = hV H1 30 2 := by
    have w := f40
    rw [f8] at w
    exact w
  have r46 : n15 = hV H1 30 2 := by
    have w := f46
    rw [f8] at w
    exact w
  have r52 : n17 = hV H1 30 2 := by
    have w := f52
    rw [f8] at w
    exact w
  have r60 : n19 = hV H3 30 2 := by
    have w := f60
    rw [f8] at w
    exact w
  obtain ⟨_, s0_, o0, o7, w01, m01, xn, ya, yb⟩ := gc
  have hf : hV H1 30 3 = 0 := by omega
  have ap := absC_pos ga.1 hf
  have x5 := xn hf
  have hv : (vwC H0).1 (absC H1).1 = hV H1 30 2 := by
    have u := (kd_at ga.1).resolve_left (by omega)
    rw [vz] at u
    exact u
  have rk := f55.2.2
  unfold nbo_93 at rk
  have rc := rkF_c (k := n17) (by omega) (by omega)
  rw [← rk] at rc
  have q56 := f56.2.2
  unfold nbo_95 at q56
  have q56 := q56 d (show hV H2 30 8 = d from (f55.1.2.1.1 30 8 (by decide +kernel)).trans e8).symm rc.1
  rw [rc.2] at q56
  have z2 := KO_sm zo1 (SMf_fr f55.1.1 f55.1.2.1 (by decide +kernel) (by decide +kernel))
  have w2 := W49_le f55.1.1 w1
  have kr := (q56 z2.1 w2).1
  have w3 := W49_le f56.1.1 w2
  have qh := f61.2.2
  unfold nbo_94 at qh
  refine ⟨KO_tr ko (KO_tr z2 (KO_tr kr (KO_sm kr.1 (SMf_fr f61.1.1 f61.1.2.1 (by decide +kernel) (by decide +kernel))))), W49_le f61.1.1 w3, fun L cd hl hp => ⟨fun m1 x5 => ?_, fun m0 => by exfalso; omega⟩⟩
  rw [a2]
  obtain ⟨rs, mz⟩ := k L cd hl ap.2
  have rs2 := RSs_sm zo1 rs (SMf_fr f55.1.1 f55.1.2.1 (by decide +kernel) (by decide +kernel)) (f55.1.2.1.1 30 15 (by decide +kernel)) (fRow f55.1.2.1 49 (by decide +kernel))
  rw [show n20 = 1 by omega, show n3 = n3 by omega]
  exact RTk_sign z2.1 w2 rs2 (by omega) hl (by omega) (by omega) (by omega) (by omega) q56 (by rw [hv, show n17 = hV H1 30 2 by omega]) w3 (SMf_fr f61.1.1 f61.1.2.1 (by decide +kernel) (by decide +kernel)) qh (by rw [hv, r60]; exact (f56.1.2.1.1 30 2 (by decide +kernel)).trans (f55.1.2.1.1 30 2 (by decide +kernel)))
def g_92o_14_27 : vG := ([(0, [20], [], 1), (1094, [1, 19], [3, 4], 0), (20, [19, 1], [3], 2), (23, [1], [3], 4), (90, [19], [], -2147483648), (91, [19], [], 2147483647), (1095, [1, 18], [2, 3], 0), (1093, [18, 17], [1, 2], 0), (90, [18], [], -2147483648), (91, [18], [], 2147483647), (20, [17, 1], [1], 2), (23, [1], [1], 4), (90, [17], [], -2147483648), (91, [17], [], 2147483647), (45, [15, 16], [], 0), (0, [16], [], 9), (20, [15, 1], [1], 2), (23, [1], [1], 4), (90, [15], [], -2147483648), (91, [15], [], 2147483647), (43, [13, 14], [], 0), (0, [14], [], 6), (20, [13, 1], [1], 2), (23, [1], [1], 4), (90, [13], [], -2147483648), (91, [13], [], 2147483647), (41, [11, 12], [], 0), (0, [12], [], 11), (20, [11, 1], [1], 2), (23, [1], [1], 4), (90, [11], [], -2147483648), (91, [11], [], 2147483647), (30, [3], [], 0), (41, [9, 10], [], 0), (0, [10], [], 10), (20, [9, 1], [1], 2), (23, [1], [1], 4), (90, [9], [], -2147483648), (91, [9], [], 2147483647), (31, [3], [], 0), (20, [8, 1], [1], 2), (23, [1], [1], 4), (90, [8], [], -2147483648), (91, [8], [], 2147483647), (31, [4], [], 0), (30, [7], [], 0), (20, [7, 1], [1], 3), (23, [1], [1], 4), (90, [7], [], -2147483648), (91, [7], [], 2147483647), (45, [5, 6], [], 0), (0, [6], [], 500), (5000, [0, 1, 2, 3, 4, 5], [0, 1], 14), (0, [0], [], 30), (0, [1], [], 30), (90, [2], [], -2147483648), (91, [2], [], 2147483647), (90, [3], [], -2147483648), (91, [3], [], 2147483647), (90, [4], [], -2147483648), (91, [4], [], 2147483647), (90, [5], [], -2147483648), (91, [5], [], 2147483647)], (4000, [1, 2, 20, 4, 5, 8], [4], 228))
theorem c_92o_14_27 {q0 : Nat} : vOkm T0 (eN e_92v L_92o A_92v mu_92v no_92 Bo_92 (some q0)) 1 g_92o_14_27 := vOk_inI fun ρ η f0 f1 f2 f3 f4 f5 f6 f7 f8 f9 f10 f11 f12 f13 f14 f15 f16 f17 f18 f19 f20 f21 f22 f23 f24 f25 f26 f27 f28 f29 f30 f31 f32 f33 f34 f35 f36 f37 f38 f39 f40 f41 f42 f43 f44 f45 f46 f47 f48 f49 f50 f51 f52 f53 f54 f55 f56 f57 f58 f59 f60 f61 f62 => q_92o_28 (q0 := q0) (n0 := ρ 5) (n1 := ρ 4) (n2 := ρ 3) (n3 := ρ 2) (n4 := ρ 1) (n5 := ρ 0) (n6 := ρ 6) (n7 := ρ 7) (n8 := ρ 8) (n9 := ρ 9) (n10 := ρ 10) (n11 := ρ 11) (n12 := ρ 12) (n13 := ρ 13) (n14 := ρ 14) (n15 := ρ 15) (n16 := ρ 16) (n17 := ρ 17) (n18 := ρ 18) (n19 := ρ 19) (n20 := ρ 20) (H0 := η 0) (H1 := η 1) (H2 := η 2) (H3 := η 3) (H4 := η 4) f62 f61 f60 f59 f58 f57 f56 f55 f54 f53 f52 f51 f50 f49 f48 f47 f46 f45 f44 f43 f42 f41 f40 f39 f38 f37 f36 f35 f34 f33 f32 f31 f30 f29 f28 f27 f26 f25 f24 f23 f22 f21 f20 f19 f18 f17 f16 f15 f14 f13 f12 f11 f10 f9 f8 f7 f6 f5 f4 f3 f2 f1 f0
theorem q_92o_29 {q0 : Nat} {n0 n1 n2 n3 n4 n5 n6 n7 n8 n9 n10 n11 n12 n13 n14 n15 : Int} {H0 H1 : gH} (f0 : n0 ≤ 2147483647) (f1 : (-2147483648) ≤ n0) (f2 : n1 ≤ 2147483647) (f3 : (-2147483648) ≤ n1) (f4 : n2 ≤ 2147483647) (f5 : (-2147483648) ≤ n2) (f6 : n3 ≤ 2147483647) (f7 : (-2147483648) ≤ n3) (f8 : n4 = 30) (f9 : n5 = 30) (f10 : (hLe T0 H0 H1 ∧ hFr s_92v.2.2.2.2 H0 H1 ∧ hWt T0 H1) ∧ ((Ab_92v_14 n5 n4 n3 n2 n1 n0 H0 H1 ∧ Bbo_92_14 n5 n4 n3 n2 n1 n0 H0 H1) ∧ preb_92v n5 H0) ∧ some q0 = some (mub_92v_14 n5 n4 n3 n2 n1 n0 H0 H1)) (f11 : n6 = 500) (f12 : n0 ≤ n6) (f13 : n7 ≤ 2147483647) (f14 : (-2147483648) ≤ n7) (f15 : hK H1 (n4).toNat = 4) (f16 : n7 = hV H1 (n4).toNat 3) (f17 : n7 = 0) (f18 : n1 ≠ 0) (f19 : n8 ≤ 2147483647) (f20 : (-2147483648) ≤ n8) (f21 : hK H1 (n4).toNat = 4) (f22 : n8 = hV H1 (n4).toNat 2) (f23 : n2 ≠ 0) (f24 : n9 ≤ 2147483647) (f25 : (-2147483648) ≤ n9) (f26 : hK H1 (n4).toNat = 4) (f27 : n9 = hV H1 (n4).toNat 2) (f28 : n10 = 10) (f29 : n9 ≠ n10) (f30 : n2 = 0) (f31 : n11 ≤ 2147483647) (f32 : (-2147483648) ≤ n11) (f33 : hK H1 (n4).toNat = 4) (f34 : n11 = hV H1 (n4).toNat 2) (f35 : n12 = 11) (f36 : n11 = n12) (f37 : n3 ≤ 0) (f38 : n13 ≤ 2147483647) (f39 : (-2147483648) ≤ n13) (f40 : hK H1 (n4).toNat = 4) (f41 : n13 = hV H1 (n4).toNat 2) (f42 : n14 = 6) (f43 : n13 < n14) (f44 : n15 = 0) : Bbo_92_228 n5 n4 n3 n2 n15 n0 n8 H0 H1 := by
  unfold Bbo_92_228
  intro d ed zo w49
  have pz := f10.2.1.2
  unfold preb_92v at pz
  have ga := f10.2.1.1.1
  unfold Ab_92v_14 at ga
  have vz : vwC H1 = vwC H0 := vwC_fr f10.1.2.1 (by decide +kernel)
  have gb := f10.2.1.1.2
  unfold Bbo_92_14 at gb
  obtain ⟨ko, w1, k⟩ := gb d ed zo w49
  have zo1 := ko.1
  have e8 : hV H1 30 8 = d := (f10.1.2.1.1 30 8 (by decide +kernel)).trans ed.symm
  have gc := ga
  have nw := ga.1.2.2.2.1.2.1
  have r16 : n7 = hV H1 30 3 := by
    have w := f16
    rw [f8] at w
    exact w
  have r22 : n8 = hV H1 30 2 := by
    have w := f22
    rw [f8] at w
    exact w
  have r27 : n9 = hV H1 30 2 := by
    have w := f27
    rw [f8] at w
    exact w
  have r34 : n11 = hV H1 30 2 := by
    have w := f34
    rw [f8] at w
    exact w
  have r41 : n13 = hV H1 30 2 := by
    have w := f41
    rw [f8] at w
    exact w
  obtain ⟨_, s0_, o0, o7, w01, m01, xn, ya, yb⟩ := gc
  have hf : hV H1 30 3 = 0 := by omega
  have ap := absC_pos ga.1 hf
  have x5 := xn hf
  have hv : (vwC H0).1 (absC H1).1 = hV H1 30 2 := by
    have u := (kd_at ga.1).resolve_left (by omega)
    rw [vz] at u
    exact u
  refine ⟨ko, w1, fun L cd hl hp => ⟨fun m1 => by exfalso; omega, fun m0 => ?_⟩⟩
  obtain ⟨rs, mz⟩ := k L cd hl ap.2
  exact ⟨rs, by omega⟩
def g_92o_14_28 : vG := ([(0, [15], [], 0), (42, [13, 14], [], 0), (0, [14], [], 6), (20, [13, 1], [1], 2), (23, [1], [1], 4), (90, [13], [], -2147483648), (91, [13], [], 2147483647), (35, [2], [], 0), (40, [11, 12], [], 0), (0, [12], [], 11), (20, [11, 1], [1], 2), (23, [1], [1], 4), (90, [11], [], -2147483648), (91, [11], [], 2147483647), (30, [3], [], 0), (41, [9, 10], [], 0), (0, [10], [], 10), (20, [9, 1], [1], 2), (23, [1], [1], 4), (90, [9], [], -2147483648), (91, [9], [], 2147483647), (31, [3], [], 0), (20, [8, 1], [1], 2), (23, [1], [1], 4), (90, [8], [], -2147483648), (91, [8], [], 2147483647), (31, [4], [], 0), (30, [7], [], 0), (20, [7, 1], [1], 3), (23, [1], [1], 4), (90, [7], [], -2147483648), (91, [7], [], 2147483647), (45, [5, 6], [], 0), (0, [6], [], 500), (5000, [0, 1, 2, 3, 4, 5], [0, 1], 14), (0, [0], [], 30), (0, [1], [], 30), (90, [2], [], -2147483648), (91, [2], [], 2147483647), (90, [3], [], -2147483648), (91, [3], [], 2147483647), (90, [4], [], -2147483648), (91, [4], [], 2147483647), (90, [5], [], -2147483648), (91, [5], [], 2147483647)], (4000, [1, 2, 3, 15, 5, 8], [1], 228))
theorem c_92o_14_28 {q0 : Nat} : vOkm T0 (eN e_92v L_92o A_92v mu_92v no_92 Bo_92 (some q0)) 1 g_92o_14_28 := vOk_inI fun ρ η f0 f1 f2 f3 f4 f5 f6 f7 f8 f9 f10 f11 f12 f13 f14 f15 f16 f17 f18 f19 f20 f21 f22 f23 f24 f25 f26 f27 f28 f29 f30 f31 f32 f33 f34 f35 f36 f37 f38 f39 f40 f41 f42 f43 f44 => q_92o_29 (q0 := q0) (n0 := ρ 5) (n1 := ρ 4) (n2 := ρ 3) (n3 := ρ 2) (n4 := ρ 1) (n5 := ρ 0) (n6 := ρ 6) (n7 := ρ 7) (n8 := ρ 8) (n9 := ρ 9) (n10 := ρ 10) (n11 := ρ 11) (n12 := ρ 12) (n13 := ρ 13) (n14 := ρ 14) (n15 := ρ 15) (H0 := η 0) (H1 := η 1) f44 f43 f42 f41 f40 f39 f38 f37 f36 f35 f34 f33 f32 f31 f30 f29 f28 f27 f26 f25 f24 f23 f22 f21 f20 f19 f18 f17 f16 f15 f14 f13 f12 f11 f10 f9 f8 f7 f6 f5 f4 f3 f2 f1 f0
theorem q_92o_30 {q0 : Nat} {n0 n1 n2 n3 n4 n5 n6 n7 n8 n9 n10 n11 n12 n13 n14 n15 n16 n17 : Int} {H0 H1 : gH} (f0 : n0 ≤ 2147483647) (f1 : (-2147483648) ≤ n0) (f2 : n1 ≤ 2147483647) (f3 : (-2147483648) ≤ n1) (f4 : n2 ≤ 2147483647) (f5 : (-2147483648) ≤ n2) (f6 : n3 ≤ 2147483647) (f7 : (-2147483648) ≤ n3) (f8 : n4 = 30) (f9 : n5 = 30) (f10 : (hLe T0 H0 H1 ∧ hFr s_92v.2.2.2.2 H0 H1 ∧ hWt T0 H1) ∧ ((Ab_92v_14 n5 n4 n3 n2 n1 n0 H0 H1 ∧ Bbo_92_14 n5 n4 n3 n2 n1 n0 H0 H1) ∧ preb_92v n5 H0) ∧ some q0 = some (mub_92v_14 n5 n4 n3 n2 n1 n0 H0 H1)) (f11 : n6 = 500) (f12 : n0 ≤ n6) (f13 : n7 ≤ 2147483647) (f14 : (-2147483648) ≤ n7) (f15 : hK H1 (n4).toNat = 4) (f16 : n7 = hV H1 (n4).toNat 3) (f17 : n7 = 0) (f18 : n1 ≠ 0) (f19 : n8 ≤ 2147483647) (f20 : (-2147483648) ≤ n8) (f21 : hK H1 (n4).toNat = 4) (f22 : n8 = hV H1 (n4).toNat 2) (f23 : n2 ≠ 0) (f24 : n9 ≤ 2147483647) (f25 : (-2147483648) ≤ n9) (f26 : hK H1 (n4).toNat = 4) (f27 : n9 = hV H1 (n4).toNat 2) (f28 : n10 = 10) (f29 : n9 ≠ n10) (f30 : n2 = 0) (f31 : n11 ≤ 2147483647) (f32 : (-2147483648) ≤ n11) (f33 : hK H1 (n4).toNat = 4) (f34 : n11 = hV H1 (n4).toNat 2) (f35 : n12 = 11) (f36 : n11 = n12) (f37 : n3 ≤ 0) (f38 : n13 ≤ 2147483647) (f39 : (-2147483648) ≤ n13) (f40 : hK H1 (n4).toNat = 4) (f41 : n13 = hV H1 (n4).toNat 2) (f42 : n14 = 6) (f43 : n14 ≤ n13) (f44 : n15 ≤ 2147483647) (f45 : (-2147483648) ≤ n15) (f46 : hK H1 (n4).toNat = 4) (f47 : n15 = hV H1 (n4).toNat 2) (f48 : n16 = 9) (f49 : n16 < n15) (f50 : n17 = 0) : Bbo_92_228 n5 n4 n3 n2 n17 n0 n8 H0 H1 := by
  unfold Bbo_92_228
  intro d ed zo w49
  have pz := f10.2.1.2
  unfold preb_92v at pz
  have ga := f10.2.1.1.1
  unfold Ab_92v_14 at ga
  have vz : vwC H1 = vwC H0 := vwC_fr f10.1.2.1 (by decide +kernel)
  have gb := f10.2.1.1.2
  unfold Bbo_92_14 at gb
  obtain ⟨ko, w1, k⟩ := gb d ed zo w49
  have zo1 := ko.1
  have e8 : hV H1 30 8 = d := (f10.1.2.1.1 30 8 (by decide +kernel)).trans ed.symm
  have gc := ga
  have nw := ga.1.2.2.2.1.2.1
  have r16 : n7 = hV H1 30 3 := by
    have w := f16
    rw [f8] at w
    exact w
  have r22 : n8 = hV H1 30 2 := by
    have w := f22
    rw [f8] at w
    exact w
  have r27 : n9 = hV H1 30 2 := by
    have w := f27
    rw [f8] at w
    exact w
  have r34 : n11 = hV H1 30 2 := by
    have w := f34
    rw [f8] at w
    exact w
  have r41 : n13 = hV H1 30 2 := by
    have w := f41
    rw [f8] at w
    exact w
  have r47 : n15 = hV H1 30 2 := by
    have w := f47
    rw [f8] at w
    exact w
  obtain ⟨_, s0_, o0, o7, w01, m01, xn, ya, yb⟩ := gc
  have hf : hV H1 30 3 = 0 := by omega
  have ap := absC_pos ga.1 hf
  have x5 := xn hf
  have hv : (vwC H0).1 (absC H1).1 = hV H1 30 2 := by
    have u := (kd_at ga.1).resolve_left (by omega)
    rw [vz] at u
    exact u
  refine ⟨ko, w1, fun L cd hl hp => ⟨fun m1 => by exfalso; omega, fun m0 => ?_⟩⟩
  obtain ⟨rs, mz⟩ := k L cd hl ap.2
  exact ⟨rs, by omega⟩
def g_92o_14_29 : vG := ([(0, [17], [], 0), (44, [15, 16], [], 0), (0, [16], [], 9), (20, [15, 1], [1], 2), (23, [1], [1], 4), (90, [15], [], -2147483648), (91, [15], [], 2147483647), (43, [13, 14], [], 0), (0, [14], [], 6), (20, [13, 1], [1], 2), (23, [1], [1], 4), (90, [13], [], -2147483648), (91, [13], [], 2147483647), (35, [2], [], 0), (40, [11, 12], [], 0), (0, [12], [], 11), (20, [11, 1], [1], 2), (23, [1], [1], 4), (90, [11], [], -2147483648), (91, [11], [], 2147483647), (30, [3], [], 0), (41, [9, 10], [], 0), (0, [10], [], 10), (20, [9, 1], [1], 2), (23, [1], [1], 4), (90, [9], [], -2147483648), (91, [9], [], 2147483647), (31, [3], [], 0), (20, [8, 1], [1], 2), (23, [1], [1], 4), (90, [8], [], -2147483648), (91, [8], [], 2147483647), (31, [4], [], 0), (30, [7], [], 0), (20, [7, 1], [1], 3), (23, [1], [1], 4), (90, [7], [], -2147483648), (91, [7], [], 2147483647), (45, [5, 6], [], 0), (0, [6], [], 500), (5000, [0, 1, 2, 3, 4, 5], [0, 1], 14), (0, [0], [], 30), (0, [1], [], 30), (90, [2], [], -2147483648), (91, [2], [], 2147483647), (90, [3], [], -2147483648), (91, [3], [], 2147483647), (90, [4], [], -2147483648), (91, [4], [], 2147483647), (90, [5], [], -2147483648), (91, [5], [], 2147483647)], (4000, [1, 2, 3, 17, 5, 8], [1], 228))
theorem c_92o_14_29 {q0 : Nat} : vOkm T0 (eN e_92v L_92o A_92v mu_92v no_92 Bo_92 (some q0)) 1 g_92o_14_29 := vOk_inI fun ρ η f0 f1 f2 f3 f4 f5 f6 f7 f8 f9 f10 f11 f12 f13 f14 f15 f16 f17 f18 f19 f20 f21 f22 f23 f24 f25 f26 f27 f28 f29 f30 f31 f32 f33 f34 f35 f36 f37 f38 f39 f40 f41 f42 f43 f44 f45 f46 f47 f48 f49 f50 => q_92o_30 (q0 := q0) (n0 := ρ 5) (n1 := ρ 4) (n2 := ρ 3) (n3 := ρ 2) (n4 := ρ 1) (n5 := ρ 0) (n6 := ρ 6) (n7 := ρ 7) (n8 := ρ 8) (n9 := ρ 9) (n10 := ρ 10) (n11 := ρ 11) (n12 := ρ 12) (n13 := ρ 13) (n14 := ρ 14) (n15 := ρ 15) (n16 := ρ 16) (n17 := ρ 17) (H0 := η 0) (H1 := η 1) f50 f49 f48 f47 f46 f45 f44 f43 f42 f41 f40 f39 f38 f37 f36 f35 f34 f33 f32 f31 f30 f29 f28 f27 f26 f25 f24 f23 f22 f21 f20 f19 f18 f17 f16 f15 f14 f13 f12 f11 f10 f9 f8 f7 f6 f5 f4 f3 f2 f1 f0
theorem q_92o_31 {q0 : Nat} {n0 n1 n2 n3 n4 n5 n6 n7 n8 n9 n10 n11 n12 n13 n14 n15 n16 n17 n18 n19 n20 : Int} {H0 H1 H2 H3 H4 : gH} (f0 : n0 ≤ 2147483647) (f1 : (-2147483648) ≤ n0) (f2 : n1 ≤ 2147483647) (f3 : (-2147483648) ≤ n1) (f4 : n2 ≤ 2147483647) (f5 : (-2147483648) ≤ n2) (f6 : n3 ≤ 2147483647) (f7 : (-2147483648) ≤ n3) (f8 : n4 = 30) (f9 : n5 = 30) (f10 : (hLe T0 H0 H1 ∧ hFr s_92v.2.2.2.2 H0 H1 ∧ hWt T0 H1) ∧ ((Ab_92v_14 n5 n4 n3 n2 n1 n0 H0 H1 ∧ Bbo_92_14 n5 n4 n3 n2 n1 n0 H0 H1) ∧ preb_92v n5 H0) ∧ some q0 = some (mub_92v_14 n5 n4 n3 n2 n1 n0 H0 H1)) (f11 : n6 = 500) (f12 : n0 ≤ n6) (f13 : n7 ≤ 2147483647) (f14 : (-2147483648) ≤ n7) (f15 : hK H1 (n4).toNat = 4) (f16 : n7 = hV H1 (n4).toNat 3) (f17 : n7 = 0) (f18 : n1 ≠ 0) (f19 : n8 ≤ 2147483647) (f20 : (-2147483648) ≤ n8) (f21 : hK H1 (n4).toNat = 4) (f22 : n8 = hV H1 (n4).toNat 2) (f23 : n2 ≠ 0) (f24 : n9 ≤ 2147483647) (f25 : (-2147483648) ≤ n9) (f26 : hK H1 (n4).toNat = 4) (f27 : n9 = hV H1 (n4).toNat 2) (f28 : n10 = 10) (f29 : n9 ≠ n10) (f30 : n2 = 0) (f31 : n11 ≤ 2147483647) (f32 : (-2147483648) ≤ n11) (f33 : hK H1 (n4).toNat = 4) (f34 : n11 = hV H1 (n4).toNat 2) (f35 : n12 = 11) (f36 : n11 = n12) (f37 : n3 ≤ 0) (f38 : n13 ≤ 2147483647) (f39 : (-2147483648) ≤ n13) (f40 : hK H1 (n4).toNat = 4) (f41 : n13 = hV H1 (n4).toNat 2) (f42 : n14 = 6) (f43 : n14 ≤ n13) (f44 : n15 ≤ 2147483647) (f45 : (-2147483648) ≤ n15) (f46 : hK H1 (n4).toNat = 4) (f47 : n15 = hV H1 (n4).toNat 2) (f48 : n16 = 9) (f49 : n15 ≤ n16) (f50 : n17 ≤ 2147483647) (f51 : (-2147483648) ≤ n17) (f52 : hK H1 (n4).toNat = 4) (f53 : n17 = hV H1 (n4).toNat 2) (f54 : n18 ≤ 2147483647) (f55 : (-2147483648) ≤ n18) (f56 : (hLe T0 H1 H2 ∧ hFr s_93.2.2.2.2 H1 H2 ∧ ((0 : Int) = 0 → H2.length = H1.length) ∧ hWt T0 H2) ∧ (True ∧ nbo_93 n18 n17 H1 H2)) (f57 : (hLe T0 H2 H3 ∧ hFr s_95.2.2.2.2 H2 H3 ∧ ((0 : Int) = 0 → H3.length = H2.length) ∧ hWt T0 H3) ∧ (True ∧ nbo_95 n4 n18 H2 H3)) (f58 : n19 ≤ 2147483647) (f59 : (-2147483648) ≤ n19) (f60 : hK H3 (n4).toNat = 4) (f61 : n19 = hV H3 (n4).toNat 2) (f62 : (hLe T0 H3 H4 ∧ hFr s_94.2.2.2.2 H3 H4 ∧ ((0 : Int) = 0 → H4.length = H3.length) ∧ hWt T0 H4) ∧ (True ∧ nbo_94 n4 n19 H3 H4)) (f63 : n20 = 1) : Bbo_92_228 n5 n4 n3 n20 n1 n0 n8 H0 H4 := by
  unfold Bbo_92_228
  intro d ed zo w49
  have pz := f10.2.1.2
  unfold preb_92v at pz
  have ga := f10.2.1.1.1
  unfold Ab_92v_14 at ga
  have vz : vwC H1 = vwC H0 := vwC_fr f10.1.2.1 (by decide +kernel)
  have s0 := PF_fr f56.1.1 f56.1.2.1 (by decide +kernel) ga.1
  have a0 : absC H2 = (absC H1) := s0.1
  have v0 : vwC H2 = vwC H0 := s0.2.1.trans vz
  have s1 := PF_fr f57.1.1 f57.1.2.1 (by decide +kernel) s0.2.2
  have a1 : absC H3 = (absC H1) := s1.1.trans a0
  have v1 : vwC H3 = vwC H0 := s1.2.1.trans v0
  have s2 := PF_fr f62.1.1 f62.1.2.1 (by decide +kernel) s1.2.2
  have a2 : absC H4 = (absC H1) := s2.1.trans a1
  have v2 : vwC H4 = vwC H0 := s2.2.1.trans v1
  have gb := f10.2.1.1.2
  unfold Bbo_92_14 at gb
  obtain ⟨ko, w1, k⟩ := gb d ed zo w49
  have zo1 := ko.1
  have e8 : hV H1 30 8 = d := (f10.1.2.1.1 30 8 (by decide +kernel)).trans ed.symm
  have gc := ga
  have nw := ga.1.2.2.2.1.2.1
  have r16 : n7 = hV H1 30 3 := by
    have w := f16
    rw [f8] at w
    exact w
  have r22 : n8 = hV H1 30 2 := by
    have w := f22
    rw [f8] at w
    exact w
  have r27 : n9 = hV H1 30 2 := by
    have w := f27
    rw [f8] at w
    exact w
  have r34 : n11 = hV H1 30 2 := by
    have w := f34
    rw [f8] at w
    exact w
  have r41 : n13 = hV H1 30 2 := by
    have w := f41
    rw [f8] at w
    exact w
  have r47 : n15 = hV H1 30 2 := by
    have w := f47
    rw [f8] at w
    exact w
  have r53 : n17 = hV H1 30 2 := by
    have w := f53
    rw [f8] at w
    exact w
  have r61 : n19 = hV H3 30 2 := by
    have w := f61
    rw [f8] at w
    exact w
  obtain ⟨_, s0_, o0, o7, w01, m01, xn, ya, yb⟩ := gc
  have hf : hV H1 30 3 = 0 := by omega
  have ap := absC_pos ga.1 hf
  have x5 := xn hf
  have hv : (vwC H0).1 (absC H1).1 = hV H1 30 2 := by
    have u := (kd_at ga.1).resolve_left (by omega)
    rw [vz] at u
    exact u
  have rk := f56.2.2
  unfold nbo_93 at rk
  have rc := rkF_c (k := n17) (by omega) (by omega)
  rw [← rk] at rc
  have q57 := f57.2.2
  unfold nbo_95 at q57
  have q57 := q57 d (show hV H2 30 8 = d from (f56.1.2.1.1 30 8 (by decide +kernel)).trans e8).symm rc.1
  rw [rc.2] at q57
  have z2 := KO_sm zo1 (SMf_fr f56.1.1 f56.1.2.1 (by decide +kernel) (by decide +kernel))
  have w2 := W49_le f56.1.1 w1
  have kr := (q57 z2.1 w2).1
  have w3 := W49_le f57.1.1 w2
  have qh := f62.2.2
  unfold nbo_94 at qh
  refine ⟨KO_tr ko (KO_tr z2 (KO_tr kr (KO_sm kr.1 (SMf_fr f62.1.1 f62.1.2.1 (by decide +kernel) (by decide +kernel))))), W49_le f62.1.1 w3, fun L cd hl hp => ⟨fun m1 x5 => ?_, fun m0 => by exfalso; omega⟩⟩
  rw [a2]
  obtain ⟨rs, mz⟩ := k L cd hl ap.2
  have rs2 := RSs_sm zo1 rs (SMf_fr f56.1.1 f56.1.2.1 (by decide +kernel) (by decide +kernel)) (f56.1.2.1.1 30 15 (by decide +kernel)) (fRow f56.1.2.1 49 (by decide +kernel))
  rw [show n20 = 1 by omega, show n3 = n3 by omega]
  exact RTk_sign z2.1 w2 rs2 (by omega) hl (by omega) (by omega) (by omega) (by omega) q57 (by rw [hv, show n17 = hV H1 30 2 by omega]) w3 (SMf_fr f62.1.1 f62.1.2.1 (by decide +kernel) (by decide +kernel)) qh (by rw [hv, r61]; exact (f57.1.2.1.1 30 2 (by decide +kernel)).trans (f56.1.2.1.1 30 2 (by decide +kernel)))
def g_92o_14_30 : vG := ([(0, [20], [], 1), (1094, [1, 19], [3, 4], 0), (20, [19, 1], [3], 2), (23, [1], [3], 4), (90, [19], [], -2147483648), (91, [19], [], 2147483647), (1095, [1, 18], [2, 3], 0), (1093, [18, 17], [1, 2], 0), (90, [18], [], -2147483648), (91, [18], [], 2147483647), (20, [17, 1], [1], 2), (23, [1], [1], 4), (90, [17], [], -2147483648), (91, [17], [], 2147483647), (45, [15, 16], [], 0), (0, [16], [], 9), (20, [15, 1], [1], 2), (23, [1], [1], 4), (90, [15], [], -2147483648), (91, [15], [], 2147483647), (43, [13, 14], [], 0), (0, [14], [], 6), (20, [13, 1], [1], 2), (23, [1], [1], 4), (90, [13], [], -2147483648), (91, [13], [], 2147483647), (35, [2], [], 0), (40, [11, 12], [], 0), (0, [12], [], 11), (20, [11, 1], [1], 2), (23, [1], [1], 4), (90, [11], [], -2147483648), (91, [11], [], 2147483647), (30, [3], [], 0), (41, [9, 10], [], 0), (0, [10], [], 10), (20, [9, 1], [1], 2), (23, [1], [1], 4), (90, [9], [], -2147483648), (91, [9], [], 2147483647), (31, [3], [], 0), (20, [8, 1], [1], 2), (23, [1], [1], 4), (90, [8], [], -2147483648), (91, [8], [], 2147483647), (31, [4], [], 0), (30, [7], [], 0), (20, [7, 1], [1], 3), (23, [1], [1], 4), (90, [7], [], -2147483648), (91, [7], [], 2147483647), (45, [5, 6], [], 0), (0, [6], [], 500), (5000, [0, 1, 2, 3, 4, 5], [0, 1], 14), (0, [0], [], 30), (0, [1], [], 30), (90, [2], [], -2147483648), (91, [2], [], 2147483647), (90, [3], [], -2147483648), (91, [3], [], 2147483647), (90, [4], [], -2147483648), (91, [4], [], 2147483647), (90, [5], [], -2147483648), (91, [5], [], 2147483647)], (4000, [1, 2, 20, 4, 5, 8], [4], 228))
theorem c_92o_14_30 {q0 : Nat} : vOkm T0 (eN e_92v L_92o A_92v mu_92v no_92 Bo_92 (some q0)) 1 g_92o_14_30 := vOk_inI fun ρ η f0 f1 f2 f3 f4 f5 f6 f7 f8 f9 f10 f11 f12 f13 f14 f15 f16 f17 f18 f19 f20 f21 f22 f23 f24 f25 f26 f27 f28 f29 f30 f31 f32 f33 f34 f35 f36 f37 f38 f39 f40 f41 f42 f43 f44 f45 f46 f47 f48 f49 f50 f51 f52 f53 f54 f55 f56 f57 f58 f59 f60 f61 f62 f63 => q_92o_31 (q0 := q0) (n0 := ρ 5) (n1 := ρ 4) (n2 := ρ 3) (n3 := ρ 2) (n4 := ρ 1) (n5 := ρ 0) (n6 := ρ 6) (n7 := ρ 7) (n8 := ρ 8) (n9 := ρ 9) (n10 := ρ 10) (n11 := ρ 11) (n12 := ρ 12) (n13 := ρ 13) (n14 := ρ 14) (n15 := ρ 15) (n16 := ρ 16) (n17 := ρ 17) (n18 := ρ 18) (n19 := ρ 19) (n20 := ρ 20) (H0 := η 0) (H1 := η 1) (H2 := η 2) (H3 := η 3) (H4 := η 4) f63 f62 f61 f60 f59 f58 f57 f56 f55 f54 f53 f52 f51 f50 f49 f48 f47 f46 f45 f44 f43 f42 f41 f40 f39 f38 f37 f36 f35 f34 f33 f32 f31 f30 f29 f28 f27 f26 f25 f24 f23 f22 f21 f20 f19 f18 f17 f16 f15 f14 f13 f12 f11 f10 f9 f8 f7 f6 f5 f4 f3 f2 f1 f0
theorem q_92o_32 {q0 : Nat} {n0 n1 n2 n3 n4 n5 n6 n7 n8 n9 n10 n11 n12 n13 n14 n15 n16 n17 n18 : Int} {H0 H1 H2 H3 : gH} (f0 : n0 ≤ 2147483647) (f1 : (-2147483648) ≤ n0) (f2 : n1 ≤ 2147483647) (f3 : (-2147483648) ≤ n1) (f4 : n2 ≤ 2147483647) (f5 : (-2147483648) ≤ n2) (f6 : n3 ≤ 2147483647) (f7 : (-2147483648) ≤ n3) (f8 : n4 = 30) (f9 : n5 = 30) (f10 : (hLe T0 H0 H1 ∧ hFr s_92v.2.2.2.2 H0 H1 ∧ hWt T0 H1) ∧ ((Ab_92v_14 n5 n4 n3 n2 n1 n0 H0 H1 ∧ Bbo_92_14 n5 n4 n3 n2 n1 n0 H0 H1) ∧ preb_92v n5 H0) ∧ some q0 = some (mub_92v_14 n5 n4 n3 n2 n1 n0 H0 H1)) (f11 : n6 = 500) (f12 : n0 ≤ n6) (f13 : n7 ≤ 2147483647) (f14 : (-2147483648) ≤ n7) (f15 : hK H1 (n4).toNat = 4) (f16 : n7 = hV H1 (n4).toNat 3) (f17 : n7 = 0) (f18 : n1 ≠ 0) (f19 : n8 ≤ 2147483647) (f20 : (-2147483648) ≤ n8) (f21 : hK H1 (n4).toNat = 4) (f22 : n8 = hV H1 (n4).toNat 2) (f23 : n2 ≠ 0) (f24 : n9 ≤ 2147483647) (f25 : (-2147483648) ≤ n9) (f26 : hK H1 (n4).toNat = 4) (f27 : n9 = hV H1 (n4).toNat 2) (f28 : n10 = 10) (f29 : n9 ≠ n10) (f30 : n2 = 0) (f31 : n11 ≤ 2147483647) (f32 : (-2147483648) ≤ n11) (f33 : hK H1 (n4).toNat = 4) (f34 : n11 = hV H1 (n4).toNat 2) (f35 : n12 = 11) (f36 : n11 = n12) (f37 : 0 < n3) (f38 : n13 = 1) (f39 : (hLe T0 H1 H2 ∧ hFr s_95.2.2.2.2 H1 H2 ∧ ((0 : Int) = 0 → H2.length = H1.length) ∧ hWt T0 H2) ∧ (True ∧ nbo_95 n4 n13 H1 H2)) (f40 : n14 ≤ 2147483647) (f41 : (-2147483648) ≤ n14) (f42 : hK H2 (n4).toNat = 4) (f43 : n14 = hV H2 (n4).toNat 15) (f44 : n15 = 1) (f45 : n16 = w32 (n14 - n15)) (f46 : hK H2 (n4).toNat = 4) (f47 : n17 = 15) (f48 : hUpd H3 H2 n4 n17 n16) (f49 : n18 = w32 (n3 + (-1))) : Bbo_92_228 n5 n4 n18 n2 n1 n0 n8 H0 H3 := by
  unfold Bbo_92_228
  intro d ed zo w49
  have pz := f10.2.1.2
  unfold preb_92v at pz
  have ga := f10.2.1.1.1
  unfold Ab_92v_14 at ga
  have vz : vwC H1 = vwC H0 := vwC_fr f10.1.2.1 (by decide +kernel)
  have s0 := PF_fr f39.1.1 f39.1.2.1 (by decide +kernel) ga.1
  have a0 : absC H2 = (absC H1) := s0.1
  have v0 : vwC H2 = vwC H0 := s0.2.1.trans vz
  have s1 := PF_30 f48 f8 (by omega) s0.2.2
  have a1 : absC H3 = (absC H1) := s1.1.trans a0
  have v1 : vwC H3 = vwC H0 := s1.2.1.trans v0
  have gb := f10.2.1.1.2
  unfold Bbo_92_14 at gb
  obtain ⟨ko, w1, k⟩ := gb d ed zo w49
  have zo1 := ko.1
  have e8 : hV H1 30 8 = d := (f10.1.2.1.1 30 8 (by decide +kernel)).trans ed.symm
  have gc := ga
  have nw := ga.1.2.2.2.1.2.1
  have r16 : n7 = hV H1 30 3 := by
    have w := f16
    rw [f8] at w
    exact w
  have r22 : n8 = hV H1 30 2 := by
    have w := f22
    rw [f8] at w
    exact w
  have r27 : n9 = hV H1 30 2 := by
    have w := f27
    rw [f8] at w
    exact w
  have r34 : n11 = hV H1 30 2 := by
    have w := f34
    rw [f8] at w
    exact w
  have r43 : n14 = hV H2 30 15 := by
    have w := f43
    rw [f8] at w
    exact w
  obtain ⟨_, s0_, o0, o7, w01, m01, xn, ya, yb⟩ := gc
  have q49_ := f49
  unfold w32 at q49_
  have hf : hV H1 30 3 = 0 := by omega
  have ap := absC_pos ga.1 hf
  have x5 := xn hf
  have hv : (vwC H0).1 (absC H1).1 = hV H1 30 2 := by
    have u := (kd_at ga.1).resolve_left (by omega)
    rw [vz] at u
    exact u
  have q39 := f39.2.2
  unfold nbo_95 at q39
  have q39 := q39 d (show hV H1 30 8 = d from (rfl).trans e8).symm (by omega)
  rw [decide_eq_false (by omega)] at q39
  have k30 : hK H2 30 = 4 := by
    have w := f42
    rw [f8] at w
    exact w
  have kr := (q39 zo1 w1).1
  have en := f45
  rw [f44] at en
  refine ⟨KO_tr ko (KO_tr kr (KO_rd kr.1 k30 f48 f8)), W49_up f48 (W49_le f39.1.1 w1), fun L cd hl hp => ⟨fun m1 x5 => ?_, fun m0 => by exfalso; omega⟩⟩
  rw [a1]
  obtain ⟨rs, mz⟩ := k L cd hl ap.2
  rw [show n2 = 0 by omega]
  exact RTk_close zo1 w1 rs (by omega) hl (by omega) (by omega) (by omega) (by omega) q39 r43 en f48 f8 f47 (by omega)
def g_92o_14_31 : vG := ([(10, [18, 2], [], -1), (80, [1, 17, 16], [3, 2], 0), (0, [17], [], 15), (23, [1], [2], 4), (2, [16, 14, 15], [], 0), (0, [15], [], 1), (20, [14, 1], [2], 15), (23, [1], [2], 4), (90, [14], [], -2147483648), (91, [14], [], 2147483647), (1095, [1, 13], [1, 2], 0), (0, [13], [], 1), (34, [2], [], 0), (40, [11, 12], [], 0), (0, [12], [], 11), (20, [11, 1], [1], 2), (23, [1], [1], 4), (90, [11], [], -2147483648), (91, [11], [], 2147483647), (30, [3], [], 0), (41, [9, 10], [], 0), (0, [10], [], 10), (20, [9, 1], [1], 2), (23, [1], [1], 4), (90, [9], [], -2147483648), (91, [9], [], 2147483647), (31, [3], [], 0), (20, [8, 1], [1], 2), (23, [1], [1], 4), (90, [8], [], -2147483648), (91, [8], [], 2147483647), (31, [4], [], 0), (30, [7], [], 0), (20, [7, 1], [1], 3), (23, [1], [1], 4), (90, [7], [], -2147483648), (91, [7], [], 2147483647), (45, [5, 6], [], 0), (0, [6], [], 500), (5000, [0, 1, 2, 3, 4, 5], [0, 1], 14), (0, [0], [], 30), (0, [1], [], 30), (90, [2], [], -2147483648), (91, [2], [], 2147483647), (90, [3], [], -2147483648), (91, [3], [], 2147483647), (90, [4], [], -2147483648), (91, [4], [], 2147483647), (90, [5], [], -2147483648), (91, [5], [], 2147483647)], (4000, [1, 18, 3, 4, 5, 8], [3], 228))
theorem c_92o_14_31 {q0 : Nat} : vOkm T0 (eN e_92v L_92o A_92v mu_92v no_92 Bo_92 (some q0)) 1 g_92o_14_31 := vOk_inI fun ρ η f0 f1 f2 f3 f4 f5 f6 f7 f8 f9 f10 f11 f12 f13 f14 f15 f16 f17 f18 f19 f20 f21 f22 f23 f24 f25 f26 f27 f28 f29 f30 f31 f32 f33 f34 f35 f36 f37 f38 f39 f40 f41 f42 f43 f44 f45 f46 f47 f48 f49 => q_92o_32 (q0 := q0) (n0 := ρ 5) (n1 := ρ 4) (n2 := ρ 3) (n3 := ρ 2) (n4 := ρ 1) (n5 := ρ 0) (n6 := ρ 6) (n7 := ρ 7) (n8 := ρ 8) (n9 := ρ 9) (n10 := ρ 10) (n11 := ρ 11) (n12 := ρ 12) (n13 := ρ 13) (n14 := ρ 14) (n15 := ρ 15) (n16 := ρ 16) (n17 := ρ 17) (n18 := ρ 18) (H0 := η 0) (H1 := η 1) (H2 := η 2) (H3 := η 3) f49 f48 f47 f46 f45 f44 f43 f42 f41 f40 f39 f38 f37 f36 f35 f34 f33 f32 f31 f30 f29 f28 f27 f26 f25 f24 f23 f22 f21 f20 f19 f18 f17 f16 f15 f14 f13 f12 f11 f10 f9 f8 f7 f6 f5 f4 f3 f2 f1 f0
theorem q_92o_33 {q0 : Nat} {n0 n1 n2 n3 n4 n5 n6 n7 n8 n9 n10 n11 n12 n13 n14 n15 n16 n17 n18 n19 n20 : Int} {H0 H1 H2 H3 : gH} (f0 : n0 ≤ 2147483647) (f1 : (-2147483648) ≤ n0) (f2 : n1 ≤ 2147483647) (f3 : (-2147483648) ≤ n1) (f4 : n2 ≤ 2147483647) (f5 : (-2147483648) ≤ n2) (f6 : n3 ≤ 2147483647) (f7 : (-2147483648) ≤ n3) (f8 : n4 = 30) (f9 : n5 = 30) (f10 : (hLe T0 H0 H1 ∧ hFr s_92v.2.2.2.2 H0 H1 ∧ hWt T0 H1) ∧ ((Ab_92v_14 n5 n4 n3 n2 n1 n0 H0 H1 ∧ Bbo_92_14 n5 n4 n3 n2 n1 n0 H0 H1) ∧ preb_92v n5 H0) ∧ some q0 = some (mub_92v_14 n5 n4 n3 n2 n1 n0 H0 H1)) (f11 : n6 = 500) (f12 : n0 ≤ n6) (f13 : n7 ≤ 2147483647) (f14 : (-2147483648) ≤ n7) (f15 : hK H1 (n4).toNat = 4) (f16 : n7 = hV H1 (n4).toNat 3) (f17 : n7 = 0) (f18 : n1 ≠ 0) (f19 : n8 ≤ 2147483647) (f20 : (-2147483648) ≤ n8) (f21 : hK H1 (n4).toNat = 4) (f22 : n8 = hV H1 (n4).toNat 2) (f23 : n2 ≠ 0) (f24 : n9 ≤ 2147483647) (f25 : (-2147483648) ≤ n9) (f26 : hK H1 (n4).toNat = 4) (f27 : n9 = hV H1 (n4).toNat 2) (f28 : n10 = 10) (f29 : n9 ≠ n10) (f30 : n2 ≠ 0) (f31 : n11 ≤ 2147483647) (f32 : (-2147483648) ≤ n11) (f33 : hK H1 (n4).toNat = 4) (f34 : n11 = hV H1 (n4).toNat 2) (f35 : n12 = 45) (f36 : n11 < n12) (f37 : n13 = 0) (f38 : 0 ≤ n14) (f39 : hK H1 (n4).toNat = 4) (f40 : n14 = hV H1 (n4).toNat 8) (f41 : n13 = 0) (f42 : n15 = 31) (f43 : hK H1 (n4).toNat = 4) (f44 : n15 = hV H1 (n4).toNat 0) (f45 : n16 ≤ 2147483647) (f46 : (-2147483648) ≤ n16) (f47 : hK H1 (n4).toNat = 4) (f48 : n16 = hV H1 (n4).toNat 1) (f49 : (hLe T0 H1 H2 ∧ hFr s_123v.2.2.2.2 H1 H2 ∧ ((0 : Int) = 0 → H2.length = H1.length) ∧ hWt T0 H2) ∧ postb_123v n17 n15 n16 H1 H2) (f50 : n18 = (Int64.ofInt n17).toInt32.toInt) (f51 : (hLe T0 H2 H3 ∧ hFr s_98.2.2.2.2 H2 H3 ∧ ((0 : Int) = 0 → H3.length = H2.length) ∧ hWt T0 H3) ∧ (True ∧ nbo_98 n14 n18 H2 H3)) (f52 : n13 = 0) (f53 : n19 = 3) (f54 : n20 = 0) : Bbo_92_228 n5 n4 n3 n20 n1 n0 n19 H0 H3 := by
  unfold Bbo_92_228
  intro d ed zo w49
  have pz := f10.2.1.2
  unfold preb_92v at pz
  have ga := f10.2.1.1.1
  unfold Ab_92v_14 at ga
  have vz : vwC H1 = vwC H0 := vwC_fr f10.1.2.1 (by decide +kernel)
  have s0 := PF_fr f49.1.1 f49.1.2.1 (by decide +kernel) ga.1
  have a0 : absC H2 = (absC H1) := s0.1
  have v0 : vwC H2 = vwC H0 := s0.2.1.trans vz
  have s1 := PF_fr f51.1.1 f51.1.2.1 (by decide +kernel) s0.2.2
  have a1 : absC H3 = (absC H1) := s1.1.trans a0
  have v1 : vwC H3 = vwC H0 := s1.2.1.trans v0
  have gb := f10.2.1.1.2
  unfold Bbo_92_14 at gb
  obtain ⟨ko, w1, k⟩ := gb d ed zo w49
  have zo1 := ko.1
  have e8 : hV H1 30 8 = d := (f10.1.2.1.1 30 8 (by decide +kernel)).trans ed.symm
  have gc := ga
  have nw := ga.1.2.2.2.1.2.1
  have r16 : n7 = hV H1 30 3 := by
    have w := f16
    rw [f8] at w
    exact w
  have r22 : n8 = hV H1 30 2 := by
    have w := f22
    rw [f8] at w
    exact w
  have r27 : n9 = hV H1 30 2 := by
    have w := f27
    rw [f8] at w
    exact w
  have r34 : n11 = hV H1 30 2 := by
    have w := f34
    rw [f8] at w
    exact w
  have r40 : n14 = hV H1 30 8 := by
    have w := f40
    rw [f8] at w
    exact w
  have r44 : n15 = hV H1 30 0 := by
    have w := f44
    rw [f8] at w
    exact w
  have r48 : n16 = hV H1 30 1 := by
    have w := f48
    rw [f8] at w
    exact w
  obtain ⟨_, s0_, o0, o7, w01, m01, xn, ya, yb⟩ := gc
  have hf : hV H1 30 3 = 0 := by omega
  have ap := absC_pos ga.1 hf
  have x5 := xn hf
  have hv : (vwC H0).1 (absC H1).1 = hV H1 30 2 := by
    have u := (kd_at ga.1).resolve_left (by omega)
    rw [vz] at u
    exact u
  have qe := f51.2.2
  unfold nbo_98 at qe
  rw [show n14 = d from (r40.trans (rfl)).trans e8] at qe
  have zr : KO H1 H2 d := KO_sm zo1 (SMf_fr f49.1.1 f49.1.2.1 (by decide +kernel) (by decide +kernel))
  have ke := qe zr.1
  refine ⟨KO_tr ko (KO_tr zr ke.1), W49_le f51.1.1 (W49_le f49.1.1 w1), fun L cd hl hp => ⟨fun m1 x5 => ?_, fun m0 => by exfalso; omega⟩⟩
  rw [a1]
  rw [a1] at x5
  obtain ⟨rs, mz⟩ := k L cd hl ap.2
  have pv := f49.2
  unfold postb_123v at pv
  rw [r48] at pv
  have hx := val_at ga.1 pv f50
  rw [vz] at hx
  have tv := TV_of pz.2.1 (absC H1).1
  rw [show n20 = 0 by omega, show n3 = n3 by omega]
  exact RTk_unit zr.1 (RSs_sm zo1 rs (SMf_fr f49.1.1 f49.1.2.1 (by decide +kernel) (by decide +kernel)) (f49.1.2.1.1 30 15 (by decide +kernel)) (fRow f49.1.2.1 49 (by decide +kernel))) (by omega) hl (by omega) (by omega) (.inl ⟨by omega, hx (by omega), tv.1, tv.2⟩) qe (f51.1.2.1.1 30 15 (by decide +kernel)) (fRow f51.1.2.1 49 (by decide +kernel))
def g_92o_14_32 : vG := ([(0, [20], [], 0), (0, [19], [], 3), (30, [13], [], 0), (1098, [14, 18], [2, 3], 0), (18, [18, 17], [], 0), (1123, [17, 15, 16], [1, 2], 0), (20, [16, 1], [1], 1), (23, [1], [1], 4), (90, [16], [], -2147483648), (91, [16], [], 2147483647), (20, [15, 1], [1], 0), (23, [1], [1], 4), (0, [15], [], 31), (30, [13], [], 0), (20, [14, 1], [1], 8), (23, [1], [1], 4), (51, [14], [], 0), (0, [13], [], 0), (42, [11, 12], [], 0), (0, [12], [], 45), (20, [11, 1], [1], 2), (23, [1], [1], 4), (90, [11], [], -2147483648), (91, [11], [], 2147483647), (31, [3], [], 0), (41, [9, 10], [], 0), (0, [10], [], 10), (20, [9, 1], [1], 2), (23, [1], [1], 4), (90, [9], [], -2147483648), (91, [9], [], 2147483647), (31, [3], [], 0), (20, [8, 1], [1], 2), (23, [1], [1], 4), (90, [8], [], -2147483648), (91, [8], [], 2147483647), (31, [4], [], 0), (30, [7], [], 0), (20, [7, 1], [1], 3), (23, [1], [1], 4), (90, [7], [], -2147483648), (91, [7], [], 2147483647), (45, [5, 6], [], 0), (0, [6], [], 500), (5000, [0, 1, 2, 3, 4, 5], [0, 1], 14), (0, [0], [], 30), (0, [1], [], 30), (90, [2], [], -2147483648), (91, [2], [], 2147483647), (90, [3], [], -2147483648), (91, [3], [], 2147483647), (90, [4], [], -2147483648), (91, [4], [], 2147483647), (90, [5], [], -2147483648), (91, [5], [], 2147483647)], (4000, [1, 2, 20, 4, 5, 19], [3], 228))
theorem c_92o_14_32 {q0 : Nat} : vOkm T0 (eN e_92v L_92o A_92v mu_92v no_92 Bo_92 (some q0)) 1 g_92o_14_32 := vOk_inI fun ρ η f0 f1 f2 f3 f4 f5 f6 f7 f8 f9 f10 f11 f12 f13 f14 f15 f16 f17 f18 f19 f20 f21 f22 f23 f24 f25 f26 f27 f28 f29 f30 f31 f32 f33 f34 f35 f36 f37 f38 f39 f40 f41 f42 f43 f44 f45 f46 f47 f48 f49 f50 f51 f52 f53 f54 => q_92o_33 (q0 := q0) (n0 := ρ 5) (n1 := ρ 4) (n2 := ρ 3) (n3 := ρ 2) (n4 := ρ 1) (n5 := ρ 0) (n6 := ρ 6) (n7 := ρ 7) (n8 := ρ 8) (n9 := ρ 9) (n10 := ρ 10) (n11 := ρ 11) (n12 := ρ 12) (n13 := ρ 13) (n14 := ρ 14) (n15 := ρ 15) (n16 := ρ 16) (n17 := ρ 17) (n18 := ρ 18) (n19 := ρ 19) (n20 := ρ 20) (H0 := η 0) (H1 := η 1) (H2 := η 2) (H3 := η 3) f54 f53 f52 f51 f50 f49 f48 f47 f46 f45 f44 f43 f42 f41 f40 f39 f38 f37 f36 f35 f34 f33 f32 f31 f30 f29 f28 f27 f26 f25 f24 f23 f22 f21 f20 f19 f18 f17 f16 f15 f14 f13 f12 f11 f10 f9 f8 f7 f6 f5 f4 f3 f2 f1 f0
theorem q_92o_34 {q0 : Nat} {n0 n1 n2 n3 n4 n5 n6 n7 n8 n9 n10 n11 n12 n13 n14 n15 n16 n17 n18 n19 n20 : Int} {H0 H1 H2 H3 : gH} (f0 : n0 ≤ 2147483647) (f1 : (-2147483648) ≤ n0) (f2 : n1 ≤ 2147483647) (f3 : (-2147483648) ≤ n1) (f4 : n2 ≤ 2147483647) (f5 : (-2147483648) ≤ n2) (f6 : n3 ≤ 2147483647) (f7 : (-2147483648) ≤ n3) (f8 : n4 = 30) (f9 : n5 = 30) (f10 : (hLe T0 H0 H1 ∧ hFr s_92v.2.2.2.2 H0 H1 ∧ hWt T0 H1) ∧ ((Ab_92v_14 n5 n4 n3 n2 n1 n0 H0 H1 ∧ Bbo_92_14 n5 n4 n3 n2 n1 n0 H0 H1) ∧ preb_92v n5 H0) ∧ some q0 = some (mub_92v_14 n5 n4 n3 n2 n1 n0 H0 H1)) (f11 : n6 = 500) (f12 : n0 ≤ n6) (f13 : n7 ≤ 2147483647) (f14 : (-2147483648) ≤ n7) (f15 : hK H1 (n4).toNat = 4) (f16 : n7 = hV H1 (n4).toNat 3) (f17 : n7 = 0) (f18 : n1 ≠ 0) (f19 : n8 ≤ 2147483647) (f20 : (-2147483648) ≤ n8) (f21 : hK H1 (n4).toNat = 4) (f22 : n8 = hV H1 (n4).toNat 2) (f23 : n2 ≠ 0) (f24 : n9 ≤ 2147483647) (f25 : (-2147483648) ≤ n9) (f26 : hK H1 (n4).toNat = 4) (f27 : n9 = hV H1 (n4).toNat 2) (f28 : n10 = 10) (f29 : n9 ≠ n10) (f30 : n2 ≠ 0) (f31 : n11 ≤ 2147483647) (f32 : (-2147483648) ≤ n11) (f33 : hK H1 (n4).toNat = 4) (f34 : n11 = hV H1 (n4).toNat 2) (f35 : n12 = 45) (f36 : n11 < n12) (f37 : n13 = 0) (f38 : 0 ≤ n14) (f39 : hK H1 (n4).toNat = 4) (f40 : n14 = hV H1 (n4).toNat 8) (f41 : n13 = 0) (f42 : n15 = 31) (f43 : hK H1 (n4).toNat = 4) (f44 : n15 = hV H1 (n4).toNat 0) (f45 : n16 ≤ 2147483647) (f46 : (-2147483648) ≤ n16) (f47 : hK H1 (n4).toNat = 4) (f48 : n16 = hV H1 (n4).toNat 1) (f49 : (hLe T0 H1 H2 ∧ hFr s_123v.2.2.2.2 H1 H2 ∧ ((0 : Int) = 0 → H2.length = H1.length) ∧ hWt T0 H2) ∧ postb_123v n17 n15 n16 H1 H2) (f50 : n18 = (Int64.ofInt n17).toInt32.toInt) (f51 : (hLe T0 H2 H3 ∧ hFr s_98.2.2.2.2 H2 H3 ∧ ((0 : Int) = 0 → H3.length = H2.length) ∧ hWt T0 H3) ∧ (True ∧ nbo_98 n14 n18 H2 H3)) (f52 : n13 ≠ 0) (f53 : n19 ≤ 2147483647) (f54 : (-2147483648) ≤ n19) (f55 : hK H3 (n4).toNat = 4) (f56 : n19 = hV H3 (n4).toNat 2) (f57 : n20 = 0) : Bbo_92_228 n5 n4 n3 n20 n1 n0 n19 H0 H3 := by
  exfalso
  omega
def g_92o_14_33 : vG := ([(0, [20], [], 0), (20, [19, 1], [3], 2), (23, [1], [3], 4), (90, [19], [], -2147483648), (91, [19], [], 2147483647), (31, [13], [], 0), (1098, [14, 18], [2, 3], 0), (18, [18, 17], [], 0), (1123, [17, 15, 16], [1, 2], 0), (20, [16, 1], [1], 1), (23, [1], [1], 4), (90, [16], [], -2147483648), (91, [16], [], 2147483647), (20, [15, 1], [1], 0), (23, [1], [1], 4), (0, [15], [], 31), (30, [13], [], 0), (20, [14, 1], [1], 8), (23, [1], [1], 4), (51, [14], [], 0), (0, [13], [], 0), (42, [11, 12], [], 0), (0, [12], [], 45), (20, [11, 1], [1], 2), (23, [1], [1], 4), (90, [11], [], -2147483648), (91, [11], [], 2147483647), (31, [3], [], 0), (41, [9, 10], [], 0), (0, [10], [], 10), (20, [9, 1], [1], 2), (23, [1], [1], 4), (90, [9], [], -2147483648), (91, [9], [], 2147483647), (31, [3], [], 0), (20, [8, 1], [1], 2), (23, [1], [1], 4), (90, [8], [], -2147483648), (91, [8], [], 2147483647), (31, [4], [], 0), (30, [7], [], 0), (20, [7, 1], [1], 3), (23, [1], [1], 4), (90, [7], [], -2147483648), (91, [7], [], 2147483647), (45, [5, 6], [], 0), (0, [6], [], 500), (5000, [0, 1, 2, 3, 4, 5], [0, 1], 14), (0, [0], [], 30), (0, [1], [], 30), (90, [2], [], -2147483648), (91, [2], [], 2147483647), (90, [3], [], -2147483648), (91, [3], [], 2147483647), (90, [4], [], -2147483648), (91, [4], [], 2147483647), (90, [5], [], -2147483648), (91, [5], [], 2147483647)], (4000, [1, 2, 20, 4, 5, 19], [3], 228))
theorem c_92o_14_33 {q0 : Nat} : vOkm T0 (eN e_92v L_92o A_92v mu_92v no_92 Bo_92 (some q0)) 1 g_92o_14_33 := vOk_inI fun ρ η f0 f1 f2 f3 f4 f5 f6 f7 f8 f9 f10 f11 f12 f13 f14 f15 f16 f17 f18 f19 f20 f21 f22 f23 f24 f25 f26 f27 f28 f29 f30 f31 f32 f33 f34 f35 f36 f37 f38 f39 f40 f41 f42 f43 f44 f45 f46 f47 f48 f49 f50 f51 f52 f53 f54 f55 f56 f57 => q_92o_34 (q0 := q0) (n0 := ρ 5) (n1 := ρ 4) (n2 := ρ 3) (n3 := ρ 2) (n4 := ρ 1) (n5 := ρ 0) (n6 := ρ 6) (n7 := ρ 7) (n8 := ρ 8) (n9 := ρ 9) (n10 := ρ 10) (n11 := ρ 11) (n12 := ρ 12) (n13 := ρ 13) (n14 := ρ 14) (n15 := ρ 15) (n16 := ρ 16) (n17 := ρ 17) (n18 := ρ 18) (n19 := ρ 19) (n20 := ρ 20) (H0 := η 0) (H1 := η 1) (H2 := η 2) (H3 := η 3) f57 f56 f55 f54 f53 f52 f51 f50 f49 f48 f47 f46 f45 f44 f43 f42 f41 f40 f39 f38 f37 f36 f35 f34 f33 f32 f31 f30 f29 f28 f27 f26 f25 f24 f23 f22 f21 f20 f19 f18 f17 f16 f15 f14 f13 f12 f11 f10 f9 f8 f7 f6 f5 f4 f3 f2 f1 f0
theorem q_92o_35 {q0 : Nat} {n0 n1 n2 n3 n4 n5 n6 n7 n8 n9 n10 n11 n12 n13 n14 n15 n16 n17 n18 n19 : Int} {H0 H1 H2 : gH} (f0 : n0 ≤ 2147483647) (f1 : (-2147483648) ≤ n0) (f2 : n1 ≤ 2147483647) (f3 : (-2147483648) ≤ n1) (f4 : n2 ≤ 2147483647) (f5 : (-2147483648) ≤ n2) (f6 : n3 ≤ 2147483647) (f7 : (-2147483648) ≤ n3) (f8 : n4 = 30) (f9 : n5 = 30) (f10 : (hLe T0 H0 H1 ∧ hFr s_92v.2.2.2.2 H0 H1 ∧ hWt T0 H1) ∧ ((Ab_92v_14 n5 n4 n3 n2 n1 n0 H0 H1 ∧ Bbo_92_14 n5 n4 n3 n2 n1 n0 H0 H1) ∧ preb_92v n5 H0) ∧ some q0 = some (mub_92v_14 n5 n4 n3 n2 n1 n0 H0 H1)) (f11 : n6 = 500) (f12 : n0 ≤ n6) (f13 : n7 ≤ 2147483647) (f14 : (-2147483648) ≤ n7) (f15 : hK H1 (n4).toNat = 4) (f16 : n7 = hV H1 (n4).toNat 3) (f17 : n7 = 0) (f18 : n1 ≠ 0) (f19 : n8 ≤ 2147483647) (f20 : (-2147483648) ≤ n8) (f21 : hK H1 (n4).toNat = 4) (f22 : n8 = hV H1 (n4).toNat 2) (f23 : n2 ≠ 0) (f24 : n9 ≤ 2147483647) (f25 : (-2147483648) ≤ n9) (f26 : hK H1 (n4).toNat = 4) (f27 : n9 = hV H1 (n4).toNat 2) (f28 : n10 = 10) (f29 : n9 ≠ n10) (f30 : n2 ≠ 0) (f31 : n11 ≤ 2147483647) (f32 : (-2147483648) ≤ n11) (f33 : hK H1 (n4).toNat = 4) (f34 : n11 = hV H1 (n4).toNat 2) (f35 : n12 = 45) (f36 : n11 < n12) (f37 : n13 = 0) (f38 : 0 ≤ n14) (f39 : hK H1 (n4).toNat = 4) (f40 : n14 = hV H1 (n4).toNat 8) (f41 : n13 ≠ 0) (f42 : n15 = 10000) (f43 : n16 ≤ 2147483647) (f44 : (-2147483648) ≤ n16) (f45 : hK H1 (n4).toNat = 4) (f46 : n16 = hV H1 (n4).toNat 2) (f47 : n17 = w32 (n15 + n16)) (f48 : (hLe T0 H1 H2 ∧ hFr s_98.2.2.2.2 H1 H2 ∧ ((0 : Int) = 0 → H2.length = H1.length) ∧ hWt T0 H2) ∧ (True ∧ nbo_98 n14 n17 H1 H2)) (f49 : n13 = 0) (f50 : n18 = 3) (f51 : n19 = 0) : Bbo_92_228 n5 n4 n3 n19 n1 n0 n18 H0 H2 := by
  exfalso
  omega
def g_92o_14_34 : vG := ([(0, [19], [], 0), (0, [18], [], 3), (30, [13], [], 0), (1098, [14, 17], [1, 2], 0), (1, [17, 15, 16], [], 0), (20, [16, 1], [1], 2), (23, [1], [1], 4), (90, [16], [], -2147483648), (91, [16], [], 2147483647), (0, [15], [], 10000), (31, [13], [], 0), (20, [14, 1], [1], 8), (23, [1], [1], 4), (51, [14], [], 0), (0, [13], [], 0), (42, [11, 12], [], 0), (0, [12], [], 45), (20, [11, 1], [1], 2), (23, [1], [1], 4), (90, [11], [], -2147483648), (91, [11], [], 2147483647), (31, [3], [], 0), (41, [9, 10], [], 0), (0, [10], [], 10), (20, [9, 1], [1], 2), (23, [1], [1], 4), (90, [9], [], -2147483648), (91, [9], [], 2147483647), (31, [3], [], 0), (20, [8, 1], [1], 2), (23, [1], [1], 4), (90, [8], [], -2147483648), (91, [8], [], 2147483647), (31, [4], [], 0), (30, [7], [], 0), (20, [7, 1], [1], 3), (23, [1], [1], 4), (90, [7], [], -2147483648), (91, [7], [], 2147483647), (45, [5, 6], [], 0), (0, [6], [], 500), (5000, [0, 1, 2, 3, 4, 5], [0, 1], 14), (0, [0], [], 30), (0, [1], [], 30), (90, [2], [], -2147483648), (91, [2], [], 2147483647), (90, [3], [], -2147483648), (91, [3], [], 2147483647), (90, [4], [], -2147483648), (91, [4], [], 2147483647), (90, [5], [], -2147483648), (91, [5], [], 2147483647)], (4000, [1, 2, 19, 4, 5, 18], [2], 228))
theorem c_92o_14_34 {q0 : Nat} : vOkm T0 (eN e_92v L_92o A_92v mu_92v no_92 Bo_92 (some q0)) 1 g_92o_14_34 := vOk_inI fun ρ η f0 f1 f2 f3 f4 f5 f6 f7 f8 f9 f10 f11 f12 f13 f14 f15 f16 f17 f18 f19 f20 f21 f22 f23 f24 f25 f26 f27 f28 f29 f30 f31 f32 f33 f34 f35 f36 f37 f38 f39 f40 f41 f42 f43 f44 f45 f46 f47 f48 f49 f50 f51 => q_92o_35 (q0 := q0) (n0 := ρ 5) (n1 := ρ 4) (n2 := ρ 3) (n3 := ρ 2) (n4 := ρ 1) (n5 := ρ 0) (n6 := ρ 6) (n7 := ρ 7) (n8 := ρ 8) (n9 := ρ 9) (n10 := ρ 10) (n11 := ρ 11) (n12 := ρ 12) (n13 := ρ 13) (n14 := ρ 14) (n15 := ρ 15) (n16 := ρ 16) (n17 := ρ 17) (n18 := ρ 18) (n19 := ρ 19) (H0 := η 0) (H1 := η 1) (H2 := η 2) f51 f50 f49 f48 f47 f46 f45 f44 f43 f42 f41 f40 f39 f38 f37 f36 f35 f34 f33 f32 f31 f30 f29 f28 f27 f26 f25 f24 f23 f22 f21 f20 f19 f18 f17 f16 f15 f14 f13 f12 f11 f10 f9 f8 f7 f6 f5 f4 f3 f2 f1 f0
theorem q_92o_36 {q0 : Nat} {n0 n1 n2 n3 n4 n5 n6 n7 n8 n9 n10 n11 n12 n13 n14 n15 n16 n17 n18 n19 : Int} {H0 H1 H2 : gH} (f0 : n0 ≤ 2147483647) (f1 : (-2147483648) ≤ n0) (f2 : n1 ≤ 2147483647) (f3 : (-2147483648) ≤ n1) (f4 : n2 ≤ 2147483647) (f5 : (-2147483648) ≤ n2) (f6 : n3 ≤ 2147483647) (f7 : (-2147483648) ≤ n3) (f8 : n4 = 30) (f9 : n5 = 30) (f10 : (hLe T0 H0 H1 ∧ hFr s_92v.2.2.2.2 H0 H1 ∧ hWt T0 H1) ∧ ((Ab_92v_14 n5 n4 n3 n2 n1 n0 H0 H1 ∧ Bbo_92_14 n5 n4 n3 n2 n1 n0 H0 H1) ∧ preb_92v n5 H0) ∧ some q0 = some (mub_92v_14 n5 n4 n3 n2 n1 n0 H0 H1)) (f11 : n6 = 500) (f12 : n0 ≤ n6) (f13 : n7 ≤ 2147483647) (f14 : (-2147483648) ≤ n7) (f15 : hK H1 (n4).toNat = 4) (f16 : n7 = hV H1 (n4).toNat 3) (f17 : n7 = 0) (f18 : n1 ≠ 0) (f19 : n8 ≤ 2147483647) (f20 : (-2147483648) ≤ n8) (f21 : hK H1 (n4).toNat = 4) (f22 : n8 = hV H1 (n4).toNat 2) (f23 : n2 ≠ 0) (f24 : n9 ≤ 2147483647) (f25 : (-2147483648) ≤ n9) (f26 : hK H1 (n4).toNat = 4) (f27 : n9 = hV H1 (n4).toNat 2) (f28 : n10 = 10) (f29 : n9 ≠ n10) (f30 : n2 ≠ 0) (f31 : n11 ≤ 2147483647) (f32 : (-2147483648) ≤ n11) (f33 : hK H1 (n4).toNat = 4) (f34 : n11 = hV H1 (n4).toNat 2) (f35 : n12 = 45) (f36 : n11 < n12) (f37 : n13 = 0) (f38 : 0 ≤ n14) (f39 : hK H1 (n4).toNat = 4) (f40 : n14 = hV H1 (n4).toNat 8) (f41 : n13 ≠ 0) (f42 : n15 = 10000) (f43 : n16 ≤ 2147483647) (f44 : (-2147483648) ≤ n16) (f45 : hK H1 (n4).toNat = 4) (f46 : n16 = hV H1 (n4).toNat 2) (f47 : n17 = w32 (n15 + n16)) (f48 : (hLe T0 H1 H2 ∧ hFr s_98.2.2.2.2 H1 H2 ∧ ((0 : Int) = 0 → H2.length = H1.length) ∧ hWt T0 H2) ∧ (True ∧ nbo_98 n14 n17 H1 H2)) (f49 : n13 ≠ 0) (f50 : n18 ≤ 2147483647) (f51 : (-2147483648) ≤ n18) (f52 : hK H2 (n4).toNat = 4) (f53 : n18 = hV H2 (n4).toNat 2) (f54 : n19 = 0) : Bbo_92_228 n5 n4 n3 n19 n1 n0 n18 H0 H2 := by
  exfalso
  omega
def g_92o_14_35 : vG := ([(0, [19], [], 0), (20, [18, 1], [2], 2), (23, [1], [2], 4), (90, [18], [], -2147483648), (91, [18], [], 2147483647), (31, [13], [], 0), (1098, [14, 17], [1, 2], 0), (1, [17, 15, 16], [], 0), (20, [16, 1], [1], 2), (23, [1], [1], 4), (90, [16], [], -2147483648), (91, [16], [], 2147483647), (0, [15], [], 10000), (31, [13], [], 0), (20, [14, 1], [1], 8), (23, [1], [1], 4), (51, [14], [], 0), (0, [13], [], 0), (42, [11, 12], [], 0), (0, [12], [], 45), (20, [11, 1], [1], 2), (23, [1], [1], 4), (90, [11], [], -2147483648), (91, [11], [], 2147483647), (31, [3], [], 0), (41, [9, 10], [], 0), (0, [10], [], 10), (20, [9, 1], [1], 2), (23, [1], [1], 4), (90, [9], [], -2147483648), (91, [9], [], 2147483647), (31, [3], [], 0), (20, [8, 1], [1], 2), (23, [1], [1], 4), (90, [8], [], -2147483648), (91, [8], [], 2147483647), (31, [4], [], 0), (30, [7], [], 0), (20, [7, 1], [1], 3), (23, [1], [1], 4), (90, [7], [], -2147483648), (91, [7], [], 2147483647), (45, [5, 6], [], 0), (0, [6], [], 500), (5000, [0, 1, 2, 3, 4, 5], [0, 1], 14), (0, [0], [], 30), (0, [1], [], 30), (90, [2], [], -2147483648), (91, [2], [], 2147483647), (90, [3], [], -2147483648), (91, [3], [], 2147483647), (90, [4], [], -2147483648), (91, [4], [], 2147483647), (90, [5], [], -2147483648), (91, [5], [], 2147483647)], (4000, [1, 2, 19, 4, 5, 18], [2], 228))
theorem c_92o_14_35 {q0 : Nat} : vOkm T0 (eN e_92v L_92o A_92v mu_92v no_92 Bo_92 (some q0)) 1 g_92o_14_35 := vOk_inI fun ρ η f0 f1 f2 f3 f4 f5 f6 f7 f8 f9 f10 f11 f12 f13 f14 f15 f16 f17 f18 f19 f20 f21 f22 f23 f24 f25 f26 f27 f28 f29 f30 f31 f32 f33 f34 f35 f36 f37 f38 f39 f40 f41 f42 f43 f44 f45 f46 f47 f48 f49 f50 f51 f52 f53 f54 => q_92o_36 (q0 := q0) (n0 := ρ 5) (n1 := ρ 4) (n2 := ρ 3) (n3 := ρ 2) (n4 := ρ 1) (n5 := ρ 0) (n6 := ρ 6) (n7 := ρ 7) (n8 := ρ 8) (n9 := ρ 9) (n10 := ρ 10) (n11 := ρ 11) (n12 := ρ 12) (n13 := ρ 13) (n14 := ρ 14) (n15 := ρ 15) (n16 := ρ 16) (n17 := ρ 17) (n18 := ρ 18) (n19 := ρ 19) (H0 := η 0) (H1 := η 1) (H2 := η 2) f54 f53 f52 f51 f50 f49 f48 f47 f46 f45 f44 f43 f42 f41 f40 f39 f38 f37 f36 f35 f34 f33 f32 f31 f30 f29 f28 f27 f26 f25 f24 f23 f22 f21 f20 f19 f18 f17 f16 f15 f14 f13 f12 f11 f10 f9 f8 f7 f6 f5 f4 f3 f2 f1 f0
theorem q_92o_37 {q0 : Nat} {n0 n1 n2 n3 n4 n5 n6 n7 n8 n9 n10 n11 n12 n13 n14 n15 n16 n17 n18 n19 n20 n21 n22 : Int} {H0 H1 H2 H3 : gH} (f0 : n0 ≤ 2147483647) (f1 : (-2147483648) ≤ n0) (f2 : n1 ≤ 2147483647) (f3 : (-2147483648) ≤ n1) (f4 : n2 ≤ 2147483647) (f5 : (-2147483648) ≤ n2) (f6 : n3 ≤ 2147483647) (f7 : (-2147483648) ≤ n3) (f8 : n4 = 30) (f9 : n5 = 30) (f10 : (hLe T0 H0 H1 ∧ hFr s_92v.2.2.2.2 H0 H1 ∧ hWt T0 H1) ∧ ((Ab_92v_14 n5 n4 n3 n2 n1 n0 H0 H1 ∧ Bbo_92_14 n5 n4 n3 n2 n1 n0 H0 H1) ∧ preb_92v n5 H0) ∧ some q0 = some (mub_92v_14 n5 n4 n3 n2 n1 n0 H0 H1)) (f11 : n6 = 500) (f12 : n0 ≤ n6) (f13 : n7 ≤ 2147483647) (f14 : (-2147483648) ≤ n7) (f15 : hK H1 (n4).toNat = 4) (f16 : n7 = hV H1 (n4).toNat 3) (f17 : n7 = 0) (f18 : n1 ≠ 0) (f19 : n8 ≤ 2147483647) (f20 : (-2147483648) ≤ n8) (f21 : hK H1 (n4).toNat = 4) (f22 : n8 = hV H1 (n4).toNat 2) (f23 : n2 ≠ 0) (f24 : n9 ≤ 2147483647) (f25 : (-2147483648) ≤ n9) (f26 : hK H1 (n4).toNat = 4) (f27 : n9 = hV H1 (n4).toNat 2) (f28 : n10 = 10) (f29 : n9 ≠ n10) (f30 : n2 ≠ 0) (f31 : n11 ≤ 2147483647) (f32 : (-2147483648) ≤ n11) (f33 : hK H1 (n4).toNat = 4) (f34 : n11 = hV H1 (n4).toNat 2) (f35 : n12 = 45) (f36 : n12 ≤ n11) (f37 : n13 ≤ 2147483647) (f38 : (-2147483648) ≤ n13) (f39 : hK H1 (n4).toNat = 4) (f40 : n13 = hV H1 (n4).toNat 2) (f41 : n14 = 49) (f42 : n14 < n13) (f43 : n15 = 0) (f44 : 0 ≤ n16) (f45 : hK H1 (n4).toNat = 4) (f46 : n16 = hV H1 (n4).toNat 8) (f47 : n15 = 0) (f48 : n17 = 31) (f49 : hK H1 (n4).toNat = 4) (f50 : n17 = hV H1 (n4).toNat 0) (f51 : n18 ≤ 2147483647) (f52 : (-2147483648) ≤ n18) (f53 : hK H1 (n4).toNat = 4) (f54 : n18 = hV H1 (n4).toNat 1) (f55 : (hLe T0 H1 H2 ∧ hFr s_123v.2.2.2.2 H1 H2 ∧ ((0 : Int) = 0 → H2.length = H1.length) ∧ hWt T0 H2) ∧ postb_123v n19 n17 n18 H1 H2) (f56 : n20 = (Int64.ofInt n19).toInt32.toInt) (f57 : (hLe T0 H2 H3 ∧ hFr s_98.2.2.2.2 H2 H3 ∧ ((0 : Int) = 0 → H3.length = H2.length) ∧ hWt T0 H3) ∧ (True ∧ nbo_98 n16 n20 H2 H3)) (f58 : n15 = 0) (f59 : n21 = 3) (f60 : n22 = 0) : Bbo_92_228 n5 n4 n3 n22 n1 n0 n21 H0 H3 := by
  unfold Bbo_92_228
  intro d ed zo w49
  have pz := f10.2.1.2
  unfold preb_92v at pz
  have ga := f10.2.1.1.1
  unfold Ab_92v_14 at ga
  have vz : vwC H1 = vwC H0 := vwC_fr f10.1.2.1 (by decide +kernel)
  have s0 := PF_fr f55.1.1 f55.1.2.1 (by decide +kernel) ga.1
  have a0 : absC H2 = (absC H1) := s0.1
  have v0 : vwC H2 = vwC H0 := s0.2.1.trans vz
  have s1 := PF_fr f57.1.1 f57.1.2.1 (by decide +kernel) s0.2.2
  have a1 : absC H3 = (absC H1) := s1.1.trans a0
  have v1 : vwC H3 = vwC H0 := s1.2.1.trans v0
  have gb := f10.2.1.1.2
  unfold Bbo_92_14 at gb
  obtain ⟨ko, w1, k⟩ := gb d ed zo w49
  have zo1 := ko.1
  have e8 : hV H1 30 8 = d := (f10.1.2.1.1 30 8 (by decide +kernel)).trans ed.symm
  have gc := ga
  have nw := ga.1.2.2.2.1.2.1
  have r16 : n7 = hV H1 30 3 := by
    have w := f16
    rw [f8] at w
    exact w
  have r22 : n8 = hV H1 30 2 := by
    have w := f22
    rw [f8] at w
    exact w
  have r27 : n9 = hV H1 30 2 := by
    have w := f27
    rw [f8] at w
    exact w
  have r34 : n11 = hV H1 30 2 := by
    have w := f34
    rw [f8] at w
    exact w
  have r40 : n13 = hV H1 30 2 := by
    have w := f40
    rw [f8] at w
    exact w
  have r46 : n16 = hV H1 30 8 := by
    have w := f46
    rw [f8] at w
    exact w
  have r50 : n17 = hV H1 30 0 := by
    have w := f50
    rw [f8] at w
    exact w
  have r54 : n18 = hV H1 30 1 := by
    have w := f54
    rw [f8] at w
    exact w
  obtain ⟨_, s0_, o0, o7, w01, m01, xn, ya, yb⟩ := gc
  have hf : hV H1 30 3 = 0 := by omega
  have ap := absC_pos ga.1 hf
  have x5 := xn hf
  have hv : (vwC H0).1 (absC H1).1 = hV H1 30 2 := by
    have u := (kd_at ga.1).resolve_left (by omega)
    rw [vz] at u
    exact u
  have qe := f57.2.2
  unfold nbo_98 at qe
  rw [show n16 = d from (r46.trans (rfl)).trans e8] at qe
  have zr : KO H1 H2 d := KO_sm zo1 (SMf_fr f55.1.1 f55.1.2.1 (by decide +kernel) (by decide +kernel))
  have ke := qe zr.1
  refine ⟨KO_tr ko (KO_tr zr ke.1), W49_le f57.1.1 (W49_le f55.1.1 w1), fun L cd hl hp => ⟨fun m1 x5 => ?_, fun m0 => by exfalso; omega⟩⟩
  rw [a1]
  rw [a1] at x5
  obtain ⟨rs, mz⟩ := k L cd hl ap.2
  have pv := f55.2
  unfold postb_123v at pv
  rw [r54] at pv
  have hx := val_at ga.1 pv f56
  rw [vz] at hx
  have tv := TV_of pz.2.1 (absC H1).1
  rw [show n22 = 0 by omega, show n3 = n3 by omega]
  exact RTk_unit zr.1 (RSs_sm zo1 rs (SMf_fr f55.1.1 f55.1.2.1 (by decide +kernel) (by decide +kernel)) (f55.1.2.1.1 30 15 (by decide +kernel)) (fRow f55.1.2.1 49 (by decide +kernel))) (by omega) hl (by omega) (by omega) (.inl ⟨by omega, hx (by omega), tv.1, tv.2⟩) qe (f57.1.2.1.1 30 15 (by decide +kernel)) (fRow f57.1.2.1 49 (by decide +kernel))
def g_92o_14_36 : vG := ([(0, [22], [], 0), (0, [21], [], 3), (30, [15], [], 0), (1098, [16, 20], [2, 3], 0), (18, [20, 19], [], 0), (1123, [19, 17, 18], [1, 2], 0), (20, [18, 1], [1], 1), (23, [1], [1], 4), (90, [18], [], -2147483648), (91, [18], [], 2147483647), (20, [17, 1], [1], 0), (23, [1], [1], 4), (0, [17], [], 31), (30, [15], [], 0), (20, [16, 1], [1], 8), (23, [1], [1], 4), (51, [16], [], 0), (0, [15], [], 0), (44, [13, 14], [], 0), (0, [14], [], 49), (20, [13, 1], [1], 2), (23, [1], [1], 4), (90, [13], [], -2147483648), (91, [13], [], 2147483647), (43, [11, 12], [], 0), (0, [12], [], 45), (20, [11, 1], [1], 2), (23, [1], [1], 4), (90, [11], [], -2147483648), (91, [11], [], 2147483647), (31, [3], [], 0), (41, [9, 10], [], 0), (0, [10], [], 10), (20, [9, 1], [1], 2), (23, [1], [1], 4), (90, [9], [], -2147483648), (91, [9], [], 2147483647), (31, [3], [], 0), (20, [8, 1], [1], 2), (23, [1], [1], 4), (90, [8], [], -2147483648), (91, [8], [], 2147483647), (31, [4], [], 0), (30, [7], [], 0), (20, [7, 1], [1], 3), (23, [1], [1], 4), (90, [7], [], -2147483648), (91, [7], [], 2147483647), (45, [5, 6], [], 0), (0, [6], [], 500), (5000, [0, 1, 2, 3, 4, 5], [0, 1], 14), (0, [0], [], 30), (0, [1], [], 30), (90, [2], [], -2147483648), (91, [2], [], 2147483647), (90, [3], [], -2147483648), (91, [3], [], 2147483647), (90, [4], [], -2147483648), (91, [4], [], 2147483647), (90, [5], [], -2147483648), (91, [5], [], 2147483647)], (4000, [1, 2, 22, 4, 5, 21], [3], 228))
theorem c_92o_14_36 {q0 : Nat} : vOkm T0 (eN e_92v L_92o A_92v mu_92v no_92 Bo_92 (some q0)) 1 g_92o_14_36 := vOk_inI fun ρ η f0 f1 f2 f3 f4 f5 f6 f7 f8 f9 f10 f11 f12 f13 f14 f15 f16 f17 f18 f19 f20 f21 f22 f23 f24 f25 f26 f27 f28 f29 f30 f31 f32 f33 f34 f35 f36 f37 f38 f39 f40 f41 f42 f43 f44 f45 f46 f47 f48 f49 f50 f51 f52 f53 f54 f55 f56 f57 f58 f59 f60 => q_92o_37 (q0 := q0) (n0 := ρ 5) (n1 := ρ 4) (n2 := ρ 3) (n3 := ρ 2) (n4 := ρ 1) (n5 := ρ 0) (n6 := ρ 6) (n7 := ρ 7) (n8 := ρ 8) (n9 := ρ 9) (n10 := ρ 10) (n11 := ρ 11) (n12 := ρ 12) (n13 := ρ 13) (n14 := ρ 14) (n15 := ρ 15) (n16 := ρ 16) (n17 := ρ 17) (n18 := ρ 18) (n19 := ρ 19) (n20 := ρ 20) (n21 := ρ 21) (n22 := ρ 22) (H0 := η 0) (H1 := η 1) (H2 := η 2) (H3 := η 3) f60 f59 f58 f57 f56 f55 f54 f53 f52 f51 f50 f49 f48 f47 f46 f45 f44 f43 f42 f41 f40 f39 f38 f37 f36 f35 f34 f33 f32 f31 f30 f29 f28 f27 f26 f25 f24 f23 f22 f21 f20 f19 f18 f17 f16 f15 f14 f13 f12 f11 f10 f9 f8 f7 f6 f5 f4 f3 f2 f1 f0
theorem q_92o_38 {q0 : Nat} {n0 n1 n2 n3 n4 n5 n6 n7 n8 n9 n10 n11 n12 n13 n14 n15 n16 n17 n18 n19 n20 n21 n22 : Int} {H0 H1 H2 H3 : gH} (f0 : n0 ≤ 2147483647) (f1 : (-2147483648) ≤ n0) (f2 : n1 ≤ 2147483647) (f3 : (-2147483648) ≤ n1) (f4 : n2 ≤ 2147483647) (f5 : (-2147483648) ≤ n2) (f6 : n3 ≤ 2147483647) (f7 : (-2147483648) ≤ n3) (f8 : n4 = 30) (f9 : n5 = 30) (f10 : (hLe T0 H0 H1 ∧ hFr s_92v.2.2.2.2 H0 H1 ∧ hWt T0 H1) ∧ ((Ab_92v_14 n5 n4 n3 n2 n1 n0 H0 H1 ∧ Bbo_92_14 n5 n4 n3 n2 n1 n0 H0 H1) ∧ preb_92v n5 H0) ∧ some q0 = some (mub_92v_14 n5 n4 n3 n2 n1 n0 H0 H1)) (f11 : n6 = 500) (f12 : n0 ≤ n6) (f13 : n7 ≤ 2147483647) (f14 : (-2147483648) ≤ n7) (f15 : hK H1 (n4).toNat = 4) (f16 : n7 = hV H1 (n4).toNat 3) (f17 : n7 = 0) (f18 : n1 ≠ 0) (f19 : n8 ≤ 2147483647) (f20 : (-2147483648) ≤ n8) (f21 : hK H1 (n4).toNat = 4) (f22 : n8 = hV H1 (n4).toNat 2) (f23 : n2 ≠ 0) (f24 : n9 ≤ 2147483647) (f25 : (-2147483648) ≤ n9) (f26 : hK H1 (n4).toNat = 4) (f27 : n9 = hV H1 (n4).toNat 2) (f28 : n10 = 10) (f29 : n9 ≠ n10) (f30 : n2 ≠ 0) (f31 : n11 ≤ 2147483647) (f32 : (-2147483648) ≤ n11) (f33 : hK H1 (n4).toNat = 4) (f34 : n11 = hV H1 (n4).toNat 2) (f35 : n12 = 45) (f36 : n12 ≤ n11) (f37 : n13 ≤ 2147483647) (f38 : (-2147483648) ≤ n13) (f39 : hK H1 (n4).toNat = 4) (f40 : n13 = hV H1 (n4).toNat 2) (f41 : n14 = 49) (f42 : n14 < n13) (f43 : n15 = 0) (f44 : 0 ≤ n16) (f45 : hK H1 (n4).toNat = 4) (f46 : n16 = hV H1 (n4).toNat 8) (f47 : n15 = 0) (f48 : n17 = 31) (f49 : hK H1 (n4).toNat = 4) (f50 : n17 = hV H1 (n4).toNat 0) (f51 : n18 ≤ 2147483647) (f52 : (-2147483648) ≤ n18) (f53 : hK H1 (n4).toNat = 4) (f54 : n18 = hV H1 (n4).toNat 1) (f55 : (hLe T0 H1 H2 ∧ hFr s_123v.2.2.2.2 H1 H2 ∧ ((0 : Int) = 0 → H2.length = H1.length) ∧ hWt T0 H2) ∧ postb_123v n19 n17 n18 H1 H2) (f56 : n20 = (Int64.ofInt n19).toInt32.toInt) (f57 : (hLe T0 H2 H3 ∧ hFr s_98.2.2.2.2 H2 H3 ∧ ((0 : Int) = 0 → H3.length = H2.length) ∧ hWt T0 H3) ∧ (True ∧ nbo_98 n16 n20 H2 H3)) (f58 : n15 ≠ 0) (f59 : n21 ≤ 2147483647) (f60 : (-2147483648) ≤ n21) (f61 : hK H3 (n4).toNat = 4) (f62 : n21 = hV H3 (n4).toNat 2) (f63 : n22 = 0) : Bbo_92_228 n5 n4 n3 n22 n1 n0 n21 H0 H3 := by
  exfalso
  omega
def g_92o_14_37 : vG := ([(0, [22], [], 0), (20, [21, 1], [3], 2), (23, [1], [3], 4), (90, [21], [], -2147483648), (91, [21], [], 2147483647), (31, [15], [], 0), (1098, [16, 20], [2, 3], 0), (18, [20, 19], [], 0), (1123, [19, 17, 18], [1, 2], 0), (20, [18, 1], [1], 1), (23, [1], [1], 4), (90, [18], [], -2147483648), (91, [18], [], 2147483647), (20, [17, 1], [1], 0), (23, [1], [1], 4), (0, [17], [], 31), (30, [15], [], 0), (20, [16, 1], [1], 8), (23, [1], [1], 4), (51, [16], [], 0), (0, [15], [], 0), (44, [13, 14], [], 0), (0, [14], [], 49), (20, [13, 1], [1], 2), (23, [1], [1], 4), (90, [13], [], -2147483648), (91, [13], [], 2147483647), (43, [11, 12], [], 0), (0, [12], [], 45), (20, [11, 1], [1], 2), (23, [1], [1], 4), (90, [11], [], -2147483648), (91, [11], [], 2147483647), (31, [3], [], 0), (41, [9, 10], [], 0), (0, [10], [], 10), (20, [9, 1], [1], 2), (23, [1], [1], 4), (90, [9], [], -2147483648), (91, [9], [], 2147483647), (31, [3], [], 0), (20, [8, 1], [1], 2), (23, [1], [1], 4), (90, [8], [], -2147483648), (91, [8], [], 2147483647), (31, [4], [], 0), (30, [7], [], 0), (20, [7, 1], [1], 3), (23, [1], [1], 4), (90, [7], [], -2147483648), (91, [7], [], 2147483647), (45, [5, 6], [], 0), (0, [6], [], 500), (5000, [0, 1, 2, 3, 4, 5], [0, 1], 14), (0, [0], [], 30), (0, [1], [], 30), (90, [2], [], -2147483648), (91, [2], [], 2147483647), (90, [3], [], -2147483648), (91, [3], [], 2147483647), (90, [4], [], -2147483648), (91, [4], [], 2147483647), (90, [5], [], -2147483648), (91, [5], [], 2147483647)], (4000, [1, 2, 22, 4, 5, 21], [3], 228))
theorem c_92o_14_37 {q0 : Nat} : vOkm T0 (eN e_92v L_92o A_92v mu_92v no_92 Bo_92 (some q0)) 1 g_92o_14_37 := vOk_inI fun ρ η f0 f1 f2 f3 f4 f5 f6 f7 f8 f9 f10 f11 f12 f13 f14 f15 f16 f17 f18 f19 f20 f21 f22 f23 f24 f25 f26 f27 f28 f29 f30 f31 f32 f33 f34 f35 f36 f37 f38 f39 f40 f41 f42 f43 f44 f45 f46 f47 f48 f49 f50 f51 f52 f53 f54 f55 f56 f57 f58 f59 f60 f61 f62 f63 => q_92o_38 (q0 := q0) (n0 := ρ 5) (n1 := ρ 4) (n2 := ρ 3) (n3 := ρ 2) (n4 := ρ 1) (n5 := ρ 0) (n6 := ρ 6) (n7 := ρ 7) (n8 := ρ 8) (n9 := ρ 9) (n10 := ρ 10) (n11 := ρ 11) (n12 := ρ 12) (n13 := ρ 13) (n14 := ρ 14) (n15 := ρ 15) (n16 := ρ 16) (n17 := ρ 17) (n18 := ρ 18) (n19 := ρ 19) (n20 := ρ 20) (n21 := ρ 21) (n22 := ρ 22) (H0 := η 0) (H1 := η 1) (H2 := η 2) (H3 := η 3) f63 f62 f61 f60 f59 f58 f57 f56 f55 f54 f53 f52 f51 f50 f49 f48 f47 f46 f45 f44 f43 f42 f41 f40 f39 f38 f37 f36 f35 f34 f33 f32 f31 f30 f29 f28 f27 f26 f25 f24 f23 f22 f21 f20 f19 f18 f17 f16 f15 f14 f13 f12 f11 f10 f9 f8 f7 f6 f5 f4 f3 f2 f1 f0
theorem q_92o_39 {q0 : Nat} {n0 n1 n2 n3 n4 n5 n6 n7 n8 n9 n10 n11 n12 n13 n14 n15 n16 n17 n18 n19 n20 n21 : Int} {H0 H1 H2 : gH} (f0 : n0 ≤ 2147483647) (f1 : (-2147483648) ≤ n0) (f2 : n1 ≤ 2147483647) (f3 : (-2147483648) ≤ n1) (f4 : n2 ≤ 2147483647) (f5 : (-2147483648) ≤ n2) (f6 : n3 ≤ 2147483647) (f7 : (-2147483648) ≤ n3) (f8 : n4 = 30) (f9 : n5 = 30) (f10 : (hLe T0 H0 H1 ∧ hFr s_92v.2.2.2.2 H0 H1 ∧ hWt T0 H1) ∧ ((Ab_92v_14 n5 n4 n3 n2 n1 n0 H0 H1 ∧ Bbo_92_14 n5 n4 n3 n2 n1 n0 H0 H1) ∧ preb_92v n5 H0) ∧ some q0 = some (mub_92v_14 n5 n4 n3 n2 n1 n0 H0 H1)) (f11 : n6 = 500) (f12 : n0 ≤ n6) (f13 : n7 ≤ 2147483647) (f14 : (-2147483648) ≤ n7) (f15 : hK H1 (n4).toNat = 4) (f16 : n7 = hV H1 (n4).toNat 3) (f17 : n7 = 0) (f18 : n1 ≠ 0) (f19 : n8 ≤ 2147483647) (f20 : (-2147483648) ≤ n8) (f21 : hK H1 (n4).toNat = 4) (f22 : n8 = hV H1 (n4).toNat 2) (f23 : n2 ≠ 0) (f24 : n9 ≤ 2147483647) (f25 : (-2147483648) ≤ n9) (f26 : hK H1 (n4).toNat = 4) (f27 : n9 = hV H1 (n4).toNat 2) (f28 : n10 = 10) (f29 : n9 ≠ n10) (f30 : n2 ≠ 0) (f31 : n11 ≤ 2147483647) (f32 : (-2147483648) ≤ n11) (f33 : hK H1 (n4).toNat = 4) (f34 : n11 = hV H1 (n4).toNat 2) (f35 : n12 = 45) (f36 : n12 ≤ n11) (f37 : n13 ≤ 2147483647) (f38 : (-2147483648) ≤ n13) (f39 : hK H1 (n4).toNat = 4) (f40 : n13 = hV H1 (n4).toNat 2) (f41 : n14 = 49) (f42 : n14 < n13) (f43 : n15 = 0) (f44 : 0 ≤ n16) (f45 : hK H1 (n4).toNat = 4) (f46 : n16 = hV H1 (n4).toNat 8) (f47 : n15 ≠ 0) (f48 : n17 = 10000) (f49 : n18 ≤ 2147483647) (f50 : (-2147483648) ≤ n18) (f51 : hK H1 (n4).toNat = 4) (f52 : n18 = hV H1 (n4).toNat 2) (f53 : n19 = w32 (n17 + n18)) (f54 : (hLe T0 H1 H2 ∧ hFr s_98.2.2.2.2 H1 H2 ∧ ((0 : Int) = 0 → H2.length = H1.length) ∧ hWt T0 H2) ∧ (True ∧ nbo_98 n16 n19 H1 H2)) (f55 : n15 = 0) (f56 : n20 = 3) (f57 : n21 = 0) : Bbo_92_228 n5 n4 n3 n21 n1 n0 n20 H0 H2 := by
  exfalso
  omega
def g_92o_14_38 : vG := ([(0, [21], [], 0), (0, [20], [], 3), (30, [15], [], 0), (1098, [16, 19], [1, 2], 0), (1, [19, 17, 18], [], 0), (20, [18, 1], [1], 2), (23, [1], [1], 4), (90, [18], [], -2147483648), (91, [18], [], 2147483647), (0, [17], [], 10000), (31, [15], [], 0), (20, [16, 1], [1], 8), (23, [1], [1], 4), (51, [16], [], 0), (0, [15], [], 0), (44, [13, 14], [], 0), (0, [14], [], 49), (20, [13, 1], [1], 2), (23, [1], [1], 4), (90, [13], [], -2147483648), (91, [13], [], 2147483647), (43, [11, 12], [], 0), (0, [12], [], 45), (20, [11, 1], [1], 2), (23, [1], [1], 4), (90, [11], [], -2147483648), (91, [11], [], 2147483647), (31, [3], [], 0), (41, [9, 10], [], 0), (0, [10], [], 10), (20, [9, 1], [1], 2), (23, [1], [1], 4), (90, [9], [], -2147483648), (91, [9], [], 2147483647), (31, [3], [], 0), (20, [8, 1], [1], 2), (23, [1], [1], 4), (90, [8], [], -2147483648), (91, [8], [], 2147483647), (31, [4], [], 0), (30, [7], [], 0), (20, [7, 1], [1], 3), (23, [1], [1], 4), (90, [7], [], -2147483648), (91, [7], [], 2147483647), (45, [5, 6], [], 0), (0, [6], [], 500), (5000, [0, 1, 2, 3, 4, 5], [0, 1], 14), (0, [0], [], 30), (0, [1], [], 30), (90, [2], [], -2147483648), (91, [2], [], 2147483647), (90, [3], [], -2147483648), (91, [3], [], 2147483647), (90, [4], [], -2147483648), (91, [4], [], 2147483647), (90, [5], [], -2147483648), (91, [5], [], 2147483647)], (4000, [1, 2, 21, 4, 5, 20], [2], 228))
theorem c_92o_14_38 {q0 : Nat} : vOkm T0 (eN e_92v L_92o A_92v mu_92v no_92 Bo_92 (some q0)) 1 g_92o_14_38 := vOk_inI fun ρ η f0 f1 f2 f3 f4 f5 f6 f7 f8 f9 f10 f11 f12 f13 f14 f15 f16 f17 f18 f19 f20 f21 f22 f23 f24 f25 f26 f27 f28 f29 f30 f31 f32 f33 f34 f35 f36 f37 f38 f39 f40 f41 f42 f43 f44 f45 f46 f47 f48 f49 f50 f51 f52 f53 f54 f55 f56 f57 => q_92o_39 (q0 := q0) (n0 := ρ 5) (n1 := ρ 4) (n2 := ρ 3) (n3 := ρ 2) (n4 := ρ 1) (n5 := ρ 0) (n6 := ρ 6) (n7 := ρ 7) (n8 := ρ 8) (n9 := ρ 9) (n10 := ρ 10) (n11 := ρ 11) (n12 := ρ 12) (n13 := ρ 13) (n14 := ρ 14) (n15 := ρ 15) (n16 := ρ 16) (n17 := ρ 17) (n18 := ρ 18) (n19 := ρ 19) (n20 := ρ 20) (n21 := ρ 21) (H0 := η 0) (H1 := η 1) (H2 := η 2) f57 f56 f55 f54 f53 f52 f51 f50 f49 f48 f47 f46 f45 f44 f43 f42 f41 f40 f39 f38 f37 f36 f35 f34 f33 f32 f31 f30 f29 f28 f27 f26 f25 f24 f23 f22 f21 f20 f19 f18 f17 f16 f15 f14 f13 f12 f11 f10 f9 f8 f7 f6 f5 f4 f3 f2 f1 f0
theorem q_92o_40 {q0 : Nat} {n0 n1 n2 n3 n4 n5 n6 n7 n8 n9 n10 n11 n12 n13 n14 n15 n16 n17 n18 n19 n20 n21 : Int} {H0 H1 H2 : gH} (f0 : n0 ≤ 2147483647) (f1 : (-2147483648) ≤ n0) (f2 : n1 ≤ 2147483647) (f3 : (-2147483648) ≤ n1) (f4 : n2 ≤ 2147483647) (f5 : (-2147483648) ≤ n2) (f6 : n3 ≤ 2147483647) (f7 : (-2147483648) ≤ n3) (f8 : n4 = 30) (f9 : n5 = 30) (f10 : (hLe T0 H0 H1 ∧ hFr s_92v.2.2.2.2 H0 H1 ∧ hWt T0 H1) ∧ ((Ab_92v_14 n5 n4 n3 n2 n1 n0 H0 H1 ∧ Bbo_92_14 n5 n4 n3 n2 n1 n0 H0 H1) ∧ preb_92v n5 H0) ∧ some q0 = some (mub_92v_14 n5 n4 n3 n2 n1 n0 H0 H1)) (f11 : n6 = 500) (f12 : n0 ≤ n6) (f13 : n7 ≤ 2147483647) (f14 : (-2147483648) ≤ n7) (f15 : hK H1 (n4).toNat = 4) (f16 : n7 = hV H1 (n4).toNat 3) (f17 : n7 = 0) (f18 : n1 ≠ 0) (f19 : n8 ≤ 2147483647) (f20 : (-2147483648) ≤ n8) (f21 : hK H1 (n4).toNat = 4) (f22 : n8 = hV H1 (n4).toNat 2) (f23 : n2 ≠ 0) (f24 : n9 ≤ 2147483647) (f25 : (-2147483648) ≤ n9) (f26 : hK H1 (n4).toNat = 4) (f27 : n9 = hV H1 (n4).toNat 2) (f28 : n10 = 10) (f29 : n9 ≠ n10) (f30 : n2 ≠ 0) (f31 : n11 ≤ 2147483647) (f32 : (-2147483648) ≤ n11) (f33 : hK H1 (n4).toNat = 4) (f34 : n11 = hV H1 (n4).toNat 2) (f35 : n12 = 45) (f36 : n12 ≤ n11) (f37 : n13 ≤ 2147483647) (f38 : (-2147483648) ≤ n13) (f39 : hK H1 (n4).toNat = 4) (f40 : n13 = hV H1 (n4).toNat 2) (f41 : n14 = 49) (f42 : n14 < n13) (f43 : n15 = 0) (f44 : 0 ≤ n16) (f45 : hK H1 (n4).toNat = 4) (f46 : n16 = hV H1 (n4).toNat 8) (f47 : n15 ≠ 0) (f48 : n17 = 10000) (f49 : n18 ≤ 2147483647) (f50 : (-2147483648) ≤ n18) (f51 : hK H1 (n4).toNat = 4) (f52 : n18 = hV H1 (n4).toNat 2) (f53 : n19 = w32 (n17 + n18)) (f54 : (hLe T0 H1 H2 ∧ hFr s_98.2.2.2.2 H1 H2 ∧ ((0 : Int) = 0 → H2.length = H1.length) ∧ hWt T0 H2) ∧ (True ∧ nbo_98 n16 n19 H1 H2)) (f55 : n15 ≠ 0) (f56 : n20 ≤ 2147483647) (f57 : (-2147483648) ≤ n20) (f58 : hK H2 (n4).toNat = 4) (f59 : n20 = hV H2 (n4).toNat 2) (f60 : n21 = 0) : Bbo_92_228 n5 n4 n3 n21 n1 n0 n20 H0 H2 := by
  exfalso
  omega
def g_92o_14_39 : vG := ([(0, [21], [], 0), (20, [20, 1], [2], 2), (23, [1], [2], 4), (90, [20], [], -2147483648), (91, [20], [], 2147483647), (31, [15], [], 0), (1098, [16, 19], [1, 2], 0), (1, [19, 17, 18], [], 0), (20, [18, 1], [1], 2), (23, [1], [1], 4), (90, [18], [], -2147483648), (91, [18], [], 2147483647), (0, [17], [], 10000), (31, [15], [], 0), (20, [16, 1], [1], 8), (23, [1], [1], 4), (51, [16], [], 0), (0, [15], [], 0), (44, [13, 14], [], 0), (0, [14], [], 49), (20, [13, 1], [1], 2), (23, [1], [1], 4), (90, [13], [], -2147483648), (91, [13], [], 2147483647), (43, [11, 12], [], 0), (0, [12], [], 45), (20, [11, 1], [1], 2), (23, [1], [1], 4), (90, [11], [], -2147483648), (91, [11], [], 2147483647), (31, [3], [], 0), (41, [9, 10], [], 0), (0, [10], [], 10), (20, [9, 1], [1], 2), (23, [1], [1], 4), (90, [9], [], -2147483648), (91, [9], [], 2147483647), (31, [3], [], 0), (20, [8, 1], [1], 2), (23, [1], [1], 4), (90, [8], [], -2147483648), (91, [8], [], 2147483647), (31, [4], [], 0), (30, [7], [], 0), (20, [7, 1], [1], 3), (23, [1], [1], 4), (90, [7], [], -2147483648), (91, [7], [], 2147483647), (45, [5, 6], [], 0), (0, [6], [], 500), (5000, [0, 1, 2, 3, 4, 5], [0, 1], 14), (0, [0], [], 30), (0, [1], [], 30), (90, [2], [], -2147483648), (91, [2], [], 2147483647), (90, [3], [], -2147483648), (91, [3], [], 2147483647), (90, [4], [], -2147483648), (91, [4], [], 2147483647), (90, [5], [], -2147483648), (91, [5], [], 2147483647)], (4000, [1, 2, 21, 4, 5, 20], [2], 228))
theorem c_92o_14_39 {q0 : Nat} : vOkm T0 (eN e_92v L_92o A_92v mu_92v no_92 Bo_92 (some q0)) 1 g_92o_14_39 := vOk_inI fun ρ η f0 f1 f2 f3 f4 f5 f6 f7 f8 f9 f10 f11 f12 f13 f14 f15 f16 f17 f18 f19 f20 f21 f22 f23 f24 f25 f26 f27 f28 f29 f30 f31 f32 f33 f34 f35 f36 f37 f38 f39 f40 f41 f42 f43 f44 f45 f46 f47 f48 f49 f50 f51 f52 f53 f54 f55 f56 f57 f58 f59 f60 => q_92o_40 (q0 := q0) (n0 := ρ 5) (n1 := ρ 4) (n2 := ρ 3) (n3 := ρ 2) (n4 := ρ 1) (n5 := ρ 0) (n6 := ρ 6) (n7 := ρ 7) (n8 := ρ 8) (n9 := ρ 9) (n10 := ρ 10) (n11 := ρ 11) (n12 := ρ 12) (n13 := ρ 13) (n14 := ρ 14) (n15 := ρ 15) (n16 := ρ 16) (n17 := ρ 17) (n18 := ρ 18) (n19 := ρ 19) (n20 := ρ 20) (n21 := ρ 21) (H0 := η 0) (H1 := η 1) (H2 := η 2) f60 f59 f58 f57 f56 f55 f54 f53 f52 f51 f50 f49 f48 f47 f46 f45 f44 f43 f42 f41 f40 f39 f38 f37 f36 f35 f34 f33 f32 f31 f30 f29 f28 f27 f26 f25 f24 f23 f22 f21 f20 f19 f18 f17 f16 f15 f14 f13 f12 f11 f10 f9 f8 f7 f6 f5 f4 f3 f2 f1 f0
theorem q_92o_41 {q0 : Nat} {n0 n1 n2 n3 n4 n5 n6 n7 n8 n9 n10 n11 n12 n13 n14 n15 n16 n17 n18 n19 n20 n21 n22 : Int} {H0 H1 H2 H3 : gH} (f0 : n0 ≤ 2147483647) (f1 : (-2147483648) ≤ n0) (f2 : n1 ≤ 2147483647) (f3 : (-2147483648) ≤ n1) (f4 : n2 ≤ 2147483647) (f5 : (-2147483648) ≤ n2) (f6 : n3 ≤ 2147483647) (f7 : (-2147483648) ≤ n3) (f8 : n4 = 30) (f9 : n5 = 30) (f10 : (hLe T0 H0 H1 ∧ hFr s_92v.2.2.2.2 H0 H1 ∧ hWt T0 H1) ∧ ((Ab_92v_14 n5 n4 n3 n2 n1 n0 H0 H1 ∧ Bbo_92_14 n5 n4 n3 n2 n1 n0 H0 H1) ∧ preb_92v n5 H0) ∧ some q0 = some (mub_92v_14 n5 n4 n3 n2 n1 n0 H0 H1)) (f11 : n6 = 500) (f12 : n0 ≤ n6) (f13 : n7 ≤ 2147483647) (f14 : (-2147483648) ≤ n7) (f15 : hK H1 (n4).toNat = 4) (f16 : n7 = hV H1 (n4).toNat 3) (f17 : n7 = 0) (f18 : n1 ≠ 0) (f19 : n8 ≤ 2147483647) (f20 : (-2147483648) ≤ n8) (f21 : hK H1 (n4).toNat = 4) (f22 : n8 = hV H1 (n4).toNat 2) (f23 : n2 ≠ 0) (f24 : n9 ≤ 2147483647) (f25 : (-2147483648) ≤ n9) (f26 : hK H1 (n4).toNat = 4) (f27 : n9 = hV H1 (n4).toNat 2) (f28 : n10 = 10) (f29 : n9 ≠ n10) (f30 : n2 ≠ 0) (f31 : n11 ≤ 2147483647) (f32 : (-2147483648) ≤ n11) (f33 : hK H1 (n4).toNat = 4) (f34 : n11 = hV H1 (n4).toNat 2) (f35 : n12 = 45) (f36 : n12 ≤ n11) (f37 : n13 ≤ 2147483647) (f38 : (-2147483648) ≤ n13) (f39 : hK H1 (n4).toNat = 4) (f40 : n13 = hV H1 (n4).toNat 2) (f41 : n14 = 49) (f42 : n13 ≤ n14) (f43 : n15 = 1) (f44 : 0 ≤ n16) (f45 : hK H1 (n4).toNat = 4) (f46 : n16 = hV H1 (n4).toNat 8) (f47 : n15 = 0) (f48 : n17 = 31) (f49 : hK H1 (n4).toNat = 4) (f50 : n17 = hV H1 (n4).toNat 0) (f51 : n18 ≤ 2147483647) (f52 : (-2147483648) ≤ n18) (f53 : hK H1 (n4).toNat = 4) (f54 : n18 = hV H1 (n4).toNat 1) (f55 : (hLe T0 H1 H2 ∧ hFr s_123v.2.2.2.2 H1 H2 ∧ ((0 : Int) = 0 → H2.length = H1.length) ∧ hWt T0 H2) ∧ postb_123v n19 n17 n18 H1 H2) (f56 : n20 = (Int64.ofInt n19).toInt32.toInt) (f57 : (hLe T0 H2 H3 ∧ hFr s_98.2.2.2.2 H2 H3 ∧ ((0 : Int) = 0 → H3.length = H2.length) ∧ hWt T0 H3) ∧ (True ∧ nbo_98 n16 n20 H2 H3)) (f58 : n15 = 0) (f59 : n21 = 3) (f60 : n22 = 0) : Bbo_92_228 n5 n4 n3 n22 n1 n0 n21 H0 H3 := by
  exfalso
  omega
def g_92o_14_40 : vG := ([(0, [22], [], 0), (0, [21], [], 3), (30, [15], [], 0), (1098, [16, 20], [2, 3], 0), (18, [20, 19], [], 0), (1123, [19, 17, 18], [1, 2], 0), (20, [18, 1], [1], 1), (23, [1], [1], 4), (90, [18], [], -2147483648), (91, [18], [], 2147483647), (20, [17, 1], [1], 0), (23, [1], [1], 4), (0, [17], [], 31), (30, [15], [], 0), (20, [16, 1], [1], 8), (23, [1], [1], 4), (51, [16], [], 0), (0, [15], [], 1), (45, [13, 14], [], 0), (0, [14], [], 49), (20, [13, 1], [1], 2), (23, [1], [1], 4), (90, [13], [], -2147483648), (91, [13], [], 2147483647), (43, [11, 12], [], 0), (0, [12], [], 45), (20, [11, 1], [1], 2), (23, [1], [1], 4), (90, [11], [], -2147483648), (91, [11], [], 2147483647), (31, [3], [], 0), (41, [9, 10], [], 0), (0, [10], [], 10), (20, [9, 1], [1], 2), (23, [1], [1], 4), (90, [9], [], -2147483648), (91, [9], [], 2147483647), (31, [3], [], 0), (20, [8, 1], [1], 2), (23, [1], [1], 4), (90, [8], [], -2147483648), (91, [8], [], 2147483647), (31, [4], [], 0), (30, [7], [], 0), (20, [7, 1], [1], 3), (23, [1], [1], 4), (90, [7], [], -2147483648), (91, [7], [], 2147483647), (45, [5, 6], [], 0), (0, [6], [], 500), (5000, [0, 1, 2, 3, 4, 5], [0, 1], 14), (0, [0], [], 30), (0, [1], [], 30), (90, [2], [], -2147483648), (91, [2], [], 2147483647), (90, [3], [], -2147483648), (91, [3], [], 2147483647), (90, [4], [], -2147483648), (91, [4], [], 2147483647), (90, [5], [], -2147483648), (91, [5], [], 2147483647)], (4000, [1, 2, 22, 4, 5, 21], [3], 228))
theorem c_92o_14_40 {q0 : Nat} : vOkm T0 (eN e_92v L_92o A_92v mu_92v no_92 Bo_92 (some q0)) 1 g_92o_14_40 := vOk_inI fun ρ η f0 f1 f2 f3 f4 f5 f6 f7 f8 f9 f10 f11 f12 f13 f14 f15 f16 f17 f18 f19 f20 f21 f22 f23 f24 f25 f26 f27 f28 f29 f30 f31 f32 f33 f34 f35 f36 f37 f38 f39 f40 f41 f42 f43 f44 f45 f46 f47 f48 f49 f50 f51 f52 f53 f54 f55 f56 f57 f58 f59 f60 => q_92o_41 (q0 := q0) (n0 := ρ 5) (n1 := ρ 4) (n2 := ρ 3) (n3 := ρ 2) (n4 := ρ 1) (n5 := ρ 0) (n6 := ρ 6) (n7 := ρ 7) (n8 := ρ 8) (n9 := ρ 9) (n10 := ρ 10) (n11 := ρ 11) (n12 := ρ 12) (n13 := ρ 13) (n14 := ρ 14) (n15 := ρ 15) (n16 := ρ 16) (n17 := ρ 17) (n18 := ρ 18) (n19 := ρ 19) (n20 := ρ 20) (n21 := ρ 21) (n22 := ρ 22) (H0 := η 0) (H1 := η 1) (H2 := η 2) (H3 := η 3) f60 f59 f58 f57 f56 f55 f54 f53 f52 f51 f50 f49 f48 f47 f46 f45 f44 f43 f42 f41 f40 f39 f38 f37 f36 f35 f34 f33 f32 f31 f30 f29 f28 f27 f26 f25 f24 f23 f22 f21 f20 f19 f18 f17 f16 f15 f14 f13 f12 f11 f10 f9 f8 f7 f6 f5 f4 f3 f2 f1 f0
theorem q_92o_42 {q0 : Nat} {n0 n1 n2 n3 n4 n5 n6 n7 n8 n9 n10 n11 n12 n13 n14 n15 n16 n17 n18 n19 n20 n21 n22 : Int} {H0 H1 H2 H3 : gH} (f0 : n0 ≤ 2147483647) (f1 : (-2147483648) ≤ n0) (f2 : n1 ≤ 2147483647) (f3 : (-2147483648) ≤ n1) (f4 : n2 ≤ 2147483647) (f5 : (-2147483648) ≤ n2) (f6 : n3 ≤ 2147483647) (f7 : (-2147483648) ≤ n3) (f8 : n4 = 30) (f9 : n5 = 30) (f10 : (hLe T0 H0 H1 ∧ hFr s_92v.2.2.2.2 H0 H1 ∧ hWt T0 H1) ∧ ((Ab_92v_14 n5 n4 n3 n2 n1 n0 H0 H1 ∧ Bbo_92_14 n5 n4 n3 n2 n1 n0 H0 H1) ∧ preb_92v n5 H0) ∧ some q0 = some (mub_92v_14 n5 n4 n3 n2 n1 n0 H0 H1)) (f11 : n6 = 500) (f12 : n0 ≤ n6) (f13 : n7 ≤ 2147483647) (f14 : (-2147483648) ≤ n7) (f15 : hK H1 (n4).toNat = 4) (f16 : n7 = hV H1 (n4).toNat 3) (f17 : n7 = 0) (f18 : n1 ≠ 0) (f19 : n8 ≤ 2147483647) (f20 : (-2147483648) ≤ n8) (f21 : hK H1 (n4).toNat = 4) (f22 : n8 = hV H1 (n4).toNat 2) (f23 : n2 ≠ 0) (f24 : n9 ≤ 2147483647) (f25 : (-2147483648) ≤ n9) (f26 : hK H1 (n4).toNat = 4) (f27 : n9 = hV H1 (n4).toNat 2) (f28 : n10 = 10) (f29 : n9 ≠ n10) (f30 : n2 ≠ 0) (f31 : n11 ≤ 2147483647) (f32 : (-2147483648) ≤ n11) (f33 : hK H1 (n4).toNat = 4) (f34 : n11 = hV H1 (n4).toNat 2) (f35 : n12 = 45) (f36 : n12 ≤ n11) (f37 : n13 ≤ 2147483647) (f38 : (-2147483648) ≤ n13) (f39 : hK H1 (n4).toNat = 4) (f40 : n13 = hV H1 (n4).toNat 2) (f41 : n14 = 49) (f42 : n13 ≤ n14) (f43 : n15 = 1) (f44 : 0 ≤ n16) (f45 : hK H1 (n4).toNat = 4) (f46 : n16 = hV H1 (n4).toNat 8) (f47 : n15 = 0) (f48 : n17 = 31) (f49 : hK H1 (n4).toNat = 4) (f50 : n17 = hV H1 (n4).toNat 0) (f51 : n18 ≤ 2147483647) (f52 : (-2147483648) ≤ n18) (f53 : hK H1 (n4).toNat = 4) (f54 : n18 = hV H1 (n4).toNat 1) (f55 : (hLe T0 H1 H2 ∧ hFr s_123v.2.2.2.2 H1 H2 ∧ ((0 : Int) = 0 → H2.length = H1.length) ∧ hWt T0 H2) ∧ postb_123v n19 n17 n18 H1 H2) (f56 : n20 = (Int64.ofInt n19).toInt32.toInt) (f57 : (hLe T0 H2 H3 ∧ hFr s_98.2.2.2.2 H2 H3 ∧ ((0 : Int) = 0 → H3.length = H2.length) ∧ hWt T0 H3) ∧ (True ∧ nbo_98 n16 n20 H2 H3)) (f58 : n15 ≠ 0) (f59 : n21 ≤ 2147483647) (f60 : (-2147483648) ≤ n21) (f61 : hK H3 (n4).toNat = 4) (f62 : n21 = hV H3 (n4).toNat 2) (f63 : n22 = 0) : Bbo_92_228 n5 n4 n3 n22 n1 n0 n21 H0 H3 := by
  exfalso
  omega
def g_92o_14_41 : vG := ([(0, [22], [], 0), (20, [21, 1], [3], 2), (23, [1], [3], 4), (90, [21], [], -2147483648), (91, [21], [], 2147483647), (31, [15], [], 0), (1098, [16, 20], [2, 3], 0), (18, [20, 19], [], 0), (1123, [19, 17, 18], [1, 2], 0), (20, [18, 1], [1], 1), (23, [1], [1], 4), (90, [18], [], -2147483648), (91, [18], [], 2147483647), (20, [17, 1], [1], 0), (23, [1], [1], 4), (0, [17], [], 31), (30, [15], [], 0), (20, [16, 1], [1], 8), (23, [1], [1], 4), (51, [16], [], 0), (0, [15], [], 1), (45, [13, 14], [], 0), (0, [14], [], 49), (20, [13, 1], [1], 2), (23, [1], [1], 4), (90, [13], [], -2147483648), (91, [13], [], 2147483647), (43, [11, 12], [], 0), (0, [12], [], 45), (20, [11, 1], [1], 2), (23, [1], [1], 4), (90, [11], [], -2147483648), (91, [11], [], 2147483647), (31, [3], [], 0), (41, [9, 10], [], 0), (0, [10], [], 10), (20, [9, 1], [1], 2), (23, [1], [1], 4), (90, [9], [], -2147483648), (91, [9], [], 2147483647), (31, [3], [], 0), (20, [8, 1], [1], 2), (23, [1], [1], 4), (90, [8], [], -2147483648), (91, [8], [], 2147483647), (31, [4], [], 0), (30, [7], [], 0), (20, [7, 1], [1], 3), (23, [1], [1], 4), (90, [7], [], -2147483648), (91, [7], [], 2147483647), (45, [5, 6], [], 0), (0, [6], [], 500), (5000, [0, 1, 2, 3, 4, 5], [0, 1], 14), (0, [0], [], 30), (0, [1], [], 30), (90, [2], [], -2147483648), (91, [2], [], 2147483647), (90, [3], [], -2147483648), (91, [3], [], 2147483647), (90, [4], [], -2147483648), (91, [4], [], 2147483647), (90, [5], [], -2147483648), (91, [5], [], 2147483647)], (4000, [1, 2, 22, 4, 5, 21], [3], 228))
theorem c_92o_14_41 {q0 : Nat} : vOkm T0 (eN e_92v L_92o A_92v mu_92v no_92 Bo_92 (some q0)) 1 g_92o_14_41 := vOk_inI fun ρ η f0 f1 f2 f3 f4 f5 f6 f7 f8 f9 f10 f11 f12 f13 f14 f15 f16 f17 f18 f19 f20 f21 f22 f23 f24 f25 f26 f27 f28 f29 f30 f31 f32 f33 f34 f35 f36 f37 f38 f39 f40 f41 f42 f43 f44 f45 f46 f47 f48 f49 f50 f51 f52 f53 f54 f55 f56 f57 f58 f59 f60 f61 f62 f63 => q_92o_42 (q0 := q0) (n0 := ρ 5) (n1 := ρ 4) (n2 := ρ 3) (n3 := ρ 2) (n4 := ρ 1) (n5 := ρ 0) (n6 := ρ 6) (n7 := ρ 7) (n8 := ρ 8) (n9 := ρ 9) (n10 := ρ 10) (n11 := ρ 11) (n12 := ρ 12) (n13 := ρ 13) (n14 := ρ 14) (n15 := ρ 15) (n16 := ρ 16) (n17 := ρ 17) (n18 := ρ 18) (n19 := ρ 19) (n20 := ρ 20) (n21 := ρ 21) (n22 := ρ 22) (H0 := η 0) (H1 := η 1) (H2 := η 2) (H3 := η 3) f63 f62 f61 f60 f59 f58 f57 f56 f55 f54 f53 f52 f51 f50 f49 f48 f47 f46 f45 f44 f43 f42 f41 f40 f39 f38 f37 f36 f35 f34 f33 f32 f31 f30 f29 f28 f27 f26 f25 f24 f23 f22 f21 f20 f19 f18 f17 f16 f15 f14 f13 f12 f11 f10 f9 f8 f7 f6 f5 f4 f3 f2 f1 f0
theorem q_92o_43 {q0 : Nat} {n0 n1 n2 n3 n4 n5 n6 n7 n8 n9 n10 n11 n12 n13 n14 n15 n16 n17 n18 n19 n20 n21 : Int} {H0 H1 H2 : gH} (f0 : n0 ≤ 2147483647) (f1 : (-2147483648) ≤ n0) (f2 : n1 ≤ 2147483647) (f3 : (-2147483648) ≤ n1) (f4 : n2 ≤ 2147483647) (f5 : (-2147483648) ≤ n2) (f6 : n3 ≤ 2147483647) (f7 : (-2147483648) ≤ n3) (f8 : n4 = 30) (f9 : n5 = 30) (f10 : (hLe T0 H0 H1 ∧ hFr s_92v.2.2.2.2 H0 H1 ∧ hWt T0 H1) ∧ ((Ab_92v_14 n5 n4 n3 n2 n1 n0 H0 H1 ∧ Bbo_92_14 n5 n4 n3 n2 n1 n0 H0 H1) ∧ preb_92v n5 H0) ∧ some q0 = some (mub_92v_14 n5 n4 n3 n2 n1 n0 H0 H1)) (f11 : n6 = 500) (f12 : n0 ≤ n6) (f13 : n7 ≤ 2147483647) (f14 : (-2147483648) ≤ n7) (f15 : hK H1 (n4).toNat = 4) (f16 : n7 = hV H1 (n4).toNat 3) (f17 : n7 = 0) (f18 : n1 ≠ 0) (f19 : n8 ≤ 2147483647) (f20 : (-2147483648) ≤ n8) (f21 : hK H1 (n4).toNat = 4) (f22 : n8 = hV H1 (n4).toNat 2) (f23 : n2 ≠ 0) (f24 : n9 ≤ 2147483647) (f25 : (-2147483648) ≤ n9) (f26 : hK H1 (n4).toNat = 4) (f27 : n9 = hV H1 (n4).toNat 2) (f28 : n10 = 10) (f29 : n9 ≠ n10) (f30 : n2 ≠ 0) (f31 : n11 ≤ 2147483647) (f32 : (-2147483648) ≤ n11) (f33 : hK H1 (n4).toNat = 4) (f34 : n11 = hV H1 (n4).toNat 2) (f35 : n12 = 45) (f36 : n12 ≤ n11) (f37 : n13 ≤ 2147483647) (f38 : (-2147483648) ≤ n13) (f39 : hK H1 (n4).toNat = 4) (f40 : n13 = hV H1 (n4).toNat 2) (f41 : n14 = 49) (f42 : n13 ≤ n14) (f43 : n15 = 1) (f44 : 0 ≤ n16) (f45 : hK H1 (n4).toNat = 4) (f46 : n16 = hV H1 (n4).toNat 8) (f47 : n15 ≠ 0) (f48 : n17 = 10000) (f49 : n18 ≤ 2147483647) (f50 : (-2147483648) ≤ n18) (f51 : hK H1 (n4).toNat = 4) (f52 : n18 = hV H1 (n4).toNat 2) (f53 : n19 = w32 (n17 + n18)) (f54 : (hLe T0 H1 H2 ∧ hFr s_98.2.2.2.2 H1 H2 ∧ ((0 : Int) = 0 → H2.length = H1.length) ∧ hWt T0 H2) ∧ (True ∧ nbo_98 n16 n19 H1 H2)) (f55 : n15 = 0) (f56 : n20 = 3) (f57 : n21 = 0) : Bbo_92_228 n5 n4 n3 n21 n1 n0 n20 H0 H2 := by
  exfalso
  omega
def g_92o_14_42 : vG := ([(0, [21], [], 0), (0, [20], [], 3), (30, [15], [], 0), (1098, [16, 19], [1, 2], 0), (1, [19, 17, 18], [], 0), (20, [18, 1], [1], 2), (23, [1], [1], 4), (90, [18], [], -2147483648), (91, [18], [], 2147483647), (0, [17], [], 10000), (31, [15], [], 0), (20, [16, 1], [1], 8), (23, [1], [1], 4), (51, [16], [], 0), (0, [15], [], 1), (45, [13, 14], [], 0), (0, [14], [], 49), (20, [13, 1], [1], 2), (23, [1], [1], 4), (90, [13], [], -2147483648), (91, [13], [], 2147483647), (43, [11, 12], [], 0), (0, [12], [], 45), (20, [11, 1], [1], 2), (23, [1], [1], 4), (90, [11], [], -2147483648), (91, [11], [], 2147483647), (31, [3], [], 0), (41, [9, 10], [], 0), (0, [10], [], 10), (20, [9, 1], [1], 2), (23, [1], [1], 4), (90, [9], [], -2147483648), (91, [9], [], 2147483647), (31, [3], [], 0), (20, [8, 1], [1], 2), (23, [1], [1], 4), (90, [8], [], -2147483648), (91, [8], [], 2147483647), (31, [4], [], 0), (30, [7], [], 0), (20, [7, 1], [1], 3), (23, [1], [1], 4), (90, [7], [], -2147483648), (91, [7], [], 2147483647), (45, [5, 6], [], 0), (0, [6], [], 500), (5000, [0, 1, 2, 3, 4, 5], [0, 1], 14), (0, [0], [], 30), (0, [1], [], 30), (90, [2], [], -2147483648), (91, [2], [], 2147483647), (90, [3], [], -2147483648), (91, [3], [], 2147483647), (90, [4], [], -2147483648), (91, [4], [], 2147483647), (90, [5], [], -2147483648), (91, [5], [], 2147483647)], (4000, [1, 2, 21, 4, 5, 20], [2], 228))
theorem c_92o_14_42 {q0 : Nat} : vOkm T0 (eN e_92v L_92o A_92v mu_92v no_92 Bo_92 (some q0)) 1 g_92o_14_42 := vOk_inI fun ρ η f0 f1 f2 f3 f4 f5 f6 f7 f8 f9 f10 f11 f12 f13 f14 f15 f16 f17 f18 f19 f20 f21 f22 f23 f24 f25 f26 f27 f28 f29 f30 f31 f32 f33 f34 f35 f36 f37 f38 f39 f40 f41 f42 f43 f44 f45 f46 f47 f48 f49 f50 f51 f52 f53 f54 f55 f56 f57 => q_92o_43 (q0 := q0) (n0 := ρ 5) (n1 := ρ 4) (n2 := ρ 3) (n3 := ρ 2) (n4 := ρ 1) (n5 := ρ 0) (n6 := ρ 6) (n7 := ρ 7) (n8 := ρ 8) (n9 := ρ 9) (n10 := ρ 10) (n11 := ρ 11) (n12 := ρ 12) (n13 := ρ 13) (n14 := ρ 14) (n15 := ρ 15) (n16 := ρ 16) (n17 := ρ 17) (n18 := ρ 18) (n19 := ρ 19) (n20 := ρ 20) (n21 := ρ 21) (H0 := η 0) (H1 := η 1) (H2 := η 2) f57 f56 f55 f54 f53 f52 f51 f50 f49 f48 f47 f46 f45 f44 f43 f42 f41 f40 f39 f38 f37 f36 f35 f34 f33 f32 f31 f30 f29 f28 f27 f26 f25 f24 f23 f22 f21 f20 f19 f18 f17 f16 f15 f14 f13 f12 f11 f10 f9 f8 f7 f6 f5 f4 f3 f2 f1 f0
theorem q_92o_44 {q0 : Nat} {n0 n1 n2 n3 n4 n5 n6 n7 n8 n9 n10 n11 n12 n13 n14 n15 n16 n17 n18 n19 n20 n21 : Int} {H0 H1 H2 : gH} (f0 : n0 ≤ 2147483647) (f1 : (-2147483648) ≤ n0) (f2 : n1 ≤ 2147483647) (f3 : (-2147483648) ≤ n1) (f4 : n2 ≤ 2147483647) (f5 : (-2147483648) ≤ n2) (f6 : n3 ≤ 2147483647) (f7 : (-2147483648) ≤ n3) (f8 : n4 = 30) (f9 : n5 = 30) (f10 : (hLe T0 H0 H1 ∧ hFr s_92v.2.2.2.2 H0 H1 ∧ hWt T0 H1) ∧ ((Ab_92v_14 n5 n4 n3 n2 n1 n0 H0 H1 ∧ Bbo_92_14 n5 n4 n3 n2 n1 n0 H0 H1) ∧ preb_92v n5 H0) ∧ some q0 = some (mub_92v_14 n5 n4 n3 n2 n1 n0 H0 H1)) (f11 : n6 = 500) (f12 : n0 ≤ n6) (f13 : n7 ≤ 2147483647) (f14 : (-2147483648) ≤ n7) (f15 : hK H1 (n4).toNat = 4) (f16 : n7 = hV H1 (n4).toNat 3) (f17 : n7 = 0) (f18 : n1 ≠ 0) (f19 : n8 ≤ 2147483647) (f20 : (-2147483648) ≤ n8) (f21 : hK H1 (n4).toNat = 4) (f22 : n8 = hV H1 (n4).toNat 2) (f23 : n2 ≠ 0) (f24 : n9 ≤ 2147483647) (f25 : (-2147483648) ≤ n9) (f26 : hK H1 (n4).toNat = 4) (f27 : n9 = hV H1 (n4).toNat 2) (f28 : n10 = 10) (f29 : n9 ≠ n10) (f30 : n2 ≠ 0) (f31 : n11 ≤ 2147483647) (f32 : (-2147483648) ≤ n11) (f33 : hK H1 (n4).toNat = 4) (f34 : n11 = hV H1 (n4).toNat 2) (f35 : n12 = 45) (f36 : n12 ≤ n11) (f37 : n13 ≤ 2147483647) (f38 : (-2147483648) ≤ n13) (f39 : hK H1 (n4).toNat = 4) (f40 : n13 = hV H1 (n4).toNat 2) (f41 : n14 = 49) (f42 : n13 ≤ n14) (f43 : n15 = 1) (f44 : 0 ≤ n16) (f45 : hK H1 (n4).toNat = 4) (f46 : n16 = hV H1 (n4).toNat 8) (f47 : n15 ≠ 0) (f48 : n17 = 10000) (f49 : n18 ≤ 2147483647) (f50 : (-2147483648) ≤ n18) (f51 : hK H1 (n4).toNat = 4) (f52 : n18 = hV H1 (n4).toNat 2) (f53 : n19 = w32 (n17 + n18)) (f54 : (hLe T0 H1 H2 ∧ hFr s_98.2.2.2.2 H1 H2 ∧ ((0 : Int) = 0 → H2.length = H1.length) ∧ hWt T0 H2) ∧ (True ∧ nbo_98 n16 n19 H1 H2)) (f55 : n15 ≠ 0) (f56 : n20 ≤ 2147483647) (f57 : (-2147483648) ≤ n20) (f58 : hK H2 (n4).toNat = 4) (f59 : n20 = hV H2 (n4).toNat 2) (f60 : n21 = 0) : Bbo_92_228 n5 n4 n3 n21 n1 n0 n20 H0 H2 := by
  unfold Bbo_92_228
  intro d ed zo w49
  have pz := f10.2.1.2
  unfold preb_92v at pz
  have ga := f10.2.1.1.1
  unfold Ab_92v_14 at ga
  have vz : vwC H1 = vwC H0 := vwC_fr f10.1.2.1 (by decide +kernel)
  have s0 := PF_fr f54.1.1 f54.1.2.1 (by decide +kernel) ga.1
  have a0 : absC H2 = (absC H1) := s0.1
  have v0 : vwC H2 = vwC H0 := s0.2.1.trans vz
  have gb := f10.2.1.1.2
  unfold Bbo_92_14 at gb
  obtain ⟨ko, w1, k⟩ := gb d ed zo w49
  have zo1 := ko.1
  have e8 : hV H1 30 8 = d := (f10.1.2.1.1 30 8 (by decide +kernel)).trans ed.symm
  have gc := ga
  have nw := ga.1.2.2.2.1.2.1
  have r16 : n7 = hV H1 30 3 := by
    have w := f16
    rw [f8] at w
    exact w
  have r22 : n8 = hV H1 30 2 := by
    have w := f22
    rw [f8] at w
    exact w
  have r27 : n9 = hV H1 30 2 := by
    have w := f27
    rw [f8] at w
    exact w
  have r34 : n11 = hV H1 30 2 := by
    have w := f34
    rw [f8] at w
    exact w
  have r40 : n13 = hV H1 30 2 := by
    have w := f40
    rw [f8] at w
    exact w
  have r46 : n16 = hV H1 30 8 := by
    have w := f46
    rw [f8] at w
    exact w
  have r52 : n18 = hV H1 30 2 := by
    have w := f52
    rw [f8] at w
    exact w
  have r59 : n20 = hV H2 30 2 := by
    have w := f59
    rw [f8] at w
    exact w
  obtain ⟨_, s0_, o0, o7, w01, m01, xn, ya, yb⟩ := gc
  have q53_ := f53
  unfold w32 at q53_
  have hf : hV H1 30 3 = 0 := by omega
  have ap := absC_pos ga.1 hf
  have x5 := xn hf
  have hv : (vwC H0).1 (absC H1).1 = hV H1 30 2 := by
    have u := (kd_at ga.1).resolve_left (by omega)
    rw [vz] at u
    exact u
  have qe := f54.2.2
  unfold nbo_98 at qe
  rw [show n16 = d from (r46.trans (rfl)).trans e8] at qe
  have zr : KO H1 H1 d := KO_rfl zo1
  have ke := qe zr.1
  refine ⟨KO_tr ko (KO_tr zr ke.1), W49_le f54.1.1 w1, fun L cd hl hp => ⟨fun m1 x5 => ?_, fun m0 => by exfalso; omega⟩⟩
  rw [a0]
  rw [a0] at x5
  obtain ⟨rs, mz⟩ := k L cd hl ap.2
  rw [show n21 = 0 by omega, show n3 = n3 by omega]
  exact RTk_unit zr.1 rs (by omega) hl (by omega) (by omega) (.inr ⟨by omega, by omega, by omega⟩) qe (f54.1.2.1.1 30 15 (by decide +kernel)) (fRow f54.1.2.1 49 (by decide +kernel))
def g_92o_14_43 : vG := ([(0, [21], [], 0), (20, [20, 1], [2], 2), (23, [1], [2], 4), (90, [20], [], -2147483648), (91, [20], [], 2147483647), (31, [15], [], 0), (1098, [16, 19], [1, 2], 0), (1, [19, 17, 18], [], 0), (20, [18, 1], [1], 2), (23, [1], [1], 4), (90, [18], [], -2147483648), (91, [18], [], 2147483647), (0, [17], [], 10000), (31, [15], [], 0), (20, [16, 1], [1], 8), (23, [1], [1], 4), (51, [16], [], 0), (0, [15], [], 1), (45, [13, 14], [], 0), (0, [14], [], 49), (20, [13, 1], [1], 2), (23, [1], [1], 4), (90, [13], [], -2147483648), (91, [13], [], 2147483647), (43, [11, 12], [], 0), (0, [12], [], 45), (20, [11, 1], [1], 2), (23, [1], [1], 4), (90, [11], [], -2147483648), (91, [11], [], 2147483647), (31, [3], [], 0), (41, [9, 10], [], 0), (0, [10], [], 10), (20, [9, 1], [1], 2), (23, [1], [1], 4), (90, [9], [], -2147483648), (91, [9], [], 2147483647), (31, [3], [], 0), (20, [8, 1], [1], 2), (23, [1], [1], 4), (90, [8], [], -2147483648), (91, [8], [], 2147483647), (31, [4], [], 0), (30, [7], [], 0), (20, [7, 1], [1], 3), (23, [1], [1], 4), (90, [7], [], -2147483648), (91, [7], [], 2147483647), (45, [5, 6], [], 0), (0, [6], [], 500), (5000, [0, 1, 2, 3, 4, 5], [0, 1], 14), (0, [0], [], 30), (0, [1], [], 30), (90, [2], [], -2147483648), (91, [2], [], 2147483647), (90, [3], [], -2147483648), (91, [3], [], 2147483647), (90, [4], [], -2147483648), (91, [4], [], 2147483647), (90, [5], [], -2147483648), (91, [5], [], 2147483647)], (4000, [1, 2, 21, 4, 5, 20], [2], 228))
theorem c_92o_14_43 {q0 : Nat} : vOkm T0 (eN e_92v L_92o A_92v mu_92v no_92 Bo_92 (some q0)) 1 g_92o_14_43 := vOk_inI fun ρ η f0 f1 f2 f3 f4 f5 f6 f7 f8 f9 f10 f11 f12 f13 f14 f15 f16 f17 f18 f19 f20 f21 f22 f23 f24 f25 f26 f27 f28 f29 f30 f31 f32 f33 f34 f35 f36 f37 f38 f39 f40 f41 f42 f43 f44 f45 f46 f47 f48 f49 f50 f51 f52 f53 f54 f55 f56 f57 f58 f59 f60 => q_92o_44 (q0 := q0) (n0 := ρ 5) (n1 := ρ 4) (n2 := ρ 3) (n3 := ρ 2) (n4 := ρ 1) (n5 := ρ 0) (n6 := ρ 6) (n7 := ρ 7) (n8 := ρ 8) (n9 := ρ 9) (n10 := ρ 10) (n11 := ρ 11) (n12 := ρ 12) (n13 := ρ 13) (n14 := ρ 14) (n15 := ρ 15) (n16 := ρ 16) (n17 := ρ 17) (n18 := ρ 18) (n19 := ρ 19) (n20 := ρ 20) (n21 := ρ 21) (H0 := η 0) (H1 := η 1) (H2 := η 2) f60 f59 f58 f57 f56 f55 f54 f53 f52 f51 f50 f49 f48 f47 f46 f45 f44 f43 f42 f41 f40 f39 f38 f37 f36 f35 f34 f33 f32 f31 f30 f29 f28 f27 f26 f25 f24 f23 f22 f21 f20 f19 f18 f17 f16 f15 f14 f13 f12 f11 f10 f9 f8 f7 f6 f5 f4 f3 f2 f1 f0
theorem q_92o_45 {q0 : Nat} {n0 n1 n2 n3 n4 n5 n6 n7 n8 n9 n10 n11 n12 : Int} {H0 H1 H2 : gH} (f0 : n0 ≤ 2147483647) (f1 : (-2147483648) ≤ n0) (f2 : n1 ≤ 2147483647) (f3 : (-2147483648) ≤ n1) (f4 : n2 ≤ 2147483647) (f5 : (-2147483648) ≤ n2) (f6 : n3 ≤ 2147483647) (f7 : (-2147483648) ≤ n3) (f8 : n4 = 30) (f9 : n5 = 30) (f10 : (hLe T0 H0 H1 ∧ hFr s_92v.2.2.2.2 H0 H1 ∧ hWt T0 H1) ∧ ((Ab_92v_14 n5 n4 n3 n2 n1 n0 H0 H1 ∧ Bbo_92_14 n5 n4 n3 n2 n1 n0 H0 H1) ∧ preb_92v n5 H0) ∧ some q0 = some (mub_92v_14 n5 n4 n3 n2 n1 n0 H0 H1)) (f11 : n6 = 500) (f12 : n0 ≤ n6) (f13 : n7 ≤ 2147483647) (f14 : (-2147483648) ≤ n7) (f15 : hK H1 (n4).toNat = 4) (f16 : n7 = hV H1 (n4).toNat 3) (f17 : n7 = 0) (f18 : n1 ≠ 0) (f19 : n8 ≤ 2147483647) (f20 : (-2147483648) ≤ n8) (f21 : hK H1 (n4).toNat = 4) (f22 : n8 = hV H1 (n4).toNat 2) (f23 : n2 ≠ 0) (f24 : n9 ≤ 2147483647) (f25 : (-2147483648) ≤ n9) (f26 : hK H1 (n4).toNat = 4) (f27 : n9 = hV H1 (n4).toNat 2) (f28 : n10 = 10) (f29 : n9 = n10) (f30 : n11 = w32 (n3 + 1)) (f31 : n12 ≤ 2147483647) (f32 : (-2147483648) ≤ n12) (f33 : hK H1 (n4).toNat = 4) (f34 : n12 = hV H1 (n4).toNat 2) (f35 : (hLe T0 H1 H2 ∧ hFr s_94.2.2.2.2 H1 H2 ∧ ((0 : Int) = 0 → H2.length = H1.length) ∧ hWt T0 H2) ∧ (True ∧ nbo_94 n4 n12 H1 H2)) : Bbo_92_228 n5 n4 n11 n2 n1 n0 n8 H0 H2 := by
  unfold Bbo_92_228
  intro d ed zo w49
  have pz := f10.2.1.2
  unfold preb_92v at pz
  have ga := f10.2.1.1.1
  unfold Ab_92v_14 at ga
  have vz : vwC H1 = vwC H0 := vwC_fr f10.1.2.1 (by decide +kernel)
  have s0 := PF_fr f35.1.1 f35.1.2.1 (by decide +kernel) ga.1
  have a0 : absC H2 = (absC H1) := s0.1
  have v0 : vwC H2 = vwC H0 := s0.2.1.trans vz
  have gb := f10.2.1.1.2
  unfold Bbo_92_14 at gb
  obtain ⟨ko, w1, k⟩ := gb d ed zo w49
  have zo1 := ko.1
  have e8 : hV H1 30 8 = d := (f10.1.2.1.1 30 8 (by decide +kernel)).trans ed.symm
  have gc := ga
  have nw := ga.1.2.2.2.1.2.1
  have r16 : n7 = hV H1 30 3 := by
    have w := f16
    rw [f8] at w
    exact w
  have r22 : n8 = hV H1 30 2 := by
    have w := f22
    rw [f8] at w
    exact w
  have r27 : n9 = hV H1 30 2 := by
    have w := f27
    rw [f8] at w
    exact w
  have r34 : n12 = hV H1 30 2 := by
    have w := f34
    rw [f8] at w
    exact w
  obtain ⟨_, s0_, o0, o7, w01, m01, xn, ya, yb⟩ := gc
  have q30_ := f30
  unfold w32 at q30_
  have hf : hV H1 30 3 = 0 := by omega
  have ap := absC_pos ga.1 hf
  have x5 := xn hf
  have hv : (vwC H0).1 (absC H1).1 = hV H1 30 2 := by
    have u := (kd_at ga.1).resolve_left (by omega)
    rw [vz] at u
    exact u
  have qh := f35.2.2
  unfold nbo_94 at qh
  refine ⟨KO_tr ko (KO_sm zo1 (SMf_fr f35.1.1 f35.1.2.1 (by decide +kernel) (by decide +kernel))), W49_le f35.1.1 w1, fun L cd hl hp => ⟨fun m1 x5 => ?_, fun m0 => by exfalso; omega⟩⟩
  rw [a0]
  obtain ⟨rs, mz⟩ := k L cd hl ap.2
  rw [show n2 = 1 by omega]
  exact RTk_open zo1 w1 rs (by omega) hl (by omega) (by omega) (by omega) (SMf_fr f35.1.1 f35.1.2.1 (by decide +kernel) (by decide +kernel)) qh (by omega) (by omega)
def g_92o_14_44 : vG := ([(1094, [1, 12], [1, 2], 0), (20, [12, 1], [1], 2), (23, [1], [1], 4), (90, [12], [], -2147483648), (91, [12], [], 2147483647), (10, [11, 2], [], 1), (40, [9, 10], [], 0), (0, [10], [], 10), (20, [9, 1], [1], 2), (23, [1], [1], 4), (90, [9], [], -2147483648), (91, [9], [], 2147483647), (31, [3], [], 0), (20, [8, 1], [1], 2), (23, [1], [1], 4), (90, [8], [], -2147483648), (91, [8], [], 2147483647), (31, [4], [], 0), (30, [7], [], 0), (20, [7, 1], [1], 3), (23, [1], [1], 4), (90, [7], [], -2147483648), (91, [7], [], 2147483647), (45, [5, 6], [], 0), (0, [6], [], 500), (5000, [0, 1, 2, 3, 4, 5], [0, 1], 14), (0, [0], [], 30), (0, [1], [], 30), (90, [2], [], -2147483648), (91, [2], [], 2147483647), (90, [3], [], -2147483648), (91, [3], [], 2147483647), (90, [4], [], -2147483648), (91, [4], [], 2147483647), (90, [5], [], -2147483648), (91, [5], [], 2147483647)], (4000, [1, 11, 3, 4, 5, 8], [2], 228))
theorem c_92o_14_44 {q0 : Nat} : vOkm T0 (eN e_92v L_92o A_92v mu_92v no_92 Bo_92 (some q0)) 1 g_92o_14_44 := vOk_inI fun ρ η f0 f1 f2 f3 f4 f5 f6 f7 f8 f9 f10 f11 f12 f13 f14 f15 f16 f17 f18 f19 f20 f21 f22 f23 f24 f25 f26 f27 f28 f29 f30 f31 f32 f33 f34 f35 => q_92o_45 (q0 := q0) (n0 := ρ 5) (n1 := ρ 4) (n2 := ρ 3) (n3 := ρ 2) (n4 := ρ 1) (n5 := ρ 0) (n6 := ρ 6) (n7 := ρ 7) (n8 := ρ 8) (n9 := ρ 9) (n10 := ρ 10) (n11 := ρ 11) (n12 := ρ 12) (H0 := η 0) (H1 := η 1) (H2 := η 2) f35 f34 f33 f32 f31 f30 f29 f28 f27 f26 f25 f24 f23 f22 f21 f20 f19 f18 f17 f16 f15 f14 f13 f12 f11 f10 f9 f8 f7 f6 f5 f4 f3 f2 f1 f0
def p_92o_14 : List vG := [g_92o_14_0,
  g_92o_14_1,
  g_92o_14_2,
  g_92o_14_3,
  g_92o_14_4,
  g_92o_14_5,
  g_92o_14_6,
  g_92o_14_7,
  g_92o_14_8,
  g_92o_14_9,
  g_92o_14_10,
  g_92o_14_11,
  g_92o_14_12,
  g_92o_14_13,
  g_92o_14_14,
  g_92o_14_15,
  g_92o_14_16,
  g_92o_14_17,
  g_92o_14_18,
  g_92o_14_19,
  g_92o_14_20,
  g_92o_14_21,
  g_92o_14_22,
  g_92o_14_23,
  g_92o_14_24,
  g_92o_14_25,
  g_92o_14_26,
  g_92o_14_27,
  g_92o_14_28,
  g_92o_14_29,
  g_92o_14_30,
  g_92o_14_31,
  g_92o_14_32,
  g_92o_14_33,
  g_92o_14_34,
  g_92o_14_35,
  g_92o_14_36,
  g_92o_14_37,
  g_92o_14_38,
  g_92o_14_39,
  g_92o_14_40,
  g_92o_14_41,
  g_92o_14_42,
  g_92o_14_43,
  g_92o_14_44]
theorem r_92o_14 : vCovBO (eRc e_92v L_92v cs_92v 2000 (14, [(0, (3, 4, 30, 0)), (1, (0, -2147483648, 2147483647, 0)), (2, (0, -2147483648, 2147483647, 0)), (3, (0, -2147483648, 2147483647, 0)), (4, (0, -2147483648, 2147483647, 0))])) p_92o_14 = true := by decide +kernel
theorem q_92o_46 {q0 : Nat} {n0 n1 n2 n3 n4 n5 n6 n7 n8 : Int} {H0 H1 : gH} (f0 : n0 ≤ 2147483647) (f1 : (-2147483648) ≤ n0) (f2 : n1 ≤ 2147483647) (f3 : (-2147483648) ≤ n1) (f4 : n2 ≤ 2147483647) (f5 : (-2147483648) ≤ n2) (f6 : n3 ≤ 2147483647) (f7 : (-2147483648) ≤ n3) (f8 : n4 ≤ 2147483647) (f9 : (-2147483648) ≤ n4) (f10 : n5 = 30) (f11 : n6 = 30) (f12 : (hLe T0 H0 H1 ∧ hFr s_92v.2.2.2.2 H0 H1 ∧ hWt T0 H1) ∧ ((Ab_92v_228 n6 n5 n4 n3 n2 n1 n0 H0 H1 ∧ Bbo_92_228 n6 n5 n4 n3 n2 n1 n0 H0 H1) ∧ preb_92v n6 H0) ∧ some q0 = some (mub_92v_228 n6 n5 n4 n3 n2 n1 n0 H0 H1)) (f13 : n7 = 6) (f14 : n4 ≤ n7) (f15 : n2 = 0) (f16 : n8 = w32 (n1 + 1)) : Bbo_92_14 n6 n5 n4 n3 n2 n8 H0 H1 := by
  unfold Bbo_92_14
  intro d ed zo w49
  have pz := f12.2.1.2
  unfold preb_92v at pz
  have ga := f12.2.1.1.1
  unfold Ab_92v_228 at ga
  have vz : vwC H1 = vwC H0 := vwC_fr f12.1.2.1 (by decide +kernel)
  have gb := f12.2.1.1.2
  unfold Bbo_92_228 at gb
  obtain ⟨ko, w1, k⟩ := gb d ed zo w49
  have zo1 := ko.1
  have e8 : hV H1 30 8 = d := (f12.1.2.1.1 30 8 (by decide +kernel)).trans ed.symm
  have gc := ga
  have nw := ga.1.2.2.2.1.2.1
  obtain ⟨_, f0, s0_, s5, o0, o7, w01, m01, xn, y1, y2, y3⟩ := gc
  refine ⟨ko, w1, fun L cd hl hp => ?_⟩
  have y := (k L cd hl hp).2 (by omega)
  exact ⟨y.1, fun _ => y.2⟩
def g_92o_228_0 : vG := ([(10, [8, 5], [], 1), (30, [4], [], 0), (45, [2, 7], [], 0), (0, [7], [], 6), (5000, [0, 1, 2, 3, 4, 5, 6], [0, 1], 228), (0, [0], [], 30), (0, [1], [], 30), (90, [2], [], -2147483648), (91, [2], [], 2147483647), (90, [3], [], -2147483648), (91, [3], [], 2147483647), (90, [4], [], -2147483648), (91, [4], [], 2147483647), (90, [5], [], -2147483648), (91, [5], [], 2147483647), (90, [6], [], -2147483648), (91, [6], [], 2147483647)], (4000, [1, 2, 3, 4, 8], [1], 14))
theorem c_92o_228_0 {q0 : Nat} : vOkm T0 (eN e_92v L_92o A_92v mu_92v no_92 Bo_92 (some q0)) 1 g_92o_228_0 := vOk_inI fun ρ η f0 f1 f2 f3 f4 f5 f6 f7 f8 f9 f10 f11 f12 f13 f14 f15 f16 => q_92o_46 (q0 := q0) (n0 := ρ 6) (n1 := ρ 5) (n2 := ρ 4) (n3 := ρ 3) (n4 := ρ 2) (n5 := ρ 1) (n6 := ρ 0) (n7 := ρ 7) (n8 := ρ 8) (H0 := η 0) (H1 := η 1) f16 f15 f14 f13 f12 f11 f10 f9 f8 f7 f6 f5 f4 f3 f2 f1 f0
theorem q_92o_47 {q0 : Nat} {n0 n1 n2 n3 n4 n5 n6 n7 n8 : Int} {H0 H1 H2 : gH} (f0 : n0 ≤ 2147483647) (f1 : (-2147483648) ≤ n0) (f2 : n1 ≤ 2147483647) (f3 : (-2147483648) ≤ n1) (f4 : n2 ≤ 2147483647) (f5 : (-2147483648) ≤ n2) (f6 : n3 ≤ 2147483647) (f7 : (-2147483648) ≤ n3) (f8 : n4 ≤ 2147483647) (f9 : (-2147483648) ≤ n4) (f10 : n5 = 30) (f11 : n6 = 30) (f12 : (hLe T0 H0 H1 ∧ hFr s_92v.2.2.2.2 H0 H1 ∧ hWt T0 H1) ∧ ((Ab_92v_228 n6 n5 n4 n3 n2 n1 n0 H0 H1 ∧ Bbo_92_228 n6 n5 n4 n3 n2 n1 n0 H0 H1) ∧ preb_92v n6 H0) ∧ some q0 = some (mub_92v_228 n6 n5 n4 n3 n2 n1 n0 H0 H1)) (f13 : n7 = 6) (f14 : n4 ≤ n7) (f15 : n2 ≠ 0) (f16 : (hLe T0 H1 H2 ∧ hFr s_66v.2.2.2.2 H1 H2 ∧ ((0 : Int) = 0 → H2.length = H1.length) ∧ hWt T0 H2) ∧ postb_66v n5 n0 H1 H2) (f17 : n8 = w32 (n1 + 1)) : Bbo_92_14 n6 n5 n4 n3 n2 n8 H0 H2 := by
  unfold Bbo_92_14
  intro d ed zo w49
  have pz := f12.2.1.2
  unfold preb_92v at pz
  have ga := f12.2.1.1.1
  unfold Ab_92v_228 at ga
  have vz : vwC H1 = vwC H0 := vwC_fr f12.1.2.1 (by decide +kernel)
  have c0 := f16.2
  unfold postb_66v at c0
  rw [vz] at c0
  have a0 : absC H2 = (ptk (vwC H0) n0 (absC H1)) := c0.2
  have v0 : vwC H2 = vwC H0 := (vwC_fr f16.1.2.1 (by decide +kernel)).trans vz
  have gb := f12.2.1.1.2
  unfold Bbo_92_228 at gb
  obtain ⟨ko, w1, k⟩ := gb d ed zo w49
  have zo1 := ko.1
  have e8 : hV H1 30 8 = d := (f12.1.2.1.1 30 8 (by decide +kernel)).trans ed.symm
  have gc := ga
  have nw := ga.1.2.2.2.1.2.1
  obtain ⟨_, f0, s0_, s5, o0, o7, w01, m01, xn, y1, y2, y3⟩ := gc
  refine ⟨KO_tr ko (KO_sm zo1 (SMf_fr f16.1.1 f16.1.2.1 (by decide +kernel) (by decide +kernel))), W49_le f16.1.1 w1, fun L cd hl hp => ?_⟩
  rw [a0] at hp ⊢
  have kq := pt1_kind (h := H0) pz.2.1 (c := n0) (s := (absC H1).1) hp
  have pn := ptk_next (h := H0) pz.2.1 (c := n0) (p := absC H1) hp
  have rt := (k L cd hl kq.1).1 (by omega) kq.2.symm
  exact ⟨RTk_take zo1 rt (SMf_fr f16.1.1 f16.1.2.1 (by decide +kernel) (by decide +kernel)) (f16.1.2.1.1 30 15 (by decide +kernel)) (fRow f16.1.2.1 49 (by decide +kernel)) pn, fun m0 => by omega⟩
def g_92o_228_1 : vG := ([(10, [8, 5], [], 1), (1066, [1, 6], [1, 2], 0), (31, [4], [], 0), (45, [2, 7], [], 0), (0, [7], [], 6), (5000, [0, 1, 2, 3, 4, 5, 6], [0, 1], 228), (0, [0], [], 30), (0, [1], [], 30), (90, [2], [], -2147483648), (91, [2], [], 2147483647), (90, [3], [], -2147483648), (91, [3], [], 2147483647), (90, [4], [], -2147483648), (91, [4], [], 2147483647), (90, [5], [], -2147483648), (91, [5], [], 2147483647), (90, [6], [], -2147483648), (91, [6], [], 2147483647)], (4000, [1, 2, 3, 4, 8], [2], 14))
theorem c_92o_228_1 {q0 : Nat} : vOkm T0 (eN e_92v L_92o A_92v mu_92v no_92 Bo_92 (some q0)) 1 g_92o_228_1 := vOk_inI fun ρ η f0 f1 f2 f3 f4 f5 f6 f7 f8 f9 f10 f11 f12 f13 f14 f15 f16 f17 => q_92o_47 (q0 := q0) (n0 := ρ 6) (n1 := ρ 5) (n2 := ρ 4) (n3 := ρ 3) (n4 := ρ 2) (n5 := ρ 1) (n6 := ρ 0) (n7 := ρ 7) (n8 := ρ 8) (H0 := η 0) (H1 := η 1) (H2 := η 2) f17 f16 f15 f14 f13 f12 f11 f10 f9 f8 f7 f6 f5 f4 f3 f2 f1 f0
theorem q_92o_48 {q0 : Nat} {n0 n1 n2 n3 n4 n5 n6 n7 n8 n9 : Int} {H0 H1 H2 : gH} (f0 : n0 ≤ 2147483647) (f1 : (-2147483648) ≤ n0) (f2 : n1 ≤ 2147483647) (f3 : (-2147483648) ≤ n1) (f4 : n2 ≤ 2147483647) (f5 : (-2147483648) ≤ n2) (f6 : n3 ≤ 2147483647) (f7 : (-2147483648) ≤ n3) (f8 : n4 ≤ 2147483647) (f9 : (-2147483648) ≤ n4) (f10 : n5 = 30) (f11 : n6 = 30) (f12 : (hLe T0 H0 H1 ∧ hFr s_92v.2.2.2.2 H0 H1 ∧ hWt T0 H1) ∧ ((Ab_92v_228 n6 n5 n4 n3 n2 n1 n0 H0 H1 ∧ Bbo_92_228 n6 n5 n4 n3 n2 n1 n0 H0 H1) ∧ preb_92v n6 H0) ∧ some q0 = some (mub_92v_228 n6 n5 n4 n3 n2 n1 n0 H0 H1)) (f13 : n7 = 6) (f14 : n7 < n4) (f15 : n8 = 2) (f16 : (hLe T0 H1 H2 ∧ hFr s_64v.2.2.2.2 H1 H2 ∧ ((0 : Int) = 0 → H2.length = H1.length) ∧ hWt T0 H2) ∧ postb_64v n5 n8 H1 H2) (f17 : n9 = w32 (n1 + 1)) : Bbo_92_14 n6 n5 n4 n3 n2 n9 H0 H2 := by
  unfold Bbo_92_14
  intro d ed zo w49
  have pz := f12.2.1.2
  unfold preb_92v at pz
  have ga := f12.2.1.1.1
  unfold Ab_92v_228 at ga
  have vz : vwC H1 = vwC H0 := vwC_fr f12.1.2.1 (by decide +kernel)
  have c0 := f16.2
  unfold postb_64v at c0
  try rw [f15] at c0
  rw [vz] at c0
  have a0 : absC H2 = (pfail (vwC H0) 2 (absC H1)) := c0.2
  have v0 : vwC H2 = vwC H0 := (vwC_fr f16.1.2.1 (by decide +kernel)).trans vz
  have gb := f12.2.1.1.2
  unfold Bbo_92_228 at gb
  obtain ⟨ko, w1, k⟩ := gb d ed zo w49
  have zo1 := ko.1
  have e8 : hV H1 30 8 = d := (f12.1.2.1.1 30 8 (by decide +kernel)).trans ed.symm
  have gc := ga
  have nw := ga.1.2.2.2.1.2.1
  obtain ⟨_, f0, s0_, s5, o0, o7, w01, m01, xn, y1, y2, y3⟩ := gc
  refine ⟨KO_tr ko (KO_sm zo1 (SMf_fr f16.1.1 f16.1.2.1 (by decide +kernel) (by decide +kernel))), W49_le f16.1.1 w1, fun L cd hl hp => ?_⟩
  exfalso
  rw [a0] at hp
  have := pfail_lt pz (f := 2) (by decide) (p := absC H1)
  omega
def g_92o_228_2 : vG := ([(10, [9, 5], [], 1), (1064, [1, 8], [1, 2], 0), (0, [8], [], 2), (44, [2, 7], [], 0), (0, [7], [], 6), (5000, [0, 1, 2, 3, 4, 5, 6], [0, 1], 228), (0, [0], [], 30), (0, [1], [], 30), (90, [2], [], -2147483648), (91, [2], [], 2147483647), (90, [3], [], -2147483648), (91, [3], [], 2147483647), (90, [4], [], -2147483648), (91, [4], [], 2147483647), (90, [5], [], -2147483648), (91, [5], [], 2147483647), (90, [6], [], -2147483648), (91, [6], [], 2147483647)], (4000, [1, 2, 3, 4, 9], [2], 14))
theorem c_92o_228_2 {q0 : Nat} : vOkm T0 (eN e_92v L_92o A_92v mu_92v no_92 Bo_92 (some q0)) 1 g_92o_228_2 := vOk_inI fun ρ η f0 f1 f2 f3 f4 f5 f6 f7 f8 f9 f10 f11 f12 f13 f14 f15 f16 f17 => q_92o_48 (q0 := q0) (n0 := ρ 6) (n1 := ρ 5) (n2 := ρ 4) (n3 := ρ 3) (n4 := ρ 2) (n5 := ρ 1) (n6 := ρ 0) (n7 := ρ 7) (n8 := ρ 8) (n9 := ρ 9) (H0 := η 0) (H1 := η 1) (H2 := η 2) f17 f16 f15 f14 f13 f12 f11 f10 f9 f8 f7 f6 f5 f4 f3 f2 f1 f0
def p_92o_228 : List vG := [g_92o_228_0,
  g_92o_228_1,
  g_92o_228_2]
theorem r_92o_228 : vCovBO (eRc e_92v L_92v cs_92v 2000 (228, [(0, (3, 4, 30, 0)), (1, (0, -2147483648, 2147483647, 0)), (2, (0, -2147483648, 2147483647, 0)), (3, (0, -2147483648, 2147483647, 0)), (4, (0, -2147483648, 2147483647, 0)), (5, (0, -2147483648, 2147483647, 0))])) p_92o_228 = true := by decide +kernel
theorem m_92o (d : Nat) : eC e_92o (d + 3) := eC_ref (e := e_92v) (L := L_92v) (L' := L_92o) (cs := cs_92v) (n := 2000) (d := d + 2) (A := A_92v) (μ := mu_92v) (tp := false) (p0 := p_92v_s) (p1 := p_92o_s) (N := no_92) (B := Bo_92) rfl ⟨m_64v (d + 1), ⟨m_66v d, ⟨m_93o (d + 1), ⟨m_94o d, ⟨m_95o d, ⟨m_98o (d + 1), ⟨m_123v (d + 1), trivial⟩⟩⟩⟩⟩⟩⟩ rfl (.inl rfl) (by decide +kernel) (fun z => nomatch z) r_92v_s (allC c_92v_s_0 allN) (allC (.inl ⟨p_92v_14, r_92v_14, fun q0 => (allC c_92v_14_0 (allC c_92v_14_1 (allC c_92v_14_2 (allC c_92v_14_3 (allC c_92v_14_4 (allC c_92v_14_5 (allC c_92v_14_6 (allC c_92v_14_7 (allC c_92v_14_8 (allC c_92v_14_9 (allC c_92v_14_10 (allC c_92v_14_11 (allC c_92v_14_12 (allC c_92v_14_13 (allC c_92v_14_14 (allC c_92v_14_15 (allC c_92v_14_16 (allC c_92v_14_17 (allC c_92v_14_18 (allC c_92v_14_19 (allC c_92v_14_20 (allC c_92v_14_21 (allC c_92v_14_22 (allC c_92v_14_23 (allC c_92v_14_24 (allC c_92v_14_25 (allC c_92v_14_26 (allC c_92v_14_27 (allC c_92v_14_28 (allC c_92v_14_29 (allC c_92v_14_30 (allC c_92v_14_31 (allC c_92v_14_32 (allC c_92v_14_33 (allC c_92v_14_34 (allC c_92v_14_35 (allC c_92v_14_36 (allC c_92v_14_37 (allC c_92v_14_38 (allC c_92v_14_39 (allC c_92v_14_40 (allC c_92v_14_41 (allC c_92v_14_42 (allC c_92v_14_43 (allC c_92v_14_44 (allC c_92v_14_45 (allC c_92v_14_46 (allC c_92v_14_47 (allC c_92v_14_48 (allC c_92v_14_49 (allC c_92v_14_50 (allC c_92v_14_51 (allC c_92v_14_52 (allC c_92v_14_53 allN))))))))))))))))))))))))))))))))))))))))))))))))))))))⟩) (allC (.inl ⟨p_92v_228, r_92v_228, fun q0 => (allC c_92v_228_0 (allC c_92v_228_1 (allC c_92v_228_2 (allC c_92v_228_3 (allC c_92v_228_4 allN)))))⟩) allN)) (sub0 (sub0 (sub1 (sub1 (sub1 (sub1 (sub0 trivial))))))) r_92o_s (allC c_92o_s_0 allN) (allC ⟨p_92o_14, r_92o_14, fun q0 => (allC c_92o_14_0 (allC c_92o_14_1 (allC c_92o_14_2 (allC c_92o_14_3 (allC c_92o_14_4 (allC c_92o_14_5 (allC c_92o_14_6 (allC c_92o_14_7 (allC c_92o_14_8 (allC c_92o_14_9 (allC c_92o_14_10 (allC c_92o_14_11 (allC c_92o_14_12 (allC c_92o_14_13 (allC c_92o_14_14 (allC c_92o_14_15 (allC c_92o_14_16 (allC c_92o_14_17 (allC c_92o_14_18 (allC c_92o_14_19 (allC c_92o_14_20 (allC c_92o_14_21 (allC c_92o_14_22 (allC c_92o_14_23 (allC c_92o_14_24 (allC c_92o_14_25 (allC c_92o_14_26 (allC c_92o_14_27 (allC c_92o_14_28 (allC c_92o_14_29 (allC c_92o_14_30 (allC c_92o_14_31 (allC c_92o_14_32 (allC c_92o_14_33 (allC c_92o_14_34 (allC c_92o_14_35 (allC c_92o_14_36 (allC c_92o_14_37 (allC c_92o_14_38 (allC c_92o_14_39 (allC c_92o_14_40 (allC c_92o_14_41 (allC c_92o_14_42 (allC c_92o_14_43 (allC c_92o_14_44 allN)))))))))))))))))))))))))))))))))))))))))))))⟩ (allC ⟨p_92o_228, r_92o_228, fun q0 => (allC c_92o_228_0 (allC c_92o_228_1 (allC c_92o_228_2 allN)))⟩ allN))
