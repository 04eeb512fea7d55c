/- Reader.readCondition ()V, more fully -/
def nbo_88 (a0 : Int) (h0 h : gH) : Prop := ∀ d : Int, d = hV h0 30 8 → RO h0 d → W49 h0 → KO h0 h d ∧ W49 h ∧ ∀ L : List Int, CODE h0 d L → (L.length : Int) ≤ (absC h0).1 → 0 ≤ (absC h).1 → CNe h d L (xCond (vwC h0) 502 true (absC h0)) (absC h)
def no_88 : List Int → gH → gH → Prop := fun xs h0 h => match xs with
  | [a0] => nbo_88 a0 h0 h
  | _ => True
noncomputable def e_88o : vE := eV e_88v no_88
noncomputable def L_88o : List vE := [e_66v, e_89o, e_90o, e_91o, e_92o, e_98o]
def Bbo_88_9 (a0 x0 x1 x2 x3 x4 : Int) (h0 h : gH) : Prop := ∀ d : Int, d = hV h0 30 8 → RO h0 d → W49 h0 → KO h0 h d ∧ W49 h ∧ ∀ L : List Int, CODE h0 d L → (L.length : Int) ≤ (absC h0).1 → 0 ≤ (absC h).1 → (x3 = 1 → CNi h d L (vwC h0) (xCond (vwC h0) 502 true (absC h0)) (502 - x4).toNat x1 x2 (absC h)) ∧ (x3 = 0 → CNe h d L (xCond (vwC h0) 502 true (absC h0)) (absC h))
def Bbo_88_122 (a0 x0 x1 x2 x3 x4 x5 x6 : Int) (h0 h : gH) : Prop := ∀ d : Int, d = hV h0 30 8 → RO h0 d → W49 h0 → KO h0 h d ∧ W49 h ∧ ∀ L : List Int, CODE h0 d L → (L.length : Int) ≤ (absC h0).1 → 0 ≤ (absC h).1 → CNk h d L (vwC h0) (xCond (vwC h0) 502 true (absC h0)) ((502 - x4).toNat - 1) x1 x2 (absC h)
def Bo_88 : Int → List Int → gH → gH → Prop := fun c xs h0 h => match c.toNat with
  | 9 => (match xs with
    | [a0, x0, x1, x2, x3, x4] => Bbo_88_9 a0 x0 x1 x2 x3 x4 h0 h
    | _ => False)
  | 122 => (match xs with
    | [a0, x0, x1, x2, x3, x4, x5, x6] => Bbo_88_122 a0 x0 x1 x2 x3 x4 x5 x6 h0 h
    | _ => False)
  | _ => True
theorem q_88o_0 {n0 n1 n2 n3 n4 : Int} {H0 : gH} (f0 : n0 = 30) (f1 : hWt T0 H0 ∧ preb_88v n0 H0) (f2 : n1 = 0) (f3 : n2 = 0) (f4 : n3 = 1) (f5 : n4 = 0) : Bbo_88_9 n0 n0 n1 n2 n3 n4 H0 H0 := by
  unfold Bbo_88_9
  intro d ed zo w49
  have pz := f1.2
  unfold preb_88v at pz
  refine ⟨KO_rfl zo, w49, fun L cd hl hp => ⟨fun _ => ?_, fun m0 => by exfalso; omega⟩⟩
  rw [show (502 - n4).toNat = 502 by omega]
  exact CNi_0 cd hl (by omega) (by omega)
def g_88o_s_0 : vG := ([(0, [4], [], 0), (0, [3], [], 1), (0, [2], [], 0), (0, [1], [], 0), (6000, [0], [0], 0), (0, [0], [], 30)], (4000, [0, 1, 2, 3, 4], [0], 9))
theorem c_88o_s_0 : vOkm T0 (eN e_88v L_88o A_88v mu_88v no_88 Bo_88 none) 1 g_88o_s_0 := vOk_inI fun ρ η f0 f1 f2 f3 f4 f5 => q_88o_0 (n0 := ρ 0) (n1 := ρ 1) (n2 := ρ 2) (n3 := ρ 3) (n4 := ρ 4) (H0 := η 0) f5 f4 f3 f2 f1 f0
def p_88o_s : List vG := [g_88o_s_0]
theorem r_88o_s : vCovBO (eR0 e_88v L_88v cs_88v 2000) p_88o_s = true := by decide +kernel
theorem q_88o_1 {q0 : Nat} {n0 n1 n2 n3 n4 n5 n6 : Int} {H0 H1 : gH} (f0 : n0 ≤ 2147483647) (f1 : (-2147483648) ≤ n0) (f2 : n1 ≤ 2147483647) (f3 : (-2147483648) ≤ n1) (f4 : n2 ≤ 2147483647) (f5 : (-2147483648) ≤ n2) (f6 : n3 ≤ 2147483647) (f7 : (-2147483648) ≤ n3) (f8 : n4 = 30) (f9 : n5 = 30) (f10 : (hLe T0 H0 H1 ∧ hFr s_88v.2.2.2.2 H0 H1 ∧ hWt T0 H1) ∧ ((Ab_88v_9 n5 n4 n3 n2 n1 n0 H0 H1 ∧ Bbo_88_9 n5 n4 n3 n2 n1 n0 H0 H1) ∧ preb_88v n5 H0) ∧ some q0 = some (mub_88v_9 n5 n4 n3 n2 n1 n0 H0 H1)) (f11 : n6 = 500) (f12 : n6 < n0) : nbo_88 n5 H0 H1 := by
  unfold nbo_88
  intro d ed zo w49
  have pz := f10.2.1.2
  unfold preb_88v at pz
  have ga := f10.2.1.1.1
  unfold Ab_88v_9 at ga
  have vz : vwC H1 = vwC H0 := vwC_fr f10.1.2.1 (by decide +kernel)
  have gb := f10.2.1.1.2
  unfold Bbo_88_9 at gb
  obtain ⟨ko, w1, k⟩ := gb d ed zo w49
  have zo1 := ko.1
  have e8 : hV H1 30 8 = d := (f10.1.2.1.1 30 8 (by decide +kernel)).trans ed.symm
  have gc := ga
  obtain ⟨_, s0_, m01, xn, ya, yb⟩ := gc
  refine ⟨ko, w1, fun L cd hl hp => ?_⟩
  have hf : hV H1 30 3 = 0 := Classical.byContradiction fun n => by
    have := absC_neg ga.1 n
    omega
  have x5 := xn hf
  have nw := ga.1.2.2.2.1.2.1
  exact (k L cd hl hp).2 (by omega)
def g_88o_9_0 : vG := ([(44, [5, 6], [], 0), (0, [6], [], 500), (5000, [0, 1, 2, 3, 4, 5], [0, 1], 9), (0, [0], [], 30), (0, [1], [], 30), (90, [2], [], -2147483648), (91, [2], [], 2147483647), (90, [3], [], -2147483648), (91, [3], [], 2147483647), (90, [4], [], -2147483648), (91, [4], [], 2147483647), (90, [5], [], -2147483648), (91, [5], [], 2147483647)], (3000, [], [1], 164))
theorem c_88o_9_0 {q0 : Nat} : vOkm T0 (eN e_88v L_88o A_88v mu_88v no_88 Bo_88 (some q0)) 1 g_88o_9_0 := vOk_inI fun ρ η f0 f1 f2 f3 f4 f5 f6 f7 f8 f9 f10 f11 f12 => q_88o_1 (q0 := q0) (n0 := ρ 5) (n1 := ρ 4) (n2 := ρ 3) (n3 := ρ 2) (n4 := ρ 1) (n5 := ρ 0) (n6 := ρ 6) (H0 := η 0) (H1 := η 1) f12 f11 f10 f9 f8 f7 f6 f5 f4 f3 f2 f1 f0
theorem q_88o_2 {q0 : Nat} {n0 n1 n2 n3 n4 n5 n6 n7 : Int} {H0 H1 : gH} (f0 : n0 ≤ 2147483647) (f1 : (-2147483648) ≤ n0) (f2 : n1 ≤ 2147483647) (f3 : (-2147483648) ≤ n1) (f4 : n2 ≤ 2147483647) (f5 : (-2147483648) ≤ n2) (f6 : n3 ≤ 2147483647) (f7 : (-2147483648) ≤ n3) (f8 : n4 = 30) (f9 : n5 = 30) (f10 : (hLe T0 H0 H1 ∧ hFr s_88v.2.2.2.2 H0 H1 ∧ hWt T0 H1) ∧ ((Ab_88v_9 n5 n4 n3 n2 n1 n0 H0 H1 ∧ Bbo_88_9 n5 n4 n3 n2 n1 n0 H0 H1) ∧ preb_88v n5 H0) ∧ some q0 = some (mub_88v_9 n5 n4 n3 n2 n1 n0 H0 H1)) (f11 : n6 = 500) (f12 : n0 ≤ n6) (f13 : n7 ≤ 2147483647) (f14 : (-2147483648) ≤ n7) (f15 : hK H1 (n4).toNat = 4) (f16 : n7 = hV H1 (n4).toNat 3) (f17 : n7 ≠ 0) : nbo_88 n5 H0 H1 := by
  unfold nbo_88
  intro d ed zo w49
  have pz := f10.2.1.2
  unfold preb_88v at pz
  have ga := f10.2.1.1.1
  unfold Ab_88v_9 at ga
  have vz : vwC H1 = vwC H0 := vwC_fr f10.1.2.1 (by decide +kernel)
  have gb := f10.2.1.1.2
  unfold Bbo_88_9 at gb
  obtain ⟨ko, w1, k⟩ := gb d ed zo w49
  have zo1 := ko.1
  have e8 : hV H1 30 8 = d := (f10.1.2.1.1 30 8 (by decide +kernel)).trans ed.symm
  have gc := ga
  have r16 : n7 = hV H1 30 3 := by
    have w := f16
    rw [f8] at w
    exact w
  obtain ⟨_, s0_, m01, xn, ya, yb⟩ := gc
  refine ⟨ko, w1, fun L cd hl hp => ?_⟩
  have hf : hV H1 30 3 = 0 := Classical.byContradiction fun n => by
    have := absC_neg ga.1 n
    omega
  have x5 := xn hf
  have nw := ga.1.2.2.2.1.2.1
  exact (k L cd hl hp).2 (by omega)
def g_88o_9_1 : vG := ([(31, [7], [], 0), (20, [7, 1], [1], 3), (23, [1], [1], 4), (90, [7], [], -2147483648), (91, [7], [], 2147483647), (45, [5, 6], [], 0), (0, [6], [], 500), (5000, [0, 1, 2, 3, 4, 5], [0, 1], 9), (0, [0], [], 30), (0, [1], [], 30), (90, [2], [], -2147483648), (91, [2], [], 2147483647), (90, [3], [], -2147483648), (91, [3], [], 2147483647), (90, [4], [], -2147483648), (91, [4], [], 2147483647), (90, [5], [], -2147483648), (91, [5], [], 2147483647)], (3000, [], [1], 164))
theorem c_88o_9_1 {q0 : Nat} : vOkm T0 (eN e_88v L_88o A_88v mu_88v no_88 Bo_88 (some q0)) 1 g_88o_9_1 := vOk_inI fun ρ η f0 f1 f2 f3 f4 f5 f6 f7 f8 f9 f10 f11 f12 f13 f14 f15 f16 f17 => q_88o_2 (q0 := q0) (n0 := ρ 5) (n1 := ρ 4) (n2 := ρ 3) (n3 := ρ 2) (n4 := ρ 1) (n5 := ρ 0) (n6 := ρ 6) (n7 := ρ 7) (H0 := η 0) (H1 := η 1) f17 f16 f15 f14 f13 f12 f11 f10 f9 f8 f7 f6 f5 f4 f3 f2 f1 f0
theorem q_88o_3 {q0 : Nat} {n0 n1 n2 n3 n4 n5 n6 n7 : Int} {H0 H1 : gH} (f0 : n0 ≤ 2147483647) (f1 : (-2147483648) ≤ n0) (f2 : n1 ≤ 2147483647) (f3 : (-2147483648) ≤ n1) (f4 : n2 ≤ 2147483647) (f5 : (-2147483648) ≤ n2) (f6 : n3 ≤ 2147483647) (f7 : (-2147483648) ≤ n3) (f8 : n4 = 30) (f9 : n5 = 30) (f10 : (hLe T0 H0 H1 ∧ hFr s_88v.2.2.2.2 H0 H1 ∧ hWt T0 H1) ∧ ((Ab_88v_9 n5 n4 n3 n2 n1 n0 H0 H1 ∧ Bbo_88_9 n5 n4 n3 n2 n1 n0 H0 H1) ∧ preb_88v n5 H0) ∧ some q0 = some (mub_88v_9 n5 n4 n3 n2 n1 n0 H0 H1)) (f11 : n6 = 500) (f12 : n0 ≤ n6) (f13 : n7 ≤ 2147483647) (f14 : (-2147483648) ≤ n7) (f15 : hK H1 (n4).toNat = 4) (f16 : n7 = hV H1 (n4).toNat 3) (f17 : n7 = 0) (f18 : n1 = 0) : nbo_88 n5 H0 H1 := by
  unfold nbo_88
  intro d ed zo w49
  have pz := f10.2.1.2
  unfold preb_88v at pz
  have ga := f10.2.1.1.1
  unfold Ab_88v_9 at ga
  have vz : vwC H1 = vwC H0 := vwC_fr f10.1.2.1 (by decide +kernel)
  have gb := f10.2.1.1.2
  unfold Bbo_88_9 at gb
  obtain ⟨ko, w1, k⟩ := gb d ed zo w49
  have zo1 := ko.1
  have e8 : hV H1 30 8 = d := (f10.1.2.1.1 30 8 (by decide +kernel)).trans ed.symm
  have gc := ga
  have r16 : n7 = hV H1 30 3 := by
    have w := f16
    rw [f8] at w
    exact w
  obtain ⟨_, s0_, m01, xn, ya, yb⟩ := gc
  refine ⟨ko, w1, fun L cd hl hp => ?_⟩
  have hf : hV H1 30 3 = 0 := Classical.byContradiction fun n => by
    have := absC_neg ga.1 n
    omega
  have x5 := xn hf
  have nw := ga.1.2.2.2.1.2.1
  exact (k L cd hl hp).2 (by omega)
def g_88o_9_2 : vG := ([(30, [4], [], 0), (30, [7], [], 0), (20, [7, 1], [1], 3), (23, [1], [1], 4), (90, [7], [], -2147483648), (91, [7], [], 2147483647), (45, [5, 6], [], 0), (0, [6], [], 500), (5000, [0, 1, 2, 3, 4, 5], [0, 1], 9), (0, [0], [], 30), (0, [1], [], 30), (90, [2], [], -2147483648), (91, [2], [], 2147483647), (90, [3], [], -2147483648), (91, [3], [], 2147483647), (90, [4], [], -2147483648), (91, [4], [], 2147483647), (90, [5], [], -2147483648), (91, [5], [], 2147483647)], (3000, [], [1], 164))
theorem c_88o_9_2 {q0 : Nat} : vOkm T0 (eN e_88v L_88o A_88v mu_88v no_88 Bo_88 (some q0)) 1 g_88o_9_2 := vOk_inI fun ρ η f0 f1 f2 f3 f4 f5 f6 f7 f8 f9 f10 f11 f12 f13 f14 f15 f16 f17 f18 => q_88o_3 (q0 := q0) (n0 := ρ 5) (n1 := ρ 4) (n2 := ρ 3) (n3 := ρ 2) (n4 := ρ 1) (n5 := ρ 0) (n6 := ρ 6) (n7 := ρ 7) (H0 := η 0) (H1 := η 1) f18 f17 f16 f15 f14 f13 f12 f11 f10 f9 f8 f7 f6 f5 f4 f3 f2 f1 f0
theorem q_88o_4 {q0 : Nat} {n0 n1 n2 n3 n4 n5 n6 n7 n8 n9 n10 n11 n12 n13 n14 n15 n16 : Int} {H0 H1 H2 H3 H4 H5 H6 : gH} (f0 : n0 ≤ 2147483647) (f1 : (-2147483648) ≤ n0) (f2 : n1 ≤ 2147483647) (f3 : (-2147483648) ≤ n1) (f4 : n2 ≤ 2147483647) (f5 : (-2147483648) ≤ n2) (f6 : n3 ≤ 2147483647) (f7 : (-2147483648) ≤ n3) (f8 : n4 = 30) (f9 : n5 = 30) (f10 : (hLe T0 H0 H1 ∧ hFr s_88v.2.2.2.2 H0 H1 ∧ hWt T0 H1) ∧ ((Ab_88v_9 n5 n4 n3 n2 n1 n0 H0 H1 ∧ Bbo_88_9 n5 n4 n3 n2 n1 n0 H0 H1) ∧ preb_88v n5 H0) ∧ some q0 = some (mub_88v_9 n5 n4 n3 n2 n1 n0 H0 H1)) (f11 : n6 = 500) (f12 : n0 ≤ n6) (f13 : n7 ≤ 2147483647) (f14 : (-2147483648) ≤ n7) (f15 : hK H1 (n4).toNat = 4) (f16 : n7 = hV H1 (n4).toNat 3) (f17 : n7 = 0) (f18 : n1 ≠ 0) (f19 : n8 ≤ 1) (f20 : 0 ≤ n8) (f21 : (hLe T0 H1 H2 ∧ hFr s_89v.2.2.2.2 H1 H2 ∧ ((0 : Int) = 0 → H2.length = H1.length) ∧ hWt T0 H2) ∧ (postb_89v n8 n4 H1 H2 ∧ nbo_89 n8 n4 H1 H2)) (f22 : (hLe T0 H2 H3 ∧ hFr s_92v.2.2.2.2 H2 H3 ∧ ((0 : Int) = 0 → H3.length = H2.length) ∧ hWt T0 H3) ∧ (postb_92v n4 H2 H3 ∧ nbo_92 n4 H2 H3)) (f23 : n9 ≤ 2147483647) (f24 : (-2147483648) ≤ n9) (f25 : (hLe T0 H3 H4 ∧ hFr s_90v.2.2.2.2 H3 H4 ∧ ((0 : Int) = 0 → H4.length = H3.length) ∧ hWt T0 H4) ∧ (postb_90v n9 n4 H3 H4 ∧ nbo_90 n9 n4 H3 H4)) (f26 : (hLe T0 H4 H5 ∧ hFr s_92v.2.2.2.2 H4 H5 ∧ ((0 : Int) = 0 → H5.length = H4.length) ∧ hWt T0 H5) ∧ (postb_92v n4 H4 H5 ∧ nbo_92 n4 H4 H5)) (f27 : (hLe T0 H5 H6 ∧ hFr s_91.2.2.2.2 H5 H6 ∧ ((0 : Int) = 0 → H6.length = H5.length) ∧ hWt T0 H6) ∧ (True ∧ nbo_91 n4 n9 n8 H5 H6)) (f28 : n2 = 0) (f29 : n10 ≤ 2147483647) (f30 : (-2147483648) ≤ n10) (f31 : hK H6 (n4).toNat = 4) (f32 : n10 = hV H6 (n4).toNat 2) (f33 : n11 = 43) (f34 : n10 ≠ n11) (f35 : n12 = 0) (f36 : n12 ≠ 0) (f37 : n13 ≤ 2147483647) (f38 : (-2147483648) ≤ n13) (f39 : hK H6 (n4).toNat = 4) (f40 : n13 = hV H6 (n4).toNat 2) (f41 : n14 = 42) (f42 : n13 ≠ n14) (f43 : n15 = 0) (f44 : n16 = o32 (fun x y => x ||| y) n3 n15) : Bbo_88_122 n5 n4 n16 n12 n1 n0 n8 n9 H0 H6 := by
  exfalso
  omega
def g_88o_9_3 : vG := ([(5, [16, 2, 15], [], 0), (0, [15], [], 0), (41, [13, 14], [], 0), (0, [14], [], 42), (20, [13, 1], [6], 2), (23, [1], [6], 4), (90, [13], [], -2147483648), (91, [13], [], 2147483647), (31, [12], [], 0), (0, [12], [], 0), (41, [10, 11], [], 0), (0, [11], [], 43), (20, [10, 1], [6], 2), (23, [1], [6], 4), (90, [10], [], -2147483648), (91, [10], [], 2147483647), (30, [3], [], 0), (1091, [1, 9, 8], [5, 6], 0), (1092, [1], [4, 5], 0), (1090, [9, 1], [3, 4], 0), (90, [9], [], -2147483648), (91, [9], [], 2147483647), (1092, [1], [2, 3], 0), (1089, [8, 1], [1, 2], 0), (90, [8], [], 0), (91, [8], [], 1), (31, [4], [], 0), (30, [7], [], 0), (20, [7, 1], [1], 3), (23, [1], [1], 4), (90, [7], [], -2147483648), (91, [7], [], 2147483647), (45, [5, 6], [], 0), (0, [6], [], 500), (5000, [0, 1, 2, 3, 4, 5], [0, 1], 9), (0, [0], [], 30), (0, [1], [], 30), (90, [2], [], -2147483648), (91, [2], [], 2147483647), (90, [3], [], -2147483648), (91, [3], [], 2147483647), (90, [4], [], -2147483648), (91, [4], [], 2147483647), (90, [5], [], -2147483648), (91, [5], [], 2147483647)], (4000, [1, 16, 12, 4, 5, 8, 9], [6], 122))
theorem c_88o_9_3 {q0 : Nat} : vOkm T0 (eN e_88v L_88o A_88v mu_88v no_88 Bo_88 (some q0)) 1 g_88o_9_3 := vOk_inI fun ρ η f0 f1 f2 f3 f4 f5 f6 f7 f8 f9 f10 f11 f12 f13 f14 f15 f16 f17 f18 f19 f20 f21 f22 f23 f24 f25 f26 f27 f28 f29 f30 f31 f32 f33 f34 f35 f36 f37 f38 f39 f40 f41 f42 f43 f44 => q_88o_4 (q0 := q0) (n0 := ρ 5) (n1 := ρ 4) (n2 := ρ 3) (n3 := ρ 2) (n4 := ρ 1) (n5 := ρ 0) (n6 := ρ 6) (n7 := ρ 7) (n8 := ρ 8) (n9 := ρ 9) (n10 := ρ 10) (n11 := ρ 11) (n12 := ρ 12) (n13 := ρ 13) (n14 := ρ 14) (n15 := ρ 15) (n16 := ρ 16) (H0 := η 0) (H1 := η 1) (H2 := η 2) (H3 := η 3) (H4 := η 4) (H5 := η 5) (H6 := η 6) f44 f43 f42 f41 f40 f39 f38 f37 f36 f35 f34 f33 f32 f31 f30 f29 f28 f27 f26 f25 f24 f23 f22 f21 f20 f19 f18 f17 f16 f15 f14 f13 f12 f11 f10 f9 f8 f7 f6 f5 f4 f3 f2 f1 f0
theorem q_88o_5 {q0 : Nat} {n0 n1 n2 n3 n4 n5 n6 n7 n8 n9 n10 n11 n12 n13 n14 n15 n16 : Int} {H0 H1 H2 H3 H4 H5 H6 : gH} (f0 : n0 ≤ 2147483647) (f1 : (-2147483648) ≤ n0) (f2 : n1 ≤ 2147483647) (f3 : (-2147483648) ≤ n1) (f4 : n2 ≤ 2147483647) (f5 : (-2147483648) ≤ n2) (f6 : n3 ≤ 2147483647) (f7 : (-2147483648) ≤ n3) (f8 : n4 = 30) (f9 : n5 = 30) (f10 : (hLe T0 H0 H1 ∧ hFr s_88v.2.2.2.2 H0 H1 ∧ hWt T0 H1) ∧ ((Ab_88v_9 n5 n4 n3 n2 n1 n0 H0 H1 ∧ Bbo_88_9 n5 n4 n3 n2 n1 n0 H0 H1) ∧ preb_88v n5 H0) ∧ some q0 = some (mub_88v_9 n5 n4 n3 n2 n1 n0 H0 H1)) (f11 : n6 = 500) (f12 : n0 ≤ n6) (f13 : n7 ≤ 2147483647) (f14 : (-2147483648) ≤ n7) (f15 : hK H1 (n4).toNat = 4) (f16 : n7 = hV H1 (n4).toNat 3) (f17 : n7 = 0) (f18 : n1 ≠ 0) (f19 : n8 ≤ 1) (f20 : 0 ≤ n8) (f21 : (hLe T0 H1 H2 ∧ hFr s_89v.2.2.2.2 H1 H2 ∧ ((0 : Int) = 0 → H2.length = H1.length) ∧ hWt T0 H2) ∧ (postb_89v n8 n4 H1 H2 ∧ nbo_89 n8 n4 H1 H2)) (f22 : (hLe T0 H2 H3 ∧ hFr s_92v.2.2.2.2 H2 H3 ∧ ((0 : Int) = 0 → H3.length = H2.length) ∧ hWt T0 H3) ∧ (postb_92v n4 H2 H3 ∧ nbo_92 n4 H2 H3)) (f23 : n9 ≤ 2147483647) (f24 : (-2147483648) ≤ n9) (f25 : (hLe T0 H3 H4 ∧ hFr s_90v.2.2.2.2 H3 H4 ∧ ((0 : Int) = 0 → H4.length = H3.length) ∧ hWt T0 H4) ∧ (postb_90v n9 n4 H3 H4 ∧ nbo_90 n9 n4 H3 H4)) (f26 : (hLe T0 H4 H5 ∧ hFr s_92v.2.2.2.2 H4 H5 ∧ ((0 : Int) = 0 → H5.length = H4.length) ∧ hWt T0 H5) ∧ (postb_92v n4 H4 H5 ∧ nbo_92 n4 H4 H5)) (f27 : (hLe T0 H5 H6 ∧ hFr s_91.2.2.2.2 H5 H6 ∧ ((0 : Int) = 0 → H6.length = H5.length) ∧ hWt T0 H6) ∧ (True ∧ nbo_91 n4 n9 n8 H5 H6)) (f28 : n2 = 0) (f29 : n10 ≤ 2147483647) (f30 : (-2147483648) ≤ n10) (f31 : hK H6 (n4).toNat = 4) (f32 : n10 = hV H6 (n4).toNat 2) (f33 : n11 = 43) (f34 : n10 ≠ n11) (f35 : n12 = 0) (f36 : n12 ≠ 0) (f37 : n13 ≤ 2147483647) (f38 : (-2147483648) ≤ n13) (f39 : hK H6 (n4).toNat = 4) (f40 : n13 = hV H6 (n4).toNat 2) (f41 : n14 = 42) (f42 : n13 = n14) (f43 : n15 = 1) (f44 : n16 = o32 (fun x y => x ||| y) n3 n15) : Bbo_88_122 n5 n4 n16 n12 n1 n0 n8 n9 H0 H6 := by
  exfalso
  omega
def g_88o_9_4 : vG := ([(5, [16, 2, 15], [], 0), (0, [15], [], 1), (40, [13, 14], [], 0), (0, [14], [], 42), (20, [13, 1], [6], 2), (23, [1], [6], 4), (90, [13], [], -2147483648), (91, [13], [], 2147483647), (31, [12], [], 0), (0, [12], [], 0), (41, [10, 11], [], 0), (0, [11], [], 43), (20, [10, 1], [6], 2), (23, [1], [6], 4), (90, [10], [], -2147483648), (91, [10], [], 2147483647), (30, [3], [], 0), (1091, [1, 9, 8], [5, 6], 0), (1092, [1], [4, 5], 0), (1090, [9, 1], [3, 4], 0), (90, [9], [], -2147483648), (91, [9], [], 2147483647), (1092, [1], [2, 3], 0), (1089, [8, 1], [1, 2], 0), (90, [8], [], 0), (91, [8], [], 1), (31, [4], [], 0), (30, [7], [], 0), (20, [7, 1], [1], 3), (23, [1], [1], 4), (90, [7], [], -2147483648), (91, [7], [], 2147483647), (45, [5, 6], [], 0), (0, [6], [], 500), (5000, [0, 1, 2, 3, 4, 5], [0, 1], 9), (0, [0], [], 30), (0, [1], [], 30), (90, [2], [], -2147483648), (91, [2], [], 2147483647), (90, [3], [], -2147483648), (91, [3], [], 2147483647), (90, [4], [], -2147483648), (91, [4], [], 2147483647), (90, [5], [], -2147483648), (91, [5], [], 2147483647)], (4000, [1, 16, 12, 4, 5, 8, 9], [6], 122))
theorem c_88o_9_4 {q0 : Nat} : vOkm T0 (eN e_88v L_88o A_88v mu_88v no_88 Bo_88 (some q0)) 1 g_88o_9_4 := vOk_inI fun ρ η f0 f1 f2 f3 f4 f5 f6 f7 f8 f9 f10 f11 f12 f13 f14 f15 f16 f17 f18 f19 f20 f21 f22 f23 f24 f25 f26 f27 f28 f29 f30 f31 f32 f33 f34 f35 f36 f37 f38 f39 f40 f41 f42 f43 f44 => q_88o_5 (q0 := q0) (n0 := ρ 5) (n1 := ρ 4) (n2 := ρ 3) (n3 := ρ 2) (n4 := ρ 1) (n5 := ρ 0) (n6 := ρ 6) (n7 := ρ 7) (n8 := ρ 8) (n9 := ρ 9) (n10 := ρ 10) (n11 := ρ 11) (n12 := ρ 12) (n13 := ρ 13) (n14 := ρ 14) (n15 := ρ 15) (n16 := ρ 16) (H0 := η 0) (H1 := η 1) (H2 := η 2) (H3 := η 3) (H4 := η 4) (H5 := η 5) (H6 := η 6) f44 f43 f42 f41 f40 f39 f38 f37 f36 f35 f34 f33 f32 f31 f30 f29 f28 f27 f26 f25 f24 f23 f22 f21 f20 f19 f18 f17 f16 f15 f14 f13 f12 f11 f10 f9 f8 f7 f6 f5 f4 f3 f2 f1 f0
theorem q_88o_6 {q0 : Nat} {n0 n1 n2 n3 n4 n5 n6 n7 n8 n9 n10 n11 n12 n13 n14 n15 n16 : Int} {H0 H1 H2 H3 H4 H5 H6 : gH} (f0 : n0 ≤ 2147483647) (f1 : (-2147483648) ≤ n0) (f2 : n1 ≤ 2147483647) (f3 : (-2147483648) ≤ n1) (f4 : n2 ≤ 2147483647) (f5 : (-2147483648) ≤ n2) (f6 : n3 ≤ 2147483647) (f7 : (-2147483648) ≤ n3) (f8 : n4 = 30) (f9 : n5 = 30) (f10 : (hLe T0 H0 H1 ∧ hFr s_88v.2.2.2.2 H0 H1 ∧ hWt T0 H1) ∧ ((Ab_88v_9 n5 n4 n3 n2 n1 n0 H0 H1 ∧ Bbo_88_9 n5 n4 n3 n2 n1 n0 H0 H1) ∧ preb_88v n5 H0) ∧ some q0 = some (mub_88v_9 n5 n4 n3 n2 n1 n0 H0 H1)) (f11 : n6 = 500) (f12 : n0 ≤ n6) (f13 : n7 ≤ 2147483647) (f14 : (-2147483648) ≤ n7) (f15 : hK H1 (n4).toNat = 4) (f16 : n7 = hV H1 (n4).toNat 3) (f17 : n7 = 0) (f18 : n1 ≠ 0) (f19 : n8 ≤ 1) (f20 : 0 ≤ n8) (f21 : (hLe T0 H1 H2 ∧ hFr s_89v.2.2.2.2 H1 H2 ∧ ((0 : Int) = 0 → H2.length = H1.length) ∧ hWt T0 H2) ∧ (postb_89v n8 n4 H1 H2 ∧ nbo_89 n8 n4 H1 H2)) (f22 : (hLe T0 H2 H3 ∧ hFr s_92v.2.2.2.2 H2 H3 ∧ ((0 : Int) = 0 → H3.length = H2.length) ∧ hWt T0 H3) ∧ (postb_92v n4 H2 H3 ∧ nbo_92 n4 H2 H3)) (f23 : n9 ≤ 2147483647) (f24 : (-2147483648) ≤ n9) (f25 : (hLe T0 H3 H4 ∧ hFr s_90v.2.2.2.2 H3 H4 ∧ ((0 : Int) = 0 → H4.length = H3.length) ∧ hWt T0 H4) ∧ (postb_90v n9 n4 H3 H4 ∧ nbo_90 n9 n4 H3 H4)) (f26 : (hLe T0 H4 H5 ∧ hFr s_92v.2.2.2.2 H4 H5 ∧ ((0 : Int) = 0 → H5.length = H4.length) ∧ hWt T0 H5) ∧ (postb_92v n4 H4 H5 ∧ nbo_92 n4 H4 H5)) (f27 : (hLe T0 H5 H6 ∧ hFr s_91.2.2.2.2 H5 H6 ∧ ((0 : Int) = 0 → H6.length = H5.length) ∧ hWt T0 H6) ∧ (True ∧ nbo_91 n4 n9 n8 H5 H6)) (f28 : n2 = 0) (f29 : n10 ≤ 2147483647) (f30 : (-2147483648) ≤ n10) (f31 : hK H6 (n4).toNat = 4) (f32 : n10 = hV H6 (n4).toNat 2) (f33 : n11 = 43) (f34 : n10 ≠ n11) (f35 : n12 = 0) (f36 : n12 = 0) (f37 : n3 = 0) (f38 : n13 ≤ 2147483647) (f39 : (-2147483648) ≤ n13) (f40 : hK H6 (n4).toNat = 4) (f41 : n13 = hV H6 (n4).toNat 2) (f42 : n14 = 42) (f43 : n13 ≠ n14) (f44 : n15 = 0) (f45 : n16 = o32 (fun x y => x ||| y) n3 n15) : Bbo_88_122 n5 n4 n16 n12 n1 n0 n8 n9 H0 H6 := by
  unfold Bbo_88_122
  intro d ed zo w49
  have pz := f10.2.1.2
  unfold preb_88v at pz
  have ga := f10.2.1.1.1
  unfold Ab_88v_9 at ga
  have vz : vwC H1 = vwC H0 := vwC_fr f10.1.2.1 (by decide +kernel)
  have c0 := f21.2.1
  unfold postb_89v at c0
  rw [vz] at c0
  have a0 : absC H2 = (pNots (vwC H0) (502 - (absC H1).1).toNat (absC H1)) := c0.2
  have v0 : vwC H2 = vwC H0 := (vwC_fr f21.1.2.1 (by decide +kernel)).trans vz
  have c1 := f22.2.1
  unfold postb_92v at c1
  rw [v0] at c1
  rw [a0] at c1
  have a1 : absC H3 = (pExp (vwC H0) (pNots (vwC H0) (502 - (absC H1).1).toNat (absC H1))) := c1.2
  have v1 : vwC H3 = vwC H0 := (vwC_fr f22.1.2.1 (by decide +kernel)).trans v0
  have c2 := f25.2.1
  unfold postb_90v at c2
  rw [v1] at c2
  rw [a1] at c2
  have a2 : absC H4 = (pRel (vwC H0) (pExp (vwC H0) (pNots (vwC H0) (502 - (absC H1).1).toNat (absC H1)))) := c2.2
  have v2 : vwC H4 = vwC H0 := (vwC_fr f25.1.2.1 (by decide +kernel)).trans v1
  have c3 := f26.2.1
  unfold postb_92v at c3
  rw [v2] at c3
  rw [a2] at c3
  have a3 : absC H5 = (pExp (vwC H0) (pRel (vwC H0) (pExp (vwC H0) (pNots (vwC H0) (502 - (absC H1).1).toNat (absC H1))))) := c3.2
  have v3 : vwC H5 = vwC H0 := (vwC_fr f26.1.2.1 (by decide +kernel)).trans v2
  have s4 := PF_fr f27.1.1 f27.1.2.1 (by decide +kernel) c3.1
  have a4 : absC H6 = (pExp (vwC H0) (pRel (vwC H0) (pExp (vwC H0) (pNots (vwC H0) (502 - (absC H1).1).toNat (absC H1))))) := s4.1.trans a3
  have v4 : vwC H6 = vwC H0 := s4.2.1.trans v3
  have gb := f10.2.1.1.2
  unfold Bbo_88_9 at gb
  obtain ⟨ko, w1, k⟩ := gb d ed zo w49
  have zo1 := ko.1
  have e8 : hV H1 30 8 = d := (f10.1.2.1.1 30 8 (by decide +kernel)).trans ed.symm
  have gc := ga
  have r16 : n7 = hV H1 30 3 := by
    have w := f16
    rw [f8] at w
    exact w
  have r32 : n10 = hV H6 30 2 := by
    have w := f32
    rw [f8] at w
    exact w
  have r41 : n13 = hV H6 30 2 := by
    have w := f41
    rw [f8] at w
    exact w
  obtain ⟨_, s0_, m01, xn, ya, yb⟩ := gc
  have e_H2 : absC H2 = xLitA (vwC H0) (absC H1) := a0
  have e_H3 : absC H3 = xLitB (vwC H0) (absC H1) := a1
  have e_H4 : absC H4 = xLitC (vwC H0) (absC H1) := a2
  have e_H5 : absC H5 = pLit (vwC H0) (absC H1) := a3
  have s0_ := f22.2.2
  unfold nbo_92 at s0_
  have s0_ : SUMp H2 H3 d := s0_ d (show hV H2 30 8 = d from (f21.1.2.1.1 30 8 (by decide +kernel)).trans e8).symm
  have s1_ := f26.2.2
  unfold nbo_92 at s1_
  have s1_ : SUMp H4 H5 d := s1_ d (show hV H4 30 8 = d from ((f25.1.2.1.1 30 8 (by decide +kernel)).trans ((f22.1.2.1.1 30 8 (by decide +kernel)).trans (f21.1.2.1.1 30 8 (by decide +kernel)))).trans e8).symm
  have nt := f21.2.2
  unfold nbo_89 at nt
  have rl := f25.2.2
  unfold nbo_90 at rl
  have el := f27.2.2
  unfold nbo_91 at el
  have el := el d (show hV H5 30 8 = d from ((f26.1.2.1.1 30 8 (by decide +kernel)).trans ((f25.1.2.1.1 30 8 (by decide +kernel)).trans ((f22.1.2.1.1 30 8 (by decide +kernel)).trans (f21.1.2.1.1 30 8 (by decide +kernel))))).trans e8).symm
  have p5 : (absC H5).1 ≤ 900 := by
    by_cases hn : hV H5 30 3 = 0
    · have := absC_pos c3.1 hn
      have nw := c3.1.2.2.2.1.2.1
      omega
    · have := absC_neg c3.1 hn
      omega
  have lr := LIT_read (o := decide (n2 = 0)) (vwC_ok H0) zo1 w1 (SMf_fr f21.1.1 f21.1.2.1 (by decide +kernel) (by decide +kernel)) e_H2 v0 (absC_ok c0.1) nt s0_ e_H3 v1 (absC_ok c1.1) (SMf_fr f25.1.1 f25.1.2.1 (by decide +kernel) (by decide +kernel)) e_H4 v2 (absC_ok c2.1) rl s1_ e_H5 p5 el (fun w => W49_le f27.1.1 w)
  obtain ⟨kl, wl, rl2⟩ := lr
  have eH : absC H6 = pLit (vwC H0) (absC H1) := a4
  refine ⟨KO_tr ko kl, wl, fun L cd hl hp => ?_⟩
  have hf : hV H1 30 3 = 0 := by omega
  have ap := absC_pos ga.1 hf
  have x0 := (k L cd hl ap.2).1 (by omega)
  have xa := x0.1
  have xb := x0.2.1
  have kk : (vwC H0).1 (absC H6).1 = hV H6 30 2 := by
    have u := (kd_at s4.2.2).resolve_left (by omega)
    rw [v4] at u
    exact u
  have k32 := r32.trans (rfl).symm
  have k41 := r41.trans (rfl).symm
  have oo := or01 (by omega) (by omega) f45
  have hq : 0 ≤ (absC H5).1 := by
    rw [e_H5, ← eH]
    exact hp
  refine CN_lit (X := ([] : List Int)) (by omega) (by omega) x0 eH (by rw [eH, ← e_H5]; exact p5) (fun M c l => ?_) (fun M c l => by
    rw [List.append_nil]
    exact c) ?_ ?_ ?_
  · have y := rl2 M c l hq
    rw [e_H5, ← eH] at y
    exact y
  · exact by
      rw [if_neg (show ¬ (vwC H0).1 (absC H6).1 = 43 by rw [kk]; omega), show n2 = 0 by omega, show n3 = 0 by omega]
      rfl
  · exact by
      rw [if_neg (show ¬ (vwC H0).1 (absC H6).1 = 43 by rw [kk]; omega)]
      omega
  · exact by
      rw [if_neg (show ¬ (vwC H0).1 (absC H6).1 = 42 by rw [kk]; omega), if_neg (show ¬ (vwC H0).1 (absC H6).1 = 43 by rw [kk]; omega)]
      omega
def g_88o_9_5 : vG := ([(5, [16, 2, 15], [], 0), (0, [15], [], 0), (41, [13, 14], [], 0), (0, [14], [], 42), (20, [13, 1], [6], 2), (23, [1], [6], 4), (90, [13], [], -2147483648), (91, [13], [], 2147483647), (30, [2], [], 0), (30, [12], [], 0), (0, [12], [], 0), (41, [10, 11], [], 0), (0, [11], [], 43), (20, [10, 1], [6], 2), (23, [1], [6], 4), (90, [10], [], -2147483648), (91, [10], [], 2147483647), (30, [3], [], 0), (1091, [1, 9, 8], [5, 6], 0), (1092, [1], [4, 5], 0), (1090, [9, 1], [3, 4], 0), (90, [9], [], -2147483648), (91, [9], [], 2147483647), (1092, [1], [2, 3], 0), (1089, [8, 1], [1, 2], 0), (90, [8], [], 0), (91, [8], [], 1), (31, [4], [], 0), (30, [7], [], 0), (20, [7, 1], [1], 3), (23, [1], [1], 4), (90, [7], [], -2147483648), (91, [7], [], 2147483647), (45, [5, 6], [], 0), (0, [6], [], 500), (5000, [0, 1, 2, 3, 4, 5], [0, 1], 9), (0, [0], [], 30), (0, [1], [], 30), (90, [2], [], -2147483648), (91, [2], [], 2147483647), (90, [3], [], -2147483648), (91, [3], [], 2147483647), (90, [4], [], -2147483648), (91, [4], [], 2147483647), (90, [5], [], -2147483648), (91, [5], [], 2147483647)], (4000, [1, 16, 12, 4, 5, 8, 9], [6], 122))
theorem c_88o_9_5 {q0 : Nat} : vOkm T0 (eN e_88v L_88o A_88v mu_88v no_88 Bo_88 (some q0)) 1 g_88o_9_5 := vOk_inI fun ρ η f0 f1 f2 f3 f4 f5 f6 f7 f8 f9 f10 f11 f12 f13 f14 f15 f16 f17 f18 f19 f20 f21 f22 f23 f24 f25 f26 f27 f28 f29 f30 f31 f32 f33 f34 f35 f36 f37 f38 f39 f40 f41 f42 f43 f44 f45 => q_88o_6 (q0 := q0) (n0 := ρ 5) (n1 := ρ 4) (n2 := ρ 3) (n3 := ρ 2) (n4 := ρ 1) (n5 := ρ 0) (n6 := ρ 6) (n7 := ρ 7) (n8 := ρ 8) (n9 := ρ 9) (n10 := ρ 10) (n11 := ρ 11) (n12 := ρ 12) (n13 := ρ 13) (n14 := ρ 14) (n15 := ρ 15) (n16 := ρ 16) (H0 := η 0) (H1 := η 1) (H2 := η 2) (H3 := η 3) (H4 := η 4) (H5 := η 5) (H6 := η 6) f45 f44 f43 f42 f41 f40 f39 f38 f37 f36 f35 f34 f33 f32 f31 f30 f29 f28 f27 f26 f25 f24 f23 f22 f21 f20 f19 f18 f17 f16 f15 f14 f13 f12 f11 f10 f9 f8 f7 f6 f5 f4 f3 f2 f1 f0
theorem q_88o_7 {q0 : Nat} {n0 n1 n2 n3 n4 n5 n6 n7 n8 n9 n10 n11 n12 n13 n14 n15 n16 : Int} {H0 H1 H2 H3 H4 H5 H6 : gH} (f0 : n0 ≤ 2147483647) (f1 : (-2147483648) ≤ n0) (f2 : n1 ≤ 2147483647) (f3 : (-2147483648) ≤ n1) (f4 : n2 ≤ 2147483647) (f5 : (-2147483648) ≤ n2) (f6 : n3 ≤ 2147483647) (f7 : (-2147483648) ≤ n3) (f8 : n4 = 30) (f9 : n5 = 30) (f10 : (hLe T0 H0 H1 ∧ hFr s_88v.2.2.2.2 H0 H1 ∧ hWt T0 H1) ∧ ((Ab_88v_9 n5 n4 n3 n2 n1 n0 H0 H1 ∧ Bbo_88_9 n5 n4 n3 n2 n1 n0 H0 H1) ∧ preb_88v n5 H0) ∧ some q0 = some (mub_88v_9 n5 n4 n3 n2 n1 n0 H0 H1)) (f11 : n6 = 500) (f12 : n0 ≤ n6) (f13 : n7 ≤ 2147483647) (f14 : (-2147483648) ≤ n7) (f15 : hK H1 (n4).toNat = 4) (f16 : n7 = hV H1 (n4).toNat 3) (f17 : n7 = 0) (f18 : n1 ≠ 0) (f19 : n8 ≤ 1) (f20 : 0 ≤ n8) (f21 : (hLe T0 H1 H2 ∧ hFr s_89v.2.2.2.2 H1 H2 ∧ ((0 : Int) = 0 → H2.length = H1.length) ∧ hWt T0 H2) ∧ (postb_89v n8 n4 H1 H2 ∧ nbo_89 n8 n4 H1 H2)) (f22 : (hLe T0 H2 H3 ∧ hFr s_92v.2.2.2.2 H2 H3 ∧ ((0 : Int) = 0 → H3.length = H2.length) ∧ hWt T0 H3) ∧ (postb_92v n4 H2 H3 ∧ nbo_92 n4 H2 H3)) (f23 : n9 ≤ 2147483647) (f24 : (-2147483648) ≤ n9) (f25 : (hLe T0 H3 H4 ∧ hFr s_90v.2.2.2.2 H3 H4 ∧ ((0 : Int) = 0 → H4.length = H3.length) ∧ hWt T0 H4) ∧ (postb_90v n9 n4 H3 H4 ∧ nbo_90 n9 n4 H3 H4)) (f26 : (hLe T0 H4 H5 ∧ hFr s_92v.2.2.2.2 H4 H5 ∧ ((0 : Int) = 0 → H5.length = H4.length) ∧ hWt T0 H5) ∧ (postb_92v n4 H4 H5 ∧ nbo_92 n4 H4 H5)) (f27 : (hLe T0 H5 H6 ∧ hFr s_91.2.2.2.2 H5 H6 ∧ ((0 : Int) = 0 → H6.length = H5.length) ∧ hWt T0 H6) ∧ (True ∧ nbo_91 n4 n9 n8 H5 H6)) (f28 : n2 = 0) (f29 : n10 ≤ 2147483647) (f30 : (-2147483648) ≤ n10) (f31 : hK H6 (n4).toNat = 4) (f32 : n10 = hV H6 (n4).toNat 2) (f33 : n11 = 43) (f34 : n10 ≠ n11) (f35 : n12 = 0) (f36 : n12 = 0) (f37 : n3 = 0) (f38 : n13 ≤ 2147483647) (f39 : (-2147483648) ≤ n13) (f40 : hK H6 (n4).toNat = 4) (f41 : n13 = hV H6 (n4).toNat 2) (f42 : n14 = 42) (f43 : n13 = n14) (f44 : n15 = 1) (f45 : n16 = o32 (fun x y => x ||| y) n3 n15) : Bbo_88_122 n5 n4 n16 n12 n1 n0 n8 n9 H0 H6 := by
  unfold Bbo_88_122
  intro d ed zo w49
  have pz := f10.2.1.2
  unfold preb_88v at pz
  have ga := f10.2.1.1.1
  unfold Ab_88v_9 at ga
  have vz : vwC H1 = vwC H0 := vwC_fr f10.1.2.1 (by decide +kernel)
  have c0 := f21.2.1
  unfold postb_89v at c0
  rw [vz] at c0
  have a0 : absC H2 = (pNots (vwC H0) (502 - (absC H1).1).toNat (absC H1)) := c0.2
  have v0 : vwC H2 = vwC H0 := (vwC_fr f21.1.2.1 (by decide +kernel)).trans vz
  have c1 := f22.2.1
  unfold postb_92v at c1
  rw [v0] at c1
  rw [a0] at c1
  have a1 : absC H3 = (pExp (vwC H0) (pNots (vwC H0) (502 - (absC H1).1).toNat (absC H1))) := c1.2
  have v1 : vwC H3 = vwC H0 := (vwC_fr f22.1.2.1 (by decide +kernel)).trans v0
  have c2 := f25.2.1
  unfold postb_90v at c2
  rw [v1] at c2
  rw [a1] at c2
  have a2 : absC H4 = (pRel (vwC H0) (pExp (vwC H0) (pNots (vwC H0) (502 - (absC H1).1).toNat (absC H1)))) := c2.2
  have v2 : vwC H4 = vwC H0 := (vwC_fr f25.1.2.1 (by decide +kernel)).trans v1
  have c3 := f26.2.1
  unfold postb_92v at c3
  rw [v2] at c3
  rw [a2] at c3
  have a3 : absC H5 = (pExp (vwC H0) (pRel (vwC H0) (pExp (vwC H0) (pNots (vwC H0) (502 - (absC H1).1).toNat (absC H1))))) := c3.2
  have v3 : vwC H5 = vwC H0 := (vwC_fr f26.1.2.1 (by decide +kernel)).trans v2
  have s4 := PF_fr f27.1.1 f27.1.2.1 (by decide +kernel) c3.1
  have a4 : absC H6 = (pExp (vwC H0) (pRel (vwC H0) (pExp (vwC H0) (pNots (vwC H0) (502 - (absC H1).1).toNat (absC H1))))) := s4.1.trans a3
  have v4 : vwC H6 = vwC H0 := s4.2.1.trans v3
  have gb := f10.2.1.1.2
  unfold Bbo_88_9 at gb
  obtain ⟨ko, w1, k⟩ := gb d ed zo w49
  have zo1 := ko.1
  have e8 : hV H1 30 8 = d := (f10.1.2.1.1 30 8 (by decide +kernel)).trans ed.symm
  have gc := ga
  have r16 : n7 = hV H1 30 3 := by
    have w := f16
    rw [f8] at w
    exact w
  have r32 : n10 = hV H6 30 2 := by
    have w := f32
    rw [f8] at w
    exact w
  have r41 : n13 = hV H6 30 2 := by
    have w := f41
    rw [f8] at w
    exact w
  obtain ⟨_, s0_, m01, xn, ya, yb⟩ := gc
  have e_H2 : absC H2 = xLitA (vwC H0) (absC H1) := a0
  have e_H3 : absC H3 = xLitB (vwC H0) (absC H1) := a1
  have e_H4 : absC H4 = xLitC (vwC H0) (absC H1) := a2
  have e_H5 : absC H5 = pLit (vwC H0) (absC H1) := a3
  have s0_ := f22.2.2
  unfold nbo_92 at s0_
  have s0_ : SUMp H2 H3 d := s0_ d (show hV H2 30 8 = d from (f21.1.2.1.1 30 8 (by decide +kernel)).trans e8).symm
  have s1_ := f26.2.2
  unfold nbo_92 at s1_
  have s1_ : SUMp H4 H5 d := s1_ d (show hV H4 30 8 = d from ((f25.1.2.1.1 30 8 (by decide +kernel)).trans ((f22.1.2.1.1 30 8 (by decide +kernel)).trans (f21.1.2.1.1 30 8 (by decide +kernel)))).trans e8).symm
  have nt := f21.2.2
  unfold nbo_89 at nt
  have rl := f25.2.2
  unfold nbo_90 at rl
  have el := f27.2.2
  unfold nbo_91 at el
  have el := el d (show hV H5 30 8 = d from ((f26.1.2.1.1 30 8 (by decide +kernel)).trans ((f25.1.2.1.1 30 8 (by decide +kernel)).trans ((f22.1.2.1.1 30 8 (by decide +kernel)).trans (f21.1.2.1.1 30 8 (by decide +kernel))))).trans e8).symm
  have p5 : (absC H5).1 ≤ 900 := by
    by_cases hn : hV H5 30 3 = 0
    · have := absC_pos c3.1 hn
      have nw := c3.1.2.2.2.1.2.1
      omega
    · have := absC_neg c3.1 hn
      omega
  have lr := LIT_read (o := decide (n2 = 0)) (vwC_ok H0) zo1 w1 (SMf_fr f21.1.1 f21.1.2.1 (by decide +kernel) (by decide +kernel)) e_H2 v0 (absC_ok c0.1) nt s0_ e_H3 v1 (absC_ok c1.1) (SMf_fr f25.1.1 f25.1.2.1 (by decide +kernel) (by decide +kernel)) e_H4 v2 (absC_ok c2.1) rl s1_ e_H5 p5 el (fun w => W49_le f27.1.1 w)
  obtain ⟨kl, wl, rl2⟩ := lr
  have eH : absC H6 = pLit (vwC H0) (absC H1) := a4
  refine ⟨KO_tr ko kl, wl, fun L cd hl hp => ?_⟩
  have hf : hV H1 30 3 = 0 := by omega
  have ap := absC_pos ga.1 hf
  have x0 := (k L cd hl ap.2).1 (by omega)
  have xa := x0.1
  have xb := x0.2.1
  have kk : (vwC H0).1 (absC H6).1 = hV H6 30 2 := by
    have u := (kd_at s4.2.2).resolve_left (by omega)
    rw [v4] at u
    exact u
  have k32 := r32.trans (rfl).symm
  have k41 := r41.trans (rfl).symm
  have oo := or01 (by omega) (by omega) f45
  have hq : 0 ≤ (absC H5).1 := by
    rw [e_H5, ← eH]
    exact hp
  refine CN_lit (X := ([] : List Int)) (by omega) (by omega) x0 eH (by rw [eH, ← e_H5]; exact p5) (fun M c l => ?_) (fun M c l => by
    rw [List.append_nil]
    exact c) ?_ ?_ ?_
  · have y := rl2 M c l hq
    rw [e_H5, ← eH] at y
    exact y
  · exact by
      rw [if_neg (show ¬ (vwC H0).1 (absC H6).1 = 43 by rw [kk]; omega), show n2 = 0 by omega, show n3 = 0 by omega]
      rfl
  · exact by
      rw [if_neg (show ¬ (vwC H0).1 (absC H6).1 = 43 by rw [kk]; omega)]
      omega
  · exact by
      rw [if_pos (show (vwC H0).1 (absC H6).1 = 42 by rw [kk]; omega)]
      omega
def g_88o_9_6 : vG := ([(5, [16, 2, 15], [], 0), (0, [15], [], 1), (40, [13, 14], [], 0), (0, [14], [], 42), (20, [13, 1], [6], 2), (23, [1], [6], 4), (90, [13], [], -2147483648), (91, [13], [], 2147483647), (30, [2], [], 0), (30, [12], [], 0), (0, [12], [], 0), (41, [10, 11], [], 0), (0, [11], [], 43), (20, [10, 1], [6], 2), (23, [1], [6], 4), (90, [10], [], -2147483648), (91, [10], [], 2147483647), (30, [3], [], 0), (1091, [1, 9, 8], [5, 6], 0), (1092, [1], [4, 5], 0), (1090, [9, 1], [3, 4], 0), (90, [9], [], -2147483648), (91, [9], [], 2147483647), (1092, [1], [2, 3], 0), (1089, [8, 1], [1, 2], 0), (90, [8], [], 0), (91, [8], [], 1), (31, [4], [], 0), (30, [7], [], 0), (20, [7, 1], [1], 3), (23, [1], [1], 4), (90, [7], [], -2147483648), (91, [7], [], 2147483647), (45, [5, 6], [], 0), (0, [6], [], 500), (5000, [0, 1, 2, 3, 4, 5], [0, 1], 9), (0, [0], [], 30), (0, [1], [], 30), (90, [2], [], -2147483648), (91, [2], [], 2147483647), (90, [3], [], -2147483648), (91, [3], [], 2147483647), (90, [4], [], -2147483648), (91, [4], [], 2147483647), (90, [5], [], -2147483648), (91, [5], [], 2147483647)], (4000, [1, 16, 12, 4, 5, 8, 9], [6], 122))
theorem c_88o_9_6 {q0 : Nat} : vOkm T0 (eN e_88v L_88o A_88v mu_88v no_88 Bo_88 (some q0)) 1 g_88o_9_6 := vOk_inI fun ρ η f0 f1 f2 f3 f4 f5 f6 f7 f8 f9 f10 f11 f12 f13 f14 f15 f16 f17 f18 f19 f20 f21 f22 f23 f24 f25 f26 f27 f28 f29 f30 f31 f32 f33 f34 f35 f36 f37 f38 f39 f40 f41 f42 f43 f44 f45 => q_88o_7 (q0 := q0) (n0 := ρ 5) (n1 := ρ 4) (n2 := ρ 3) (n3 := ρ 2) (n4 := ρ 1) (n5 := ρ 0) (n6 := ρ 6) (n7 := ρ 7) (n8 := ρ 8) (n9 := ρ 9) (n10 := ρ 10) (n11 := ρ 11) (n12 := ρ 12) (n13 := ρ 13) (n14 := ρ 14) (n15 := ρ 15) (n16 := ρ 16) (H0 := η 0) (H1 := η 1) (H2 := η 2) (H3 := η 3) (H4 := η 4) (H5 := η 5) (H6 := η 6) f45 f44 f43 f42 f41 f40 f39 f38 f37 f36 f35 f34 f33 f32 f31 f30 f29 f28 f27 f26 f25 f24 f23 f22 f21 f20 f19 f18 f17 f16 f15 f14 f13 f12 f11 f10 f9 f8 f7 f6 f5 f4 f3 f2 f1 f0
theorem q_88o_8 {q0 : Nat} {n0 n1 n2 n3 n4 n5 n6 n7 n8 n9 n10 n11 n12 n13 n14 n15 n16 n17 n18 n19 : Int} {H0 H1 H2 H3 H4 H5 H6 H7 : gH} (f0 : n0 ≤ 2147483647) (f1 : (-2147483648) ≤ n0) (f2 : n1 ≤ 2147483647) (f3 : (-2147483648) ≤ n1) (f4 : n2 ≤ 2147483647) (f5 : (-2147483648) ≤ n2) (f6 : n3 ≤ 2147483647) (f7 : (-2147483648) ≤ n3) (f8 : n4 = 30) (f9 : n5 = 30) (f10 : (hLe T0 H0 H1 ∧ hFr s_88v.2.2.2.2 H0 H1 ∧ hWt T0 H1) ∧ ((Ab_88v_9 n5 n4 n3 n2 n1 n0 H0 H1 ∧ Bbo_88_9 n5 n4 n3 n2 n1 n0 H0 H1) ∧ preb_88v n5 H0) ∧ some q0 = some (mub_88v_9 n5 n4 n3 n2 n1 n0 H0 H1)) (f11 : n6 = 500) (f12 : n0 ≤ n6) (f13 : n7 ≤ 2147483647) (f14 : (-2147483648) ≤ n7) (f15 : hK H1 (n4).toNat = 4) (f16 : n7 = hV H1 (n4).toNat 3) (f17 : n7 = 0) (f18 : n1 ≠ 0) (f19 : n8 ≤ 1) (f20 : 0 ≤ n8) (f21 : (hLe T0 H1 H2 ∧ hFr s_89v.2.2.2.2 H1 H2 ∧ ((0 : Int) = 0 → H2.length = H1.length) ∧ hWt T0 H2) ∧ (postb_89v n8 n4 H1 H2 ∧ nbo_89 n8 n4 H1 H2)) (f22 : (hLe T0 H2 H3 ∧ hFr s_92v.2.2.2.2 H2 H3 ∧ ((0 : Int) = 0 → H3.length = H2.length) ∧ hWt T0 H3) ∧ (postb_92v n4 H2 H3 ∧ nbo_92 n4 H2 H3)) (f23 : n9 ≤ 2147483647) (f24 : (-2147483648) ≤ n9) (f25 : (hLe T0 H3 H4 ∧ hFr s_90v.2.2.2.2 H3 H4 ∧ ((0 : Int) = 0 → H4.length = H3.length) ∧ hWt T0 H4) ∧ (postb_90v n9 n4 H3 H4 ∧ nbo_90 n9 n4 H3 H4)) (f26 : (hLe T0 H4 H5 ∧ hFr s_92v.2.2.2.2 H4 H5 ∧ ((0 : Int) = 0 → H5.length = H4.length) ∧ hWt T0 H5) ∧ (postb_92v n4 H4 H5 ∧ nbo_92 n4 H4 H5)) (f27 : (hLe T0 H5 H6 ∧ hFr s_91.2.2.2.2 H5 H6 ∧ ((0 : Int) = 0 → H6.length = H5.length) ∧ hWt T0 H6) ∧ (True ∧ nbo_91 n4 n9 n8 H5 H6)) (f28 : n2 = 0) (f29 : n10 ≤ 2147483647) (f30 : (-2147483648) ≤ n10) (f31 : hK H6 (n4).toNat = 4) (f32 : n10 = hV H6 (n4).toNat 2) (f33 : n11 = 43) (f34 : n10 ≠ n11) (f35 : n12 = 0) (f36 : n12 = 0) (f37 : n3 ≠ 0) (f38 : 0 ≤ n13) (f39 : hK H6 (n4).toNat = 4) (f40 : n13 = hV H6 (n4).toNat 8) (f41 : n14 = 10042) (f42 : (hLe T0 H6 H7 ∧ hFr s_98.2.2.2.2 H6 H7 ∧ ((0 : Int) = 0 → H7.length = H6.length) ∧ hWt T0 H7) ∧ (True ∧ nbo_98 n13 n14 H6 H7)) (f43 : n15 = 0) (f44 : n16 ≤ 2147483647) (f45 : (-2147483648) ≤ n16) (f46 : hK H7 (n4).toNat = 4) (f47 : n16 = hV H7 (n4).toNat 2) (f48 : n17 = 42) (f49 : n16 ≠ n17) (f50 : n18 = 0) (f51 : n19 = o32 (fun x y => x ||| y) n15 n18) : Bbo_88_122 n5 n4 n19 n12 n1 n0 n8 n9 H0 H7 := by
  unfold Bbo_88_122
  intro d ed zo w49
  have pz := f10.2.1.2
  unfold preb_88v at pz
  have ga := f10.2.1.1.1
  unfold Ab_88v_9 at ga
  have vz : vwC H1 = vwC H0 := vwC_fr f10.1.2.1 (by decide +kernel)
  have c0 := f21.2.1
  unfold postb_89v at c0
  rw [vz] at c0
  have a0 : absC H2 = (pNots (vwC H0) (502 - (absC H1).1).toNat (absC H1)) := c0.2
  have v0 : vwC H2 = vwC H0 := (vwC_fr f21.1.2.1 (by decide +kernel)).trans vz
  have c1 := f22.2.1
  unfold postb_92v at c1
  rw [v0] at c1
  rw [a0] at c1
  have a1 : absC H3 = (pExp (vwC H0) (pNots (vwC H0) (502 - (absC H1).1).toNat (absC H1))) := c1.2
  have v1 : vwC H3 = vwC H0 := (vwC_fr f22.1.2.1 (by decide +kernel)).trans v0
  have c2 := f25.2.1
  unfold postb_90v at c2
  rw [v1] at c2
  rw [a1] at c2
  have a2 : absC H4 = (pRel (vwC H0) (pExp (vwC H0) (pNots (vwC H0) (502 - (absC H1).1).toNat (absC H1)))) := c2.2
  have v2 : vwC H4 = vwC H0 := (vwC_fr f25.1.2.1 (by decide +kernel)).trans v1
  have c3 := f26.2.1
  unfold postb_92v at c3
  rw [v2] at c3
  rw [a2] at c3
  have a3 : absC H5 = (pExp (vwC H0) (pRel (vwC H0) (pExp (vwC H0) (pNots (vwC H0) (502 - (absC H1).1).toNat (absC H1))))) := c3.2
  have v3 : vwC H5 = vwC H0 := (vwC_fr f26.1.2.1 (by decide +kernel)).trans v2
  have s4 := PF_fr f27.1.1 f27.1.2.1 (by decide +kernel) c3.1
  have a4 : absC H6 = (pExp (vwC H0) (pRel (vwC H0) (pExp (vwC H0) (pNots (vwC H0) (502 - (absC H1).1).toNat (absC H1))))) := s4.1.trans a3
  have v4 : vwC H6 = vwC H0 := s4.2.1.trans v3
  have s5 := PF_fr f42.1.1 f42.1.2.1 (by decide +kernel) s4.2.2
  have a5 : absC H7 = (pExp (vwC H0) (pRel (vwC H0) (pExp (vwC H0) (pNots (vwC H0) (502 - (absC H1).1).toNat (absC H1))))) := s5.1.trans a4
  have v5 : vwC H7 = vwC H0 := s5.2.1.trans v4
  have gb := f10.2.1.1.2
  unfold Bbo_88_9 at gb
  obtain ⟨ko, w1, k⟩ := gb d ed zo w49
  have zo1 := ko.1
  have e8 : hV H1 30 8 = d := (f10.1.2.1.1 30 8 (by decide +kernel)).trans ed.symm
  have gc := ga
  have r16 : n7 = hV H1 30 3 := by
    have w := f16
    rw [f8] at w
    exact w
  have r32 : n10 = hV H6 30 2 := by
    have w := f32
    rw [f8] at w
    exact w
  have r40 : n13 = hV H6 30 8 := by
    have w := f40
    rw [f8] at w
    exact w
  have r47 : n16 = hV H7 30 2 := by
    have w := f47
    rw [f8] at w
    exact w
  obtain ⟨_, s0_, m01, xn, ya, yb⟩ := gc
  have e_H2 : absC H2 = xLitA (vwC H0) (absC H1) := a0
  have e_H3 : absC H3 = xLitB (vwC H0) (absC H1) := a1
  have e_H4 : absC H4 = xLitC (vwC H0) (absC H1) := a2
  have e_H5 : absC H5 = pLit (vwC H0) (absC H1) := a3
  have s0_ := f22.2.2
  unfold nbo_92 at s0_
  have s0_ : SUMp H2 H3 d := s0_ d (show hV H2 30 8 = d from (f21.1.2.1.1 30 8 (by decide +kernel)).trans e8).symm
  have s1_ := f26.2.2
  unfold nbo_92 at s1_
  have s1_ : SUMp H4 H5 d := s1_ d (show hV H4 30 8 = d from ((f25.1.2.1.1 30 8 (by decide +kernel)).trans ((f22.1.2.1.1 30 8 (by decide +kernel)).trans (f21.1.2.1.1 30 8 (by decide +kernel)))).trans e8).symm
  have nt := f21.2.2
  unfold nbo_89 at nt
  have rl := f25.2.2
  unfold nbo_90 at rl
  have el := f27.2.2
  unfold nbo_91 at el
  have el := el d (show hV H5 30 8 = d from ((f26.1.2.1.1 30 8 (by decide +kernel)).trans ((f25.1.2.1.1 30 8 (by decide +kernel)).trans ((f22.1.2.1.1 30 8 (by decide +kernel)).trans (f21.1.2.1.1 30 8 (by decide +kernel))))).trans e8).symm
  have p5 : (absC H5).1 ≤ 900 := by
    by_cases hn : hV H5 30 3 = 0
    · have := absC_pos c3.1 hn
      have nw := c3.1.2.2.2.1.2.1
      omega
    · have := absC_neg c3.1 hn
      omega
  have lr := LIT_read (o := decide (n2 = 0)) (vwC_ok H0) zo1 w1 (SMf_fr f21.1.1 f21.1.2.1 (by decide +kernel) (by decide +kernel)) e_H2 v0 (absC_ok c0.1) nt s0_ e_H3 v1 (absC_ok c1.1) (SMf_fr f25.1.1 f25.1.2.1 (by decide +kernel) (by decide +kernel)) e_H4 v2 (absC_ok c2.1) rl s1_ e_H5 p5 el (fun w => W49_le f27.1.1 w)
  obtain ⟨kl, wl, rl2⟩ := lr
  have m0_ := f42.2.2
  unfold nbo_98 at m0_
  rw [show n13 = d from (r40.trans ((f27.1.2.1.1 30 8 (by decide +kernel)).trans ((f26.1.2.1.1 30 8 (by decide +kernel)).trans ((f25.1.2.1.1 30 8 (by decide +kernel)).trans ((f22.1.2.1.1 30 8 (by decide +kernel)).trans (f21.1.2.1.1 30 8 (by decide +kernel))))))).trans e8] at m0_
  have eH : absC H7 = pLit (vwC H0) (absC H1) := a5
  refine ⟨KO_tr ko (KO_tr kl (m0_ kl.1).1), (W49_le f42.1.1 wl), fun L cd hl hp => ?_⟩
  have hf : hV H1 30 3 = 0 := by omega
  have ap := absC_pos ga.1 hf
  have x0 := (k L cd hl ap.2).1 (by omega)
  have xa := x0.1
  have xb := x0.2.1
  have kk : (vwC H0).1 (absC H7).1 = hV H7 30 2 := by
    have u := (kd_at s5.2.2).resolve_left (by omega)
    rw [v5] at u
    exact u
  have k32 := r32.trans (f42.1.2.1.1 30 2 (by decide +kernel)).symm
  have k47 := r47.trans (rfl).symm
  have oo := or01 (by omega) (by omega) f51
  have hq : 0 ≤ (absC H5).1 := by
    rw [e_H5, ← eH]
    exact hp
  refine CN_lit (X := [n14]) (by omega) (by omega) x0 eH (by rw [eH, ← e_H5]; exact p5) (fun M c l => ?_) (fun M c l => (m0_ kl.1).2 M c (by omega)) ?_ ?_ ?_
  · have y := rl2 M c l hq
    rw [e_H5, ← eH] at y
    exact y
  · exact by
      rw [if_neg (show ¬ (vwC H0).1 (absC H7).1 = 43 by rw [kk]; omega), show n2 = 0 by omega, show n3 = 1 by omega]
      rw [show n14 = 10042 from f41]
      rfl
  · exact by
      rw [if_neg (show ¬ (vwC H0).1 (absC H7).1 = 43 by rw [kk]; omega)]
      omega
  · exact by
      rw [if_neg (show ¬ (vwC H0).1 (absC H7).1 = 42 by rw [kk]; omega), if_neg (show ¬ (vwC H0).1 (absC H7).1 = 43 by rw [kk]; omega)]
      omega
def g_88o_9_7 : vG := ([(5, [19, 15, 18], [], 0), (0, [18], [], 0), (41, [16, 17], [], 0), (0, [17], [], 42), (20, [16, 1], [7], 2), (23, [1], [7], 4), (90, [16], [], -2147483648), (91, [16], [], 2147483647), (0, [15], [], 0), (1098, [13, 14], [6, 7], 0), (0, [14], [], 10042), (20, [13, 1], [6], 8), (23, [1], [6], 4), (51, [13], [], 0), (31, [2], [], 0), (30, [12], [], 0), (0, [12], [], 0), (41, [10, 11], [], 0), (0, [11], [], 43), (20, [10, 1], [6], 2), (23, [1], [6], 4), (90, [10], [], -2147483648), (91, [10], [], 2147483647), (30, [3], [], 0), (1091, [1, 9, 8], [5, 6], 0), (1092, [1], [4, 5], 0), (1090, [9, 1], [3, 4], 0), (90, [9], [], -2147483648), (91, [9], [], 2147483647), (1092, [1], [2, 3], 0), (1089, [8, 1], [1, 2], 0), (90, [8], [], 0), (91, [8], [], 1), (31, [4], [], 0), (30, [7], [], 0), (20, [7, 1], [1], 3), (23, [1], [1], 4), (90, [7], [], -2147483648), (91, [7], [], 2147483647), (45, [5, 6], [], 0), (0, [6], [], 500), (5000, [0, 1, 2, 3, 4, 5], [0, 1], 9), (0, [0], [], 30), (0, [1], [], 30), (90, [2], [], -2147483648), (91, [2], [], 2147483647), (90, [3], [], -2147483648), (91, [3], [], 2147483647), (90, [4], [], -2147483648), (91, [4], [], 2147483647), (90, [5], [], -2147483648), (91, [5], [], 2147483647)], (4000, [1, 19, 12, 4, 5, 8, 9], [7], 122))
theorem c_88o_9_7 {q0 : Nat} : vOkm T0 (eN e_88v L_88o A_88v mu_88v no_88 Bo_88 (some q0)) 1 g_88o_9_7 := vOk_inI fun ρ η f0 f1 f2 f3 f4 f5 f6 f7 f8 f9 f10 f11 f12 f13 f14 f15 f16 f17 f18 f19 f20 f21 f22 f23 f24 f25 f26 f27 f28 f29 f30 f31 f32 f33 f34 f35 f36 f37 f38 f39 f40 f41 f42 f43 f44 f45 f46 f47 f48 f49 f50 f51 => q_88o_8 (q0 := q0) (n0 := ρ 5) (n1 := ρ 4) (n2 := ρ 3) (n3 := ρ 2) (n4 := ρ 1) (n5 := ρ 0) (n6 := ρ 6) (n7 := ρ 7) (n8 := ρ 8) (n9 := ρ 9) (n10 := ρ 10) (n11 := ρ 11) (n12 := ρ 12) (n13 := ρ 13) (n14 := ρ 14) (n15 := ρ 15) (n16 := ρ 16) (n17 := ρ 17) (n18 := ρ 18) (n19 := ρ 19) (H0 := η 0) (H1 := η 1) (H2 := η 2) (H3 := η 3) (H4 := η 4) (H5 := η 5) (H6 := η 6) (H7 := η 7) f51 f50 f49 f48 f47 f46 f45 f44 f43 f42 f41 f40 f39 f38 f37 f36 f35 f34 f33 f32 f31 f30 f29 f28 f27 f26 f25 f24 f23 f22 f21 f20 f19 f18 f17 f16 f15 f14 f13 f12 f11 f10 f9 f8 f7 f6 f5 f4 f3 f2 f1 f0
theorem q_88o_9 {q0 : Nat} {n0 n1 n2 n3 n4 n5 n6 n7 n8 n9 n10 n11 n12 n13 n14 n15 n16 n17 n18 n19 : Int} {H0 H1 H2 H3 H4 H5 H6 H7 : gH} (f0 : n0 ≤ 2147483647) (f1 : (-2147483648) ≤ n0) (f2 : n1 ≤ 2147483647) (f3 : (-2147483648) ≤ n1) (f4 : n2 ≤ 2147483647) (f5 : (-2147483648) ≤ n2) (f6 : n3 ≤ 2147483647) (f7 : (-2147483648) ≤ n3) (f8 : n4 = 30) (f9 : n5 = 30) (f10 : (hLe T0 H0 H1 ∧ hFr s_88v.2.2.2.2 H0 H1 ∧ hWt T0 H1) ∧ ((Ab_88v_9 n5 n4 n3 n2 n1 n0 H0 H1 ∧ Bbo_88_9 n5 n4 n3 n2 n1 n0 H0 H1) ∧ preb_88v n5 H0) ∧ some q0 = some (mub_88v_9 n5 n4 n3 n2 n1 n0 H0 H1)) (f11 : n6 = 500) (f12 : n0 ≤ n6) (f13 : n7 ≤ 2147483647) (f14 : (-2147483648) ≤ n7) (f15 : hK H1 (n4).toNat = 4) (f16 : n7 = hV H1 (n4).toNat 3) (f17 : n7 = 0) (f18 : n1 ≠ 0) (f19 : n8 ≤ 1) (f20 : 0 ≤ n8) (f21 : (hLe T0 H1 H2 ∧ hFr s_89v.2.2.2.2 H1 H2 ∧ ((0 : Int) = 0 → H2.length = H1.length) ∧ hWt T0 H2) ∧ (postb_89v n8 n4 H1 H2 ∧ nbo_89 n8 n4 H1 H2)) (f22 : (hLe T0 H2 H3 ∧ hFr s_92v.2.2.2.2 H2 H3 ∧ ((0 : Int) = 0 → H3.length = H2.length) ∧ hWt T0 H3) ∧ (postb_92v n4 H2 H3 ∧ nbo_92 n4 H2 H3)) (f23 : n9 ≤ 2147483647) (f24 : (-2147483648) ≤ n9) (f25 : (hLe T0 H3 H4 ∧ hFr s_90v.2.2.2.2 H3 H4 ∧ ((0 : Int) = 0 → H4.length = H3.length) ∧ hWt T0 H4) ∧ (postb_90v n9 n4 H3 H4 ∧ nbo_90 n9 n4 H3 H4)) (f26 : (hLe T0 H4 H5 ∧ hFr s_92v.2.2.2.2 H4 H5 ∧ ((0 : Int) = 0 → H5.length = H4.length) ∧ hWt T0 H5) ∧ (postb_92v n4 H4 H5 ∧ nbo_92 n4 H4 H5)) (f27 : (hLe T0 H5 H6 ∧ hFr s_91.2.2.2.2 H5 H6 ∧ ((0 : Int) = 0 → H6.length = H5.length) ∧ hWt T0 H6) ∧ (True ∧ nbo_91 n4 n9 n8 H5 H6)) (f28 : n2 = 0) (f29 : n10 ≤ 2147483647) (f30 : (-2147483648) ≤ n10) (f31 : hK H6 (n4).toNat = 4) (f32 : n10 = hV H6 (n4).toNat 2) (f33 : n11 = 43) (f34 : n10 ≠ n11) (f35 : n12 = 0) (f36 : n12 = 0) (f37 : n3 ≠ 0) (f38 : 0 ≤ n13) (f39 : hK H6 (n4).toNat = 4) (f40 : n13 = hV H6 (n4).toNat 8) (f41 : n14 = 10042) (f42 : (hLe T0 H6 H7 ∧ hFr s_98.2.2.2.2 H6 H7 ∧ ((0 : Int) = 0 → H7.length = H6.length) ∧ hWt T0 H7) ∧ (True ∧ nbo_98 n13 n14 H6 H7)) (f43 : n15 = 0) (f44 : n16 ≤ 2147483647) (f45 : (-2147483648) ≤ n16) (f46 : hK H7 (n4).toNat = 4) (f47 : n16 = hV H7 (n4).toNat 2) (f48 : n17 = 42) (f49 : n16 = n17) (f50 : n18 = 1) (f51 : n19 = o32 (fun x y => x ||| y) n15 n18) : Bbo_88_122 n5 n4 n19 n12 n1 n0 n8 n9 H0 H7 := by
  unfold Bbo_88_122
  intro d ed zo w49
  have pz := f10.2.1.2
  unfold preb_88v at pz
  have ga := f10.2.1.1.1
  unfold Ab_88v_9 at ga
  have vz : vwC H1 = vwC H0 := vwC_fr f10.1.2.1 (by decide +kernel)
  have c0 := f21.2.1
  unfold postb_89v at c0
  rw [vz] at c0
  have a0 : absC H2 = (pNots (vwC H0) (502 - (absC H1).1).toNat (absC H1)) := c0.2
  have v0 : vwC H2 = vwC H0 := (vwC_fr f21.1.2.1 (by decide +kernel)).trans vz
  have c1 := f22.2.1
  unfold postb_92v at c1
  rw [v0] at c1
  rw [a0] at c1
  have a1 : absC H3 = (pExp (vwC H0) (pNots (vwC H0) (502 - (absC H1).1).toNat (absC H1))) := c1.2
  have v1 : vwC H3 = vwC H0 := (vwC_fr f22.1.2.1 (by decide +kernel)).trans v0
  have c2 := f25.2.1
  unfold postb_90v at c2
  rw [v1] at c2
  rw [a1] at c2
  have a2 : absC H4 = (pRel (vwC H0) (pExp (vwC H0) (pNots (vwC H0) (502 - (absC H1).1).toNat (absC H1)))) := c2.2
  have v2 : vwC H4 = vwC H0 := (vwC_fr f25.1.2.1 (by decide +kernel)).trans v1
  have c3 := f26.2.1
  unfold postb_92v at c3
  rw [v2] at c3
  rw [a2] at c3
  have a3 : absC H5 = (pExp (vwC H0) (pRel (vwC H0) (pExp (vwC H0) (pNots (vwC H0) (502 - (absC H1).1).toNat (absC H1))))) := c3.2
  have v3 : vwC H5 = vwC H0 := (vwC_fr f26.1.2.1 (by decide +kernel)).trans v2
  have s4 := PF_fr f27.1.1 f27.1.2.1 (by decide +kernel) c3.1
  have a4 : absC H6 = (pExp (vwC H0) (pRel (vwC H0) (pExp (vwC H0) (pNots (vwC H0) (502 - (absC H1).1).toNat (absC H1))))) := s4.1.trans a3
  have v4 : vwC H6 = vwC H0 := s4.2.1.trans v3
  have s5 := PF_fr f42.1.1 f42.1.2.1 (by decide +kernel) s4.2.2
  have a5 : absC H7 = (pExp (vwC H0) (pRel (vwC H0) (pExp (vwC H0) (pNots (vwC H0) (502 - (absC H1).1).toNat (absC H1))))) := s5.1.trans a4
  have v5 : vwC H7 = vwC H0 := s5.2.1.trans v4
  have gb := f10.2.1.1.2
  unfold Bbo_88_9 at gb
  obtain ⟨ko, w1, k⟩ := gb d ed zo w49
  have zo1 := ko.1
  have e8 : hV H1 30 8 = d := (f10.1.2.1.1 30 8 (by decide +kernel)).trans ed.symm
  have gc := ga
  have r16 : n7 = hV H1 30 3 := by
    have w := f16
    rw [f8] at w
    exact w
  have r32 : n10 = hV H6 30 2 := by
    have w := f32
    rw [f8] at w
    exact w
  have r40 : n13 = hV H6 30 8 := by
    have w := f40
    rw [f8] at w
    exact w
  have r47 : n16 = hV H7 30 2 := by
    have w := f47
    rw [f8] at w
    exact w
  obtain ⟨_, s0_, m01, xn, ya, yb⟩ := gc
  have e_H2 : absC H2 = xLitA (vwC H0) (absC H1) := a0
  have e_H3 : absC H3 = xLitB (vwC H0) (absC H1) := a1
  have e_H4 : absC H4 = xLitC (vwC H0) (absC H1) := a2
  have e_H5 : absC H5 = pLit (vwC H0) (absC H1) := a3
  have s0_ := f22.2.2
  unfold nbo_92 at s0_
  have s0_ : SUMp H2 H3 d := s0_ d (show hV H2 30 8 = d from (f21.1.2.1.1 30 8 (by decide +kernel)).trans e8).symm
  have s1_ := f26.2.2
  unfold nbo_92 at s1_
  have s1_ : SUMp H4 H5 d := s1_ d (show hV H4 30 8 = d from ((f25.1.2.1.1 30 8 (by decide +kernel)).trans ((f22.1.2.1.1 30 8 (by decide +kernel)).trans (f21.1.2.1.1 30 8 (by decide +kernel)))).trans e8).symm
  have nt := f21.2.2
  unfold nbo_89 at nt
  have rl := f25.2.2
  unfold nbo_90 at rl
  have el := f27.2.2
  unfold nbo_91 at el
  have el := el d (show hV H5 30 8 = d from ((f26.1.2.1.1 30 8 (by decide +kernel)).trans ((f25.1.2.1.1 30 8 (by decide +kernel)).trans ((f22.1.2.1.1 30 8 (by decide +kernel)).trans (f21.1.2.1.1 30 8 (by decide +kernel))))).trans e8).symm
  have p5 : (absC H5).1 ≤ 900 := by
    by_cases hn : hV H5 30 3 = 0
    · have := absC_pos c3.1 hn
      have nw := c3.1.2.2.2.1.2.1
      omega
    · have := absC_neg c3.1 hn
      omega
  have lr := LIT_read (o := decide (n2 = 0)) (vwC_ok H0) zo1 w1 (SMf_fr f21.1.1 f21.1.2.1 (by decide +kernel) (by decide +kernel)) e_H2 v0 (absC_ok c0.1) nt s0_ e_H3 v1 (absC_ok c1.1) (SMf_fr f25.1.1 f25.1.2.1 (by decide +kernel) (by decide +kernel)) e_H4 v2 (absC_ok c2.1) rl s1_ e_H5 p5 el (fun w => W49_le f27.1.1 w)
  obtain ⟨kl, wl, rl2⟩ := lr
  have m0_ := f42.2.2
  unfold nbo_98 at m0_
  rw [show n13 = d from (r40.trans ((f27.1.2.1.1 30 8 (by decide +kernel)).trans ((f26.1.2.1.1 30 8 (by decide +kernel)).trans ((f25.1.2.1.1 30 8 (by decide +kernel)).trans ((f22.1.2.1.1 30 8 (by decide +kernel)).trans (f21.1.2.1.1 30 8 (by decide +kernel))))))).trans e8] at m0_
  have eH : absC H7 = pLit (vwC H0) (absC H1) := a5
  refine ⟨KO_tr ko (KO_tr kl (m0_ kl.1).1), (W49_le f42.1.1 wl), fun L cd hl hp => ?_⟩
  have hf : hV H1 30 3 = 0 := by omega
  have ap := absC_pos ga.1 hf
  have x0 := (k L cd hl ap.2).1 (by omega)
  have xa := x0.1
  have xb := x0.2.1
  have kk : (vwC H0).1 (absC H7).1 = hV H7 30 2 := by
    have u := (kd_at s5.2.2).resolve_left (by omega)
    rw [v5] at u
    exact u
  have k32 := r32.trans (f42.1.2.1.1 30 2 (by decide +kernel)).symm
  have k47 := r47.trans (rfl).symm
  have oo := or01 (by omega) (by omega) f51
  have hq : 0 ≤ (absC H5).1 := by
    rw [e_H5, ← eH]
    exact hp
  refine CN_lit (X := [n14]) (by omega) (by omega) x0 eH (by rw [eH, ← e_H5]; exact p5) (fun M c l => ?_) (fun M c l => (m0_ kl.1).2 M c (by omega)) ?_ ?_ ?_
  · have y := rl2 M c l hq
    rw [e_H5, ← eH] at y
    exact y
  · exact by
      rw [if_neg (show ¬ (vwC H0).1 (absC H7).1 = 43 by rw [kk]; omega), show n2 = 0 by omega, show n3 = 1 by omega]
      rw [show n14 = 10042 from f41]
      rfl
  · exact by
      rw [if_neg (show ¬ (vwC H0).1 (absC H7).1 = 43 by rw [kk]; omega)]
      omega
  · exact by
      rw [if_pos (show (vwC H0).1 (absC H7).1 = 42 by rw [kk]; omega)]
      omega
def g_88o_9_8 : vG := ([(5, [19, 15, 18], [], 0), (0, [18], [], 1), (40, [16, 17], [], 0), (0, [17], [], 42), (20, [16, 1], [7], 2), (23, [1], [7], 4), (90, [16], [], -2147483648), (91, [16], [], 2147483647), (0, [15], [], 0), (1098, [13, 14], [6, 7], 0), (0, [14], [], 10042), (20, [13, 1], [6], 8), (23, [1], [6], 4), (51, [13], [], 0), (31, [2], [], 0), (30, [12], [], 0), (0, [12], [], 0), (41, [10, 11], [], 0), (0, [11], [], 43), (20, [10, 1], [6], 2), (23, [1], [6], 4), (90, [10], [], -2147483648), (91, [10], [], 2147483647), (30, [3], [], 0), (1091, [1, 9, 8], [5, 6], 0), (1092, [1], [4, 5], 0), (1090, [9, 1], [3, 4], 0), (90, [9], [], -2147483648), (91, [9], [], 2147483647), (1092, [1], [2, 3], 0), (1089, [8, 1], [1, 2], 0), (90, [8], [], 0), (91, [8], [], 1), (31, [4], [], 0), (30, [7], [], 0), (20, [7, 1], [1], 3), (23, [1], [1], 4), (90, [7], [], -2147483648), (91, [7], [], 2147483647), (45, [5, 6], [], 0), (0, [6], [], 500), (5000, [0, 1, 2, 3, 4, 5], [0, 1], 9), (0, [0], [], 30), (0, [1], [], 30), (90, [2], [], -2147483648), (91, [2], [], 2147483647), (90, [3], [], -2147483648), (91, [3], [], 2147483647), (90, [4], [], -2147483648), (91, [4], [], 2147483647), (90, [5], [], -2147483648), (91, [5], [], 2147483647)], (4000, [1, 19, 12, 4, 5, 8, 9], [7], 122))
theorem c_88o_9_8 {q0 : Nat} : vOkm T0 (eN e_88v L_88o A_88v mu_88v no_88 Bo_88 (some q0)) 1 g_88o_9_8 := vOk_inI fun ρ η f0 f1 f2 f3 f4 f5 f6 f7 f8 f9 f10 f11 f12 f13 f14 f15 f16 f17 f18 f19 f20 f21 f22 f23 f24 f25 f26 f27 f28 f29 f30 f31 f32 f33 f34 f35 f36 f37 f38 f39 f40 f41 f42 f43 f44 f45 f46 f47 f48 f49 f50 f51 => q_88o_9 (q0 := q0) (n0 := ρ 5) (n1 := ρ 4) (n2 := ρ 3) (n3 := ρ 2) (n4 := ρ 1) (n5 := ρ 0) (n6 := ρ 6) (n7 := ρ 7) (n8 := ρ 8) (n9 := ρ 9) (n10 := ρ 10) (n11 := ρ 11) (n12 := ρ 12) (n13 := ρ 13) (n14 := ρ 14) (n15 := ρ 15) (n16 := ρ 16) (n17 := ρ 17) (n18 := ρ 18) (n19 := ρ 19) (H0 := η 0) (H1 := η 1) (H2 := η 2) (H3 := η 3) (H4 := η 4) (H5 := η 5) (H6 := η 6) (H7 := η 7) f51 f50 f49 f48 f47 f46 f45 f44 f43 f42 f41 f40 f39 f38 f37 f36 f35 f34 f33 f32 f31 f30 f29 f28 f27 f26 f25 f24 f23 f22 f21 f20 f19 f18 f17 f16 f15 f14 f13 f12 f11 f10 f9 f8 f7 f6 f5 f4 f3 f2 f1 f0
theorem q_88o_10 {q0 : Nat} {n0 n1 n2 n3 n4 n5 n6 n7 n8 n9 n10 n11 n12 n13 n14 n15 n16 : Int} {H0 H1 H2 H3 H4 H5 H6 : gH} (f0 : n0 ≤ 2147483647) (f1 : (-2147483648) ≤ n0) (f2 : n1 ≤ 2147483647) (f3 : (-2147483648) ≤ n1) (f4 : n2 ≤ 2147483647) (f5 : (-2147483648) ≤ n2) (f6 : n3 ≤ 2147483647) (f7 : (-2147483648) ≤ n3) (f8 : n4 = 30) (f9 : n5 = 30) (f10 : (hLe T0 H0 H1 ∧ hFr s_88v.2.2.2.2 H0 H1 ∧ hWt T0 H1) ∧ ((Ab_88v_9 n5 n4 n3 n2 n1 n0 H0 H1 ∧ Bbo_88_9 n5 n4 n3 n2 n1 n0 H0 H1) ∧ preb_88v n5 H0) ∧ some q0 = some (mub_88v_9 n5 n4 n3 n2 n1 n0 H0 H1)) (f11 : n6 = 500) (f12 : n0 ≤ n6) (f13 : n7 ≤ 2147483647) (f14 : (-2147483648) ≤ n7) (f15 : hK H1 (n4).toNat = 4) (f16 : n7 = hV H1 (n4).toNat 3) (f17 : n7 = 0) (f18 : n1 ≠ 0) (f19 : n8 ≤ 1) (f20 : 0 ≤ n8) (f21 : (hLe T0 H1 H2 ∧ hFr s_89v.2.2.2.2 H1 H2 ∧ ((0 : Int) = 0 → H2.length = H1.length) ∧ hWt T0 H2) ∧ (postb_89v n8 n4 H1 H2 ∧ nbo_89 n8 n4 H1 H2)) (f22 : (hLe T0 H2 H3 ∧ hFr s_92v.2.2.2.2 H2 H3 ∧ ((0 : Int) = 0 → H3.length = H2.length) ∧ hWt T0 H3) ∧ (postb_92v n4 H2 H3 ∧ nbo_92 n4 H2 H3)) (f23 : n9 ≤ 2147483647) (f24 : (-2147483648) ≤ n9) (f25 : (hLe T0 H3 H4 ∧ hFr s_90v.2.2.2.2 H3 H4 ∧ ((0 : Int) = 0 → H4.length = H3.length) ∧ hWt T0 H4) ∧ (postb_90v n9 n4 H3 H4 ∧ nbo_90 n9 n4 H3 H4)) (f26 : (hLe T0 H4 H5 ∧ hFr s_92v.2.2.2.2 H4 H5 ∧ ((0 : Int) = 0 → H5.length = H4.length) ∧ hWt T0 H5) ∧ (postb_92v n4 H4 H5 ∧ nbo_92 n4 H4 H5)) (f27 : (hLe T0 H5 H6 ∧ hFr s_91.2.2.2.2 H5 H6 ∧ ((0 : Int) = 0 → H6.length = H5.length) ∧ hWt T0 H6) ∧ (True ∧ nbo_91 n4 n9 n8 H5 H6)) (f28 : n2 = 0) (f29 : n10 ≤ 2147483647) (f30 : (-2147483648) ≤ n10) (f31 : hK H6 (n4).toNat = 4) (f32 : n10 = hV H6 (n4).toNat 2) (f33 : n11 = 43) (f34 : n10 = n11) (f35 : n12 = 1) (f36 : n12 ≠ 0) (f37 : n13 ≤ 2147483647) (f38 : (-2147483648) ≤ n13) (f39 : hK H6 (n4).toNat = 4) (f40 : n13 = hV H6 (n4).toNat 2) (f41 : n14 = 42) (f42 : n13 ≠ n14) (f43 : n15 = 0) (f44 : n16 = o32 (fun x y => x ||| y) n3 n15) : Bbo_88_122 n5 n4 n16 n12 n1 n0 n8 n9 H0 H6 := by
  unfold Bbo_88_122
  intro d ed zo w49
  have pz := f10.2.1.2
  unfold preb_88v at pz
  have ga := f10.2.1.1.1
  unfold Ab_88v_9 at ga
  have vz : vwC H1 = vwC H0 := vwC_fr f10.1.2.1 (by decide +kernel)
  have c0 := f21.2.1
  unfold postb_89v at c0
  rw [vz] at c0
  have a0 : absC H2 = (pNots (vwC H0) (502 - (absC H1).1).toNat (absC H1)) := c0.2
  have v0 : vwC H2 = vwC H0 := (vwC_fr f21.1.2.1 (by decide +kernel)).trans vz
  have c1 := f22.2.1
  unfold postb_92v at c1
  rw [v0] at c1
  rw [a0] at c1
  have a1 : absC H3 = (pExp (vwC H0) (pNots (vwC H0) (502 - (absC H1).1).toNat (absC H1))) := c1.2
  have v1 : vwC H3 = vwC H0 := (vwC_fr f22.1.2.1 (by decide +kernel)).trans v0
  have c2 := f25.2.1
  unfold postb_90v at c2
  rw [v1] at c2
  rw [a1] at c2
  have a2 : absC H4 = (pRel (vwC H0) (pExp (vwC H0) (pNots (vwC H0) (502 - (absC H1).1).toNat (absC H1)))) := c2.2
  have v2 : vwC H4 = vwC H0 := (vwC_fr f25.1.2.1 (by decide +kernel)).trans v1
  have c3 := f26.2.1
  unfold postb_92v at c3
  rw [v2] at c3
  rw [a2] at c3
  have a3 : absC H5 = (pExp (vwC H0) (pRel (vwC H0) (pExp (vwC H0) (pNots (vwC H0) (502 - (absC H1).1).toNat (absC H1))))) := c3.2
  have v3 : vwC H5 = vwC H0 := (vwC_fr f26.1.2.1 (by decide +kernel)).trans v2
  have s4 := PF_fr f27.1.1 f27.1.2.1 (by decide +kernel) c3.1
  have a4 : absC H6 = (pExp (vwC H0) (pRel (vwC H0) (pExp (vwC H0) (pNots (vwC H0) (502 - (absC H1).1).toNat (absC H1))))) := s4.1.trans a3
  have v4 : vwC H6 = vwC H0 := s4.2.1.trans v3
  have gb := f10.2.1.1.2
  unfold Bbo_88_9 at gb
  obtain ⟨ko, w1, k⟩ := gb d ed zo w49
  have zo1 := ko.1
  have e8 : hV H1 30 8 = d := (f10.1.2.1.1 30 8 (by decide +kernel)).trans ed.symm
  have gc := ga
  have r16 : n7 = hV H1 30 3 := by
    have w := f16
    rw [f8] at w
    exact w
  have r32 : n10 = hV H6 30 2 := by
    have w := f32
    rw [f8] at w
    exact w
  have r40 : n13 = hV H6 30 2 := by
    have w := f40
    rw [f8] at w
    exact w
  obtain ⟨_, s0_, m01, xn, ya, yb⟩ := gc
  have e_H2 : absC H2 = xLitA (vwC H0) (absC H1) := a0
  have e_H3 : absC H3 = xLitB (vwC H0) (absC H1) := a1
  have e_H4 : absC H4 = xLitC (vwC H0) (absC H1) := a2
  have e_H5 : absC H5 = pLit (vwC H0) (absC H1) := a3
  have s0_ := f22.2.2
  unfold nbo_92 at s0_
  have s0_ : SUMp H2 H3 d := s0_ d (show hV H2 30 8 = d from (f21.1.2.1.1 30 8 (by decide +kernel)).trans e8).symm
  have s1_ := f26.2.2
  unfold nbo_92 at s1_
  have s1_ : SUMp H4 H5 d := s1_ d (show hV H4 30 8 = d from ((f25.1.2.1.1 30 8 (by decide +kernel)).trans ((f22.1.2.1.1 30 8 (by decide +kernel)).trans (f21.1.2.1.1 30 8 (by decide +kernel)))).trans e8).symm
  have nt := f21.2.2
  unfold nbo_89 at nt
  have rl := f25.2.2
  unfold nbo_90 at rl
  have el := f27.2.2
  unfold nbo_91 at el
  have el := el d (show hV H5 30 8 = d from ((f26.1.2.1.1 30 8 (by decide +kernel)).trans ((f25.1.2.1.1 30 8 (by decide +kernel)).trans ((f22.1.2.1.1 30 8 (by decide +kernel)).trans (f21.1.2.1.1 30 8 (by decide +kernel))))).trans e8).symm
  have p5 : (absC H5).1 ≤ 900 := by
    by_cases hn : hV H5 30 3 = 0
    · have := absC_pos c3.1 hn
      have nw := c3.1.2.2.2.1.2.1
      omega
    · have := absC_neg c3.1 hn
      omega
  have lr := LIT_read (o := decide (n2 = 0)) (vwC_ok H0) zo1 w1 (SMf_fr f21.1.1 f21.1.2.1 (by decide +kernel) (by decide +kernel)) e_H2 v0 (absC_ok c0.1) nt s0_ e_H3 v1 (absC_ok c1.1) (SMf_fr f25.1.1 f25.1.2.1 (by decide +kernel) (by decide +kernel)) e_H4 v2 (absC_ok c2.1) rl s1_ e_H5 p5 el (fun w => W49_le f27.1.1 w)
  obtain ⟨kl, wl, rl2⟩ := lr
  have eH : absC H6 = pLit (vwC H0) (absC H1) := a4
  refine ⟨KO_tr ko kl, wl, fun L cd hl hp => ?_⟩
  have hf : hV H1 30 3 = 0 := by omega
  have ap := absC_pos ga.1 hf
  have x0 := (k L cd hl ap.2).1 (by omega)
  have xa := x0.1
  have xb := x0.2.1
  have kk : (vwC H0).1 (absC H6).1 = hV H6 30 2 := by
    have u := (kd_at s4.2.2).resolve_left (by omega)
    rw [v4] at u
    exact u
  have k32 := r32.trans (rfl).symm
  have k40 := r40.trans (rfl).symm
  have oo := or01 (by omega) (by omega) f44
  have hq : 0 ≤ (absC H5).1 := by
    rw [e_H5, ← eH]
    exact hp
  refine CN_lit (X := ([] : List Int)) (by omega) (by omega) x0 eH (by rw [eH, ← e_H5]; exact p5) (fun M c l => ?_) (fun M c l => by
    rw [List.append_nil]
    exact c) ?_ ?_ ?_
  · have y := rl2 M c l hq
    rw [e_H5, ← eH] at y
    exact y
  · exact by
      rw [if_pos (show (vwC H0).1 (absC H6).1 = 43 by rw [kk]; omega), show n2 = 0 by omega]
      rfl
  · exact by
      rw [if_pos (show (vwC H0).1 (absC H6).1 = 43 by rw [kk]; omega)]
      omega
  · exact by
      rw [if_neg (show ¬ (vwC H0).1 (absC H6).1 = 42 by rw [kk]; omega), if_pos (show (vwC H0).1 (absC H6).1 = 43 by rw [kk]; omega)]
      omega
def g_88o_9_9 : vG := ([(5, [16, 2, 15], [], 0), (0, [15], [], 0), (41, [13, 14], [], 0), (0, [14], [], 42), (20, [13, 1], [6], 2), (23, [1], [6], 4), (90, [13], [], -2147483648), (91, [13], [], 2147483647), (31, [12], [], 0), (0, [12], [], 1), (40, [10, 11], [], 0), (0, [11], [], 43), (20, [10, 1], [6], 2), (23, [1], [6], 4), (90, [10], [], -2147483648), (91, [10], [], 2147483647), (30, [3], [], 0), (1091, [1, 9, 8], [5, 6], 0), (1092, [1], [4, 5], 0), (1090, [9, 1], [3, 4], 0), (90, [9], [], -2147483648), (91, [9], [], 2147483647), (1092, [1], [2, 3], 0), (1089, [8, 1], [1, 2], 0), (90, [8], [], 0), (91, [8], [], 1), (31, [4], [], 0), (30, [7], [], 0), (20, [7, 1], [1], 3), (23, [1], [1], 4), (90, [7], [], -2147483648), (91, [7], [], 2147483647), (45, [5, 6], [], 0), (0, [6], [], 500), (5000, [0, 1, 2, 3, 4, 5], [0, 1], 9), (0, [0], [], 30), (0, [1], [], 30), (90, [2], [], -2147483648), (91, [2], [], 2147483647), (90, [3], [], -2147483648), (91, [3], [], 2147483647), (90, [4], [], -2147483648), (91, [4], [], 2147483647), (90, [5], [], -2147483648), (91, [5], [], 2147483647)], (4000, [1, 16, 12, 4, 5, 8, 9], [6], 122))
theorem c_88o_9_9 {q0 : Nat} : vOkm T0 (eN e_88v L_88o A_88v mu_88v no_88 Bo_88 (some q0)) 1 g_88o_9_9 := vOk_inI fun ρ η f0 f1 f2 f3 f4 f5 f6 f7 f8 f9 f10 f11 f12 f13 f14 f15 f16 f17 f18 f19 f20 f21 f22 f23 f24 f25 f26 f27 f28 f29 f30 f31 f32 f33 f34 f35 f36 f37 f38 f39 f40 f41 f42 f43 f44 => q_88o_10 (q0 := q0) (n0 := ρ 5) (n1 := ρ 4) (n2 := ρ 3) (n3 := ρ 2) (n4 := ρ 1) (n5 := ρ 0) (n6 := ρ 6) (n7 := ρ 7) (n8 := ρ 8) (n9 := ρ 9) (n10 := ρ 10) (n11 := ρ 11) (n12 := ρ 12) (n13 := ρ 13) (n14 := ρ 14) (n15 := ρ 15) (n16 := ρ 16) (H0 := η 0) (H1 := η 1) (H2 := η 2) (H3 := η 3) (H4 := η 4) (H5 := η 5) (H6 := η 6) f44 f43 f42 f41 f40 f39 f38 f37 f36 f35 f34 f33 f32 f31 f30 f29 f28 f27 f26 f25 f24 f23 f22 f21 f20 f19 f18 f17 f16 f15 f14 f13 f12 f11 f10 f9 f8 f7 f6 f5 f4 f3 f2 f1 f0
theorem q_88o_11 {q0 : Nat} {n0 n1 n2 n3 n4 n5 n6 n7 n8 n9 n10 n11 n12 n13 n14 n15 n16 : Int} {H0 H1 H2 H3 H4 H5 H6 : gH} (f0 : n0 ≤ 2147483647) (f1 : (-2147483648) ≤ n0) (f2 : n1 ≤ 2147483647) (f3 : (-2147483648) ≤ n1) (f4 : n2 ≤ 2147483647) (f5 : (-2147483648) ≤ n2) (f6 : n3 ≤ 2147483647) (f7 : (-2147483648) ≤ n3) (f8 : n4 = 30) (f9 : n5 = 30) (f10 : (hLe T0 H0 H1 ∧ hFr s_88v.2.2.2.2 H0 H1 ∧ hWt T0 H1) ∧ ((Ab_88v_9 n5 n4 n3 n2 n1 n0 H0 H1 ∧ Bbo_88_9 n5 n4 n3 n2 n1 n0 H0 H1) ∧ preb_88v n5 H0) ∧ some q0 = some (mub_88v_9 n5 n4 n3 n2 n1 n0 H0 H1)) (f11 : n6 = 500) (f12 : n0 ≤ n6) (f13 : n7 ≤ 2147483647) (f14 : (-2147483648) ≤ n7) (f15 : hK H1 (n4).toNat = 4) (f16 : n7 = hV H1 (n4).toNat 3) (f17 : n7 = 0) (f18 : n1 ≠ 0) (f19 : n8 ≤ 1) (f20 : 0 ≤ n8) (f21 : (hLe T0 H1 H2 ∧ hFr s_89v.2.2.2.2 H1 H2 ∧ ((0 : Int) = 0 → H2.length = H1.length) ∧ hWt T0 H2) ∧ (postb_89v n8 n4 H1 H2 ∧ nbo_89 n8 n4 H1 H2)) (f22 : (hLe T0 H2 H3 ∧ hFr s_92v.2.2.2.2 H2 H3 ∧ ((0 : Int) = 0 → H3.length = H2.length) ∧ hWt T0 H3) ∧ (postb_92v n4 H2 H3 ∧ nbo_92 n4 H2 H3)) (f23 : n9 ≤ 2147483647) (f24 : (-2147483648) ≤ n9) (f25 : (hLe T0 H3 H4 ∧ hFr s_90v.2.2.2.2 H3 H4 ∧ ((0 : Int) = 0 → H4.length = H3.length) ∧ hWt T0 H4) ∧ (postb_90v n9 n4 H3 H4 ∧ nbo_90 n9 n4 H3 H4)) (f26 : (hLe T0 H4 H5 ∧ hFr s_92v.2.2.2.2 H4 H5 ∧ ((0 : Int) = 0 → H5.length = H4.length) ∧ hWt T0 H5) ∧ (postb_92v n4 H4 H5 ∧ nbo_92 n4 H4 H5)) (f27 : (hLe T0 H5 H6 ∧ hFr s_91.2.2.2.2 H5 H6 ∧ ((0 : Int) = 0 → H6.length = H5.length) ∧ hWt T0 H6) ∧ (True ∧ nbo_91 n4 n9 n8 H5 H6)) (f28 : n2 = 0) (f29 : n10 ≤ 2147483647) (f30 : (-2147483648) ≤ n10) (f31 : hK H6 (n4).toNat = 4) (f32 : n10 = hV H6 (n4).toNat 2) (f33 : n11 = 43) (f34 : n10 = n11) (f35 : n12 = 1) (f36 : n12 ≠ 0) (f37 : n13 ≤ 2147483647) (f38 : (-2147483648) ≤ n13) (f39 : hK H6 (n4).toNat = 4) (f40 : n13 = hV H6 (n4).toNat 2) (f41 : n14 = 42) (f42 : n13 = n14) (f43 : n15 = 1) (f44 : n16 = o32 (fun x y => x ||| y) n3 n15) : Bbo_88_122 n5 n4 n16 n12 n1 n0 n8 n9 H0 H6 := by
  unfold Bbo_88_122
  intro d ed zo w49
  have pz := f10.2.1.2
  unfold preb_88v at pz
  have ga := f10.2.1.1.1
  unfold Ab_88v_9 at ga
  have vz : vwC H1 = vwC H0 := vwC_fr f10.1.2.1 (by decide +kernel)
  have c0 := f21.2.1
  unfold postb_89v at c0
  rw [vz] at c0
  have a0 : absC H2 = (pNots (vwC H0) (502 - (absC H1).1).toNat (absC H1)) := c0.2
  have v0 : vwC H2 = vwC H0 := (vwC_fr f21.1.2.1 (by decide +kernel)).trans vz
  have c1 := f22.2.1
  unfold postb_92v at c1
  rw [v0] at c1
  rw [a0] at c1
  have a1 : absC H3 = (pExp (vwC H0) (pNots (vwC H0) (502 - (absC H1).1).toNat (absC H1))) := c1.2
  have v1 : vwC H3 = vwC H0 := (vwC_fr f22.1.2.1 (by decide +kernel)).trans v0
  have c2 := f25.2.1
  unfold postb_90v at c2
  rw [v1] at c2
  rw [a1] at c2
  have a2 : absC H4 = (pRel (vwC H0) (pExp (vwC H0) (pNots (vwC H0) (502 - (absC H1).1).toNat (absC H1)))) := c2.2
  have v2 : vwC H4 = vwC H0 := (vwC_fr f25.1.2.1 (by decide +kernel)).trans v1
  have c3 := f26.2.1
  unfold postb_92v at c3
  rw [v2] at c3
  rw [a2] at c3
  have a3 : absC H5 = (pExp (vwC H0) (pRel (vwC H0) (pExp (vwC H0) (pNots (vwC H0) (502 - (absC H1).1).toNat (absC H1))))) := c3.2
  have v3 : vwC H5 = vwC H0 := (vwC_fr f26.1.2.1 (by decide +kernel)).trans v2
  have s4 := PF_fr f27.1.1 f27.1.2.1 (by decide +kernel) c3.1
  have a4 : absC H6 = (pExp (vwC H0) (pRel (vwC H0) (pExp (vwC H0) (pNots (vwC H0) (502 - (absC H1).1).toNat (absC H1))))) := s4.1.trans a3
  have v4 : vwC H6 = vwC H0 := s4.2.1.trans v3
  have gb := f10.2.1.1.2
  unfold Bbo_88_9 at gb
  obtain ⟨ko, w1, k⟩ := gb d ed zo w49
  have zo1 := ko.1
  have e8 : hV H1 30 8 = d := (f10.1.2.1.1 30 8 (by decide +kernel)).trans ed.symm
  have gc := ga
  have r16 : n7 = hV H1 30 3 := by
    have w := f16
    rw [f8] at w
    exact w
  have r32 : n10 = hV H6 30 2 := by
    have w := f32
    rw [f8] at w
    exact w
  have r40 : n13 = hV H6 30 2 := by
    have w := f40
    rw [f8] at w
    exact w
  obtain ⟨_, s0_, m01, xn, ya, yb⟩ := gc
  have e_H2 : absC H2 = xLitA (vwC H0) (absC H1) := a0
  have e_H3 : absC H3 = xLitB (vwC H0) (absC H1) := a1
  have e_H4 : absC H4 = xLitC (vwC H0) (absC H1) := a2
  have e_H5 : absC H5 = pLit (vwC H0) (absC H1) := a3
  have s0_ := f22.2.2
  unfold nbo_92 at s0_
  have s0_ : SUMp H2 H3 d := s0_ d (show hV H2 30 8 = d from (f21.1.2.1.1 30 8 (by decide +kernel)).trans e8).symm
  have s1_ := f26.2.2
  unfold nbo_92 at s1_
  have s1_ : SUMp H4 H5 d := s1_ d (show hV H4 30 8 = d from ((f25.1.2.1.1 30 8 (by decide +kernel)).trans ((f22.1.2.1.1 30 8 (by decide +kernel)).trans (f21.1.2.1.1 30 8 (by decide +kernel)))).trans e8).symm
  have nt := f21.2.2
  unfold nbo_89 at nt
  have rl := f25.2.2
  unfold nbo_90 at rl
  have el := f27.2.2
  unfold nbo_91 at el
  have el := el d (show hV H5 30 8 = d from ((f26.1.2.1.1 30 8 (by decide +kernel)).trans ((f25.1.2.1.1 30 8 (by decide +kernel)).trans ((f22.1.2.1.1 30 8 (by decide +kernel)).trans (f21.1.2.1.1 30 8 (by decide +kernel))))).trans e8).symm
  have p5 : (absC H5).1 ≤ 900 := by
    by_cases hn : hV H5 30 3 = 0
    · have := absC_pos c3.1 hn
      have nw := c3.1.2.2.2.1.2.1
      omega
    · have := absC_neg c3.1 hn
      omega
  have lr := LIT_read (o := decide (n2 = 0)) (vwC_ok H0) zo1 w1 (SMf_fr f21.1.1 f21.1.2.1 (by decide +kernel) (by decide +kernel)) e_H2 v0 (absC_ok c0.1) nt s0_ e_H3 v1 (absC_ok c1.1) (SMf_fr f25.1.1 f25.1.2.1 (by decide +kernel) (by decide +kernel)) e_H4 v2 (absC_ok c2.1) rl s1_ e_H5 p5 el (fun w => W49_le f27.1.1 w)
  obtain ⟨kl, wl, rl2⟩ := lr
  have eH : absC H6 = pLit (vwC H0) (absC H1) := a4
  refine ⟨KO_tr ko kl, wl, fun L cd hl hp => ?_⟩
  have hf : hV H1 30 3 = 0 := by omega
  have ap := absC_pos ga.1 hf
  have x0 := (k L cd hl ap.2).1 (by omega)
  have xa := x0.1
  have xb := x0.2.1
  have kk : (vwC H0).1 (absC H6).1 = hV H6 30 2 := by
    have u := (kd_at s4.2.2).resolve_left (by omega)
    rw [v4] at u
    exact u
  have k32 := r32.trans (rfl).symm
  have k40 := r40.trans (rfl).symm
  have oo := or01 (by omega) (by omega) f44
  have hq : 0 ≤ (absC H5).1 := by
    rw [e_H5, ← eH]
    exact hp
  refine CN_lit (X := ([] : List Int)) (by omega) (by omega) x0 eH (by rw [eH, ← e_H5]; exact p5) (fun M c l => ?_) (fun M c l => by
    rw [List.append_nil]
    exact c) ?_ ?_ ?_
  · have y := rl2 M c l hq
    rw [e_H5, ← eH] at y
    exact y
  · exact by
      rw [if_pos (show (vwC H0).1 (absC H6).1 = 43 by rw [kk]; omega), show n2 = 0 by omega]
      rfl
  · exact by
      rw [if_pos (show (vwC H0).1 (absC H6).1 = 43 by rw [kk]; omega)]
      omega
  · exact by
      rw [if_neg (show ¬ (vwC H0).1 (absC H6).1 = 42 by rw [kk]; omega), if_pos (show (vwC H0).1 (absC H6).1 = 43 by rw [kk]; omega)]
      omega
def g_88o_9_10 : vG := ([(5, [16, 2, 15], [], 0), (0, [15], [], 1), (40, [13, 14], [], 0), (0, [14], [], 42), (20, [13, 1], [6], 2), (23, [1], [6], 4), (90, [13], [], -2147483648), (91, [13], [], 2147483647), (31, [12], [], 0), (0, [12], [], 1), (40, [10, 11], [], 0), (0, [11], [], 43), (20, [10, 1], [6], 2), (23, [1], [6], 4), (90, [10], [], -2147483648), (91, [10], [], 2147483647), (30, [3], [], 0), (1091, [1, 9, 8], [5, 6], 0), (1092, [1], [4, 5], 0), (1090, [9, 1], [3, 4], 0), (90, [9], [], -2147483648), (91, [9], [], 2147483647), (1092, [1], [2, 3], 0), (1089, [8, 1], [1, 2], 0), (90, [8], [], 0), (91, [8], [], 1), (31, [4], [], 0), (30, [7], [], 0), (20, [7, 1], [1], 3), (23, [1], [1], 4), (90, [7], [], -2147483648), (91, [7], [], 2147483647), (45, [5, 6], [], 0), (0, [6], [], 500), (5000, [0, 1, 2, 3, 4, 5], [0, 1], 9), (0, [0], [], 30), (0, [1], [], 30), (90, [2], [], -2147483648), (91, [2], [], 2147483647), (90, [3], [], -2147483648), (91, [3], [], 2147483647), (90, [4], [], -2147483648), (91, [4], [], 2147483647), (90, [5], [], -2147483648), (91, [5], [], 2147483647)], (4000, [1, 16, 12, 4, 5, 8, 9], [6], 122))
theorem c_88o_9_10 {q0 : Nat} : vOkm T0 (eN e_88v L_88o A_88v mu_88v no_88 Bo_88 (some q0)) 1 g_88o_9_10 := vOk_inI fun ρ η f0 f1 f2 f3 f4 f5 f6 f7 f8 f9 f10 f11 f12 f13 f14 f15 f16 f17 f18 f19 f20 f21 f22 f23 f24 f25 f26 f27 f28 f29 f30 f31 f32 f33 f34 f35 f36 f37 f38 f39 f40 f41 f42 f43 f44 => q_88o_11 (q0 := q0) (n0 := ρ 5) (n1 := ρ 4) (n2 := ρ 3) (n3 := ρ 2) (n4 := ρ 1) (n5 := ρ 0) (n6 := ρ 6) (n7 := ρ 7) (n8 := ρ 8) (n9 := ρ 9) (n10 := ρ 10) (n11 := ρ 11) (n12 := ρ 12) (n13 := ρ 13) (n14 := ρ 14) (n15 := ρ 15) (n16 := ρ 16) (H0 := η 0) (H1 := η 1) (H2 := η 2) (H3 := η 3) (H4 := η 4) (H5 := η 5) (H6 := η 6) f44 f43 f42 f41 f40 f39 f38 f37 f36 f35 f34 f33 f32 f31 f30 f29 f28 f27 f26 f25 f24 f23 f22 f21 f20 f19 f18 f17 f16 f15 f14 f13 f12 f11 f10 f9 f8 f7 f6 f5 f4 f3 f2 f1 f0
theorem q_88o_12 {q0 : Nat} {n0 n1 n2 n3 n4 n5 n6 n7 n8 n9 n10 n11 n12 n13 n14 n15 n16 : Int} {H0 H1 H2 H3 H4 H5 H6 : gH} (f0 : n0 ≤ 2147483647) (f1 : (-2147483648) ≤ n0) (f2 : n1 ≤ 2147483647) (f3 : (-2147483648) ≤ n1) (f4 : n2 ≤ 2147483647) (f5 : (-2147483648) ≤ n2) (f6 : n3 ≤ 2147483647) (f7 : (-2147483648) ≤ n3) (f8 : n4 = 30) (f9 : n5 = 30) (f10 : (hLe T0 H0 H1 ∧ hFr s_88v.2.2.2.2 H0 H1 ∧ hWt T0 H1) ∧ ((Ab_88v_9 n5 n4 n3 n2 n1 n0 H0 H1 ∧ Bbo_88_9 n5 n4 n3 n2 n1 n0 H0 H1) ∧ preb_88v n5 H0) ∧ some q0 = some (mub_88v_9 n5 n4 n3 n2 n1 n0 H0 H1)) (f11 : n6 = 500) (f12 : n0 ≤ n6) (f13 : n7 ≤ 2147483647) (f14 : (-2147483648) ≤ n7) (f15 : hK H1 (n4).toNat = 4) (f16 : n7 = hV H1 (n4).toNat 3) (f17 : n7 = 0) (f18 : n1 ≠ 0) (f19 : n8 ≤ 1) (f20 : 0 ≤ n8) (f21 : (hLe T0 H1 H2 ∧ hFr s_89v.2.2.2.2 H1 H2 ∧ ((0 : Int) = 0 → H2.length = H1.length) ∧ hWt T0 H2) ∧ (postb_89v n8 n4 H1 H2 ∧ nbo_89 n8 n4 H1 H2)) (f22 : (hLe T0 H2 H3 ∧ hFr s_92v.2.2.2.2 H2 H3 ∧ ((0 : Int) = 0 → H3.length = H2.length) ∧ hWt T0 H3) ∧ (postb_92v n4 H2 H3 ∧ nbo_92 n4 H2 H3)) (f23 : n9 ≤ 2147483647) (f24 : (-2147483648) ≤ n9) (f25 : (hLe T0 H3 H4 ∧ hFr s_90v.2.2.2.2 H3 H4 ∧ ((0 : Int) = 0 → H4.length = H3.length) ∧ hWt T0 H4) ∧ (postb_90v n9 n4 H3 H4 ∧ nbo_90 n9 n4 H3 H4)) (f26 : (hLe T0 H4 H5 ∧ hFr s_92v.2.2.2.2 H4 H5 ∧ ((0 : Int) = 0 → H5.length = H4.length) ∧ hWt T0 H5) ∧ (postb_92v n4 H4 H5 ∧ nbo_92 n4 H4 H5)) (f27 : (hLe T0 H5 H6 ∧ hFr s_91.2.2.2.2 H5 H6 ∧ ((0 : Int) = 0 → H6.length = H5.length) ∧ hWt T0 H6) ∧ (True ∧ nbo_91 n4 n9 n8 H5 H6)) (f28 : n2 = 0) (f29 : n10 ≤ 2147483647) (f30 : (-2147483648) ≤ n10) (f31 : hK H6 (n4).toNat = 4) (f32 : n10 = hV H6 (n4).toNat 2) (f33 : n11 = 43) (f34 : n10 = n11) (f35 : n12 = 1) (f36 : n12 = 0) (f37 : n3 = 0) (f38 : n13 ≤ 2147483647) (f39 : (-2147483648) ≤ n13) (f40 : hK H6 (n4).toNat = 4) (f41 : n13 = hV H6 (n4).toNat 2) (f42 : n14 = 42) (f43 : n13 ≠ n14) (f44 : n15 = 0) (f45 : n16 = o32 (fun x y => x ||| y) n3 n15) : Bbo_88_122 n5 n4 n16 n12 n1 n0 n8 n9 H0 H6 := by
  exfalso
  omega
def g_88o_9_11 : vG := ([(5, [16, 2, 15], [], 0), (0, [15], [], 0), (41, [13, 14], [], 0), (0, [14], [], 42), (20, [13, 1], [6], 2), (23, [1], [6], 4), (90, [13], [], -2147483648), (91, [13], [], 2147483647), (30, [2], [], 0), (30, [12], [], 0), (0, [12], [], 1), (40, [10, 11], [], 0), (0, [11], [], 43), (20, [10, 1], [6], 2), (23, [1], [6], 4), (90, [10], [], -2147483648), (91, [10], [], 2147483647), (30, [3], [], 0), (1091, [1, 9, 8], [5, 6], 0), (1092, [1], [4, 5], 0), (1090, [9, 1], [3, 4], 0), (90, [9], [], -2147483648), (91, [9], [], 2147483647), (1092, [1], [2, 3], 0), (1089, [8, 1], [1, 2], 0), (90, [8], [], 0), (91, [8], [], 1), (31, [4], [], 0), (30, [7], [], 0), (20, [7, 1], [1], 3), (23, [1], [1], 4), (90, [7], [], -2147483648), (91, [7], [], 2147483647), (45, [5, 6], [], 0), (0, [6], [], 500), (5000, [0, 1, 2, 3, 4, 5], [0, 1], 9), (0, [0], [], 30), (0, [1], [], 30), (90, [2], [], -2147483648), (91, [2], [], 2147483647), (90, [3], [], -2147483648), (91, [3], [], 2147483647), (90, [4], [], -2147483648), (91, [4], [], 2147483647), (90, [5], [], -2147483648), (91, [5], [], 2147483647)], (4000, [1, 16, 12, 4, 5, 8, 9], [6], 122))
theorem c_88o_9_11 {q0 : Nat} : vOkm T0 (eN e_88v L_88o A_88v mu_88v no_88 Bo_88 (some q0)) 1 g_88o_9_11 := vOk_inI fun ρ η f0 f1 f2 f3 f4 f5 f6 f7 f8 f9 f10 f11 f12 f13 f14 f15 f16 f17 f18 f19 f20 f21 f22 f23 f24 f25 f26 f27 f28 f29 f30 f31 f32 f33 f34 f35 f36 f37 f38 f39 f40 f41 f42 f43 f44 f45 => q_88o_12 (q0 := q0) (n0 := ρ 5) (n1 := ρ 4) (n2 := ρ 3) (n3 := ρ 2) (n4 := ρ 1) (n5 := ρ 0) (n6 := ρ 6) (n7 := ρ 7) (n8 := ρ 8) (n9 := ρ 9) (n10 := ρ 10) (n11 := ρ 11) (n12 := ρ 12) (n13 := ρ 13) (n14 := ρ 14) (n15 := ρ 15) (n16 := ρ 16) (H0 := η 0) (H1 := η 1) (H2 := η 2) (H3 := η 3) (H4 := η 4) (H5 := η 5) (H6 := η 6) f45 f44 f43 f42 f41 f40 f39 f38 f37 f36 f35 f34 f33 f32 f31 f30 f29 f28 f27 f26 f25 f24 f23 f22 f21 f20 f19 f18 f17 f16 f15 f14 f13 f12 f11 f10 f9 f8 f7 f6 f5 f4 f3 f2 f1 f0
theorem q_88o_13 {q0 : Nat} {n0 n1 n2 n3 n4 n5 n6 n7 n8 n9 n10 n11 n12 n13 n14 n15 n16 : Int} {H0 H1 H2 H3 H4 H5 H6 : gH} (f0 : n0 ≤ 2147483647) (f1 : (-2147483648) ≤ n0) (f2 : n1 ≤ 2147483647) (f3 : (-2147483648) ≤ n1) (f4 : n2 ≤ 2147483647) (f5 : (-2147483648) ≤ n2) (f6 : n3 ≤ 2147483647) (f7 : (-2147483648) ≤ n3) (f8 : n4 = 30) (f9 : n5 = 30) (f10 : (hLe T0 H0 H1 ∧ hFr s_88v.2.2.2.2 H0 H1 ∧ hWt T0 H1) ∧ ((Ab_88v_9 n5 n4 n3 n2 n1 n0 H0 H1 ∧ Bbo_88_9 n5 n4 n3 n2 n1 n0 H0 H1) ∧ preb_88v n5 H0) ∧ some q0 = some (mub_88v_9 n5 n4 n3 n2 n1 n0 H0 H1)) (f11 : n6 = 500) (f12 : n0 ≤ n6) (f13 : n7 ≤ 2147483647) (f14 : (-2147483648) ≤ n7) (f15 : hK H1 (n4).toNat = 4) (f16 : n7 = hV H1 (n4).toNat 3) (f17 : n7 = 0) (f18 : n1 ≠ 0) (f19 : n8 ≤ 1) (f20 : 0 ≤ n8) (f21 : (hLe T0 H1 H2 ∧ hFr s_89v.2.2.2.2 H1 H2 ∧ ((0 : Int) = 0 → H2.length = H1.length) ∧ hWt T0 H2) ∧ (postb_89v n8 n4 H1 H2 ∧ nbo_89 n8 n4 H1 H2)) (f22 : (hLe T0 H2 H3 ∧ hFr s_92v.2.2.2.2 H2 H3 ∧ ((0 : Int) = 0 → H3.length = H2.length) ∧ hWt T0 H3) ∧ (postb_92v n4 H2 H3 ∧ nbo_92 n4 H2 H3)) (f23 : n9 ≤ 2147483647) (f24 : (-2147483648) ≤ n9) (f25 : (hLe T0 H3 H4 ∧ hFr s_90v.2.2.2.2 H3 H4 ∧ ((0 : Int) = 0 → H4.length = H3.length) ∧ hWt T0 H4) ∧ (postb_90v n9 n4 H3 H4 ∧ nbo_90 n9 n4 H3 H4)) (f26 : (hLe T0 H4 H5 ∧ hFr s_92v.2.2.2.2 H4 H5 ∧ ((0 : Int) = 0 → H5.length = H4.length) ∧ hWt T0 H5) ∧ (postb_92v n4 H4 H5 ∧ nbo_92 n4 H4 H5)) (f27 : (hLe T0 H5 H6 ∧ hFr s_91.2.2.2.2 H5 H6 ∧ ((0 : Int) = 0 → H6.length = H5.length) ∧ hWt T0 H6) ∧ (True ∧ nbo_91 n4 n9 n8 H5 H6)) (f28 : n2 = 0) (f29 : n10 ≤ 2147483647) (f30 : (-2147483648) ≤ n10) (f31 : hK H6 (n4).toNat = 4) (f32 : n10 = hV H6 (n4).toNat 2) (f33 : n11 = 43) (f34 : n10 = n11) (f35 : n12 = 1) (f36 : n12 = 0) (f37 : n3 = 0) (f38 : n13 ≤ 2147483647) (f39 : (-2147483648) ≤ n13) (f40 : hK H6 (n4).toNat = 4) (f41 : n13 = hV H6 (n4).toNat 2) (f42 : n14 = 42) (f43 : n13 = n14) (f44 : n15 = 1) (f45 : n16 = o32 (fun x y => x ||| y) n3 n15) : Bbo_88_122 n5 n4 n16 n12 n1 n0 n8 n9 H0 H6 := by
  exfalso
  omega
def g_88o_9_12 : vG := ([(5, [16, 2, 15], [], 0), (0, [15], [], 1), (40, [13, 14], [], 0), (0, [14], [], 42), (20, [13, 1], [6], 2), (23, [1], [6], 4), (90, [13], [], -2147483648), (91, [13], [], 2147483647), (30, [2], [], 0), (30, [12], [], 0), (0, [12], [], 1), (40, [10, 11], [], 0), (0, [11], [], 43), (20, [10, 1], [6], 2), (23, [1], [6], 4), (90, [10], [], -2147483648), (91, [10], [], 2147483647), (30, [3], [], 0), (1091, [1, 9, 8], [5, 6], 0), (1092, [1], [4, 5], 0), (1090, [9, 1], [3, 4], 0), (90, [9], [], -2147483648), (91, [9], [], 2147483647), (1092, [1], [2, 3], 0), (1089, [8, 1], [1, 2], 0), (90, [8], [], 0), (91, [8], [], 1), (31, [4], [], 0), (30, [7], [], 0), (20, [7, 1], [1], 3), (23, [1], [1], 4), (90, [7], [], -2147483648), (91, [7], [], 2147483647), (45, [5, 6], [], 0), (0, [6], [], 500), (5000, [0, 1, 2, 3, 4, 5], [0, 1], 9), (0, [0], [], 30), (0, [1], [], 30), (90, [2], [], -2147483648), (91, [2], [], 2147483647), (90, [3], [], -2147483648), (91, [3], [], 2147483647), (90, [4], [], -2147483648), (91, [4], [], 2147483647), (90, [5], [], -2147483648), (91, [5], [], 2147483647)], (4000, [1, 16, 12, 4, 5, 8, 9], [6], 122))
theorem c_88o_9_12 {q0 : Nat} : vOkm T0 (eN e_88v L_88o A_88v mu_88v no_88 Bo_88 (some q0)) 1 g_88o_9_12 := vOk_inI fun ρ η f0 f1 f2 f3 f4 f5 f6 f7 f8 f9 f10 f11 f12 f13 f14 f15 f16 f17 f18 f19 f20 f21 f22 f23 f24 f25 f26 f27 f28 f29 f30 f31 f32 f33 f34 f35 f36 f37 f38 f39 f40 f41 f42 f43 f44 f45 => q_88o_13 (q0 := q0) (n0 := ρ 5) (n1 := ρ 4) (n2 := ρ 3) (n3 := ρ 2) (n4 := ρ 1) (n5 := ρ 0) (n6 := ρ 6) (n7 := ρ 7) (n8 := ρ 8) (n9 := ρ 9) (n10 := ρ 10) (n11 := ρ 11) (n12 := ρ 12) (n13 := ρ 13) (n14 := ρ 14) (n15 := ρ 15) (n16 := ρ 16) (H0 := η 0) (H1 := η 1) (H2 := η 2) (H3 := η 3) (H4 := η 4) (H5 := η 5) (H6 := η 6) f45 f44 f43 f42 f41 f40 f39 f38 f37 f36 f35 f34 f33 f32 f31 f30 f29 f28 f27 f26 f25 f24 f23 f22 f21 f20 f19 f18 f17 f16 f15 f14 f13 f12 f11 f10 f9 f8 f7 f6 f5 f4 f3 f2 f1 f0
theorem q_88o_14 {q0 : Nat} {n0 n1 n2 n3 n4 n5 n6 n7 n8 n9 n10 n11 n12 n13 n14 n15 n16 n17 n18 n19 : Int} {H0 H1 H2 H3 H4 H5 H6 H7 : gH} (f0 : n0 ≤ 2147483647) (f1 : (-2147483648) ≤ n0) (f2 : n1 ≤ 2147483647) (f3 : (-2147483648) ≤ n1) (f4 : n2 ≤ 2147483647) (f5 : (-2147483648) ≤ n2) (f6 : n3 ≤ 2147483647) (f7 : (-2147483648) ≤ n3) (f8 : n4 = 30) (f9 : n5 = 30) (f10 : (hLe T0 H0 H1 ∧ hFr s_88v.2.2.2.2 H0 H1 ∧ hWt T0 H1) ∧ ((Ab_88v_9 n5 n4 n3 n2 n1 n0 H0 H1 ∧ Bbo_88_9 n5 n4 n3 n2 n1 n0 H0 H1) ∧ preb_88v n5 H0) ∧ some q0 = some (mub_88v_9 n5 n4 n3 n2 n1 n0 H0 H1)) (f11 : n6 = 500) (f12 : n0 ≤ n6) (f13 : n7 ≤ 2147483647) (f14 : (-2147483648) ≤ n7) (f15 : hK H1 (n4).toNat = 4) (f16 : n7 = hV H1 (n4).toNat 3) (f17 : n7 = 0) (f18 : n1 ≠ 0) (f19 : n8 ≤ 1) (f20 : 0 ≤ n8) (f21 : (hLe T0 H1 H2 ∧ hFr s_89v.2.2.2.2 H1 H2 ∧ ((0 : Int) = 0 → H2.length = H1.length) ∧ hWt T0 H2) ∧ (postb_89v n8 n4 H1 H2 ∧ nbo_89 n8 n4 H1 H2)) (f22 : (hLe T0 H2 H3 ∧ hFr s_92v.2.2.2.2 H2 H3 ∧ ((0 : Int) = 0 → H3.length = H2.length) ∧ hWt T0 H3) ∧ (postb_92v n4 H2 H3 ∧ nbo_92 n4 H2 H3)) (f23 : n9 ≤ 2147483647) (f24 : (-2147483648) ≤ n9) (f25 : (hLe T0 H3 H4 ∧ hFr s_90v.2.2.2.2 H3 H4 ∧ ((0 : Int) = 0 → H4.length = H3.length) ∧ hWt T0 H4) ∧ (postb_90v n9 n4 H3 H4 ∧ nbo_90 n9 n4 H3 H4)) (f26 : (hLe T0 H4 H5 ∧ hFr s_92v.2.2.2.2 H4 H5 ∧ ((0 : Int) = 0 → H5.length = H4.length) ∧ hWt T0 H5) ∧ (postb_92v n4 H4 H5 ∧ nbo_92 n4 H4 H5)) (f27 : (hLe T0 H5 H6 ∧ hFr s_91.2.2.2.2 H5 H6 ∧ ((0 : Int) = 0 → H6.length = H5.length) ∧ hWt T0 H6) ∧ (True ∧ nbo_91 n4 n9 n8 H5 H6)) (f28 : n2 = 0) (f29 : n10 ≤ 2147483647) (f30 : (-2147483648) ≤ n10) (f31 : hK H6 (n4).toNat = 4) (f32 : n10 = hV H6 (n4).toNat 2) (f33 : n11 = 43) (f34 : n10 = n11) (f35 : n12 = 1) (f36 : n12 = 0) (f37 : n3 ≠ 0) (f38 : 0 ≤ n13) (f39 : hK H6 (n4).toNat = 4) (f40 : n13 = hV H6 (n4).toNat 8) (f41 : n14 = 10042) (f42 : (hLe T0 H6 H7 ∧ hFr s_98.2.2.2.2 H6 H7 ∧ ((0 : Int) = 0 → H7.length = H6.length) ∧ hWt T0 H7) ∧ (True ∧ nbo_98 n13 n14 H6 H7)) (f43 : n15 = 0) (f44 : n16 ≤ 2147483647) (f45 : (-2147483648) ≤ n16) (f46 : hK H7 (n4).toNat = 4) (f47 : n16 = hV H7 (n4).toNat 2) (f48 : n17 = 42) (f49 : n16 ≠ n17) (f50 : n18 = 0) (f51 : n19 = o32 (fun x y => x ||| y) n15 n18) : Bbo_88_122 n5 n4 n19 n12 n1 n0 n8 n9 H0 H7 := by
  exfalso
  omega
def g_88o_9_13 : vG := ([(5, [19, 15, 18], [], 0), (0, [18], [], 0), (41, [16, 17], [], 0), (0, [17], [], 42), (20, [16, 1], [7], 2), (23, [1], [7], 4), (90, [16], [], -2147483648), (91, [16], [], 2147483647), (0, [15], [], 0), (1098, [13, 14], [6, 7], 0), (0, [14], [], 10042), (20, [13, 1], [6], 8), (23, [1], [6], 4), (51, [13], [], 0), (31, [2], [], 0), (30, [12], [], 0), (0, [12], [], 1), (40, [10, 11], [], 0), (0, [11], [], 43), (20, [10, 1], [6], 2), (23, [1], [6], 4), (90, [10], [], -2147483648), (91, [10], [], 2147483647), (30, [3], [], 0), (1091, [1, 9, 8], [5, 6], 0), (1092, [1], [4, 5], 0), (1090, [9, 1], [3, 4], 0), (90, [9], [], -2147483648), (91, [9], [], 2147483647), (1092, [1], [2, 3], 0), (1089, [8, 1], [1, 2], 0), (90, [8], [], 0), (91, [8], [], 1), (31, [4], [], 0), (30, [7], [], 0), (20, [7, 1], [1], 3), (23, [1], [1], 4), (90, [7], [], -2147483648), (91, [7], [], 2147483647), (45, [5, 6], [], 0), (0, [6], [], 500), (5000, [0, 1, 2, 3, 4, 5], [0, 1], 9), (0, [0], [], 30), (0, [1], [], 30), (90, [2], [], -2147483648), (91, [2], [], 2147483647), (90, [3], [], -2147483648), (91, [3], [], 2147483647), (90, [4], [], -2147483648), (91, [4], [], 2147483647), (90, [5], [], -2147483648), (91, [5], [], 2147483647)], (4000, [1, 19, 12, 4, 5, 8, 9], [7], 122))
theorem c_88o_9_13 {q0 : Nat} : vOkm T0 (eN e_88v L_88o A_88v mu_88v no_88 Bo_88 (some q0)) 1 g_88o_9_13 := vOk_inI fun ρ η f0 f1 f2 f3 f4 f5 f6 f7 f8 f9 f10 f11 f12 f13 f14 f15 f16 f17 f18 f19 f20 f21 f22 f23 f24 f25 f26 f27 f28 f29 f30 f31 f32 f33 f34 f35 f36 f37 f38 f39 f40 f41 f42 f43 f44 f45 f46 f47 f48 f49 f50 f51 => q_88o_14 (q0 := q0) (n0 := ρ 5) (n1 := ρ 4) (n2 := ρ 3) (n3 := ρ 2) (n4 := ρ 1) (n5 := ρ 0) (n6 := ρ 6) (n7 := ρ 7) (n8 := ρ 8) (n9 := ρ 9) (n10 := ρ 10) (n11 := ρ 11) (n12 := ρ 12) (n13 := ρ 13) (n14 := ρ 14) (n15 := ρ 15) (n16 := ρ 16) (n17 := ρ 17) (n18 := ρ 18) (n19 := ρ 19) (H0 := η 0) (H1 := η 1) (H2 := η 2) (H3 := η 3) (H4 := η 4) (H5 := η 5) (H6 := η 6) (H7 := η 7) f51 f50 f49 f48 f47 f46 f45 f44 f43 f42 f41 f40 f39 f38 f37 f36 f35 f34 f33 f32 f31 f30 f29 f28 f27 f26 f25 f24 f23 f22 f21 f20 f19 f18 f17 f16 f15 f14 f13 f12 f11 f10 f9 f8 f7 f6 f5 f4 f3 f2 f1 f0
theorem q_88o_15 {q0 : Nat} {n0 n1 n2 n3 n4 n5 n6 n7 n8 n9 n10 n11 n12 n13 n14 n15 n16 n17 n18 n19 : Int} {H0 H1 H2 H3 H4 H5 H6 H7 : gH} (f0 : n0 ≤ 2147483647) (f1 : (-2147483648) ≤ n0) (f2 : n1 ≤ 2147483647) (f3 : (-2147483648) ≤ n1) (f4 : n2 ≤ 2147483647) (f5 : (-2147483648) ≤ n2) (f6 : n3 ≤ 2147483647) (f7 : (-2147483648) ≤ n3) (f8 : n4 = 30) (f9 : n5 = 30) (f10 : (hLe T0 H0 H1 ∧ hFr s_88v.2.2.2.2 H0 H1 ∧ hWt T0 H1) ∧ ((Ab_88v_9 n5 n4 n3 n2 n1 n0 H0 H1 ∧ Bbo_88_9 n5 n4 n3 n2 n1 n0 H0 H1) ∧ preb_88v n5 H0) ∧ some q0 = some (mub_88v_9 n5 n4 n3 n2 n1 n0 H0 H1)) (f11 : n6 = 500) (f12 : n0 ≤ n6) (f13 : n7 ≤ 2147483647) (f14 : (-2147483648) ≤ n7) (f15 : hK H1 (n4).toNat = 4) (f16 : n7 = hV H1 (n4).toNat 3) (f17 : n7 = 0) (f18 : n1 ≠ 0) (f19 : n8 ≤ 1) (f20 : 0 ≤ n8) (f21 : (hLe T0 H1 H2 ∧ hFr s_89v.2.2.2.2 H1 H2 ∧ ((0 : Int) = 0 → H2.length = H1.length) ∧ hWt T0 H2) ∧ (postb_89v n8 n4 H1 H2 ∧ nbo_89 n8 n4 H1 H2)) (f22 : (hLe T0 H2 H3 ∧ hFr s_92v.2.2.2.2 H2 H3 ∧ ((0 : Int) = 0 → H3.length = H2.length) ∧ hWt T0 H3) ∧ (postb_92v n4 H2 H3 ∧ nbo_92 n4 H2 H3)) (f23 : n9 ≤ 2147483647) (f24 : (-2147483648) ≤ n9) (f25 : (hLe T0 H3 H4 ∧ hFr s_90v.2.2.2.2 H3 H4 ∧ ((0 : Int) = 0 → H4.length = H3.length) ∧ hWt T0 H4) ∧ (postb_90v n9 n4 H3 H4 ∧ nbo_90 n9 n4 H3 H4)) (f26 : (hLe T0 H4 H5 ∧ hFr s_92v.2.2.2.2 H4 H5 ∧ ((0 : Int) = 0 → H5.length = H4.length) ∧ hWt T0 H5) ∧ (postb_92v n4 H4 H5 ∧ nbo_92 n4 H4 H5)) (f27 : (hLe T0 H5 H6 ∧ hFr s_91.2.2.2.2 H5 H6 ∧ ((0 : Int) = 0 → H6.length = H5.length) ∧ hWt T0 H6) ∧ (True ∧ nbo_91 n4 n9 n8 H5 H6)) (f28 : n2 = 0) (f29 : n10 ≤ 2147483647) (f30 : (-2147483648) ≤ n10) (f31 : hK H6 (n4).toNat = 4) (f32 : n10 = hV H6 (n4).toNat 2) (f33 : n11 = 43) (f34 : n10 = n11) (f35 : n12 = 1) (f36 : n12 = 0) (f37 : n3 ≠ 0) (f38 : 0 ≤ n13) (f39 : hK H6 (n4).toNat = 4) (f40 : n13 = hV H6 (n4).toNat 8) (f41 : n14 = 10042) (f42 : (hLe T0 H6 H7 ∧ hFr s_98.2.2.2.2 H6 H7 ∧ ((0 : Int) = 0 → H7.length = H6.length) ∧ hWt T0 H7) ∧ (True ∧ nbo_98 n13 n14 H6 H7)) (f43 : n15 = 0) (f44 : n16 ≤ 2147483647) (f45 : (-2147483648) ≤ n16) (f46 : hK H7 (n4).toNat = 4) (f47 : n16 = hV H7 (n4).toNat 2) (f48 : n17 = 42) (f49 : n16 = n17) (f50 : n18 = 1) (f51 : n19 = o32 (fun x y => x ||| y) n15 n18) : Bbo_88_122 n5 n4 n19 n12 n1 n0 n8 n9 H0 H7 := by
  exfalso
  omega
def g_88o_9_14 : vG := ([(5, [19, 15, 18], [], 0), (0, [18], [], 1), (40, [16, 17], [], 0), (0, [17], [], 42), (20, [16, 1], [7], 2), (23, [1], [7], 4), (90, [16], [], -2147483648), (91, [16], [], 2147483647), (0, [15], [], 0), (1098, [13, 14], [6, 7], 0), (0, [14], [], 10042), (20, [13, 1], [6], 8), (23, [1], [6], 4), (51, [13], [], 0), (31, [2], [], 0), (30, [12], [], 0), (0, [12], [], 1), (40, [10, 11], [], 0), (0, [11], [], 43), (20, [10, 1], [6], 2), (23, [1], [6], 4), (90, [10], [], -2147483648), (91, [10], [], 2147483647), (30, [3], [], 0), (1091, [1, 9, 8], [5, 6], 0), (1092, [1], [4, 5], 0), (1090, [9, 1], [3, 4], 0), (90, [9], [], -2147483648), (91, [9], [], 2147483647), (1092, [1], [2, 3], 0), (1089, [8, 1], [1, 2], 0), (90, [8], [], 0), (91, [8], [], 1), (31, [4], [], 0), (30, [7], [], 0), (20, [7, 1], [1], 3), (23, [1], [1], 4), (90, [7], [], -2147483648), (91, [7], [], 2147483647), (45, [5, 6], [], 0), (0, [6], [], 500), (5000, [0, 1, 2, 3, 4, 5], [0, 1], 9), (0, [0], [], 30), (0, [1], [], 30), (90, [2], [], -2147483648), (91, [2], [], 2147483647), (90, [3], [], -2147483648), (91, [3], [], 2147483647), (90, [4], [], -2147483648), (91, [4], [], 2147483647), (90, [5], [], -2147483648), (91, [5], [], 2147483647)], (4000, [1, 19, 12, 4, 5, 8, 9], [7], 122))
theorem c_88o_9_14 {q0 : Nat} : vOkm T0 (eN e_88v L_88o A_88v mu_88v no_88 Bo_88 (some q0)) 1 g_88o_9_14 := vOk_inI fun ρ η f0 f1 f2 f3 f4 f5 f6 f7 f8 f9 f10 f11 f12 f13 f14 f15 f16 f17 f18 f19 f20 f21 f22 f23 f24 f25 f26 f27 f28 f29 f30 f31 f32 f33 f34 f35 f36 f37 f38 f39 f40 f41 f42 f43 f44 f45 f46 f47 f48 f49 f50 f51 => q_88o_15 (q0 := q0) (n0 := ρ 5) (n1 := ρ 4) (n2 := ρ 3) (n3 := ρ 2) (n4 := ρ 1) (n5 := ρ 0) (n6 := ρ 6) (n7 := ρ 7) (n8 := ρ 8) (n9 := ρ 9) (n10 := ρ 10) (n11 := ρ 11) (n12 := ρ 12) (n13 := ρ 13) (n14 := ρ 14) (n15 := ρ 15) (n16 := ρ 16) (n17 := ρ 17) (n18 := ρ 18) (n19 := ρ 19) (H0 := η 0) (H1 := η 1) (H2 := η 2) (H3 := η 3) (H4 := η 4) (H5 := η 5) (H6 := η 6) (H7 := η 7) f51 f50 f49 f48 f47 f46 f45 f44 f43 f42 f41 f40 f39 f38 f37 f36 f35 f34 f33 f32 f31 f30 f29 f28 f27 f26 f25 f24 f23 f22 f21 f20 f19 f18 f17 f16 f15 f14 f13 f12 f11 f10 f9 f8 f7 f6 f5 f4 f3 f2 f1 f0
theorem q_88o_16 {q0 : Nat} {n0 n1 n2 n3 n4 n5 n6 n7 n8 n9 n10 n11 n12 n13 n14 n15 n16 n17 n18 : Int} {H0 H1 H2 H3 H4 H5 H6 H7 : gH} (f0 : n0 ≤ 2147483647) (f1 : (-2147483648) ≤ n0) (f2 : n1 ≤ 2147483647) (f3 : (-2147483648) ≤ n1) (f4 : n2 ≤ 2147483647) (f5 : (-2147483648) ≤ n2) (f6 : n3 ≤ 2147483647) (f7 : (-2147483648) ≤ n3) (f8 : n4 = 30) (f9 : n5 = 30) (f10 : (hLe T0 H0 H1 ∧ hFr s_88v.2.2.2.2 H0 H1 ∧ hWt T0 H1) ∧ ((Ab_88v_9 n5 n4 n3 n2 n1 n0 H0 H1 ∧ Bbo_88_9 n5 n4 n3 n2 n1 n0 H0 H1) ∧ preb_88v n5 H0) ∧ some q0 = some (mub_88v_9 n5 n4 n3 n2 n1 n0 H0 H1)) (f11 : n6 = 500) (f12 : n0 ≤ n6) (f13 : n7 ≤ 2147483647) (f14 : (-2147483648) ≤ n7) (f15 : hK H1 (n4).toNat = 4) (f16 : n7 = hV H1 (n4).toNat 3) (f17 : n7 = 0) (f18 : n1 ≠ 0) (f19 : n8 ≤ 1) (f20 : 0 ≤ n8) (f21 : (hLe T0 H1 H2 ∧ hFr s_89v.2.2.2.2 H1 H2 ∧ ((0 : Int) = 0 → H2.length = H1.length) ∧ hWt T0 H2) ∧ (postb_89v n8 n4 H1 H2 ∧ nbo_89 n8 n4 H1 H2)) (f22 : (hLe T0 H2 H3 ∧ hFr s_92v.2.2.2.2 H2 H3 ∧ ((0 : Int) = 0 → H3.length = H2.length) ∧ hWt T0 H3) ∧ (postb_92v n4 H2 H3 ∧ nbo_92 n4 H2 H3)) (f23 : n9 ≤ 2147483647) (f24 : (-2147483648) ≤ n9) (f25 : (hLe T0 H3 H4 ∧ hFr s_90v.2.2.2.2 H3 H4 ∧ ((0 : Int) = 0 → H4.length = H3.length) ∧ hWt T0 H4) ∧ (postb_90v n9 n4 H3 H4 ∧ nbo_90 n9 n4 H3 H4)) (f26 : (hLe T0 H4 H5 ∧ hFr s_92v.2.2.2.2 H4 H5 ∧ ((0 : Int) = 0 → H5.length = H4.length) ∧ hWt T0 H5) ∧ (postb_92v n4 H4 H5 ∧ nbo_92 n4 H4 H5)) (f27 : (hLe T0 H5 H6 ∧ hFr s_91.2.2.2.2 H5 H6 ∧ ((0 : Int) = 0 → H6.length = H5.length) ∧ hWt T0 H6) ∧ (True ∧ nbo_91 n4 n9 n8 H5 H6)) (f28 : n2 ≠ 0) (f29 : 0 ≤ n10) (f30 : hK H6 (n4).toNat = 4) (f31 : n10 = hV H6 (n4).toNat 8) (f32 : n11 = 10043) (f33 : (hLe T0 H6 H7 ∧ hFr s_98.2.2.2.2 H6 H7 ∧ ((0 : Int) = 0 → H7.length = H6.length) ∧ hWt T0 H7) ∧ (True ∧ nbo_98 n10 n11 H6 H7)) (f34 : n12 ≤ 2147483647) (f35 : (-2147483648) ≤ n12) (f36 : hK H7 (n4).toNat = 4) (f37 : n12 = hV H7 (n4).toNat 2) (f38 : n13 = 43) (f39 : n12 ≠ n13) (f40 : n14 = 0) (f41 : n14 ≠ 0) (f42 : n15 ≤ 2147483647) (f43 : (-2147483648) ≤ n15) (f44 : hK H7 (n4).toNat = 4) (f45 : n15 = hV H7 (n4).toNat 2) (f46 : n16 = 42) (f47 : n15 ≠ n16) (f48 : n17 = 0) (f49 : n18 = o32 (fun x y => x ||| y) n3 n17) : Bbo_88_122 n5 n4 n18 n14 n1 n0 n8 n9 H0 H7 := by
  exfalso
  omega
def g_88o_9_15 : vG := ([(5, [18, 2, 17], [], 0), (0, [17], [], 0), (41, [15, 16], [], 0), (0, [16], [], 42), (20, [15, 1], [7], 2), (23, [1], [7], 4), (90, [15], [], -2147483648), (91, [15], [], 2147483647), (31, [14], [], 0), (0, [14], [], 0), (41, [12, 13], [], 0), (0, [13], [], 43), (20, [12, 1], [7], 2), (23, [1], [7], 4), (90, [12], [], -2147483648), (91, [12], [], 2147483647), (1098, [10, 11], [6, 7], 0), (0, [11], [], 10043), (20, [10, 1], [6], 8), (23, [1], [6], 4), (51, [10], [], 0), (31, [3], [], 0), (1091, [1, 9, 8], [5, 6], 0), (1092, [1], [4, 5], 0), (1090, [9, 1], [3, 4], 0), (90, [9], [], -2147483648), (91, [9], [], 2147483647), (1092, [1], [2, 3], 0), (1089, [8, 1], [1, 2], 0), (90, [8], [], 0), (91, [8], [], 1), (31, [4], [], 0), (30, [7], [], 0), (20, [7, 1], [1], 3), (23, [1], [1], 4), (90, [7], [], -2147483648), (91, [7], [], 2147483647), (45, [5, 6], [], 0), (0, [6], [], 500), (5000, [0, 1, 2, 3, 4, 5], [0, 1], 9), (0, [0], [], 30), (0, [1], [], 30), (90, [2], [], -2147483648), (91, [2], [], 2147483647), (90, [3], [], -2147483648), (91, [3], [], 2147483647), (90, [4], [], -2147483648), (91, [4], [], 2147483647), (90, [5], [], -2147483648), (91, [5], [], 2147483647)], (4000, [1, 18, 14, 4, 5, 8, 9], [7], 122))
theorem c_88o_9_15 {q0 : Nat} : vOkm T0 (eN e_88v L_88o A_88v mu_88v no_88 Bo_88 (some q0)) 1 g_88o_9_15 := vOk_inI fun ρ η f0 f1 f2 f3 f4 f5 f6 f7 f8 f9 f10 f11 f12 f13 f14 f15 f16 f17 f18 f19 f20 f21 f22 f23 f24 f25 f26 f27 f28 f29 f30 f31 f32 f33 f34 f35 f36 f37 f38 f39 f40 f41 f42 f43 f44 f45 f46 f47 f48 f49 => q_88o_16 (q0 := q0) (n0 := ρ 5) (n1 := ρ 4) (n2 := ρ 3) (n3 := ρ 2) (n4 := ρ 1) (n5 := ρ 0) (n6 := ρ 6) (n7 := ρ 7) (n8 := ρ 8) (n9 := ρ 9) (n10 := ρ 10) (n11 := ρ 11) (n12 := ρ 12) (n13 := ρ 13) (n14 := ρ 14) (n15 := ρ 15) (n16 := ρ 16) (n17 := ρ 17) (n18 := ρ 18) (H0 := η 0) (H1 := η 1) (H2 := η 2) (H3 := η 3) (H4 := η 4) (H5 := η 5) (H6 := η 6) (H7 := η 7) f49 f48 f47 f46 f45 f44 f43 f42 f41 f40 f39 f38 f37 f36 f35 f34 f33 f32 f31 f30 f29 f28 f27 f26 f25 f24 f23 f22 f21 f20 f19 f18 f17 f16 f15 f14 f13 f12 f11 f10 f9 f8 f7 f6 f5 f4 f3 f2 f1 f0
theorem q_88o_17 {q0 : Nat} {n0 n1 n2 n3 n4 n5 n6 n7 n8 n9 n10 n11 n12 n13 n14 n15 n16 n17 n18 : Int} {H0 H1 H2 H3 H4 H5 H6 H7 : gH} (f0 : n0 ≤ 2147483647) (f1 : (-2147483648) ≤ n0) (f2 : n1 ≤ 2147483647) (f3 : (-2147483648) ≤ n1) (f4 : n2 ≤ 2147483647) (f5 : (-2147483648) ≤ n2) (f6 : n3 ≤ 2147483647) (f7 : (-2147483648) ≤ n3) (f8 : n4 = 30) (f9 : n5 = 30) (f10 : (hLe T0 H0 H1 ∧ hFr s_88v.2.2.2.2 H0 H1 ∧ hWt T0 H1) ∧ ((Ab_88v_9 n5 n4 n3 n2 n1 n0 H0 H1 ∧ Bbo_88_9 n5 n4 n3 n2 n1 n0 H0 H1) ∧ preb_88v n5 H0) ∧ some q0 = some (mub_88v_9 n5 n4 n3 n2 n1 n0 H0 H1)) (f11 : n6 = 500) (f12 : n0 ≤ n6) (f13 : n7 ≤ 2147483647) (f14 : (-2147483648) ≤ n7) (f15 : hK H1 (n4).toNat = 4) (f16 : n7 = hV H1 (n4).toNat 3) (f17 : n7 = 0) (f18 : n1 ≠ 0) (f19 : n8 ≤ 1) (f20 : 0 ≤ n8) (f21 : (hLe T0 H1 H2 ∧ hFr s_89v.2.2.2.2 H1 H2 ∧ ((0 : Int) = 0 → H2.length = H1.length) ∧ hWt T0 H2) ∧ (postb_89v n8 n4 H1 H2 ∧ nbo_89 n8 n4 H1 H2)) (f22 : (hLe T0 H2 H3 ∧ hFr s_92v.2.2.2.2 H2 H3 ∧ ((0 : Int) = 0 → H3.length = H2.length) ∧ hWt T0 H3) ∧ (postb_92v n4 H2 H3 ∧ nbo_92 n4 H2 H3)) (f23 : n9 ≤ 2147483647) (f24 : (-2147483648) ≤ n9) (f25 : (hLe T0 H3 H4 ∧ hFr s_90v.2.2.2.2 H3 H4 ∧ ((0 : Int) = 0 → H4.length = H3.length) ∧ hWt T0 H4) ∧ (postb_90v n9 n4 H3 H4 ∧ nbo_90 n9 n4 H3 H4)) (f26 : (hLe T0 H4 H5 ∧ hFr s_92v.2.2.2.2 H4 H5 ∧ ((0 : Int) = 0 → H5.length = H4.length) ∧ hWt T0 H5) ∧ (postb_92v n4 H4 H5 ∧ nbo_92 n4 H4 H5)) (f27 : (hLe T0 H5 H6 ∧ hFr s_91.2.2.2.2 H5 H6 ∧ ((0 : Int) = 0 → H6.length = H5.length) ∧ hWt T0 H6) ∧ (True ∧ nbo_91 n4 n9 n8 H5 H6)) (f28 : n2 ≠ 0) (f29 : 0 ≤ n10) (f30 : hK H6 (n4).toNat = 4) (f31 : n10 = hV H6 (n4).toNat 8) (f32 : n11 = 10043) (f33 : (hLe T0 H6 H7 ∧ hFr s_98.2.2.2.2 H6 H7 ∧ ((0 : Int) = 0 → H7.length = H6.length) ∧ hWt T0 H7) ∧ (True ∧ nbo_98 n10 n11 H6 H7)) (f34 : n12 ≤ 2147483647) (f35 : (-2147483648) ≤ n12) (f36 : hK H7 (n4).toNat = 4) (f37 : n12 = hV H7 (n4).toNat 2) (f38 : n13 = 43) (f39 : n12 ≠ n13) (f40 : n14 = 0) (f41 : n14 ≠ 0) (f42 : n15 ≤ 2147483647) (f43 : (-2147483648) ≤ n15) (f44 : hK H7 (n4).toNat = 4) (f45 : n15 = hV H7 (n4).toNat 2) (f46 : n16 = 42) (f47 : n15 = n16) (f48 : n17 = 1) (f49 : n18 = o32 (fun x y => x ||| y) n3 n17) : Bbo_88_122 n5 n4 n18 n14 n1 n0 n8 n9 H0 H7 := by
  exfalso
  omega
def g_88o_9_16 : vG := ([(5, [18, 2, 17], [], 0), (0, [17], [], 1), (40, [15, 16], [], 0), (0, [16], [], 42), (20, [15, 1], [7], 2), (23, [1], [7], 4), (90, [15], [], -2147483648), (91, [15], [], 2147483647), (31, [14], [], 0), (0, [14], [], 0), (41, [12, 13], [], 0), (0, [13], [], 43), (20, [12, 1], [7], 2), (23, [1], [7], 4), (90, [12], [], -2147483648), (91, [12], [], 2147483647), (1098, [10, 11], [6, 7], 0), (0, [11], [], 10043), (20, [10, 1], [6], 8), (23, [1], [6], 4), (51, [10], [], 0), (31, [3], [], 0), (1091, [1, 9, 8], [5, 6], 0), (1092, [1], [4, 5], 0), (1090, [9, 1], [3, 4], 0), (90, [9], [], -2147483648), (91, [9], [], 2147483647), (1092, [1], [2, 3], 0), (1089, [8, 1], [1, 2], 0), (90, [8], [], 0), (91, [8], [], 1), (31, [4], [], 0), (30, [7], [], 0), (20, [7, 1], [1], 3), (23, [1], [1], 4), (90, [7], [], -2147483648), (91, [7], [], 2147483647), (45, [5, 6], [], 0), (0, [6], [], 500), (5000, [0, 1, 2, 3, 4, 5], [0, 1], 9), (0, [0], [], 30), (0, [1], [], 30), (90, [2], [], -2147483648), (91, [2], [], 2147483647), (90, [3], [], -2147483648), (91, [3], [], 2147483647), (90, [4], [], -2147483648), (91, [4], [], 2147483647), (90, [5], [], -2147483648), (91, [5], [], 2147483647)], (4000, [1, 18, 14, 4, 5, 8, 9], [7], 122))
theorem c_88o_9_16 {q0 : Nat} : vOkm T0 (eN e_88v L_88o A_88v mu_88v no_88 Bo_88 (some q0)) 1 g_88o_9_16 := vOk_inI fun ρ η f0 f1 f2 f3 f4 f5 f6 f7 f8 f9 f10 f11 f12 f13 f14 f15 f16 f17 f18 f19 f20 f21 f22 f23 f24 f25 f26 f27 f28 f29 f30 f31 f32 f33 f34 f35 f36 f37 f38 f39 f40 f41 f42 f43 f44 f45 f46 f47 f48 f49 => q_88o_17 (q0 := q0) (n0 := ρ 5) (n1 := ρ 4) (n2 := ρ 3) (n3 := ρ 2) (n4 := ρ 1) (n5 := ρ 0) (n6 := ρ 6) (n7 := ρ 7) (n8 := ρ 8) (n9 := ρ 9) (n10 := ρ 10) (n11 := ρ 11) (n12 := ρ 12) (n13 := ρ 13) (n14 := ρ 14) (n15 := ρ 15) (n16 := ρ 16) (n17 := ρ 17) (n18 := ρ 18) (H0 := η 0) (H1 := η 1) (H2 := η 2) (H3 := η 3) (H4 := η 4) (H5 := η 5) (H6 := η 6) (H7 := η 7) f49 f48 f47 f46 f45 f44 f43 f42 f41 f40 f39 f38 f37 f36 f35 f34 f33 f32 f31 f30 f29 f28 f27 f26 f25 f24 f23 f22 f21 f20 f19 f18 f17 f16 f15 f14 f13 f12 f11 f10 f9 f8 f7 f6 f5 f4 f3 f2 f1 f0
theorem q_88o_18 {q0 : Nat} {n0 n1 n2 n3 n4 n5 n6 n7 n8 n9 n10 n11 n12 n13 n14 n15 n16 n17 n18 : Int} {H0 H1 H2 H3 H4 H5 H6 H7 : gH} (f0 : n0 ≤ 2147483647) (f1 : (-2147483648) ≤ n0) (f2 : n1 ≤ 2147483647) (f3 : (-2147483648) ≤ n1) (f4 : n2 ≤ 2147483647) (f5 : (-2147483648) ≤ n2) (f6 : n3 ≤ 2147483647) (f7 : (-2147483648) ≤ n3) (f8 : n4 = 30) (f9 : n5 = 30) (f10 : (hLe T0 H0 H1 ∧ hFr s_88v.2.2.2.2 H0 H1 ∧ hWt T0 H1) ∧ ((Ab_88v_9 n5 n4 n3 n2 n1 n0 H0 H1 ∧ Bbo_88_9 n5 n4 n3 n2 n1 n0 H0 H1) ∧ preb_88v n5 H0) ∧ some q0 = some (mub_88v_9 n5 n4 n3 n2 n1 n0 H0 H1)) (f11 : n6 = 500) (f12 : n0 ≤ n6) (f13 : n7 ≤ 2147483647) (f14 : (-2147483648) ≤ n7) (f15 : hK H1 (n4).toNat = 4) (f16 : n7 = hV H1 (n4).toNat 3) (f17 : n7 = 0) (f18 : n1 ≠ 0) (f19 : n8 ≤ 1) (f20 : 0 ≤ n8) (f21 : (hLe T0 H1 H2 ∧ hFr s_89v.2.2.2.2 H1 H2 ∧ ((0 : Int) = 0 → H2.length = H1.length) ∧ hWt T0 H2) ∧ (postb_89v n8 n4 H1 H2 ∧ nbo_89 n8 n4 H1 H2)) (f22 : (hLe T0 H2 H3 ∧ hFr s_92v.2.2.2.2 H2 H3 ∧ ((0 : Int) = 0 → H3.length = H2.length) ∧ hWt T0 H3) ∧ (postb_92v n4 H2 H3 ∧ nbo_92 n4 H2 H3)) (f23 : n9 ≤ 2147483647) (f24 : (-2147483648) ≤ n9) (f25 : (hLe T0 H3 H4 ∧ hFr s_90v.2.2.2.2 H3 H4 ∧ ((0 : Int) = 0 → H4.length = H3.length) ∧ hWt T0 H4) ∧ (postb_90v n9 n4 H3 H4 ∧ nbo_90 n9 n4 H3 H4)) (f26 : (hLe T0 H4 H5 ∧ hFr s_92v.2.2.2.2 H4 H5 ∧ ((0 : Int) = 0 → H5.length = H4.length) ∧ hWt T0 H5) ∧ (postb_92v n4 H4 H5 ∧ nbo_92 n4 H4 H5)) (f27 : (hLe T0 H5 H6 ∧ hFr s_91.2.2.2.2 H5 H6 ∧ ((0 : Int) = 0 → H6.length = H5.length) ∧ hWt T0 H6) ∧ (True ∧ nbo_91 n4 n9 n8 H5 H6)) (f28 : n2 ≠ 0) (f29 : 0 ≤ n10) (f30 : hK H6 (n4).toNat = 4) (f31 : n10 = hV H6 (n4).toNat 8) (f32 : n11 = 10043) (f33 : (hLe T0 H6 H7 ∧ hFr s_98.2.2.2.2 H6 H7 ∧ ((0 : Int) = 0 → H7.length = H6.length) ∧ hWt T0 H7) ∧ (True ∧ nbo_98 n10 n11 H6 H7)) (f34 : n12 ≤ 2147483647) (f35 : (-2147483648) ≤ n12) (f36 : hK H7 (n4).toNat = 4) (f37 : n12 = hV H7 (n4).toNat 2) (f38 : n13 = 43) (f39 : n12 ≠ n13) (f40 : n14 = 0) (f41 : n14 = 0) (f42 : n3 = 0) (f43 : n15 ≤ 2147483647) (f44 : (-2147483648) ≤ n15) (f45 : hK H7 (n4).toNat = 4) (f46 : n15 = hV H7 (n4).toNat 2) (f47 : n16 = 42) (f48 : n15 ≠ n16) (f49 : n17 = 0) (f50 : n18 = o32 (fun x y => x ||| y) n3 n17) : Bbo_88_122 n5 n4 n18 n14 n1 n0 n8 n9 H0 H7 := by
  unfold Bbo_88_122
  intro d ed zo w49
  have pz := f10.2.1.2
  unfold preb_88v at pz
  have ga := f10.2.1.1.1
  unfold Ab_88v_9 at ga
  have vz : vwC H1 = vwC H0 := vwC_fr f10.1.2.1 (by decide +kernel)
  have c0 := f21.2.1
  unfold postb_89v at c0
  rw [vz] at c0
  have a0 : absC H2 = (pNots (vwC H0) (502 - (absC H1).1).toNat (absC H1)) := c0.2
  have v0 : vwC H2 = vwC H0 := (vwC_fr f21.1.2.1 (by decide +kernel)).trans vz
  have c1 := f22.2.1
  unfold postb_92v at c1
  rw [v0] at c1
  rw [a0] at c1
  have a1 : absC H3 = (pExp (vwC H0) (pNots (vwC H0) (502 - (absC H1).1).toNat (absC H1))) := c1.2
  have v1 : vwC H3 = vwC H0 := (vwC_fr f22.1.2.1 (by decide +kernel)).trans v0
  have c2 := f25.2.1
  unfold postb_90v at c2
  rw [v1] at c2
  rw [a1] at c2
  have a2 : absC H4 = (pRel (vwC H0) (pExp (vwC H0) (pNots (vwC H0) (502 - (absC H1).1).toNat (absC H1)))) := c2.2
  have v2 : vwC H4 = vwC H0 := (vwC_fr f25.1.2.1 (by decide +kernel)).trans v1
  have c3 := f26.2.1
  unfold postb_92v at c3
  rw [v2] at c3
  rw [a2] at c3
  have a3 : absC H5 = (pExp (vwC H0) (pRel (vwC H0) (pExp (vwC H0) (pNots (vwC H0) (502 - (absC H1).1).toNat (absC H1))))) := c3.2
  have v3 : vwC H5 = vwC H0 := (vwC_fr f26.1.2.1 (by decide +kernel)).trans v2
  have s4 := PF_fr f27.1.1 f27.1.2.1 (by decide +kernel) c3.1
  have a4 : absC H6 = (pExp (vwC H0) (pRel (vwC H0) (pExp (vwC H0) (pNots (vwC H0) (502 - (absC H1).1).toNat (absC H1))))) := s4.1.trans a3
  have v4 : vwC H6 = vwC H0 := s4.2.1.trans v3
  have s5 := PF_fr f33.1.1 f33.1.2.1 (by decide +kernel) s4.2.2
  have a5 : absC H7 = (pExp (vwC H0) (pRel (vwC H0) (pExp (vwC H0) (pNots (vwC H0) (502 - (absC H1).1).toNat (absC H1))))) := s5.1.trans a4
  have v5 : vwC H7 = vwC H0 := s5.2.1.trans v4
  have gb := f10.2.1.1.2
  unfold Bbo_88_9 at gb
  obtain ⟨ko, w1, k⟩ := gb d ed zo w49
  have zo1 := ko.1
  have e8 : hV H1 30 8 = d := (f10.1.2.1.1 30 8 (by decide +kernel)).trans ed.symm
  have gc := ga
  have r16 : n7 = hV H1 30 3 := by
    have w := f16
    rw [f8] at w
    exact w
  have r31 : n10 = hV H6 30 8 := by
    have w := f31
    rw [f8] at w
    exact w
  have r37 : n12 = hV H7 30 2 := by
    have w := f37
    rw [f8] at w
    exact w
  have r46 : n15 = hV H7 30 2 := by
    have w := f46
    rw [f8] at w
    exact w
  obtain ⟨_, s0_, m01, xn, ya, yb⟩ := gc
  have e_H2 : absC H2 = xLitA (vwC H0) (absC H1) := a0
  have e_H3 : absC H3 = xLitB (vwC H0) (absC H1) := a1
  have e_H4 : absC H4 = xLitC (vwC H0) (absC H1) := a2
  have e_H5 : absC H5 = pLit (vwC H0) (absC H1) := a3
  have s0_ := f22.2.2
  unfold nbo_92 at s0_
  have s0_ : SUMp H2 H3 d := s0_ d (show hV H2 30 8 = d from (f21.1.2.1.1 30 8 (by decide +kernel)).trans e8).symm
  have s1_ := f26.2.2
  unfold nbo_92 at s1_
  have s1_ : SUMp H4 H5 d := s1_ d (show hV H4 30 8 = d from ((f25.1.2.1.1 30 8 (by decide +kernel)).trans ((f22.1.2.1.1 30 8 (by decide +kernel)).trans (f21.1.2.1.1 30 8 (by decide +kernel)))).trans e8).symm
  have nt := f21.2.2
  unfold nbo_89 at nt
  have rl := f25.2.2
  unfold nbo_90 at rl
  have el := f27.2.2
  unfold nbo_91 at el
  have el := el d (show hV H5 30 8 = d from ((f26.1.2.1.1 30 8 (by decide +kernel)).trans ((f25.1.2.1.1 30 8 (by decide +kernel)).trans ((f22.1.2.1.1 30 8 (by decide +kernel)).trans (f21.1.2.1.1 30 8 (by decide +kernel))))).trans e8).symm
  have p5 : (absC H5).1 ≤ 900 := by
    by_cases hn : hV H5 30 3 = 0
    · have := absC_pos c3.1 hn
      have nw := c3.1.2.2.2.1.2.1
      omega
    · have := absC_neg c3.1 hn
      omega
  have lr := LIT_read (o := decide (n2 = 0)) (vwC_ok H0) zo1 w1 (SMf_fr f21.1.1 f21.1.2.1 (by decide +kernel) (by decide +kernel)) e_H2 v0 (absC_ok c0.1) nt s0_ e_H3 v1 (absC_ok c1.1) (SMf_fr f25.1.1 f25.1.2.1 (by decide +kernel) (by decide +kernel)) e_H4 v2 (absC_ok c2.1) rl s1_ e_H5 p5 el (fun w => W49_le f27.1.1 w)
  obtain ⟨kl, wl, rl2⟩ := lr
  have m0_ := f33.2.2
  unfold nbo_98 at m0_
  rw [show n10 = d from (r31.trans ((f27.1.2.1.1 30 8 (by decide +kernel)).trans ((f26.1.2.1.1 30 8 (by decide +kernel)).trans ((f25.1.2.1.1 30 8 (by decide +kernel)).trans ((f22.1.2.1.1 30 8 (by decide +kernel)).trans (f21.1.2.1.1 30 8 (by decide +kernel))))))).trans e8] at m0_
  have eH : absC H7 = pLit (vwC H0) (absC H1) := a5
  refine ⟨KO_tr ko (KO_tr kl (m0_ kl.1).1), (W49_le f33.1.1 wl), fun L cd hl hp => ?_⟩
  have hf : hV H1 30 3 = 0 := by omega
  have ap := absC_pos ga.1 hf
  have x0 := (k L cd hl ap.2).1 (by omega)
  have xa := x0.1
  have xb := x0.2.1
  have kk : (vwC H0).1 (absC H7).1 = hV H7 30 2 := by
    have u := (kd_at s5.2.2).resolve_left (by omega)
    rw [v5] at u
    exact u
  have k37 := r37.trans (rfl).symm
  have k46 := r46.trans (rfl).symm
  have oo := or01 (by omega) (by omega) f50
  have hq : 0 ≤ (absC H5).1 := by
    rw [e_H5, ← eH]
    exact hp
  refine CN_lit (X := [n11]) (by omega) (by omega) x0 eH (by rw [eH, ← e_H5]; exact p5) (fun M c l => ?_) (fun M c l => (m0_ kl.1).2 M c (by omega)) ?_ ?_ ?_
  · have y := rl2 M c l hq
    rw [e_H5, ← eH] at y
    exact y
  · exact by
      rw [if_neg (show ¬ (vwC H0).1 (absC H7).1 = 43 by rw [kk]; omega), show n2 = 1 by omega, show n3 = 0 by omega]
      rw [show n11 = 10043 from f32]
      rfl
  · exact by
      rw [if_neg (show ¬ (vwC H0).1 (absC H7).1 = 43 by rw [kk]; omega)]
      omega
  · exact by
      rw [if_neg (show ¬ (vwC H0).1 (absC H7).1 = 42 by rw [kk]; omega), if_neg (show ¬ (vwC H0).1 (absC H7).1 = 43 by rw [kk]; omega)]
      omega
def g_88o_9_17 : vG := ([(5, [18, 2, 17], [], 0), (0, [17], [], 0), (41, [15, 16], [], 0), (0, [16], [], 42), (20, [15, 1], [7], 2), (23, [1], [7], 4), (90, [15], [], -2147483648), (91, [15], [], 2147483647), (30, [2], [], 0), (30, [14], [], 0), (0, [14], [], 0), (41, [12, 13], [], 0), (0, [13], [], 43), (20, [12, 1], [7], 2), (23, [1], [7], 4), (90, [12], [], -2147483648), (91, [12], [], 2147483647), (1098, [10, 11], [6, 7], 0), (0, [11], [], 10043), (20, [10, 1], [6], 8), (23, [1], [6], 4), (51, [10], [], 0), (31, [3], [], 0), (1091, [1, 9, 8], [5, 6], 0), (1092, [1], [4, 5], 0), (1090, [9, 1], [3, 4], 0), (90, [9], [], -2147483648), (91, [9], [], 2147483647), (1092, [1], [2, 3], 0), (1089, [8, 1], [1, 2], 0), (90, [8], [], 0), (91, [8], [], 1), (31, [4], [], 0), (30, [7], [], 0), (20, [7, 1], [1], 3), (23, [1], [1], 4), (90, [7], [], -2147483648), (91, [7], [], 2147483647), (45, [5, 6], [], 0), (0, [6], [], 500), (5000, [0, 1, 2, 3, 4, 5], [0, 1], 9), (0, [0], [], 30), (0, [1], [], 30), (90, [2], [], -2147483648), (91, [2], [], 2147483647), (90, [3], [], -2147483648), (91, [3], [], 2147483647), (90, [4], [], -2147483648), (91, [4], [], 2147483647), (90, [5], [], -2147483648), (91, [5], [], 2147483647)], (4000, [1, 18, 14, 4, 5, 8, 9], [7], 122))
theorem c_88o_9_17 {q0 : Nat} : vOkm T0 (eN e_88v L_88o A_88v mu_88v no_88 Bo_88 (some q0)) 1 g_88o_9_17 := vOk_inI fun ρ η f0 f1 f2 f3 f4 f5 f6 f7 f8 f9 f10 f11 f12 f13 f14 f15 f16 f17 f18 f19 f20 f21 f22 f23 f24 f25 f26 f27 f28 f29 f30 f31 f32 f33 f34 f35 f36 f37 f38 f39 f40 f41 f42 f43 f44 f45 f46 f47 f48 f49 f50 => q_88o_18 (q0 := q0) (n0 := ρ 5) (n1 := ρ 4) (n2 := ρ 3) (n3 := ρ 2) (n4 := ρ 1) (n5 := ρ 0) (n6 := ρ 6) (n7 := ρ 7) (n8 := ρ 8) (n9 := ρ 9) (n10 := ρ 10) (n11 := ρ 11) (n12 := ρ 12) (n13 := ρ 13) (n14 := ρ 14) (n15 := ρ 15) (n16 := ρ 16) (n17 := ρ 17) (n18 := ρ 18) (H0 := η 0) (H1 := η 1) (H2 := η 2) (H3 := η 3) (H4 := η 4) (H5 := η 5) (H6 := η 6) (H7 := η 7) f50 f49 f48 f47 f46 f45 f44 f43 f42 f41 f40 f39 f38 f37 f36 f35 f34 f33 f32 f31 f30 f29 f28 f27 f26 f25 f24 f23 f22 f21 f20 f19 f18 f17 f16 f15 f14 f13 f12 f11 f10 f9 f8 f7 f6 f5 f4 f3 f2 f1 f0
theorem q_88o_19 {q0 : Nat} {n0 n1 n2 n3 n4 n5 n6 n7 n8 n9 n10 n11 n12 n13 n14 n15 n16 n17 n18 : Int} {H0 H1 H2 H3 H4 H5 H6 H7 : gH} (f0 : n0 ≤ 2147483647) (f1 : (-2147483648) ≤ n0) (f2 : n1 ≤ 2147483647) (f3 : (-2147483648) ≤ n1) (f4 : n2 ≤ 2147483647) (f5 : (-2147483648) ≤ n2) (f6 : n3 ≤ 2147483647) (f7 : (-2147483648) ≤ n3) (f8 : n4 = 30) (f9 : n5 = 30) (f10 : (hLe T0 H0 H1 ∧ hFr s_88v.2.2.2.2 H0 H1 ∧ hWt T0 H1) ∧ ((Ab_88v_9 n5 n4 n3 n2 n1 n0 H0 H1 ∧ Bbo_88_9 n5 n4 n3 n2 n1 n0 H0 H1) ∧ preb_88v n5 H0) ∧ some q0 = some (mub_88v_9 n5 n4 n3 n2 n1 n0 H0 H1)) (f11 : n6 = 500) (f12 : n0 ≤ n6) (f13 : n7 ≤ 2147483647) (f14 : (-2147483648) ≤ n7) (f15 : hK H1 (n4).toNat = 4) (f16 : n7 = hV H1 (n4).toNat 3) (f17 : n7 = 0) (f18 : n1 ≠ 0) (f19 : n8 ≤ 1) (f20 : 0 ≤ n8) (f21 : (hLe T0 H1 H2 ∧ hFr s_89v.2.2.2.2 H1 H2 ∧ ((0 : Int) = 0 → H2.length = H1.length) ∧ hWt T0 H2) ∧ (postb_89v n8 n4 H1 H2 ∧ nbo_89 n8 n4 H1 H2)) (f22 : (hLe T0 H2 H3 ∧ hFr s_92v.2.2.2.2 H2 H3 ∧ ((0 : Int) = 0 → H3.length = H2.length) ∧ hWt T0 H3) ∧ (postb_92v n4 H2 H3 ∧ nbo_92 n4 H2 H3)) (f23 : n9 ≤ 2147483647) (f24 : (-2147483648) ≤ n9) (f25 : (hLe T0 H3 H4 ∧ hFr s_90v.2.2.2.2 H3 H4 ∧ ((0 : Int) = 0 → H4.length = H3.length) ∧ hWt T0 H4) ∧ (postb_90v n9 n4 H3 H4 ∧ nbo_90 n9 n4 H3 H4)) (f26 : (hLe T0 H4 H5 ∧ hFr s_92v.2.2.2.2 H4 H5 ∧ ((0 : Int) = 0 → H5.length = H4.length) ∧ hWt T0 H5) ∧ (postb_92v n4 H4 H5 ∧ nbo_92 n4 H4 H5)) (f27 : (hLe T0 H5 H6 ∧ hFr s_91.2.2.2.2 H5 H6 ∧ ((0 : Int) = 0 → H6.length = H5.length) ∧ hWt T0 H6) ∧ (True ∧ nbo_91 n4 n9 n8 H5 H6)) (f28 : n2 ≠ 0) (f29 : 0 ≤ n10) (f30 : hK H6 (n4).toNat = 4) (f31 : n10 = hV H6 (n4).toNat 8) (f32 : n11 = 10043) (f33 : (hLe T0 H6 H7 ∧ hFr s_98.2.2.2.2 H6 H7 ∧ ((0 : Int) = 0 → H7.length = H6.length) ∧ hWt T0 H7) ∧ (True ∧ nbo_98 n10 n11 H6 H7)) (f34 : n12 ≤ 2147483647) (f35 : (-2147483648) ≤ n12) (f36 : hK H7 (n4).toNat = 4) (f37 : n12 = hV H7 (n4).toNat 2) (f38 : n13 = 43) (f39 : n12 ≠ n13) (f40 : n14 = 0) (f41 : n14 = 0) (f42 : n3 = 0) (f43 : n15 ≤ 2147483647) (f44 : (-2147483648) ≤ n15) (f45 : hK H7 (n4).toNat = 4) (f46 : n15 = hV H7 (n4).toNat 2) (f47 : n16 = 42) (f48 : n15 = n16) (f49 : n17 = 1) (f50 : n18 = o32 (fun x y => x ||| y) n3 n17) : Bbo_88_122 n5 n4 n18 n14 n1 n0 n8 n9 H0 H7 := by
  unfold Bbo_88_122
  intro d ed zo w49
  have pz := f10.2.1.2
  unfold preb_88v at pz
  have ga := f10.2.1.1.1
  unfold Ab_88v_9 at ga
  have vz : vwC H1 = vwC H0 := vwC_fr f10.1.2.1 (by decide +kernel)
  have c0 := f21.2.1
  unfold postb_89v at c0
  rw [vz] at c0
  have a0 : absC H2 = (pNots (vwC H0) (502 - (absC H1).1).toNat (absC H1)) := c0.2
  have v0 : vwC H2 = vwC H0 := (vwC_fr f21.1.2.1 (by decide +kernel)).trans vz
  have c1 := f22.2.1
  unfold postb_92v at c1
  rw [v0] at c1
  rw [a0] at c1
  have a1 : absC H3 = (pExp (vwC H0) (pNots (vwC H0) (502 - (absC H1).1).toNat (absC H1))) := c1.2
  have v1 : vwC H3 = vwC H0 := (vwC_fr f22.1.2.1 (by decide +kernel)).trans v0
  have c2 := f25.2.1
  unfold postb_90v at c2
  rw [v1] at c2
  rw [a1] at c2
  have a2 : absC H4 = (pRel (vwC H0) (pExp (vwC H0) (pNots (vwC H0) (502 - (absC H1).1).toNat (absC H1)))) := c2.2
  have v2 : vwC H4 = vwC H0 := (vwC_fr f25.1.2.1 (by decide +kernel)).trans v1
  have c3 := f26.2.1
  unfold postb_92v at c3
  rw [v2] at c3
  rw [a2] at c3
  have a3 : absC H5 = (pExp (vwC H0) (pRel (vwC H0) (pExp (vwC H0) (pNots (vwC H0) (502 - (absC H1).1).toNat (absC H1))))) := c3.2
  have v3 : vwC H5 = vwC H0 := (vwC_fr f26.1.2.1 (by decide +kernel)).trans v2
  have s4 := PF_fr f27.1.1 f27.1.2.1 (by decide +kernel) c3.1
  have a4 : absC H6 = (pExp (vwC H0) (pRel (vwC H0) (pExp (vwC H0) (pNots (vwC H0) (502 - (absC H1).1).toNat (absC H1))))) := s4.1.trans a3
  have v4 : vwC H6 = vwC H0 := s4.2.1.trans v3
  have s5 := PF_fr f33.1.1 f33.1.2.1 (by decide +kernel) s4.2.2
  have a5 : absC H7 = (pExp (vwC H0) (pRel (vwC H0) (pExp (vwC H0) (pNots (vwC H0) (502 - (absC H1).1).toNat (absC H1))))) := s5.1.trans a4
  have v5 : vwC H7 = vwC H0 := s5.2.1.trans v4
  have gb := f10.2.1.1.2
  unfold Bbo_88_9 at gb
  obtain ⟨ko, w1, k⟩ := gb d ed zo w49
  have zo1 := ko.1
  have e8 : hV H1 30 8 = d := (f10.1.2.1.1 30 8 (by decide +kernel)).trans ed.symm
  have gc := ga
  have r16 : n7 = hV H1 30 3 := by
    have w := f16
    rw [f8] at w
    exact w
  have r31 : n10 = hV H6 30 8 := by
    have w := f31
    rw [f8] at w
    exact w
  have r37 : n12 = hV H7 30 2 := by
    have w := f37
    rw [f8] at w
    exact w
  have r46 : n15 = hV H7 30 2 := by
    have w := f46
    rw [f8] at w
    exact w
  obtain ⟨_, s0_, m01, xn, ya, yb⟩ := gc
  have e_H2 : absC H2 = xLitA (vwC H0) (absC H1) := a0
  have e_H3 : absC H3 = xLitB (vwC H0) (absC H1) := a1
  have e_H4 : absC H4 = xLitC (vwC H0) (absC H1) := a2
  have e_H5 : absC H5 = pLit (vwC H0) (absC H1) := a3
  have s0_ := f22.2.2
  unfold nbo_92 at s0_
  have s0_ : SUMp H2 H3 d := s0_ d (show hV H2 30 8 = d from (f21.1.2.1.1 30 8 (by decide +kernel)).trans e8).symm
  have s1_ := f26.2.2
  unfold nbo_92 at s1_
  have s1_ : SUMp H4 H5 d := s1_ d (show hV H4 30 8 = d from ((f25.1.2.1.1 30 8 (by decide +kernel)).trans ((f22.1.2.1.1 30 8 (by decide +kernel)).trans (f21.1.2.1.1 30 8 (by decide +kernel)))).trans e8).symm
  have nt := f21.2.2
  unfold nbo_89 at nt
  have rl := f25.2.2
  unfold nbo_90 at rl
  have el := f27.2.2
  unfold nbo_91 at el
  have el := el d (show hV H5 30 8 = d from ((f26.1.2.1.1 30 8 (by decide +kernel)).trans ((f25.1.2.1.1 30 8 (by decide +kernel)).trans ((f22.1.2.1.1 30 8 (by decide +kernel)).trans (f21.1.2.1.1 30 8 (by decide +kernel))))).trans e8).symm
  have p5 : (absC H5).1 ≤ 900 := by
    by_cases hn : hV H5 30 3 = 0
    · have := absC_pos c3.1 hn
      have nw := c3.1.2.2.2.1.2.1
      omega
    · have := absC_neg c3.1 hn
      omega
  have lr := LIT_read (o := decide (n2 = 0)) (vwC_ok H0) zo1 w1 (SMf_fr f21.1.1 f21.1.2.1 (by decide +kernel) (by decide +kernel)) e_H2 v0 (absC_ok c0.1) nt s0_ e_H3 v1 (absC_ok c1.1) (SMf_fr f25.1.1 f25.1.2.1 (by decide +kernel) (by decide +kernel)) e_H4 v2 (absC_ok c2.1) rl s1_ e_H5 p5 el (fun w => W49_le f27.1.1 w)
  obtain ⟨kl, wl, rl2⟩ := lr
  have m0_ := f33.2.2
  unfold nbo_98 at m0_
  rw [show n10 = d from (r31.trans ((f27.1.2.1.1 30 8 (by decide +kernel)).trans ((f26.1.2.1.1 30 8 (by decide +kernel)).trans ((f25.1.2.1.1 30 8 (by decide +kernel)).trans ((f22.1.2.1.1 30 8 (by decide +kernel)).trans (f21.1.2.1.1 30 8 (by decide +kernel))))))).trans e8] at m0_
  have eH : absC H7 = pLit (vwC H0) (absC H1) := a5
  refine ⟨KO_tr ko (KO_tr kl (m0_ kl.1).1), (W49_le f33.1.1 wl), fun L cd hl hp => ?_⟩
  have hf : hV H1 30 3 = 0 := by omega
  have ap := absC_pos ga.1 hf
  have x0 := (k L cd hl ap.2).1 (by omega)
  have xa := x0.1
  have xb := x0.2.1
  have kk : (vwC H0).1 (absC H7).1 = hV H7 30 2 := by
    have u := (kd_at s5.2.2).resolve_left (by omega)
    rw [v5] at u
    exact u
  have k37 := r37.trans (rfl).symm
  have k46 := r46.trans (rfl).symm
  have oo := or01 (by omega) (by omega) f50
  have hq : 0 ≤ (absC H5).1 := by
    rw [e_H5, ← eH]
    exact hp
  refine CN_lit (X := [n11]) (by omega) (by omega) x0 eH (by rw [eH, ← e_H5]; exact p5) (fun M c l => ?_) (fun M c l => (m0_ kl.1).2 M c (by omega)) ?_ ?_ ?_
  · have y := rl2 M c l hq
    rw [e_H5, ← eH] at y
    exact y
  · exact by
      rw [if_neg (show ¬ (vwC H0).1 (absC H7).1 = 43 by rw [kk]; omega), show n2 = 1 by omega, show n3 = 0 by omega]
      rw [show n11 = 10043 from f32]
      rfl
  · exact by
      rw [if_neg (show ¬ (vwC H0).1 (absC H7).1 = 43 by rw [kk]; omega)]
      omega
  · exact by
      rw [if_pos (show (vwC H0).1 (absC H7).1 = 42 by rw [kk]; omega)]
      omega
def g_88o_9_18 : vG := ([(5, [18, 2, 17], [], 0), (0, [17], [], 1), (40, [15, 16], [], 0), (0, [16], [], 42), (20, [15, 1], [7], 2), (23, [1], [7], 4), (90, [15], [], -2147483648), (91, [15], [], 2147483647), (30, [2], [], 0), (30, [14], [], 0), (0, [14], [], 0), (41, [12, 13], [], 0), (0, [13], [], 43), (20, [12, 1], [7], 2), (23, [1], [7], 4), (90, [12], [], -2147483648), (91, [12], [], 2147483647), (1098, [10, 11], [6, 7], 0), (0, [11], [], 10043), (20, [10, 1], [6], 8), (23, [1], [6], 4), (51, [10], [], 0), (31, [3], [], 0), (1091, [1, 9, 8], [5, 6], 0), (1092, [1], [4, 5], 0), (1090, [9, 1], [3, 4], 0), (90, [9], [], -2147483648), (91, [9], [], 2147483647), (1092, [1], [2, 3], 0), (1089, [8, 1], [1, 2], 0), (90, [8], [], 0), (91, [8], [], 1), (31, [4], [], 0), (30, [7], [], 0), (20, [7, 1], [1], 3), (23, [1], [1], 4), (90, [7], [], -2147483648), (91, [7], [], 2147483647), (45, [5, 6], [], 0), (0, [6], [], 500), (5000, [0, 1, 2, 3, 4, 5], [0, 1], 9), (0, [0], [], 30), (0, [1], [], 30), (90, [2], [], -2147483648), (91, [2], [], 2147483647), (90, [3], [], -2147483648), (91, [3], [], 2147483647), (90, [4], [], -2147483648), (91, [4], [], 2147483647), (90, [5], [], -2147483648), (91, [5], [], 2147483647)], (4000, [1, 18, 14, 4, 5, 8, 9], [7], 122))
theorem c_88o_9_18 {q0 : Nat} : vOkm T0 (eN e_88v L_88o A_88v mu_88v no_88 Bo_88 (some q0)) 1 g_88o_9_18 := vOk_inI fun ρ η f0 f1 f2 f3 f4 f5 f6 f7 f8 f9 f10 f11 f12 f13 f14 f15 f16 f17 f18 f19 f20 f21 f22 f23 f24 f25 f26 f27 f28 f29 f30 f31 f32 f33 f34 f35 f36 f37 f38 f39 f40 f41 f42 f43 f44 f45 f46 f47 f48 f49 f50 => q_88o_19 (q0 := q0) (n0 := ρ 5) (n1 := ρ 4) (n2 := ρ 3) (n3 := ρ 2) (n4 := ρ 1) (n5 := ρ 0) (n6 := ρ 6) (n7 := ρ 7) (n8 := ρ 8) (n9 := ρ 9) (n10 := ρ 10) (n11 := ρ 11) (n12 := ρ 12) (n13 := ρ 13) (n14 := ρ 14) (n15 := ρ 15) (n16 := ρ 16) (n17 := ρ 17) (n18 := ρ 18) (H0 := η 0) (H1 := η 1) (H2 := η 2) (H3 := η 3) (H4 := η 4) (H5 := η 5) (H6 := η 6) (H7 := η 7) f50 f49 f48 f47 f46 f45 f44 f43 f42 f41 f40 f39 f38 f37 f36 f35 f34 f33 f32 f31 f30 f29 f28 f27 f26 f25 f24 f23 f22 f21 f20 f19 f18 f17 f16 f15 f14 f13 f12 f11 f10 f9 f8 f7 f6 f5 f4 f3 f2 f1 f0
theorem q_88o_20 {q0 : Nat} {n0 n1 n2 n3 n4 n5 n6 n7 n8 n9 n10 n11 n12 n13 n14 n15 n16 n17 n18 n19 n20 n21 : Int} {H0 H1 H2 H3 H4 H5 H6 H7 H8 : gH} (f0 : n0 ≤ 2147483647) (f1 : (-2147483648) ≤ n0) (f2 : n1 ≤ 2147483647) (f3 : (-2147483648) ≤ n1) (f4 : n2 ≤ 2147483647) (f5 : (-2147483648) ≤ n2) (f6 : n3 ≤ 2147483647) (f7 : (-2147483648) ≤ n3) (f8 : n4 = 30) (f9 : n5 = 30) (f10 : (hLe T0 H0 H1 ∧ hFr s_88v.2.2.2.2 H0 H1 ∧ hWt T0 H1) ∧ ((Ab_88v_9 n5 n4 n3 n2 n1 n0 H0 H1 ∧ Bbo_88_9 n5 n4 n3 n2 n1 n0 H0 H1) ∧ preb_88v n5 H0) ∧ some q0 = some (mub_88v_9 n5 n4 n3 n2 n1 n0 H0 H1)) (f11 : n6 = 500) (f12 : n0 ≤ n6) (f13 : n7 ≤ 2147483647) (f14 : (-2147483648) ≤ n7) (f15 : hK H1 (n4).toNat = 4) (f16 : n7 = hV H1 (n4).toNat 3) (f17 : n7 = 0) (f18 : n1 ≠ 0) (f19 : n8 ≤ 1) (f20 : 0 ≤ n8) (f21 : (hLe T0 H1 H2 ∧ hFr s_89v.2.2.2.2 H1 H2 ∧ ((0 : Int) = 0 → H2.length = H1.length) ∧ hWt T0 H2) ∧ (postb_89v n8 n4 H1 H2 ∧ nbo_89 n8 n4 H1 H2)) (f22 : (hLe T0 H2 H3 ∧ hFr s_92v.2.2.2.2 H2 H3 ∧ ((0 : Int) = 0 → H3.length = H2.length) ∧ hWt T0 H3) ∧ (postb_92v n4 H2 H3 ∧ nbo_92 n4 H2 H3)) (f23 : n9 ≤ 2147483647) (f24 : (-2147483648) ≤ n9) (f25 : (hLe T0 H3 H4 ∧ hFr s_90v.2.2.2.2 H3 H4 ∧ ((0 : Int) = 0 → H4.length = H3.length) ∧ hWt T0 H4) ∧ (postb_90v n9 n4 H3 H4 ∧ nbo_90 n9 n4 H3 H4)) (f26 : (hLe T0 H4 H5 ∧ hFr s_92v.2.2.2.2 H4 H5 ∧ ((0 : Int) = 0 → H5.length = H4.length) ∧ hWt T0 H5) ∧ (postb_92v n4 H4 H5 ∧ nbo_92 n4 H4 H5)) (f27 : (hLe T0 H5 H6 ∧ hFr s_91.2.2.2.2 H5 H6 ∧ ((0 : Int) = 0 → H6.length = H5.length) ∧ hWt T0 H6) ∧ (True ∧ nbo_91 n4 n9 n8 H5 H6)) (f28 : n2 ≠ 0) (f29 : 0 ≤ n10) (f30 : hK H6 (n4).toNat = 4) (f31 : n10 = hV H6 (n4).toNat 8) (f32 : n11 = 10043) (f33 : (hLe T0 H6 H7 ∧ hFr s_98.2.2.2.2 H6 H7 ∧ ((0 : Int) = 0 → H7.length = H6.length) ∧ hWt T0 H7) ∧ (True ∧ nbo_98 n10 n11 H6 H7)) (f34 : n12 ≤ 2147483647) (f35 : (-2147483648) ≤ n12) (f36 : hK H7 (n4).toNat = 4) (f37 : n12 = hV H7 (n4).toNat 2) (f38 : n13 = 43) (f39 : n12 ≠ n13) (f40 : n14 = 0) (f41 : n14 = 0) (f42 : n3 ≠ 0) (f43 : 0 ≤ n15) (f44 : hK H7 (n4).toNat = 4) (f45 : n15 = hV H7 (n4).toNat 8) (f46 : n16 = 10042) (f47 : (hLe T0 H7 H8 ∧ hFr s_98.2.2.2.2 H7 H8 ∧ ((0 : Int) = 0 → H8.length = H7.length) ∧ hWt T0 H8) ∧ (True ∧ nbo_98 n15 n16 H7 H8)) (f48 : n17 = 0) (f49 : n18 ≤ 2147483647) (f50 : (-2147483648) ≤ n18) (f51 : hK H8 (n4).toNat = 4) (f52 : n18 = hV H8 (n4).toNat 2) (f53 : n19 = 42) (f54 : n18 ≠ n19) (f55 : n20 = 0) (f56 : n21 = o32 (fun x y => x ||| y) n17 n20) : Bbo_88_122 n5 n4 n21 n14 n1 n0 n8 n9 H0 H8 := by
  unfold Bbo_88_122
  intro d ed zo w49
  have pz := f10.2.1.2
  unfold preb_88v at pz
  have ga := f10.2.1.1.1
  unfold Ab_88v_9 at ga
  have vz : vwC H1 = vwC H0 := vwC_fr f10.1.2.1 (by decide +kernel)
  have c0 := f21.2.1
  unfold postb_89v at c0
  rw [vz] at c0
  have a0 : absC H2 = (pNots (vwC H0) (502 - (absC H1).1).toNat (absC H1)) := c0.2
  have v0 : vwC H2 = vwC H0 := (vwC_fr f21.1.2.1 (by decide +kernel)).trans vz
  have c1 := f22.2.1
  unfold postb_92v at c1
  rw [v0] at c1
  rw [a0] at c1
  have a1 : absC H3 = (pExp (vwC H0) (pNots (vwC H0) (502 - (absC H1).1).toNat (absC H1))) := c1.2
  have v1 : vwC H3 = vwC H0 := (vwC_fr f22.1.2.1 (by decide +kernel)).trans v0
  have c2 := f25.2.1
  unfold postb_90v at c2
  rw [v1] at c2
  rw [a1] at c2
  have a2 : absC H4 = (pRel (vwC H0) (pExp (vwC H0) (pNots (vwC H0) (502 - (absC H1).1).toNat (absC H1)))) := c2.2
  have v2 : vwC H4 = vwC H0 := (vwC_fr f25.1.2.1 (by decide +kernel)).trans v1
  have c3 := f26.2.1
  unfold postb_92v at c3
  rw [v2] at c3
  rw [a2] at c3
  have a3 : absC H5 = (pExp (vwC H0) (pRel (vwC H0) (pExp (vwC H0) (pNots (vwC H0) (502 - (absC H1).1).toNat (absC H1))))) := c3.2
  have v3 : vwC H5 = vwC H0 := (vwC_fr f26.1.2.1 (by decide +kernel)).trans v2
  have s4 := PF_fr f27.1.1 f27.1.2.1 (by decide +kernel) c3.1
  have a4 : absC H6 = (pExp (vwC H0) (pRel (vwC H0) (pExp (vwC H0) (pNots (vwC H0) (502 - (absC H1).1).toNat (absC H1))))) := s4.1.trans a3
  have v4 : vwC H6 = vwC H0 := s4.2.1.trans v3
  have s5 := PF_fr f33.1.1 f33.1.2.1 (by decide +kernel) s4.2.2
  have a5 : absC H7 = (pExp (vwC H0) (pRel (vwC H0) (pExp (vwC H0) (pNots (vwC H0) (502 - (absC H1).1).toNat (absC H1))))) := s5.1.trans a4
  have v5 : vwC H7 = vwC H0 := s5.2.1.trans v4
  have s6 := PF_fr f47.1.1 f47.1.2.1 (by decide +kernel) s5.2.2
  have a6 : absC H8 = (pExp (vwC H0) (pRel (vwC H0) (pExp (vwC H0) (pNots (vwC H0) (502 - (absC H1).1).toNat (absC H1))))) := s6.1.trans a5
  have v6 : vwC H8 = vwC H0 := s6.2.1.trans v5
  have gb := f10.2.1.1.2
  unfold Bbo_88_9 at gb
  obtain ⟨ko, w1, k⟩ := gb d ed zo w49
  have zo1 := ko.1
  have e8 : hV H1 30 8 = d := (f10.1.2.1.1 30 8 (by decide +kernel)).trans ed.symm
  have gc := ga
  have r16 : n7 = hV H1 30 3 := by
    have w := f16
    rw [f8] at w
    exact w
  have r31 : n10 = hV H6 30 8 := by
    have w := f31
    rw [f8] at w
    exact w
  have r37 : n12 = hV H7 30 2 := by
    have w := f37
    rw [f8] at w
    exact w
  have r45 : n15 = hV H7 30 8 := by
    have w := f45
    rw [f8] at w
    exact w
  have r52 : n18 = hV H8 30 2 := by
    have w := f52
    rw [f8] at w
    exact w
  obtain ⟨_, s0_, m01, xn, ya, yb⟩ := gc
  have e_H2 : absC H2 = xLitA (vwC H0) (absC H1) := a0
  have e_H3 : absC H3 = xLitB (vwC H0) (absC H1) := a1
  have e_H4 : absC H4 = xLitC (vwC H0) (absC H1) := a2
  have e_H5 : absC H5 = pLit (vwC H0) (absC H1) := a3
  have s0_ := f22.2.2
  unfold nbo_92 at s0_
  have s0_ : SUMp H2 H3 d := s0_ d (show hV H2 30 8 = d from (f21.1.2.1.1 30 8 (by decide +kernel)).trans e8).symm
  have s1_ := f26.2.2
  unfold nbo_92 at s1_
  have s1_ : SUMp H4 H5 d := s1_ d (show hV H4 30 8 = d from ((f25.1.2.1.1 30 8 (by decide +kernel)).trans ((f22.1.2.1.1 30 8 (by decide +kernel)).trans (f21.1.2.1.1 30 8 (by decide +kernel)))).trans e8).symm
  have nt := f21.2.2
  unfold nbo_89 at nt
  have rl := f25.2.2
  unfold nbo_90 at rl
  have el := f27.2.2
  unfold nbo_91 at el
  have el := el d (show hV H5 30 8 = d from ((f26.1.2.1.1 30 8 (by decide +kernel)).trans ((f25.1.2.1.1 30 8 (by decide +kernel)).trans ((f22.1.2.1.1 30 8 (by decide +kernel)).trans (f21.1.2.1.1 30 8 (by decide +kernel))))).trans e8).symm
  have p5 : (absC H5).1 ≤ 900 := by
    by_cases hn : hV H5 30 3 = 0
    · have := absC_pos c3.1 hn
      have nw := c3.1.2.2.2.1.2.1
      omega
    · have := absC_neg c3.1 hn
      omega
  have lr := LIT_read (o := decide (n2 = 0)) (vwC_ok H0) zo1 w1 (SMf_fr f21.1.1 f21.1.2.1 (by decide +kernel) (by decide +kernel)) e_H2 v0 (absC_ok c0.1) nt s0_ e_H3 v1 (absC_ok c1.1) (SMf_fr f25.1.1 f25.1.2.1 (by decide +kernel) (by decide +kernel)) e_H4 v2 (absC_ok c2.1) rl s1_ e_H5 p5 el (fun w => W49_le f27.1.1 w)
  obtain ⟨kl, wl, rl2⟩ := lr
  have m0_ := f33.2.2
  unfold nbo_98 at m0_
  rw [show n10 = d from (r31.trans ((f27.1.2.1.1 30 8 (by decide +kernel)).trans ((f26.1.2.1.1 30 8 (by decide +kernel)).trans ((f25.1.2.1.1 30 8 (by decide +kernel)).trans ((f22.1.2.1.1 30 8 (by decide +kernel)).trans (f21.1.2.1.1 30 8 (by decide +kernel))))))).trans e8] at m0_
  have m1_ := f47.2.2
  unfold nbo_98 at m1_
  rw [show n15 = d from (r45.trans ((f33.1.2.1.1 30 8 (by decide +kernel)).trans ((f27.1.2.1.1 30 8 (by decide +kernel)).trans ((f26.1.2.1.1 30 8 (by decide +kernel)).trans ((f25.1.2.1.1 30 8 (by decide +kernel)).trans ((f22.1.2.1.1 30 8 (by decide +kernel)).trans (f21.1.2.1.1 30 8 (by decide +kernel)))))))).trans e8] at m1_
  have eH : absC H8 = pLit (vwC H0) (absC H1) := a6
  refine ⟨KO_tr ko (KO_tr (KO_tr kl (m0_ kl.1).1) (m1_ (m0_ kl.1).1.1).1), (W49_le f47.1.1 (W49_le f33.1.1 wl)), fun L cd hl hp => ?_⟩
  have hf : hV H1 30 3 = 0 := by omega
  have ap := absC_pos ga.1 hf
  have x0 := (k L cd hl ap.2).1 (by omega)
  have xa := x0.1
  have xb := x0.2.1
  have kk : (vwC H0).1 (absC H8).1 = hV H8 30 2 := by
    have u := (kd_at s6.2.2).resolve_left (by omega)
    rw [v6] at u
    exact u
  have k37 := r37.trans (f47.1.2.1.1 30 2 (by decide +kernel)).symm
  have k52 := r52.trans (rfl).symm
  have oo := or01 (by omega) (by omega) f56
  have hq : 0 ≤ (absC H5).1 := by
    rw [e_H5, ← eH]
    exact hp
  refine CN_lit (X := ([n11] ++ [n16])) (by omega) (by omega) x0 eH (by rw [eH, ← e_H5]; exact p5) (fun M c l => ?_) (fun M c l => by
    have r := (m1_ (m0_ kl.1).1.1).2 _ ((m0_ kl.1).2 M c (by omega)) (by rw [List.length_append]; show M.length + 1 < 1000; omega)
    rw [List.append_assoc] at r
    exact r) ?_ ?_ ?_
  · have y := rl2 M c l hq
    rw [e_H5, ← eH] at y
    exact y
  · exact by
      rw [if_neg (show ¬ (vwC H0).1 (absC H8).1 = 43 by rw [kk]; omega), show n2 = 1 by omega, show n3 = 1 by omega]
      rw [show n11 = 10043 from f32, show n16 = 10042 from f46]
      rfl
  · exact by
      rw [if_neg (show ¬ (vwC H0).1 (absC H8).1 = 43 by rw [kk]; omega)]
      omega
  · exact by
      rw [if_neg (show ¬ (vwC H0).1 (absC H8).1 = 42 by rw [kk]; omega), if_neg (show ¬ (vwC H0).1 (absC H8).1 = 43 by rw [kk]; omega)]
      omega
def g_88o_9_19 : vG := ([(5, [21, 17, 20], [], 0), (0, [20], [], 0), (41, [18, 19], [], 0), (0, [19], [], 42), (20, [18, 1], [8], 2), (23, [1], [8], 4), (90, [18], [], -2147483648), (91, [18], [], 2147483647), (0, [17], [], 0), (1098, [15, 16], [7, 8], 0), (0, [16], [], 10042), (20, [15, 1], [7], 8), (23, [1], [7], 4), (51, [15], [], 0), (31, [2], [], 0), (30, [14], [], 0), (0, [14], [], 0), (41, [12, 13], [], 0), (0, [13], [], 43), (20, [12, 1], [7], 2), (23, [1], [7], 4), (90, [12], [], -2147483648), (91, [12], [], 2147483647), (1098, [10, 11], [6, 7], 0), (0, [11], [], 10043), (20, [10, 1], [6], 8), (23, [1], [6], 4), (51, [10], [], 0), (31, [3], [], 0), (1091, [1, 9, 8], [5, 6], 0), (1092, [1], [4, 5], 0), (1090, [9, 1], [3, 4], 0), (90, [9], [], -2147483648), (91, [9], [], 2147483647), (1092, [1], [2, 3], 0), (1089, [8, 1], [1, 2], 0), (90, [8], [], 0), (91, [8], [], 1), (31, [4], [], 0), (30, [7], [], 0), (20, [7, 1], [1], 3), (23, [1], [1], 4), (90, [7], [], -2147483648), (91, [7], [], 2147483647), (45, [5, 6], [], 0), (0, [6], [], 500), (5000, [0, 1, 2, 3, 4, 5], [0, 1], 9), (0, [0], [], 30), (0, [1], [], 30), (90, [2], [], -2147483648), (91, [2], [], 2147483647), (90, [3], [], -2147483648), (91, [3], [], 2147483647), (90, [4], [], -2147483648), (91, [4], [], 2147483647), (90, [5], [], -2147483648), (91, [5], [], 2147483647)], (4000, [1, 21, 14, 4, 5, 8, 9], [8], 122))
theorem c_88o_9_19 {q0 : Nat} : vOkm T0 (eN e_88v L_88o A_88v mu_88v no_88 Bo_88 (some q0)) 1 g_88o_9_19 := vOk_inI fun ρ η f0 f1 f2 f3 f4 f5 f6 f7 f8 f9 f10 f11 f12 f13 f14 f15 f16 f17 f18 f19 f20 f21 f22 f23 f24 f25 f26 f27 f28 f29 f30 f31 f32 f33 f34 f35 f36 f37 f38 f39 f40 f41 f42 f43 f44 f45 f46 f47 f48 f49 f50 f51 f52 f53 f54 f55 f56 => q_88o_20 (q0 := q0) (n0 := ρ 5) (n1 := ρ 4) (n2 := ρ 3) (n3 := ρ 2) (n4 := ρ 1) (n5 := ρ 0) (n6 := ρ 6) (n7 := ρ 7) (n8 := ρ 8) (n9 := ρ 9) (n10 := ρ 10) (n11 := ρ 11) (n12 := ρ 12) (n13 := ρ 13) (n14 := ρ 14) (n15 := ρ 15) (n16 := ρ 16) (n17 := ρ 17) (n18 := ρ 18) (n19 := ρ 19) (n20 := ρ 20) (n21 := ρ 21) (H0 := η 0) (H1 := η 1) (H2 := η 2) (H3 := η 3) (H4 := η 4) (H5 := η 5) (H6 := η 6) (H7 := η 7) (H8 := η 8) f56 f55 f54 f53 f52 f51 f50 f49 f48 f47 f46 f45 f44 f43 f42 f41 f40 f39 f38 f37 f36 f35 f34 f33 f32 f31 f30 f29 f28 f27 f26 f25 f24 f23 f22 f21 f20 f19 f18 f17 f16 f15 f14 f13 f12 f11 f10 f9 f8 f7 f6 f5 f4 f3 f2 f1 f0
theorem q_88o_21 {q0 : Nat} {n0 n1 n2 n3 n4 n5 n6 n7 n8 n9 n10 n11 n12 n13 n14 n15 n16 n17 n18 n19 n20 n21 : Int} {H0 H1 H2 H3 H4 H5 H6 H7 H8 : gH} (f0 : n0 ≤ 2147483647) (f1 : (-2147483648) ≤ n0) (f2 : n1 ≤ 2147483647) (f3 : (-2147483648) ≤ n1) (f4 : n2 ≤ 2147483647) (f5 : (-2147483648) ≤ n2) (f6 : n3 ≤ 2147483647) (f7 : (-2147483648) ≤ n3) (f8 : n4 = 30) (f9 : n5 = 30) (f10 : (hLe T0 H0 H1 ∧ hFr s_88v.2.2.2.2 H0 H1 ∧ hWt T0 H1) ∧ ((Ab_88v_9 n5 n4 n3 n2 n1 n0 H0 H1 ∧ Bbo_88_9 n5 n4 n3 n2 n1 n0 H0 H1) ∧ preb_88v n5 H0) ∧ some q0 = some (mub_88v_9 n5 n4 n3 n2 n1 n0 H0 H1)) (f11 : n6 = 500) (f12 : n0 ≤ n6) (f13 : n7 ≤ 2147483647) (f14 : (-2147483648) ≤ n7) (f15 : hK H1 (n4).toNat = 4) (f16 : n7 = hV H1 (n4).toNat 3) (f17 : n7 = 0) (f18 : n1 ≠ 0) (f19 : n8 ≤ 1) (f20 : 0 ≤ n8) (f21 : (hLe T0 H1 H2 ∧ hFr s_89v.2.2.2.2 H1 H2 ∧ ((0 : Int) = 0 → H2.length = H1.length) ∧ hWt T0 H2) ∧ (postb_89v n8 n4 H1 H2 ∧ nbo_89 n8 n4 H1 H2)) (f22 : (hLe T0 H2 H3 ∧ hFr s_92v.2.2.2.2 H2 H3 ∧ ((0 : Int) = 0 → H3.length = H2.length) ∧ hWt T0 H3) ∧ (postb_92v n4 H2 H3 ∧ nbo_92 n4 H2 H3)) (f23 : n9 ≤ 2147483647) (f24 : (-2147483648) ≤ n9) (f25 : (hLe T0 H3 H4 ∧ hFr s_90v.2.2.2.2 H3 H4 ∧ ((0 : Int) = 0 → H4.length = H3.length) ∧ hWt T0 H4) ∧ (postb_90v n9 n4 H3 H4 ∧ nbo_90 n9 n4 H3 H4)) (f26 : (hLe T0 H4 H5 ∧ hFr s_92v.2.2.2.2 H4 H5 ∧ ((0 : Int) = 0 → H5.length = H4.length) ∧ hWt T0 H5) ∧ (postb_92v n4 H4 H5 ∧ nbo_92 n4 H4 H5)) (f27 : (hLe T0 H5 H6 ∧ hFr s_91.2.2.2.2 H5 H6 ∧ ((0 : Int) = 0 → H6.length = H5.length) ∧ hWt T0 H6) ∧ (True ∧ nbo_91 n4 n9 n8 H5 H6)) (f28 : n2 ≠ 0) (f29 : 0 ≤ n10) (f30 : hK H6 (n4).toNat = 4) (f31 : n10 = hV H6 (n4).toNat 8) (f32 : n11 = 10043) (f33 : (hLe T0 H6 H7 ∧ hFr s_98.2.2.2.2 H6 H7 ∧ ((0 : Int) = 0 → H7.length = H6.length) ∧ hWt T0 H7) ∧ (True ∧ nbo_98 n10 n11 H6 H7)) (f34 : n12 ≤ 2147483647) (f35 : (-2147483648) ≤ n12) (f36 : hK H7 (n4).toNat = 4) (f37 : n12 = hV H7 (n4).toNat 2) (f38 : n13 = 43) (f39 : n12 ≠ n13) (f40 : n14 = 0) (f41 : n14 = 0) (f42 : n3 ≠ 0) (f43 : 0 ≤ n15) (f44 : hK H7 (n4).toNat = 4) (f45 : n15 = hV H7 (n4).toNat 8) (f46 : n16 = 10042) (f47 : (hLe T0 H7 H8 ∧ hFr s_98.2.2.2.2 H7 H8 ∧ ((0 : Int) = 0 → H8.length = H7.length) ∧ hWt T0 H8) ∧ (True ∧ nbo_98 n15 n16 H7 H8)) (f48 : n17 = 0) (f49 : n18 ≤ 2147483647) (f50 : (-2147483648) ≤ n18) (f51 : hK H8 (n4).toNat = 4) (f52 : n18 = hV H8 (n4).toNat 2) (f53 : n19 = 42) (f54 : n18 = n19) (f55 : n20 = 1) (f56 : n21 = o32 (fun x y => x ||| y) n17 n20) : Bbo_88_122 n5 n4 n21 n14 n1 n0 n8 n9 H0 H8 := by
  unfold Bbo_88_122
  intro d ed zo w49
  have pz := f10.2.1.2
  unfold preb_88v at pz
  have ga := f10.2.1.1.1
  unfold Ab_88v_9 at ga
  have vz : vwC H1 = vwC H0 := vwC_fr f10.1.2.1 (by decide +kernel)
  have c0 := f21.2.1
  unfold postb_89v at c0
  rw [vz] at c0
  have a0 : absC H2 = (pNots (vwC H0) (502 - (absC H1).1).toNat (absC H1)) := c0.2
  have v0 : vwC H2 = vwC H0 := (vwC_fr f21.1.2.1 (by decide +kernel)).trans vz
  have c1 := f22.2.1
  unfold postb_92v at c1
  rw [v0] at c1
  rw [a0] at c1
  have a1 : absC H3 = (pExp (vwC H0) (pNots (vwC H0) (502 - (absC H1).1).toNat (absC H1))) := c1.2
  have v1 : vwC H3 = vwC H0 := (vwC_fr f22.1.2.1 (by decide +kernel)).trans v0
  have c2 := f25.2.1
  unfold postb_90v at c2
  rw [v1] at c2
  rw [a1] at c2
  have a2 : absC H4 = (pRel (vwC H0) (pExp (vwC H0) (pNots (vwC H0) (502 - (absC H1).1).toNat (absC H1)))) := c2.2
  have v2 : vwC H4 = vwC H0 := (vwC_fr f25.1.2.1 (by decide +kernel)).trans v1
  have c3 := f26.2.1
  unfold postb_92v at c3
  rw [v2] at c3
  rw [a2] at c3
  have a3 : absC H5 = (pExp (vwC H0) (pRel (vwC H0) (pExp (vwC H0) (pNots (vwC H0) (502 - (absC H1).1).toNat (absC H1))))) := c3.2
  have v3 : vwC H5 = vwC H0 := (vwC_fr f26.1.2.1 (by decide +kernel)).trans v2
  have s4 := PF_fr f27.1.1 f27.1.2.1 (by decide +kernel) c3.1
  have a4 : absC H6 = (pExp (vwC H0) (pRel (vwC H0) (pExp (vwC H0) (pNots (vwC H0) (502 - (absC H1).1).toNat (absC H1))))) := s4.1.trans a3
  have v4 : vwC H6 = vwC H0 := s4.2.1.trans v3
  have s5 := PF_fr f33.1.1 f33.1.2.1 (by decide +kernel) s4.2.2
  have a5 : absC H7 = (pExp (vwC H0) (pRel (vwC H0) (pExp (vwC H0) (pNots (vwC H0) (502 - (absC H1).1).toNat (absC H1))))) := s5.1.trans a4
  have v5 : vwC H7 = vwC H0 := s5.2.1.trans v4
  have s6 := PF_fr f47.1.1 f47.1.2.1 (by decide +kernel) s5.2.2
  have a6 : absC H8 = (pExp (vwC H0) (pRel (vwC H0) (pExp (vwC H0) (pNots (vwC H0) (502 - (absC H1).1).toNat (absC H1))))) := s6.1.trans a5
  have v6 : vwC H8 = vwC H0 := s6.2.1.trans v5
  have gb := f10.2.1.1.2
  unfold Bbo_88_9 at gb
  obtain ⟨ko, w1, k⟩ := gb d ed zo w49
  have zo1 := ko.1
  have e8 : hV H1 30 8 = d := (f10.1.2.1.1 30 8 (by decide +kernel)).trans ed.symm
  have gc := ga
  have r16 : n7 = hV H1 30 3 := by
    have w := f16
    rw [f8] at w
    exact w
  have r31 : n10 = hV H6 30 8 := by
    have w := f31
    rw [f8] at w
    exact w
  have r37 : n12 = hV H7 30 2 := by
    have w := f37
    rw [f8] at w
    exact w
  have r45 : n15 = hV H7 30 8 := by
    have w := f45
    rw [f8] at w
    exact w
  have r52 : n18 = hV H8 30 2 := by
    have w := f52
    rw [f8] at w
    exact w
  obtain ⟨_, s0_, m01, xn, ya, yb⟩ := gc
  have e_H2 : absC H2 = xLitA (vwC H0) (absC H1) := a0
  have e_H3 : absC H3 = xLitB (vwC H0) (absC H1) := a1
  have e_H4 : absC H4 = xLitC (vwC H0) (absC H1) := a2
  have e_H5 : absC H5 = pLit (vwC H0) (absC H1) := a3
  have s0_ := f22.2.2
  unfold nbo_92 at s0_
  have s0_ : SUMp H2 H3 d := s0_ d (show hV H2 30 8 = d from (f21.1.2.1.1 30 8 (by decide +kernel)).trans e8).symm
  have s1_ := f26.2.2
  unfold nbo_92 at s1_
  have s1_ : SUMp H4 H5 d := s1_ d (show hV H4 30 8 = d from ((f25.1.2.1.1 30 8 (by decide +kernel)).trans ((f22.1.2.1.1 30 8 (by decide +kernel)).trans (f21.1.2.1.1 30 8 (by decide +kernel)))).trans e8).symm
  have nt := f21.2.2
  unfold nbo_89 at nt
  have rl := f25.2.2
  unfold nbo_90 at rl
  have el := f27.2.2
  unfold nbo_91 at el
  have el := el d (show hV H5 30 8 = d from ((f26.1.2.1.1 30 8 (by decide +kernel)).trans ((f25.1.2.1.1 30 8 (by decide +kernel)).trans ((f22.1.2.1.1 30 8 (by decide +kernel)).trans (f21.1.2.1.1 30 8 (by decide +kernel))))).trans e8).symm
  have p5 : (absC H5).1 ≤ 900 := by
    by_cases hn : hV H5 30 3 = 0
    · have := absC_pos c3.1 hn
      have nw := c3.1.2.2.2.1.2.1
      omega
    · have := absC_neg c3.1 hn
      omega
  have lr := LIT_read (o := decide (n2 = 0)) (vwC_ok H0) zo1 w1 (SMf_fr f21.1.1 f21.1.2.1 (by decide +kernel) (by decide +kernel)) e_H2 v0 (absC_ok c0.1) nt s0_ e_H3 v1 (absC_ok c1.1) (SMf_fr f25.1.1 f25.1.2.1 (by decide +kernel) (by decide +kernel)) e_H4 v2 (absC_ok c2.1) rl s1_ e_H5 p5 el (fun w => W49_le f27.1.1 w)
  obtain ⟨kl, wl, rl2⟩ := lr
  have m0_ := f33.2.2
  unfold nbo_98 at m0_
  rw [show n10 = d from (r31.trans ((f27.1.2.1.1 30 8 (by decide +kernel)).trans ((f26.1.2.1.1 30 8 (by decide +kernel)).trans ((f25.1.2.1.1 30 8 (by decide +kernel)).trans ((f22.1.2.1.1 30 8 (by decide +kernel)).trans (f21.1.2.1.1 30 8 (by decide +kernel))))))).trans e8] at m0_
  have m1_ := f47.2.2
  unfold nbo_98 at m1_
  rw [show n15 = d from (r45.trans ((f33.1.2.1.1 30 8 (by decide +kernel)).trans ((f27.1.2.1.1 30 8 (by decide +kernel)).trans ((f26.1.2.1.1 30 8 (by decide +kernel)).trans ((f25.1.2.1.1 30 8 (by decide +kernel)).trans ((f22.1.2.1.1 30 8 (by decide +kernel)).trans (f21.1.2.1.1 30 8 (by decide +kernel)))))))).trans e8] at m1_
  have eH : absC H8 = pLit (vwC H0) (absC H1) := a6
  refine ⟨KO_tr ko (KO_tr (KO_tr kl (m0_ kl.1).1) (m1_ (m0_ kl.1).1.1).1), (W49_le f47.1.1 (W49_le f33.1.1 wl)), fun L cd hl hp => ?_⟩
  have hf : hV H1 30 3 = 0 := by omega
  have ap := absC_pos ga.1 hf
  have x0 := (k L cd hl ap.2).1 (by omega)
  have xa := x0.1
  have xb := x0.2.1
  have kk : (vwC H0).1 (absC H8).1 = hV H8 30 2 := by
    have u := (kd_at s6.2.2).resolve_left (by omega)
    rw [v6] at u
    exact u
  have k37 := r37.trans (f47.1.2.1.1 30 2 (by decide +kernel)).symm
  have k52 := r52.trans (rfl).symm
  have oo := or01 (by omega) (by omega) f56
  have hq : 0 ≤ (absC H5).1 := by
    rw [e_H5, ← eH]
    exact hp
  refine CN_lit (X := ([n11] ++ [n16])) (by omega) (by omega) x0 eH (by rw [eH, ← e_H5]; exact p5) (fun M c l => ?_) (fun M c l => by
    have r := (m1_ (m0_ kl.1).1.1).2 _ ((m0_ kl.1).2 M c (by omega)) (by rw [List.length_append]; show M.length + 1 < 1000; omega)
    rw [List.append_assoc] at r
    exact r) ?_ ?_ ?_
  · have y := rl2 M c l hq
    rw [e_H5, ← eH] at y
    exact y
  · exact by
      rw [if_neg (show ¬ (vwC H0).1 (absC H8).1 = 43 by rw [kk]; omega), show n2 = 1 by omega, show n3 = 1 by omega]
      rw [show n11 = 10043 from f32, show n16 = 10042 from f46]
      rfl
  · exact by
      rw [if_neg (show ¬ (vwC H0).1 (absC H8).1 = 43 by rw [kk]; omega)]
      omega
  · exact by
      rw [if_pos (show (vwC H0).1 (absC H8).1 = 42 by rw [kk]; omega)]
      omega
def g_88o_9_20 : vG := ([(5, [21, 17, 20], [], 0), (0, [20], [], 1), (40, [18, 19], [], 0), (0, [19], [], 42), (20, [18, 1], [8], 2), (23, [1], [8], 4), (90, [18], [], -2147483648), (91, [18], [], 2147483647), (0, [17], [], 0), (1098, [15, 16], [7, 8], 0), (0, [16], [], 10042), (20, [15, 1], [7], 8), (23, [1], [7], 4), (51, [15], [], 0), (31, [2], [], 0), (30, [14], [], 0), (0, [14], [], 0), (41, [12, 13], [], 0), (0, [13], [], 43), (20, [12, 1], [7], 2), (23, [1], [7], 4), (90, [12], [], -2147483648), (91, [12], [], 2147483647), (1098, [10, 11], [6, 7], 0), (0, [11], [], 10043), (20, [10, 1], [6], 8), (23, [1], [6], 4), (51, [10], [], 0), (31, [3], [], 0), (1091, [1, 9, 8], [5, 6], 0), (1092, [1], [4, 5], 0), (1090, [9, 1], [3, 4], 0), (90, [9], [], -2147483648), (91, [9], [], 2147483647), (1092, [1], [2, 3], 0), (1089, [8, 1], [1, 2], 0), (90, [8], [], 0), (91, [8], [], 1), (31, [4], [], 0), (30, [7], [], 0), (20, [7, 1], [1], 3), (23, [1], [1], 4), (90, [7], [], -2147483648), (91, [7], [], 2147483647), (45, [5, 6], [], 0), (0, [6], [], 500), (5000, [0, 1, 2, 3, 4, 5], [0, 1], 9), (0, [0], [], 30), (0, [1], [], 30), (90, [2], [], -2147483648), (91, [2], [], 2147483647), (90, [3], [], -2147483648), (91, [3], [], 2147483647), (90, [4], [], -2147483648), (91, [4], [], 2147483647), (90, [5], [], -2147483648), (91, [5], [], 2147483647)], (4000, [1, 21, 14, 4, 5, 8, 9], [8], 122))
theorem c_88o_9_20 {q0 : Nat} : vOkm T0 (eN e_88v L_88o A_88v mu_88v no_88 Bo_88 (some q0)) 1 g_88o_9_20 := vOk_inI fun ρ η f0 f1 f2 f3 f4 f5 f6 f7 f8 f9 f10 f11 f12 f13 f14 f15 f16 f17 f18 f19 f20 f21 f22 f23 f24 f25 f26 f27 f28 f29 f30 f31 f32 f33 f34 f35 f36 f37 f38 f39 f40 f41 f42 f43 f44 f45 f46 f47 f48 f49 f50 f51 f52 f53 f54 f55 f56 => q_88o_21 (q0 := q0) (n0 := ρ 5) (n1 := ρ 4) (n2 := ρ 3) (n3 := ρ 2) (n4 := ρ 1) (n5 := ρ 0) (n6 := ρ 6) (n7 := ρ 7) (n8 := ρ 8) (n9 := ρ 9) (n10 := ρ 10) (n11 := ρ 11) (n12 := ρ 12) (n13 := ρ 13) (n14 := ρ 14) (n15 := ρ 15) (n16 := ρ 16) (n17 := ρ 17) (n18 := ρ 18) (n19 := ρ 19) (n20 := ρ 20) (n21 := ρ 21) (H0 := η 0) (H1 := η 1) (H2 := η 2) (H3 := η 3) (H4 := η 4) (H5 := η 5) (H6 := η 6) (H7 := η 7) (H8 := η 8) f56 f55 f54 f53 f52 f51 f50 f49 f48 f47 f46 f45 f44 f43 f42 f41 f40 f39 f38 f37 f36 f35 f34 f33 f32 f31 f30 f29 f28 f27 f26 f25 f24 f23 f22 f21 f20 f19 f18 f17 f16 f15 f14 f13 f12 f11 f10 f9 f8 f7 f6 f5 f4 f3 f2 f1 f0
theorem q_88o_22 {q0 : Nat} {n0 n1 n2 n3 n4 n5 n6 n7 n8 n9 n10 n11 n12 n13 n14 n15 n16 n17 n18 : Int} {H0 H1 H2 H3 H4 H5 H6 H7 : gH} (f0 : n0 ≤ 2147483647) (f1 : (-2147483648) ≤ n0) (f2 : n1 ≤ 2147483647) (f3 : (-2147483648) ≤ n1) (f4 : n2 ≤ 2147483647) (f5 : (-2147483648) ≤ n2) (f6 : n3 ≤ 2147483647) (f7 : (-2147483648) ≤ n3) (f8 : n4 = 30) (f9 : n5 = 30) (f10 : (hLe T0 H0 H1 ∧ hFr s_88v.2.2.2.2 H0 H1 ∧ hWt T0 H1) ∧ ((Ab_88v_9 n5 n4 n3 n2 n1 n0 H0 H1 ∧ Bbo_88_9 n5 n4 n3 n2 n1 n0 H0 H1) ∧ preb_88v n5 H0) ∧ some q0 = some (mub_88v_9 n5 n4 n3 n2 n1 n0 H0 H1)) (f11 : n6 = 500) (f12 : n0 ≤ n6) (f13 : n7 ≤ 2147483647) (f14 : (-2147483648) ≤ n7) (f15 : hK H1 (n4).toNat = 4) (f16 : n7 = hV H1 (n4).toNat 3) (f17 : n7 = 0) (f18 : n1 ≠ 0) (f19 : n8 ≤ 1) (f20 : 0 ≤ n8) (f21 : (hLe T0 H1 H2 ∧ hFr s_89v.2.2.2.2 H1 H2 ∧ ((0 : Int) = 0 → H2.length = H1.length) ∧ hWt T0 H2) ∧ (postb_89v n8 n4 H1 H2 ∧ nbo_89 n8 n4 H1 H2)) (f22 : (hLe T0 H2 H3 ∧ hFr s_92v.2.2.2.2 H2 H3 ∧ ((0 : Int) = 0 → H3.length = H2.length) ∧ hWt T0 H3) ∧ (postb_92v n4 H2 H3 ∧ nbo_92 n4 H2 H3)) (f23 : n9 ≤ 2147483647) (f24 : (-2147483648) ≤ n9) (f25 : (hLe T0 H3 H4 ∧ hFr s_90v.2.2.2.2 H3 H4 ∧ ((0 : Int) = 0 → H4.length = H3.length) ∧ hWt T0 H4) ∧ (postb_90v n9 n4 H3 H4 ∧ nbo_90 n9 n4 H3 H4)) (f26 : (hLe T0 H4 H5 ∧ hFr s_92v.2.2.2.2 H4 H5 ∧ ((0 : Int) = 0 → H5.length = H4.length) ∧ hWt T0 H5) ∧ (postb_92v n4 H4 H5 ∧ nbo_92 n4 H4 H5)) (f27 : (hLe T0 H5 H6 ∧ hFr s_91.2.2.2.2 H5 H6 ∧ ((0 : Int) = 0 → H6.length = H5.length) ∧ hWt T0 H6) ∧ (True ∧ nbo_91 n4 n9 n8 H5 H6)) (f28 : n2 ≠ 0) (f29 : 0 ≤ n10) (f30 : hK H6 (n4).toNat = 4) (f31 : n10 = hV H6 (n4).toNat 8) (f32 : n11 = 10043) (f33 : (hLe T0 H6 H7 ∧ hFr s_98.2.2.2.2 H6 H7 ∧ ((0 : Int) = 0 → H7.length = H6.length) ∧ hWt T0 H7) ∧ (True ∧ nbo_98 n10 n11 H6 H7)) (f34 : n12 ≤ 2147483647) (f35 : (-2147483648) ≤ n12) (f36 : hK H7 (n4).toNat = 4) (f37 : n12 = hV H7 (n4).toNat 2) (f38 : n13 = 43) (f39 : n12 = n13) (f40 : n14 = 1) (f41 : n14 ≠ 0) (f42 : n15 ≤ 2147483647) (f43 : (-2147483648) ≤ n15) (f44 : hK H7 (n4).toNat = 4) (f45 : n15 = hV H7 (n4).toNat 2) (f46 : n16 = 42) (f47 : n15 ≠ n16) (f48 : n17 = 0) (f49 : n18 = o32 (fun x y => x ||| y) n3 n17) : Bbo_88_122 n5 n4 n18 n14 n1 n0 n8 n9 H0 H7 := by
  unfold Bbo_88_122
  intro d ed zo w49
  have pz := f10.2.1.2
  unfold preb_88v at pz
  have ga := f10.2.1.1.1
  unfold Ab_88v_9 at ga
  have vz : vwC H1 = vwC H0 := vwC_fr f10.1.2.1 (by decide +kernel)
  have c0 := f21.2.1
  unfold postb_89v at c0
  rw [vz] at c0
  have a0 : absC H2 = (pNots (vwC H0) (502 - (absC H1).1).toNat (absC H1)) := c0.2
  have v0 : vwC H2 = vwC H0 := (vwC_fr f21.1.2.1 (by decide +kernel)).trans vz
  have c1 := f22.2.1
  unfold postb_92v at c1
  rw [v0] at c1
  rw [a0] at c1
  have a1 : absC H3 = (pExp (vwC H0) (pNots (vwC H0) (502 - (absC H1).1).toNat (absC H1))) := c1.2
  have v1 : vwC H3 = vwC H0 := (vwC_fr f22.1.2.1 (by decide +kernel)).trans v0
  have c2 := f25.2.1
  unfold postb_90v at c2
  rw [v1] at c2
  rw [a1] at c2
  have a2 : absC H4 = (pRel (vwC H0) (pExp (vwC H0) (pNots (vwC H0) (502 - (absC H1).1).toNat (absC H1)))) := c2.2
  have v2 : vwC H4 = vwC H0 := (vwC_fr f25.1.2.1 (by decide +kernel)).trans v1
  have c3 := f26.2.1
  unfold postb_92v at c3
  rw [v2] at c3
  rw [a2] at c3
  have a3 : absC H5 = (pExp (vwC H0) (pRel (vwC H0) (pExp (vwC H0) (pNots (vwC H0) (502 - (absC H1).1).toNat (absC H1))))) := c3.2
  have v3 : vwC H5 = vwC H0 := (vwC_fr f26.1.2.1 (by decide +kernel)).trans v2
  have s4 := PF_fr f27.1.1 f27.1.2.1 (by decide +kernel) c3.1
  have a4 : absC H6 = (pExp (vwC H0) (pRel (vwC H0) (pExp (vwC H0) (pNots (vwC H0) (502 - (absC H1).1).toNat (absC H1))))) := s4.1.trans a3
  have v4 : vwC H6 = vwC H0 := s4.2.1.trans v3
  have s5 := PF_fr f33.1.1 f33.1.2.1 (by decide +kernel) s4.2.2
  have a5 : absC H7 = (pExp (vwC H0) (pRel (vwC H0) (pExp (vwC H0) (pNots (vwC H0) (502 - (absC H1).1).toNat (absC H1))))) := s5.1.trans a4
  have v5 : vwC H7 = vwC H0 := s5.2.1.trans v4
  have gb := f10.2.1.1.2
  unfold Bbo_88_9 at gb
  obtain ⟨ko, w1, k⟩ := gb d ed zo w49
  have zo1 := ko.1
  have e8 : hV H1 30 8 = d := (f10.1.2.1.1 30 8 (by decide +kernel)).trans ed.symm
  have gc := ga
  have r16 : n7 = hV H1 30 3 := by
    have w := f16
    rw [f8] at w
    exact w
  have r31 : n10 = hV H6 30 8 := by
    have w := f31
    rw [f8] at w
    exact w
  have r37 : n12 = hV H7 30 2 := by
    have w := f37
    rw [f8] at w
    exact w
  have r45 : n15 = hV H7 30 2 := by
    have w := f45
    rw [f8] at w
    exact w
  obtain ⟨_, s0_, m01, xn, ya, yb⟩ := gc
  have e_H2 : absC H2 = xLitA (vwC H0) (absC H1) := a0
  have e_H3 : absC H3 = xLitB (vwC H0) (absC H1) := a1
  have e_H4 : absC H4 = xLitC (vwC H0) (absC H1) := a2
  have e_H5 : absC H5 = pLit (vwC H0) (absC H1) := a3
  have s0_ := f22.2.2
  unfold nbo_92 at s0_
  have s0_ : SUMp H2 H3 d := s0_ d (show hV H2 30 8 = d from (f21.1.2.1.1 30 8 (by decide +kernel)).trans e8).symm
  have s1_ := f26.2.2
  unfold nbo_92 at s1_
  have s1_ : SUMp H4 H5 d := s1_ d (show hV H4 30 8 = d from ((f25.1.2.1.1 30 8 (by decide +kernel)).trans ((f22.1.2.1.1 30 8 (by decide +kernel)).trans (f21.1.2.1.1 30 8 (by decide +kernel)))).trans e8).symm
  have nt := f21.2.2
  unfold nbo_89 at nt
  have rl := f25.2.2
  unfold nbo_90 at rl
  have el := f27.2.2
  unfold nbo_91 at el
  have el := el d (show hV H5 30 8 = d from ((f26.1.2.1.1 30 8 (by decide +kernel)).trans ((f25.1.2.1.1 30 8 (by decide +kernel)).trans ((f22.1.2.1.1 30 8 (by decide +kernel)).trans (f21.1.2.1.1 30 8 (by decide +kernel))))).trans e8).symm
  have p5 : (absC H5).1 ≤ 900 := by
    by_cases hn : hV H5 30 3 = 0
    · have := absC_pos c3.1 hn
      have nw := c3.1.2.2.2.1.2.1
      omega
    · have := absC_neg c3.1 hn
      omega
  have lr := LIT_read (o := decide (n2 = 0)) (vwC_ok H0) zo1 w1 (SMf_fr f21.1.1 f21.1.2.1 (by decide +kernel) (by decide +kernel)) e_H2 v0 (absC_ok c0.1) nt s0_ e_H3 v1 (absC_ok c1.1) (SMf_fr f25.1.1 f25.1.2.1 (by decide +kernel) (by decide +kernel)) e_H4 v2 (absC_ok c2.1) rl s1_ e_H5 p5 el (fun w => W49_le f27.1.1 w)
  obtain ⟨kl, wl, rl2⟩ := lr
  have m0_ := f33.2.2
  unfold nbo_98 at m0_
  rw [show n10 = d from (r31.trans ((f27.1.2.1.1 30 8 (by decide +kernel)).trans ((f26.1.2.1.1 30 8 (by decide +kernel)).trans ((f25.1.2.1.1 30 8 (by decide +kernel)).trans ((f22.1.2.1.1 30 8 (by decide +kernel)).trans (f21.1.2.1.1 30 8 (by decide +kernel))))))).trans e8] at m0_
  have eH : absC H7 = pLit (vwC H0) (absC H1) := a5
  refine ⟨KO_tr ko (KO_tr kl (m0_ kl.1).1), (W49_le f33.1.1 wl), fun L cd hl hp => ?_⟩
  have hf : hV H1 30 3 = 0 := by omega
  have ap := absC_pos ga.1 hf
  have x0 := (k L cd hl ap.2).1 (by omega)
  have xa := x0.1
  have xb := x0.2.1
  have kk : (vwC H0).1 (absC H7).1 = hV H7 30 2 := by
    have u := (kd_at s5.2.2).resolve_left (by omega)
    rw [v5] at u
    exact u
  have k37 := r37.trans (rfl).symm
  have k45 := r45.trans (rfl).symm
  have oo := or01 (by omega) (by omega) f49
  have hq : 0 ≤ (absC H5).1 := by
    rw [e_H5, ← eH]
    exact hp
  refine CN_lit (X := [n11]) (by omega) (by omega) x0 eH (by rw [eH, ← e_H5]; exact p5) (fun M c l => ?_) (fun M c l => (m0_ kl.1).2 M c (by omega)) ?_ ?_ ?_
  · have y := rl2 M c l hq
    rw [e_H5, ← eH] at y
    exact y
  · exact by
      rw [if_pos (show (vwC H0).1 (absC H7).1 = 43 by rw [kk]; omega), show n2 = 1 by omega]
      rw [show n11 = 10043 from f32]
      rfl
  · exact by
      rw [if_pos (show (vwC H0).1 (absC H7).1 = 43 by rw [kk]; omega)]
      omega
  · exact by
      rw [if_neg (show ¬ (vwC H0).1 (absC H7).1 = 42 by rw [kk]; omega), if_pos (show (vwC H0).1 (absC H7).1 = 43 by rw [kk]; omega)]
      omega
def g_88o_9_21 : vG := ([(5, [18, 2, 17], [], 0), (0, [17], [], 0), (41, [15, 16], [], 0), (0, [16], [], 42), (20, [15, 1], [7], 2), (23, [1], [7], 4), (90, [15], [], -2147483648), (91, [15], [], 2147483647), (31, [14], [], 0), (0, [14], [], 1), (40, [12, 13], [], 0), (0, [13], [], 43), (20, [12, 1], [7], 2), (23, [1], [7], 4), (90, [12], [], -2147483648), (91, [12], [], 2147483647), (1098, [10, 11], [6, 7], 0), (0, [11], [], 10043), (20, [10, 1], [6], 8), (23, [1], [6], 4), (51, [10], [], 0), (31, [3], [], 0), (1091, [1, 9, 8], [5, 6], 0), (1092, [1], [4, 5], 0), (1090, [9, 1], [3, 4], 0), (90, [9], [], -2147483648), (91, [9], [], 2147483647), (1092, [1], [2, 3], 0), (1089, [8, 1], [1, 2], 0), (90, [8], [], 0), (91, [8], [], 1), (31, [4], [], 0), (30, [7], [], 0), (20, [7, 1], [1], 3), (23, [1], [1], 4), (90, [7], [], -2147483648), (91, [7], [], 2147483647), (45, [5, 6], [], 0), (0, [6], [], 500), (5000, [0, 1, 2, 3, 4, 5], [0, 1], 9), (0, [0], [], 30), (0, [1], [], 30), (90, [2], [], -2147483648), (91, [2], [], 2147483647), (90, [3], [], -2147483648), (91, [3], [], 2147483647), (90, [4], [], -2147483648), (91, [4], [], 2147483647), (90, [5], [], -2147483648), (91, [5], [], 2147483647)], (4000, [1, 18, 14, 4, 5, 8, 9], [7], 122))
theorem c_88o_9_21 {q0 : Nat} : vOkm T0 (eN e_88v L_88o A_88v mu_88v no_88 Bo_88 (some q0)) 1 g_88o_9_21 := vOk_inI fun ρ η f0 f1 f2 f3 f4 f5 f6 f7 f8 f9 f10 f11 f12 f13 f14 f15 f16 f17 f18 f19 f20 f21 f22 f23 f24 f25 f26 f27 f28 f29 f30 f31 f32 f33 f34 f35 f36 f37 f38 f39 f40 f41 f42 f43 f44 f45 f46 f47 f48 f49 => q_88o_22 (q0 := q0) (n0 := ρ 5) (n1 := ρ 4) (n2 := ρ 3) (n3 := ρ 2) (n4 := ρ 1) (n5 := ρ 0) (n6 := ρ 6) (n7 := ρ 7) (n8 := ρ 8) (n9 := ρ 9) (n10 := ρ 10) (n11 := ρ 11) (n12 := ρ 12) (n13 := ρ 13) (n14 := ρ 14) (n15 := ρ 15) (n16 := ρ 16) (n17 := ρ 17) (n18 := ρ 18) (H0 := η 0) (H1 := η 1) (H2 := η 2) (H3 := η 3) (H4 := η 4) (H5 := η 5) (H6 := η 6) (H7 := η 7) f49 f48 f47 f46 f45 f44 f43 f42 f41 f40 f39 f38 f37 f36 f35 f34 f33 f32 f31 f30 f29 f28 f27 f26 f25 f24 f23 f22 f21 f20 f19 f18 f17 f16 f15 f14 f13 f12 f11 f10 f9 f8 f7 f6 f5 f4 f3 f2 f1 f0
theorem q_88o_23 {q0 : Nat} {n0 n1 n2 n3 n4 n5 n6 n7 n8 n9 n10 n11 n12 n13 n14 n15 n16 n17 n18 : Int} {H0 H1 H2 H3 H4 H5 H6 H7 : gH} (f0 : n0 ≤ 2147483647) (f1 : (-2147483648) ≤ n0) (f2 : n1 ≤ 2147483647) (f3 : (-2147483648) ≤ n1) (f4 : n2 ≤ 2147483647) (f5 : (-2147483648) ≤ n2) (f6 : n3 ≤ 2147483647) (f7 : (-2147483648) ≤ n3) (f8 : n4 = 30) (f9 : n5 = 30) (f10 : (hLe T0 H0 H1 ∧ hFr s_88v.2.2.2.2 H0 H1 ∧ hWt T0 H1) ∧ ((Ab_88v_9 n5 n4 n3 n2 n1 n0 H0 H1 ∧ Bbo_88_9 n5 n4 n3 n2 n1 n0 H0 H1) ∧ preb_88v n5 H0) ∧ some q0 = some (mub_88v_9 n5 n4 n3 n2 n1 n0 H0 H1)) (f11 : n6 = 500) (f12 : n0 ≤ n6) (f13 : n7 ≤ 2147483647) (f14 : (-2147483648) ≤ n7) (f15 : hK H1 (n4).toNat = 4) (f16 : n7 = hV H1 (n4).toNat 3) (f17 : n7 = 0) (f18 : n1 ≠ 0) (f19 : n8 ≤ 1) (f20 : 0 ≤ n8) (f21 : (hLe T0 H1 H2 ∧ hFr s_89v.2.2.2.2 H1 H2 ∧ ((0 : Int) = 0 → H2.length = H1.length) ∧ hWt T0 H2) ∧ (postb_89v n8 n4 H1 H2 ∧ nbo_89 n8 n4 H1 H2)) (f22 : (hLe T0 H2 H3 ∧ hFr s_92v.2.2.2.2 H2 H3 ∧ ((0 : Int) = 0 → H3.length = H2.length) ∧ hWt T0 H3) ∧ (postb_92v n4 H2 H3 ∧ nbo_92 n4 H2 H3)) (f23 : n9 ≤ 2147483647) (f24 : (-2147483648) ≤ n9) (f25 : (hLe T0 H3 H4 ∧ hFr s_90v.2.2.2.2 H3 H4 ∧ ((0 : Int) = 0 → H4.length = H3.length) ∧ hWt T0 H4) ∧ (postb_90v n9 n4 H3 H4 ∧ nbo_90 n9 n4 H3 H4)) (f26 : (hLe T0 H4 H5 ∧ hFr s_92v.2.2.2.2 H4 H5 ∧ ((0 : Int) = 0 → H5.length = H4.length) ∧ hWt T0 H5) ∧ (postb_92v n4 H4 H5 ∧ nbo_92 n4 H4 H5)) (f27 : (hLe T0 H5 H6 ∧ hFr s_91.2.2.2.2 H5 H6 ∧ ((0 : Int) = 0 → H6.length = H5.length) ∧ hWt T0 H6) ∧ (True ∧ nbo_91 n4 n9 n8 H5 H6)) (f28 : n2 ≠ 0) (f29 : 0 ≤ n10) (f30 : hK H6 (n4).toNat = 4) (f31 : n10 = hV H6 (n4).toNat 8) (f32 : n11 = 10043) (f33 : (hLe T0 H6 H7 ∧ hFr s_98.2.2.2.2 H6 H7 ∧ ((0 : Int) = 0 → H7.length = H6.length) ∧ hWt T0 H7) ∧ (True ∧ nbo_98 n10 n11 H6 H7)) (f34 : n12 ≤ 2147483647) (f35 : (-2147483648) ≤ n12) (f36 : hK H7 (n4).toNat = 4) (f37 : n12 = hV H7 (n4).toNat 2) (f38 : n13 = 43) (f39 : n12 = n13) (f40 : n14 = 1) (f41 : n14 ≠ 0) (f42 : n15 ≤ 2147483647) (f43 : (-2147483648) ≤ n15) (f44 : hK H7 (n4).toNat = 4) (f45 : n15 = hV H7 (n4).toNat 2) (f46 : n16 = 42) (f47 : n15 = n16) (f48 : n17 = 1) (f49 : n18 = o32 (fun x y => x ||| y) n3 n17) : Bbo_88_122 n5 n4 n18 n14 n1 n0 n8 n9 H0 H7 := by
  unfold Bbo_88_122
  intro d ed zo w49
  have pz := f10.2.1.2
  unfold preb_88v at pz
  have ga := f10.2.1.1.1
  unfold Ab_88v_9 at ga
  have vz : vwC H1 = vwC H0 := vwC_fr f10.1.2.1 (by decide +kernel)
  have c0 := f21.2.1
  unfold postb_89v at c0
  rw [vz] at c0
  have a0 : absC H2 = (pNots (vwC H0) (502 - (absC H1).1).toNat (absC H1)) := c0.2
  have v0 : vwC H2 = vwC H0 := (vwC_fr f21.1.2.1 (by decide +kernel)).trans vz
  have c1 := f22.2.1
  unfold postb_92v at c1
  rw [v0] at c1
  rw [a0] at c1
  have a1 : absC H3 = (pExp (vwC H0) (pNots (vwC H0) (502 - (absC H1).1).toNat (absC H1))) := c1.2
  have v1 : vwC H3 = vwC H0 := (vwC_fr f22.1.2.1 (by decide +kernel)).trans v0
  have c2 := f25.2.1
  unfold postb_90v at c2
  rw [v1] at c2
  rw [a1] at c2
  have a2 : absC H4 = (pRel (vwC H0) (pExp (vwC H0) (pNots (vwC H0) (502 - (absC H1).1).toNat (absC H1)))) := c2.2
  have v2 : vwC H4 = vwC H0 := (vwC_fr f25.1.2.1 (by decide +kernel)).trans v1
  have c3 := f26.2.1
  unfold postb_92v at c3
  rw [v2] at c3
  rw [a2] at c3
  have a3 : absC H5 = (pExp (vwC H0) (pRel (vwC H0) (pExp (vwC H0) (pNots (vwC H0) (502 - (absC H1).1).toNat (absC H1))))) := c3.2
  have v3 : vwC H5 = vwC H0 := (vwC_fr f26.1.2.1 (by decide +kernel)).trans v2
  have s4 := PF_fr f27.1.1 f27.1.2.1 (by decide +kernel) c3.1
  have a4 : absC H6 = (pExp (vwC H0) (pRel (vwC H0) (pExp (vwC H0) (pNots (vwC H0) (502 - (absC H1).1).toNat (absC H1))))) := s4.1.trans a3
  have v4 : vwC H6 = vwC H0 := s4.2.1.trans v3
  have s5 := PF_fr f33.1.1 f33.1.2.1 (by decide +kernel) s4.2.2
  have a5 : absC H7 = (pExp (vwC H0) (pRel (vwC H0) (pExp (vwC H0) (pNots (vwC H0) (502 - (absC H1).1).toNat (absC H1))))) := s5.1.trans a4
  have v5 : vwC H7 = vwC H0 := s5.2.1.trans v4
  have gb := f10.2.1.1.2
  unfold Bbo_88_9 at gb
  obtain ⟨ko, w1, k⟩ := gb d ed zo w49
  have zo1 := ko.1
  have e8 : hV H1 30 8 = d := (f10.1.2.1.1 30 8 (by decide +kernel)).trans ed.symm
  have gc := ga
  have r16 : n7 = hV H1 30 3 := by
    have w := f16
    rw [f8] at w
    exact w
  have r31 : n10 = hV H6 30 8 := by
    have w := f31
    rw [f8] at w
    exact w
  have r37 : n12 = hV H7 30 2 := by
    have w := f37
    rw [f8] at w
    exact w
  have r45 : n15 = hV H7 30 2 := by
    have w := f45
    rw [f8] at w
    exact w
  obtain ⟨_, s0_, m01, xn, ya, yb⟩ := gc
  have e_H2 : absC H2 = xLitA (vwC H0) (absC H1) := a0
  have e_H3 : absC H3 = xLitB (vwC H0) (absC H1) := a1
  have e_H4 : absC H4 = xLitC (vwC H0) (absC H1) := a2
  have e_H5 : absC H5 = pLit (vwC H0) (absC H1) := a3
  have s0_ := f22.2.2
  unfold nbo_92 at s0_
  have s0_ : SUMp H2 H3 d := s0_ d (show hV H2 30 8 = d from (f21.1.2.1.1 30 8 (by decide +kernel)).trans e8).symm
  have s1_ := f26.2.2
  unfold nbo_92 at s1_
  have s1_ : SUMp H4 H5 d := s1_ d (show hV H4 30 8 = d from ((f25.1.2.1.1 30 8 (by decide +kernel)).trans ((f22.1.2.1.1 30 8 (by decide +kernel)).trans (f21.1.2.1.1 30 8 (by decide +kernel)))).trans e8).symm
  have nt := f21.2.2
  unfold nbo_89 at nt
  have rl := f25.2.2
  unfold nbo_90 at rl
  have el := f27.2.2
  unfold nbo_91 at el
  have el := el d (show hV H5 30 8 = d from ((f26.1.2.1.1 30 8 (by decide +kernel)).trans ((f25.1.2.1.1 30 8 (by decide +kernel)).trans ((f22.1.2.1.1 30 8 (by decide +kernel)).trans (f21.1.2.1.1 30 8 (by decide +kernel))))).trans e8).symm
  have p5 : (absC H5).1 ≤ 900 := by
    by_cases hn : hV H5 30 3 = 0
    · have := absC_pos c3.1 hn
      have nw := c3.1.2.2.2.1.2.1
      omega
    · have := absC_neg c3.1 hn
      omega
  have lr := LIT_read (o := decide (n2 = 0)) (vwC_ok H0) zo1 w1 (SMf_fr f21.1.1 f21.1.2.1 (by decide +kernel) (by decide +kernel)) e_H2 v0 (absC_ok c0.1) nt s0_ e_H3 v1 (absC_ok c1.1) (SMf_fr f25.1.1 f25.1.2.1 (by decide +kernel) (by decide +kernel)) e_H4 v2 (absC_ok c2.1) rl s1_ e_H5 p5 el (fun w => W49_le f27.1.1 w)
  obtain ⟨kl, wl, rl2⟩ := lr
  have m0_ := f33.2.2
  unfold nbo_98 at m0_
  rw [show n10 = d from (r31.trans ((f27.1.2.1.1 30 8 (by decide +kernel)).trans ((f26.1.2.1.1 30 8 (by decide +kernel)).trans ((f25.1.2.1.1 30 8 (by decide +kernel)).trans ((f22.1.2.1.1 30 8 (by decide +kernel)).trans (f21.1.2.1.1 30 8 (by decide +kernel))))))).trans e8] at m0_
  have eH : absC H7 = pLit (vwC H0) (absC H1) := a5
  refine ⟨KO_tr ko (KO_tr kl (m0_ kl.1).1), (W49_le f33.1.1 wl), fun L cd hl hp => ?_⟩
  have hf : hV H1 30 3 = 0 := by omega
  have ap := absC_pos ga.1 hf
  have x0 := (k L cd hl ap.2).1 (by omega)
  have xa := x0.1
  have xb := x0.2.1
  have kk : (vwC H0).1 (absC H7).1 = hV H7 30 2 := by
    have u := (kd_at s5.2.2).resolve_left (by omega)
    rw [v5] at u
    exact u
  have k37 := r37.trans (rfl).symm
  have k45 := r45.trans (rfl).symm
  have oo := or01 (by omega) (by omega) f49
  have hq : 0 ≤ (absC H5).1 := by
    rw [e_H5, ← eH]
    exact hp
  refine CN_lit (X := [n11]) (by omega) (by omega) x0 eH (by rw [eH, ← e_H5]; exact p5) (fun M c l => ?_) (fun M c l => (m0_ kl.1).2 M c (by omega)) ?_ ?_ ?_
  · have y := rl2 M c l hq
    rw [e_H5, ← eH] at y
    exact y
  · exact by
      rw [if_pos (show (vwC H0).1 (absC H7).1 = 43 by rw [kk]; omega), show n2 = 1 by omega]
      rw [show n11 = 10043 from f32]
      rfl
  · exact by
      rw [if_pos (show (vwC H0).1 (absC H7).1 = 43 by rw [kk]; omega)]
      omega
  · exact by
      rw [if_neg (show ¬ (vwC H0).1 (absC H7).1 = 42 by rw [kk]; omega), if_pos (show (vwC H0).1 (absC H7).1 = 43 by rw [kk]; omega)]
      omega
def g_88o_9_22 : vG := ([(5, [18, 2, 17], [], 0), (0, [17], [], 1), (40, [15, 16], [], 0), (0, [16], [], 42), (20, [15, 1], [7], 2), (23, [1], [7], 4), (90, [15], [], -2147483648), (91, [15], [], 2147483647), (31, [14], [], 0), (0, [14], [], 1), (40, [12, 13], [], 0), (0, [13], [], 43), (20, [12, 1], [7], 2), (23, [1], [7], 4), (90, [12], [], -2147483648), (91, [12], [], 2147483647), (1098, [10, 11], [6, 7], 0), (0, [11], [], 10043), (20, [10, 1], [6], 8), (23, [1], [6], 4), (51, [10], [], 0), (31, [3], [], 0), (1091, [1, 9, 8], [5, 6], 0), (1092, [1], [4, 5], 0), (1090, [9, 1], [3, 4], 0), (90, [9], [], -2147483648), (91, [9], [], 2147483647), (1092, [1], [2, 3], 0), (1089, [8, 1], [1, 2], 0), (90, [8], [], 0), (91, [8], [], 1), (31, [4], [], 0), (30, [7], [], 0), (20, [7, 1], [1], 3), (23, [1], [1], 4), (90, [7], [], -2147483648), (91, [7], [], 2147483647), (45, [5, 6], [], 0), (0, [6], [], 500), (5000, [0, 1, 2, 3, 4, 5], [0, 1], 9), (0, [0], [], 30), (0, [1], [], 30), (90, [2], [], -2147483648), (91, [2], [], 2147483647), (90, [3], [], -2147483648), (91, [3], [], 2147483647), (90, [4], [], -2147483648), (91, [4], [], 2147483647), (90, [5], [], -2147483648), (91, [5], [], 2147483647)], (4000, [1, 18, 14, 4, 5, 8, 9], [7], 122))
theorem c_88o_9_22 {q0 : Nat} : vOkm T0 (eN e_88v L_88o A_88v mu_88v no_88 Bo_88 (some q0)) 1 g_88o_9_22 := vOk_inI fun ρ η f0 f1 f2 f3 f4 f5 f6 f7 f8 f9 f10 f11 f12 f13 f14 f15 f16 f17 f18 f19 f20 f21 f22 f23 f24 f25 f26 f27 f28 f29 f30 f31 f32 f33 f34 f35 f36 f37 f38 f39 f40 f41 f42 f43 f44 f45 f46 f47 f48 f49 => q_88o_23 (q0 := q0) (n0 := ρ 5) (n1 := ρ 4) (n2 := ρ 3) (n3 := ρ 2) (n4 := ρ 1) (n5 := ρ 0) (n6 := ρ 6) (n7 := ρ 7) (n8 := ρ 8) (n9 := ρ 9) (n10 := ρ 10) (n11 := ρ 11) (n12 := ρ 12) (n13 := ρ 13) (n14 := ρ 14) (n15 := ρ 15) (n16 := ρ 16) (n17 := ρ 17) (n18 := ρ 18) (H0 := η 0) (H1 := η 1) (H2 := η 2) (H3 := η 3) (H4 := η 4) (H5 := η 5) (H6 := η 6) (H7 := η 7) f49 f48 f47 f46 f45 f44 f43 f42 f41 f40 f39 f38 f37 f36 f35 f34 f33 f32 f31 f30 f29 f28 f27 f26 f25 f24 f23 f22 f21 f20 f19 f18 f17 f16 f15 f14 f13 f12 f11 f10 f9 f8 f7 f6 f5 f4 f3 f2 f1 f0
theorem q_88o_24 {q0 : Nat} {n0 n1 n2 n3 n4 n5 n6 n7 n8 n9 n10 n11 n12 n13 n14 n15 n16 n17 n18 : Int} {H0 H1 H2 H3 H4 H5 H6 H7 : gH} (f0 : n0 ≤ 2147483647) (f1 : (-2147483648) ≤ n0) (f2 : n1 ≤ 2147483647) (f3 : (-2147483648) ≤ n1) (f4 : n2 ≤ 2147483647) (f5 : (-2147483648) ≤ n2) (f6 : n3 ≤ 2147483647) (f7 : (-2147483648) ≤ n3) (f8 : n4 = 30) (f9 : n5 = 30) (f10 : (hLe T0 H0 H1 ∧ hFr s_88v.2.2.2.2 H0 H1 ∧ hWt T0 H1) ∧ ((Ab_88v_9 n5 n4 n3 n2 n1 n0 H0 H1 ∧ Bbo_88_9 n5 n4 n3 n2 n1 n0 H0 H1) ∧ preb_88v n5 H0) ∧ some q0 = some (mub_88v_9 n5 n4 n3 n2 n1 n0 H0 H1)) (f11 : n6 = 500) (f12 : n0 ≤ n6) (f13 : n7 ≤ 2147483647) (f14 : (-2147483648) ≤ n7) (f15 : hK H1 (n4).toNat = 4) (f16 : n7 = hV H1 (n4).toNat 3) (f17 : n7 = 0) (f18 : n1 ≠ 0) (f19 : n8 ≤ 1) (f20 : 0 ≤ n8) (f21 : (hLe T0 H1 H2 ∧ hFr s_89v.2.2.2.2 H1 H2 ∧ ((0 : Int) = 0 → H2.length = H1.length) ∧ hWt T0 H2) ∧ (postb_89v n8 n4 H1 H2 ∧ nbo_89 n8 n4 H1 H2)) (f22 : (hLe T0 H2 H3 ∧ hFr s_92v.2.2.2.2 H2 H3 ∧ ((0 : Int) = 0 → H3.length = H2.length) ∧ hWt T0 H3) ∧ (postb_92v n4 H2 H3 ∧ nbo_92 n4 H2 H3)) (f23 : n9 ≤ 2147483647) (f24 : (-2147483648) ≤ n9) (f25 : (hLe T0 H3 H4 ∧ hFr s_90v.2.2.2.2 H3 H4 ∧ ((0 : Int) = 0 → H4.length = H3.length) ∧ hWt T0 H4) ∧ (postb_90v n9 n4 H3 H4 ∧ nbo_90 n9 n4 H3 H4)) (f26 : (hLe T0 H4 H5 ∧ hFr s_92v.2.2.2.2 H4 H5 ∧ ((0 : Int) = 0 → H5.length = H4.length) ∧ hWt T0 H5) ∧ (postb_92v n4 H4 H5 ∧ nbo_92 n4 H4 H5)) (f27 : (hLe T0 H5 H6 ∧ hFr s_91.2.2.2.2 H5 H6 ∧ ((0 : Int) = 0 → H6.length = H5.length) ∧ hWt T0 H6) ∧ (True ∧ nbo_91 n4 n9 n8 H5 H6)) (f28 : n2 ≠ 0) (f29 : 0 ≤ n10) (f30 : hK H6 (n4).toNat = 4) (f31 : n10 = hV H6 (n4).toNat 8) (f32 : n11 = 10043) (f33 : (hLe T0 H6 H7 ∧ hFr s_98.2.2.2.2 H6 H7 ∧ ((0 : Int) = 0 → H7.length = H6.length) ∧ hWt T0 H7) ∧ (True ∧ nbo_98 n10 n11 H6 H7)) (f34 : n12 ≤ 2147483647) (f35 : (-2147483648) ≤ n12) (f36 : hK H7 (n4).toNat = 4) (f37 : n12 = hV H7 (n4).toNat 2) (f38 : n13 = 43) (f39 : n12 = n13) (f40 : n14 = 1) (f41 : n14 = 0) (f42 : n3 = 0) (f43 : n15 ≤ 2147483647) (f44 : (-2147483648) ≤ n15) (f45 : hK H7 (n4).toNat = 4) (f46 : n15 = hV H7 (n4).toNat 2) (f47 : n16 = 42) (f48 : n15 ≠ n16) (f49 : n17 = 0) (f50 : n18 = o32 (fun x y => x ||| y) n3 n17) : Bbo_88_122 n5 n4 n18 n14 n1 n0 n8 n9 H0 H7 := by
  exfalso
  omega
def g_88o_9_23 : vG := ([(5, [18, 2, 17], [], 0), (0, [17], [], 0), (41, [15, 16], [], 0), (0, [16], [], 42), (20, [15, 1], [7], 2), (23, [1], [7], 4), (90, [15], [], -2147483648), (91, [15], [], 2147483647), (30, [2], [], 0), (30, [14], [], 0), (0, [14], [], 1), (40, [12, 13], [], 0), (0, [13], [], 43), (20, [12, 1], [7], 2), (23, [1], [7], 4), (90, [12], [], -2147483648), (91, [12], [], 2147483647), (1098, [10, 11], [6, 7], 0), (0, [11], [], 10043), (20, [10, 1], [6], 8), (23, [1], [6], 4), (51, [10], [], 0), (31, [3], [], 0), (1091, [1, 9, 8], [5, 6], 0), (1092, [1], [4, 5], 0), (1090, [9, 1], [3, 4], 0), (90, [9], [], -2147483648), (91, [9], [], 2147483647), (1092, [1], [2, 3], 0), (1089, [8, 1], [1, 2], 0), (90, [8], [], 0), (91, [8], [], 1), (31, [4], [], 0), (30, [7], [], 0), (20, [7, 1], [1], 3), (23, [1], [1], 4), (90, [7], [], -2147483648), (91, [7], [], 2147483647), (45, [5, 6], [], 0), (0, [6], [], 500), (5000, [0, 1, 2, 3, 4, 5], [0, 1], 9), (0, [0], [], 30), (0, [1], [], 30), (90, [2], [], -2147483648), (91, [2], [], 2147483647), (90, [3], [], -2147483648), (91, [3], [], 2147483647), (90, [4], [], -2147483648), (91, [4], [], 2147483647), (90, [5], [], -2147483648), (91, [5], [], 2147483647)], (4000, [1, 18, 14, 4, 5, 8, 9], [7], 122))
theorem c_88o_9_23 {q0 : Nat} : vOkm T0 (eN e_88v L_88o A_88v mu_88v no_88 Bo_88 (some q0)) 1 g_88o_9_23 := vOk_inI fun ρ η f0 f1 f2 f3 f4 f5 f6 f7 f8 f9 f10 f11 f12 f13 f14 f15 f16 f17 f18 f19 f20 f21 f22 f23 f24 f25 f26 f27 f28 f29 f30 f31 f32 f33 f34 f35 f36 f37 f38 f39 f40 f41 f42 f43 f44 f45 f46 f47 f48 f49 f50 => q_88o_24 (q0 := q0) (n0 := ρ 5) (n1 := ρ 4) (n2 := ρ 3) (n3 := ρ 2) (n4 := ρ 1) (n5 := ρ 0) (n6 := ρ 6) (n7 := ρ 7) (n8 := ρ 8) (n9 := ρ 9) (n10 := ρ 10) (n11 := ρ 11) (n12 := ρ 12) (n13 := ρ 13) (n14 := ρ 14) (n15 := ρ 15) (n16 := ρ 16) (n17 := ρ 17) (n18 := ρ 18) (H0 := η 0) (H1 := η 1) (H2 := η 2) (H3 := η 3) (H4 := η 4) (H5 := η 5) (H6 := η 6) (H7 := η 7) f50 f49 f48 f47 f46 f45 f44 f43 f42 f41 f40 f39 f38 f37 f36 f35 f34 f33 f32 f31 f30 f29 f28 f27 f26 f25 f24 f23 f22 f21 f20 f19 f18 f17 f16 f15 f14 f13 f12 f11 f10 f9 f8 f7 f6 f5 f4 f3 f2 f1 f0
theorem q_88o_25 {q0 : Nat} {n0 n1 n2 n3 n4 n5 n6 n7 n8 n9 n10 n11 n12 n13 n14 n15 n16 n17 n18 : Int} {H0 H1 H2 H3 H4 H5 H6 H7 : gH} (f0 : n0 ≤ 2147483647) (f1 : (-2147483648) ≤ n0) (f2 : n1 ≤ 2147483647) (f3 : (-2147483648) ≤ n1) (f4 : n2 ≤ 2147483647) (f5 : (-2147483648) ≤ n2) (f6 : n3 ≤ 2147483647) (f7 : (-2147483648) ≤ n3) (f8 : n4 = 30) (f9 : n5 = 30) (f10 : (hLe T0 H0 H1 ∧ hFr s_88v.2.2.2.2 H0 H1 ∧ hWt T0 H1) ∧ ((Ab_88v_9 n5 n4 n3 n2 n1 n0 H0 H1 ∧ Bbo_88_9 n5 n4 n3 n2 n1 n0 H0 H1) ∧ preb_88v n5 H0) ∧ some q0 = some (mub_88v_9 n5 n4 n3 n2 n1 n0 H0 H1)) (f11 : n6 = 500) (f12 : n0 ≤ n6) (f13 : n7 ≤ 2147483647) (f14 : (-2147483648) ≤ n7) (f15 : hK H1 (n4).toNat = 4) (f16 : n7 = hV H1 (n4).toNat 3) (f17 : n7 = 0) (f18 : n1 ≠ 0) (f19 : n8 ≤ 1) (f20 : 0 ≤ n8) (f21 : (hLe T0 H1 H2 ∧ hFr s_89v.2.2.2.2 H1 H2 ∧ ((0 : Int) = 0 → H2.length = H1.length) ∧ hWt T0 H2) ∧ (postb_89v n8 n4 H1 H2 ∧ nbo_89 n8 n4 H1 H2)) (f22 : (hLe T0 H2 H3 ∧ hFr s_92v.2.2.2.2 H2 H3 ∧ ((0 : Int) = 0 → H3.length = H2.length) ∧ hWt T0 H3) ∧ (postb_92v n4 H2 H3 ∧ nbo_92 n4 H2 H3)) (f23 : n9 ≤ 2147483647) (f24 : (-2147483648) ≤ n9) (f25 : (hLe T0 H3 H4 ∧ hFr s_90v.2.2.2.2 H3 H4 ∧ ((0 : Int) = 0 → H4.length = H3.length) ∧ hWt T0 H4) ∧ (postb_90v n9 n4 H3 H4 ∧ nbo_90 n9 n4 H3 H4)) (f26 : (hLe T0 H4 H5 ∧ hFr s_92v.2.2.2.2 H4 H5 ∧ ((0 : Int) = 0 → H5.length = H4.length) ∧ hWt T0 H5) ∧ (postb_92v n4 H4 H5 ∧ nbo_92 n4 H4 H5)) (f27 : (hLe T0 H5 H6 ∧ hFr s_91.2.2.2.2 H5 H6 ∧ ((0 : Int) = 0 → H6.length = H5.length) ∧ hWt T0 H6) ∧ (True ∧ nbo_91 n4 n9 n8 H5 H6)) (f28 : n2 ≠ 0) (f29 : 0 ≤ n10) (f30 : hK H6 (n4).toNat = 4) (f31 : n10 = hV H6 (n4).toNat 8) (f32 : n11 = 10043) (f33 : (hLe T0 H6 H7 ∧ hFr s_98.2.2.2.2 H6 H7 ∧ ((0 : Int) = 0 → H7.length = H6.length) ∧ hWt T0 H7) ∧ (True ∧ nbo_98 n10 n11 H6 H7)) (f34 : n12 ≤ 2147483647) (f35 : (-2147483648) ≤ n12) (f36 : hK H7 (n4).toNat = 4) (f37 : n12 = hV H7 (n4).toNat 2) (f38 : n13 = 43) (f39 : n12 = n13) (f40 : n14 = 1) (f41 : n14 = 0) (f42 : n3 = 0) (f43 : n15 ≤ 2147483647) (f44 : (-2147483648) ≤ n15) (f45 : hK H7 (n4).toNat = 4) (f46 : n15 = hV H7 (n4).toNat 2) (f47 : n16 = 42) (f48 : n15 = n16) (f49 : n17 = 1) (f50 : n18 = o32 (fun x y => x ||| y) n3 n17) : Bbo_88_122 n5 n4 n18 n14 n1 n0 n8 n9 H0 H7 := by
  exfalso
  omega
def g_88o_9_24 : vG := ([(5, [18, 2, 17], [], 0), (0, [17], [], 1), (40, [15, 16], [], 0), (0, [16], [], 42), (20, [15, 1], [7], 2), (23, [1], [7], 4), (90, [15], [], -2147483648), (91, [15], [], 2147483647), (30, [2], [], 0), (30, [14], [], 0), (0, [14], [], 1), (40, [12, 13], [], 0), (0, [13], [], 43), (20, [12, 1], [7], 2), (23, [1], [7], 4), (90, [12], [], -2147483648), (91, [12], [], 2147483647), (1098, [10, 11], [6, 7], 0), (0, [11], [], 10043), (20, [10, 1], [6], 8), (23, [1], [6], 4), (51, [10], [], 0), (31, [3], [], 0), (1091, [1, 9, 8], [5, 6], 0), (1092, [1], [4, 5], 0), (1090, [9, 1], [3, 4], 0), (90, [9], [], -2147483648), (91, [9], [], 2147483647), (1092, [1], [2, 3], 0), (1089, [8, 1], [1, 2], 0), (90, [8], [], 0), (91, [8], [], 1), (31, [4], [], 0), (30, [7], [], 0), (20, [7, 1], [1], 3), (23, [1], [1], 4), (90, [7], [], -2147483648), (91, [7], [], 2147483647), (45, [5, 6], [], 0), (0, [6], [], 500), (5000, [0, 1, 2, 3, 4, 5], [0, 1], 9), (0, [0], [], 30), (0, [1], [], 30), (90, [2], [], -2147483648), (91, [2], [], 2147483647), (90, [3], [], -2147483648), (91, [3], [], 2147483647), (90, [4], [], -2147483648), (91, [4], [], 2147483647), (90, [5], [], -2147483648), (91, [5], [], 2147483647)], (4000, [1, 18, 14, 4, 5, 8, 9], [7], 122))
theorem c_88o_9_24 {q0 : Nat} : vOkm T0 (eN e_88v L_88o A_88v mu_88v no_88 Bo_88 (some q0)) 1 g_88o_9_24 := vOk_inI fun ρ η f0 f1 f2 f3 f4 f5 f6 f7 f8 f9 f10 f11 f12 f13 f14 f15 f16 f17 f18 f19 f20 f21 f22 f23 f24 f25 f26 f27 f28 f29 f30 f31 f32 f33 f34 f35 f36 f37 f38 f39 f40 f41 f42 f43 f44 f45 f46 f47 f48 f49 f50 => q_88o_25 (q0 := q0) (n0 := ρ 5) (n1 := ρ 4) (n2 := ρ 3) (n3 := ρ 2) (n4 := ρ 1) (n5 := ρ 0) (n6 := ρ 6) (n7 := ρ 7) (n8 := ρ 8) (n9 := ρ 9) (n10 := ρ 10) (n11 := ρ 11) (n12 := ρ 12) (n13 := ρ 13) (n14 := ρ 14) (n15 := ρ 15) (n16 := ρ 16) (n17 := ρ 17) (n18 := ρ 18) (H0 := η 0) (H1 := η 1) (H2 := η 2) (H3 := η 3) (H4 := η 4) (H5 := η 5) (H6 := η 6) (H7 := η 7) f50 f49 f48 f47 f46 f45 f44 f43 f42 f41 f40 f39 f38 f37 f36 f35 f34 f33 f32 f31 f30 f29 f28 f27 f26 f25 f24 f23 f22 f21 f20 f19 f18 f17 f16 f15 f14 f13 f12 f11 f10 f9 f8 f7 f6 f5 f4 f3 f2 f1 f0
theorem q_88o_26 {q0 : Nat} {n0 n1 n2 n3 n4 n5 n6 n7 n8 n9 n10 n11 n12 n13 n14 n15 n16 n17 n18 n19 n20 n21 : Int} {H0 H1 H2 H3 H4 H5 H6 H7 H8 : gH} (f0 : n0 ≤ 2147483647) (f1 : (-2147483648) ≤ n0) (f2 : n1 ≤ 2147483647) (f3 : (-2147483648) ≤ n1) (f4 : n2 ≤ 2147483647) (f5 : (-2147483648) ≤ n2) (f6 : n3 ≤ 2147483647) (f7 : (-2147483648) ≤ n3) (f8 : n4 = 30) (f9 : n5 = 30) (f10 : (hLe T0 H0 H1 ∧ hFr s_88v.2.2.2.2 H0 H1 ∧ hWt T0 H1) ∧ ((Ab_88v_9 n5 n4 n3 n2 n1 n0 H0 H1 ∧ Bbo_88_9 n5 n4 n3 n2 n1 n0 H0 H1) ∧ preb_88v n5 H0) ∧ some q0 = some (mub_88v_9 n5 n4 n3 n2 n1 n0 H0 H1)) (f11 : n6 = 500) (f12 : n0 ≤ n6) (f13 : n7 ≤ 2147483647) (f14 : (-2147483648) ≤ n7) (f15 : hK H1 (n4).toNat = 4) (f16 : n7 = hV H1 (n4).toNat 3) (f17 : n7 = 0) (f18 : n1 ≠ 0) (f19 : n8 ≤ 1) (f20 : 0 ≤ n8) (f21 : (hLe T0 H1 H2 ∧ hFr s_89v.2.2.2.2 H1 H2 ∧ ((0 : Int) = 0 → H2.length = H1.length) ∧ hWt T0 H2) ∧ (postb_89v n8 n4 H1 H2 ∧ nbo_89 n8 n4 H1 H2)) (f22 : (hLe T0 H2 H3 ∧ hFr s_92v.2.2.2.2 H2 H3 ∧ ((0 : Int) = 0 → H3.length = H2.length) ∧ hWt T0 H3) ∧ (postb_92v n4 H2 H3 ∧ nbo_92 n4 H2 H3)) (f23 : n9 ≤ 2147483647) (f24 : (-2147483648) ≤ n9) (f25 : (hLe T0 H3 H4 ∧ hFr s_90v.2.2.2.2 H3 H4 ∧ ((0 : Int) = 0 → H4.length = H3.length) ∧ hWt T0 H4) ∧ (postb_90v n9 n4 H3 H4 ∧ nbo_90 n9 n4 H3 H4)) (f26 : (hLe T0 H4 H5 ∧ hFr s_92v.2.2.2.2 H4 H5 ∧ ((0 : Int) = 0 → H5.length = H4.length) ∧ hWt T0 H5) ∧ (postb_92v n4 H4 H5 ∧ nbo_92 n4 H4 H5)) (f27 : (hLe T0 H5 H6 ∧ hFr s_91.2.2.2.2 H5 H6 ∧ ((0 : Int) = 0 → H6.length = H5.length) ∧ hWt T0 H6) ∧ (True ∧ nbo_91 n4 n9 n8 H5 H6)) (f28 : n2 ≠ 0) (f29 : 0 ≤ n10) (f30 : hK H6 (n4).toNat = 4) (f31 : n10 = hV H6 (n4).toNat 8) (f32 : n11 = 10043) (f33 : (hLe T0 H6 H7 ∧ hFr s_98.2.2.2.2 H6 H7 ∧ ((0 : Int) = 0 → H7.length = H6.length) ∧ hWt T0 H7) ∧ (True ∧ nbo_98 n10 n11 H6 H7)) (f34 : n12 ≤ 2147483647) (f35 : (-2147483648) ≤ n12) (f36 : hK H7 (n4).toNat = 4) (f37 : n12 = hV H7 (n4).toNat 2) (f38 : n13 = 43) (f39 : n12 = n13) (f40 : n14 = 1) (f41 : n14 = 0) (f42 : n3 ≠ 0) (f43 : 0 ≤ n15) (f44 : hK H7 (n4).toNat = 4) (f45 : n15 = hV H7 (n4).toNat 8) (f46 : n16 = 10042) (f47 : (hLe T0 H7 H8 ∧ hFr s_98.2.2.2.2 H7 H8 ∧ ((0 : Int) = 0 → H8.length = H7.length) ∧ hWt T0 H8) ∧ (True ∧ nbo_98 n15 n16 H7 H8)) (f48 : n17 = 0) (f49 : n18 ≤ 2147483647) (f50 : (-2147483648) ≤ n18) (f51 : hK H8 (n4).toNat = 4) (f52 : n18 = hV H8 (n4).toNat 2) (f53 : n19 = 42) (f54 : n18 ≠ n19) (f55 : n20 = 0) (f56 : n21 = o32 (fun x y => x ||| y) n17 n20) : Bbo_88_122 n5 n4 n21 n14 n1 n0 n8 n9 H0 H8 := by
  exfalso
  omega
def g_88o_9_25 : vG := ([(5, [21, 17, 20], [], 0), (0, [20], [], 0), (41, [18, 19], [], 0), (0, [19], [], 42), (20, [18, 1], [8], 2), (23, [1], [8], 4), (90, [18], [], -2147483648), (91, [18], [], 2147483647), (0, [17], [], 0), (1098, [15, 16], [7, 8], 0), (0, [16], [], 10042), (20, [15, 1], [7], 8), (23, [1], [7], 4), (51, [15], [], 0), (31, [2], [], 0), (30, [14], [], 0), (0, [14], [], 1), (40, [12, 13], [], 0), (0, [13], [], 43), (20, [12, 1], [7], 2), (23, [1], [7], 4), (90, [12], [], -2147483648), (91, [12], [], 2147483647), (1098, [10, 11], [6, 7], 0), (0, [11], [], 10043), (20, [10, 1], [6], 8), (23, [1], [6], 4), (51, [10], [], 0), (31, [3], [], 0), (1091, [1, 9, 8], [5, 6], 0), (1092, [1], [4, 5], 0), (1090, [9, 1], [3, 4], 0), (90, [9], [], -2147483648), (91, [9], [], 2147483647), (1092, [1], [2, 3], 0), (1089, [8, 1], [1, 2], 0), (90, [8], [], 0), (91, [8], [], 1), (31, [4], [], 0), (30, [7], [], 0), (20, [7, 1], [1], 3), (23, [1], [1], 4), (90, [7], [], -2147483648), (91, [7], [], 2147483647), (45, [5, 6], [], 0), (0, [6], [], 500), (5000, [0, 1, 2, 3, 4, 5], [0, 1], 9), (0, [0], [], 30), (0, [1], [], 30), (90, [2], [], -2147483648), (91, [2], [], 2147483647), (90, [3], [], -2147483648), (91, [3], [], 2147483647), (90, [4], [], -2147483648), (91, [4], [], 2147483647), (90, [5], [], -2147483648), (91, [5], [], 2147483647)], (4000, [1, 21, 14, 4, 5, 8, 9], [8], 122))
theorem c_88o_9_25 {q0 : Nat} : vOkm T0 (eN e_88v L_88o A_88v mu_88v no_88 Bo_88 (some q0)) 1 g_88o_9_25 := vOk_inI fun ρ η f0 f1 f2 f3 f4 f5 f6 f7 f8 f9 f10 f11 f12 f13 f14 f15 f16 f17 f18 f19 f20 f21 f22 f23 f24 f25 f26 f27 f28 f29 f30 f31 f32 f33 f34 f35 f36 f37 f38 f39 f40 f41 f42 f43 f44 f45 f46 f47 f48 f49 f50 f51 f52 f53 f54 f55 f56 => q_88o_26 (q0 := q0) (n0 := ρ 5) (n1 := ρ 4) (n2 := ρ 3) (n3 := ρ 2) (n4 := ρ 1) (n5 := ρ 0) (n6 := ρ 6) (n7 := ρ 7) (n8 := ρ 8) (n9 := ρ 9) (n10 := ρ 10) (n11 := ρ 11) (n12 := ρ 12) (n13 := ρ 13) (n14 := ρ 14) (n15 := ρ 15) (n16 := ρ 16) (n17 := ρ 17) (n18 := ρ 18) (n19 := ρ 19) (n20 := ρ 20) (n21 := ρ 21) (H0 := η 0) (H1 := η 1) (H2 := η 2) (H3 := η 3) (H4 := η 4) (H5 := η 5) (H6 := η 6) (H7 := η 7) (H8 := η 8) f56 f55 f54 f53 f52 f51 f50 f49 f48 f47 f46 f45 f44 f43 f42 f41 f40 f39 f38 f37 f36 f35 f34 f33 f32 f31 f30 f29 f28 f27 f26 f25 f24 f23 f22 f21 f20 f19 f18 f17 f16 f15 f14 f13 f12 f11 f10 f9 f8 f7 f6 f5 f4 f3 f2 f1 f0
theorem q_88o_27 {q0 : Nat} {n0 n1 n2 n3 n4 n5 n6 n7 n8 n9 n10 n11 n12 n13 n14 n15 n16 n17 n18 n19 n20 n21 : Int} {H0 H1 H2 H3 H4 H5 H6 H7 H8 : gH} (f0 : n0 ≤ 2147483647) (f1 : (-2147483648) ≤ n0) (f2 : n1 ≤ 2147483647) (f3 : (-2147483648) ≤ n1) (f4 : n2 ≤ 2147483647) (f5 : (-2147483648) ≤ n2) (f6 : n3 ≤ 2147483647) (f7 : (-2147483648) ≤ n3) (f8 : n4 = 30) (f9 : n5 = 30) (f10 : (hLe T0 H0 H1 ∧ hFr s_88v.2.2.2.2 H0 H1 ∧ hWt T0 H1) ∧ ((Ab_88v_9 n5 n4 n3 n2 n1 n0 H0 H1 ∧ Bbo_88_9 n5 n4 n3 n2 n1 n0 H0 H1) ∧ preb_88v n5 H0) ∧ some q0 = some (mub_88v_9 n5 n4 n3 n2 n1 n0 H0 H1)) (f11 : n6 = 500) (f12 : n0 ≤ n6) (f13 : n7 ≤ 2147483647) (f14 : (-2147483648) ≤ n7) (f15 : hK H1 (n4).toNat = 4) (f16 : n7 = hV H1 (n4).toNat 3) (f17 : n7 = 0) (f18 : n1 ≠ 0) (f19 : n8 ≤ 1) (f20 : 0 ≤ n8) (f21 : (hLe T0 H1 H2 ∧ hFr s_89v.2.2.2.2 H1 H2 ∧ ((0 : Int) = 0 → H2.length = H1.length) ∧ hWt T0 H2) ∧ (postb_89v n8 n4 H1 H2 ∧ nbo_89 n8 n4 H1 H2)) (f22 : (hLe T0 H2 H3 ∧ hFr s_92v.2.2.2.2 H2 H3 ∧ ((0 : Int) = 0 → H3.length = H2.length) ∧ hWt T0 H3) ∧ (postb_92v n4 H2 H3 ∧ nbo_92 n4 H2 H3)) (f23 : n9 ≤ 2147483647) (f24 : (-2147483648) ≤ n9) (f25 : (hLe T0 H3 H4 ∧ hFr s_90v.2.2.2.2 H3 H4 ∧ ((0 : Int) = 0 → H4.length = H3.length) ∧ hWt T0 H4) ∧ (postb_90v n9 n4 H3 H4 ∧ nbo_90 n9 n4 H3 H4)) (f26 : (hLe T0 H4 H5 ∧ hFr s_92v.2.2.2.2 H4 H5 ∧ ((0 : Int) = 0 → H5.length = H4.length) ∧ hWt T0 H5) ∧ (postb_92v n4 H4 H5 ∧ nbo_92 n4 H4 H5)) (f27 : (hLe T0 H5 H6 ∧ hFr s_91.2.2.2.2 H5 H6 ∧ ((0 : Int) = 0 → H6.length = H5.length) ∧ hWt T0 H6) ∧ (True ∧ nbo_91 n4 n9 n8 H5 H6)) (f28 : n2 ≠ 0) (f29 : 0 ≤ n10) (f30 : hK H6 (n4).toNat = 4) (f31 : n10 = hV H6 (n4).toNat 8) (f32 : n11 = 10043) (f33 : (hLe T0 H6 H7 ∧ hFr s_98.2.2.2.2 H6 H7 ∧ ((0 : Int) = 0 → H7.length = H6.length) ∧ hWt T0 H7) ∧ (True ∧ nbo_98 n10 n11 H6 H7)) (f34 : n12 ≤ 2147483647) (f35 : (-2147483648) ≤ n12) (f36 : hK H7 (n4).toNat = 4) (f37 : n12 = hV H7 (n4).toNat 2) (f38 : n13 = 43) (f39 : n12 = n13) (f40 : n14 = 1) (f41 : n14 = 0) (f42 : n3 ≠ 0) (f43 : 0 ≤ n15) (f44 : hK H7 (n4).toNat = 4) (f45 : n15 = hV H7 (n4).toNat 8) (f46 : n16 = 10042) (f47 : (hLe T0 H7 H8 ∧ hFr s_98.2.2.2.2 H7 H8 ∧ ((0 : Int) = 0 → H8.length = H7.length) ∧ hWt T0 H8) ∧ (True ∧ nbo_98 n15 n16 H7 H8)) (f48 : n17 = 0) (f49 : n18 ≤ 2147483647) (f50 : (-2147483648) ≤ n18) (f51 : hK H8 (n4).toNat = 4) (f52 : n18 = hV H8 (n4).toNat 2) (f53 : n19 = 42) (f54 : n18 = n19) (f55 : n20 = 1) (f56 : n21 = o32 (fun x y => x ||| y) n17 n20) : Bbo_88_122 n5 n4 n21 n14 n1 n0 n8 n9 H0 H8 := by
  exfalso
  omega
def g_88o_9_26 : vG := ([(5, [21, 17, 20], [], 0), (0, [20], [], 1), (40, [18, 19], [], 0), (0, [19], [], 42), (20, [18, 1], [8], 2), (23, [1], [8], 4), (90, [18], [], -2147483648), (91, [18], [], 2147483647), (0, [17], [], 0), (1098, [15, 16], [7, 8], 0), (0, [16], [], 10042), (20, [15, 1], [7], 8), (23, [1], [7], 4), (51, [15], [], 0), (31, [2], [], 0), (30, [14], [], 0), (0, [14], [], 1), (40, [12, 13], [], 0), (0, [13], [], 43), (20, [12, 1], [7], 2), (23, [1], [7], 4), (90, [12], [], -2147483648), (91, [12], [], 2147483647), (1098, [10, 11], [6, 7], 0), (0, [11], [], 10043), (20, [10, 1], [6], 8), (23, [1], [6], 4), (51, [10], [], 0), (31, [3], [], 0), (1091, [1, 9, 8], [5, 6], 0), (1092, [1], [4, 5], 0), (1090, [9, 1], [3, 4], 0), (90, [9], [], -2147483648), (91, [9], [], 2147483647), (1092, [1], [2, 3], 0), (1089, [8, 1], [1, 2], 0), (90, [8], [], 0), (91, [8], [], 1), (31, [4], [], 0), (30, [7], [], 0), (20, [7, 1], [1], 3), (23, [1], [1], 4), (90, [7], [], -2147483648), (91, [7], [], 2147483647), (45, [5, 6], [], 0), (0, [6], [], 500), (5000, [0, 1, 2, 3, 4, 5], [0, 1], 9), (0, [0], [], 30), (0, [1], [], 30), (90, [2], [], -2147483648), (91, [2], [], 2147483647), (90, [3], [], -2147483648), (91, [3], [], 2147483647), (90, [4], [], -2147483648), (91, [4], [], 2147483647), (90, [5], [], -2147483648), (91, [5], [], 2147483647)], (4000, [1, 21, 14, 4, 5, 8, 9], [8], 122))
theorem c_88o_9_26 {q0 : Nat} : vOkm T0 (eN e_88v L_88o A_88v mu_88v no_88 Bo_88 (some q0)) 1 g_88o_9_26 := vOk_inI fun ρ η f0 f1 f2 f3 f4 f5 f6 f7 f8 f9 f10 f11 f12 f13 f14 f15 f16 f17 f18 f19 f20 f21 f22 f23 f24 f25 f26 f27 f28 f29 f30 f31 f32 f33 f34 f35 f36 f37 f38 f39 f40 f41 f42 f43 f44 f45 f46 f47 f48 f49 f50 f51 f52 f53 f54 f55 f56 => q_88o_27 (q0 := q0) (n0 := ρ 5) (n1 := ρ 4) (n2 := ρ 3) (n3 := ρ 2) (n4 := ρ 1) (n5 := ρ 0) (n6 := ρ 6) (n7 := ρ 7) (n8 := ρ 8) (n9 := ρ 9) (n10 := ρ 10) (n11 := ρ 11) (n12 := ρ 12) (n13 := ρ 13) (n14 := ρ 14) (n15 := ρ 15) (n16 := ρ 16) (n17 := ρ 17) (n18 := ρ 18) (n19 := ρ 19) (n20 := ρ 20) (n21 := ρ 21) (H0 := η 0) (H1 := η 1) (H2 := η 2) (H3 := η 3) (H4 := η 4) (H5 := η 5) (H6 := η 6) (H7 := η 7) (H8 := η 8) f56 f55 f54 f53 f52 f51 f50 f49 f48 f47 f46 f45 f44 f43 f42 f41 f40 f39 f38 f37 f36 f35 f34 f33 f32 f31 f30 f29 f28 f27 f26 f25 f24 f23 f22 f21 f20 f19 f18 f17 f16 f15 f14 f13 f12 f11 f10 f9 f8 f7 f6 f5 f4 f3 f2 f1 f0
def p_88o_9 : List vG := [g_88o_9_0,
  g_88o_9_1,
  g_88o_9_2,
  g_88o_9_3,
  g_88o_9_4,
  g_88o_9_5,
  g_88o_9_6,
  g_88o_9_7,
  g_88o_9_8,
  g_88o_9_9,
  g_88o_9_10,
  g_88o_9_11,
  g_88o_9_12,
  g_88o_9_13,
  g_88o_9_14,
  g_88o_9_15,
  g_88o_9_16,
  g_88o_9_17,
  g_88o_9_18,
  g_88o_9_19,
  g_88o_9_20,
  g_88o_9_21,
  g_88o_9_22,
  g_88o_9_23,
  g_88o_9_24,
  g_88o_9_25,
  g_88o_9_26]
theorem r_88o_9 : vCovBO (eRc e_88v L_88v cs_88v 2000 (9, [(0, (3, 4, 30, 0)), (1, (0, -2147483648, 2147483647, 0)), (2, (0, -2147483648, 2147483647, 0)), (3, (0, -2147483648, 2147483647, 0)), (4, (0, -2147483648, 2147483647, 0))])) p_88o_9 = true := by decide +kernel
theorem q_88o_28 {q0 : Nat} {n0 n1 n2 n3 n4 n5 n6 n7 n8 n9 n10 n11 : Int} {H0 H1 : gH} (f0 : n0 ≤ 2147483647) (f1 : (-2147483648) ≤ n0) (f2 : n1 ≤ 2147483647) (f3 : (-2147483648) ≤ n1) (f4 : n2 ≤ 2147483647) (f5 : (-2147483648) ≤ n2) (f6 : n3 ≤ 2147483647) (f7 : (-2147483648) ≤ n3) (f8 : n4 ≤ 2147483647) (f9 : (-2147483648) ≤ n4) (f10 : n5 ≤ 2147483647) (f11 : (-2147483648) ≤ n5) (f12 : n6 = 30) (f13 : n7 = 30) (f14 : (hLe T0 H0 H1 ∧ hFr s_88v.2.2.2.2 H0 H1 ∧ hWt T0 H1) ∧ ((Ab_88v_122 n7 n6 n5 n4 n3 n2 n1 n0 H0 H1 ∧ Bbo_88_122 n7 n6 n5 n4 n3 n2 n1 n0 H0 H1) ∧ preb_88v n7 H0) ∧ some q0 = some (mub_88v_122 n7 n6 n5 n4 n3 n2 n1 n0 H0 H1)) (f15 : n8 ≤ 2147483647) (f16 : (-2147483648) ≤ n8) (f17 : hK H1 (n6).toNat = 4) (f18 : n8 = hV H1 (n6).toNat 2) (f19 : n9 = 43) (f20 : n8 = n9) (f21 : n10 = 1) (f22 : n10 = 0) (f23 : n11 = w32 (n2 + 1)) : Bbo_88_9 n7 n6 n5 n4 n10 n11 H0 H1 := by
  exfalso
  omega
def g_88o_122_0 : vG := ([(10, [11, 5], [], 1), (30, [10], [], 0), (0, [10], [], 1), (40, [8, 9], [], 0), (0, [9], [], 43), (20, [8, 1], [1], 2), (23, [1], [1], 4), (90, [8], [], -2147483648), (91, [8], [], 2147483647), (5000, [0, 1, 2, 3, 4, 5, 6, 7], [0, 1], 122), (0, [0], [], 30), (0, [1], [], 30), (90, [2], [], -2147483648), (91, [2], [], 2147483647), (90, [3], [], -2147483648), (91, [3], [], 2147483647), (90, [4], [], -2147483648), (91, [4], [], 2147483647), (90, [5], [], -2147483648), (91, [5], [], 2147483647), (90, [6], [], -2147483648), (91, [6], [], 2147483647), (90, [7], [], -2147483648), (91, [7], [], 2147483647)], (4000, [1, 2, 3, 10, 11], [1], 9))
theorem c_88o_122_0 {q0 : Nat} : vOkm T0 (eN e_88v L_88o A_88v mu_88v no_88 Bo_88 (some q0)) 1 g_88o_122_0 := vOk_inI fun ρ η f0 f1 f2 f3 f4 f5 f6 f7 f8 f9 f10 f11 f12 f13 f14 f15 f16 f17 f18 f19 f20 f21 f22 f23 => q_88o_28 (q0 := q0) (n0 := ρ 7) (n1 := ρ 6) (n2 := ρ 5) (n3 := ρ 4) (n4 := ρ 3) (n5 := ρ 2) (n6 := ρ 1) (n7 := ρ 0) (n8 := ρ 8) (n9 := ρ 9) (n10 := ρ 10) (n11 := ρ 11) (H0 := η 0) (H1 := η 1) f23 f22 f21 f20 f19 f18 f17 f16 f15 f14 f13 f12 f11 f10 f9 f8 f7 f6 f5 f4 f3 f2 f1 f0
theorem q_88o_29 {q0 : Nat} {n0 n1 n2 n3 n4 n5 n6 n7 n8 n9 n10 n11 n12 : Int} {H0 H1 H2 : gH} (f0 : n0 ≤ 2147483647) (f1 : (-2147483648) ≤ n0) (f2 : n1 ≤ 2147483647) (f3 : (-2147483648) ≤ n1) (f4 : n2 ≤ 2147483647) (f5 : (-2147483648) ≤ n2) (f6 : n3 ≤ 2147483647) (f7 : (-2147483648) ≤ n3) (f8 : n4 ≤ 2147483647) (f9 : (-2147483648) ≤ n4) (f10 : n5 ≤ 2147483647) (f11 : (-2147483648) ≤ n5) (f12 : n6 = 30) (f13 : n7 = 30) (f14 : (hLe T0 H0 H1 ∧ hFr s_88v.2.2.2.2 H0 H1 ∧ hWt T0 H1) ∧ ((Ab_88v_122 n7 n6 n5 n4 n3 n2 n1 n0 H0 H1 ∧ Bbo_88_122 n7 n6 n5 n4 n3 n2 n1 n0 H0 H1) ∧ preb_88v n7 H0) ∧ some q0 = some (mub_88v_122 n7 n6 n5 n4 n3 n2 n1 n0 H0 H1)) (f15 : n8 ≤ 2147483647) (f16 : (-2147483648) ≤ n8) (f17 : hK H1 (n6).toNat = 4) (f18 : n8 = hV H1 (n6).toNat 2) (f19 : n9 = 43) (f20 : n8 = n9) (f21 : n10 = 1) (f22 : n10 ≠ 0) (f23 : n11 ≤ 2147483647) (f24 : (-2147483648) ≤ n11) (f25 : hK H1 (n6).toNat = 4) (f26 : n11 = hV H1 (n6).toNat 2) (f27 : (hLe T0 H1 H2 ∧ hFr s_66v.2.2.2.2 H1 H2 ∧ ((0 : Int) = 0 → H2.length = H1.length) ∧ hWt T0 H2) ∧ postb_66v n6 n11 H1 H2) (f28 : n12 = w32 (n2 + 1)) : Bbo_88_9 n7 n6 n5 n4 n10 n12 H0 H2 := by
  unfold Bbo_88_9
  intro d ed zo w49
  have pz := f14.2.1.2
  unfold preb_88v at pz
  have ga := f14.2.1.1.1
  unfold Ab_88v_122 at ga
  have vz : vwC H1 = vwC H0 := vwC_fr f14.1.2.1 (by decide +kernel)
  have x0_11 := f26
  rw [f12] at x0_11
  rw [show ((30 : Int)).toNat = 30 from rfl] at x0_11
  have u0_11 := f18
  rw [f12] at u0_11
  rw [show ((30 : Int)).toNat = 30 from rfl] at u0_11
  have kx0_11 : n11 = 43 := by omega
  have c0 := f27.2
  unfold postb_66v at c0
  rw [kx0_11] at c0
  rw [vz] at c0
  have a0 : absC H2 = (ptk (vwC H0) 43 (absC H1)) := c0.2
  have v0 : vwC H2 = vwC H0 := (vwC_fr f27.1.2.1 (by decide +kernel)).trans vz
  have gb := f14.2.1.1.2
  unfold Bbo_88_122 at gb
  obtain ⟨ko, w1, k⟩ := gb d ed zo w49
  have zo1 := ko.1
  have e8 : hV H1 30 8 = d := (f14.1.2.1.1 30 8 (by decide +kernel)).trans ed.symm
  have gc := ga
  have r18 : n8 = hV H1 30 2 := by
    have w := f18
    rw [f12] at w
    exact w
  have r26 : n11 = hV H1 30 2 := by
    have w := f26
    rw [f12] at w
    exact w
  have q28_ := f28
  unfold w32 at q28_
  obtain ⟨_, s0_, s5, xn, y1⟩ := gc
  refine ⟨KO_tr ko (KO_sm zo1 (SMf_fr f27.1.1 f27.1.2.1 (by decide +kernel) (by decide +kernel))), W49_le f27.1.1 w1, fun L cd hl hp => ⟨fun m1 => ?_, fun m0 => by exfalso; omega⟩⟩
  rw [a0] at hp ⊢
  have kq := pt1_kind (h := H0) pz.2.1 (s := (absC H1).1) hp
  have pn := ptk_next (h := H0) pz.2.1 (p := absC H1) hp
  have hp1 := kq.1
  have hv : (vwC H0).1 (absC H1).1 = hV H1 30 2 := by
    have u := (kd_at ga.1).resolve_left (by omega)
    rw [vz] at u
    exact u
  rw [show (502 - n12).toNat = (502 - n2).toNat - 1 by omega]
  exact CNk_take zo1 (SMf_fr f27.1.1 f27.1.2.1 (by decide +kernel) (by decide +kernel)) (k L cd hl hp1) (by omega) (by rw [kq.2]) pn
def g_88o_122_1 : vG := ([(10, [12, 5], [], 1), (1066, [1, 11], [1, 2], 0), (20, [11, 1], [1], 2), (23, [1], [1], 4), (90, [11], [], -2147483648), (91, [11], [], 2147483647), (31, [10], [], 0), (0, [10], [], 1), (40, [8, 9], [], 0), (0, [9], [], 43), (20, [8, 1], [1], 2), (23, [1], [1], 4), (90, [8], [], -2147483648), (91, [8], [], 2147483647), (5000, [0, 1, 2, 3, 4, 5, 6, 7], [0, 1], 122), (0, [0], [], 30), (0, [1], [], 30), (90, [2], [], -2147483648), (91, [2], [], 2147483647), (90, [3], [], -2147483648), (91, [3], [], 2147483647), (90, [4], [], -2147483648), (91, [4], [], 2147483647), (90, [5], [], -2147483648), (91, [5], [], 2147483647), (90, [6], [], -2147483648), (91, [6], [], 2147483647), (90, [7], [], -2147483648), (91, [7], [], 2147483647)], (4000, [1, 2, 3, 10, 12], [2], 9))
theorem c_88o_122_1 {q0 : Nat} : vOkm T0 (eN e_88v L_88o A_88v mu_88v no_88 Bo_88 (some q0)) 1 g_88o_122_1 := vOk_inI fun ρ η f0 f1 f2 f3 f4 f5 f6 f7 f8 f9 f10 f11 f12 f13 f14 f15 f16 f17 f18 f19 f20 f21 f22 f23 f24 f25 f26 f27 f28 => q_88o_29 (q0 := q0) (n0 := ρ 7) (n1 := ρ 6) (n2 := ρ 5) (n3 := ρ 4) (n4 := ρ 3) (n5 := ρ 2) (n6 := ρ 1) (n7 := ρ 0) (n8 := ρ 8) (n9 := ρ 9) (n10 := ρ 10) (n11 := ρ 11) (n12 := ρ 12) (H0 := η 0) (H1 := η 1) (H2 := η 2) f28 f27 f26 f25 f24 f23 f22 f21 f20 f19 f18 f17 f16 f15 f14 f13 f12 f11 f10 f9 f8 f7 f6 f5 f4 f3 f2 f1 f0
theorem q_88o_30 {q0 : Nat} {n0 n1 n2 n3 n4 n5 n6 n7 n8 n9 n10 n11 n12 n13 : Int} {H0 H1 : gH} (f0 : n0 ≤ 2147483647) (f1 : (-2147483648) ≤ n0) (f2 : n1 ≤ 2147483647) (f3 : (-2147483648) ≤ n1) (f4 : n2 ≤ 2147483647) (f5 : (-2147483648) ≤ n2) (f6 : n3 ≤ 2147483647) (f7 : (-2147483648) ≤ n3) (f8 : n4 ≤ 2147483647) (f9 : (-2147483648) ≤ n4) (f10 : n5 ≤ 2147483647) (f11 : (-2147483648) ≤ n5) (f12 : n6 = 30) (f13 : n7 = 30) (f14 : (hLe T0 H0 H1 ∧ hFr s_88v.2.2.2.2 H0 H1 ∧ hWt T0 H1) ∧ ((Ab_88v_122 n7 n6 n5 n4 n3 n2 n1 n0 H0 H1 ∧ Bbo_88_122 n7 n6 n5 n4 n3 n2 n1 n0 H0 H1) ∧ preb_88v n7 H0) ∧ some q0 = some (mub_88v_122 n7 n6 n5 n4 n3 n2 n1 n0 H0 H1)) (f15 : n8 ≤ 2147483647) (f16 : (-2147483648) ≤ n8) (f17 : hK H1 (n6).toNat = 4) (f18 : n8 = hV H1 (n6).toNat 2) (f19 : n9 = 43) (f20 : n8 ≠ n9) (f21 : n10 ≤ 2147483647) (f22 : (-2147483648) ≤ n10) (f23 : hK H1 (n6).toNat = 4) (f24 : n10 = hV H1 (n6).toNat 2) (f25 : n11 = 42) (f26 : n10 ≠ n11) (f27 : n12 = 0) (f28 : n12 = 0) (f29 : n13 = w32 (n2 + 1)) : Bbo_88_9 n7 n6 n5 n4 n12 n13 H0 H1 := by
  unfold Bbo_88_9
  intro d ed zo w49
  have pz := f14.2.1.2
  unfold preb_88v at pz
  have ga := f14.2.1.1.1
  unfold Ab_88v_122 at ga
  have vz : vwC H1 = vwC H0 := vwC_fr f14.1.2.1 (by decide +kernel)
  have gb := f14.2.1.1.2
  unfold Bbo_88_122 at gb
  obtain ⟨ko, w1, k⟩ := gb d ed zo w49
  have zo1 := ko.1
  have e8 : hV H1 30 8 = d := (f14.1.2.1.1 30 8 (by decide +kernel)).trans ed.symm
  have gc := ga
  have r18 : n8 = hV H1 30 2 := by
    have w := f18
    rw [f12] at w
    exact w
  have r24 : n10 = hV H1 30 2 := by
    have w := f24
    rw [f12] at w
    exact w
  have q29_ := f29
  unfold w32 at q29_
  obtain ⟨_, s0_, s5, xn, y1⟩ := gc
  refine ⟨ko, w1, fun L cd hl hp => ⟨fun m1 => by exfalso; omega, fun _ => ?_⟩⟩
  have hv : (vwC H0).1 (absC H1).1 = hV H1 30 2 := by
    have u := (kd_at ga.1).resolve_left (by omega)
    rw [vz] at u
    exact u
  exact (k L cd hl hp).2 (by omega)
def g_88o_122_2 : vG := ([(10, [13, 5], [], 1), (30, [12], [], 0), (0, [12], [], 0), (41, [10, 11], [], 0), (0, [11], [], 42), (20, [10, 1], [1], 2), (23, [1], [1], 4), (90, [10], [], -2147483648), (91, [10], [], 2147483647), (41, [8, 9], [], 0), (0, [9], [], 43), (20, [8, 1], [1], 2), (23, [1], [1], 4), (90, [8], [], -2147483648), (91, [8], [], 2147483647), (5000, [0, 1, 2, 3, 4, 5, 6, 7], [0, 1], 122), (0, [0], [], 30), (0, [1], [], 30), (90, [2], [], -2147483648), (91, [2], [], 2147483647), (90, [3], [], -2147483648), (91, [3], [], 2147483647), (90, [4], [], -2147483648), (91, [4], [], 2147483647), (90, [5], [], -2147483648), (91, [5], [], 2147483647), (90, [6], [], -2147483648), (91, [6], [], 2147483647), (90, [7], [], -2147483648), (91, [7], [], 2147483647)], (4000, [1, 2, 3, 12, 13], [1], 9))
theorem c_88o_122_2 {q0 : Nat} : vOkm T0 (eN e_88v L_88o A_88v mu_88v no_88 Bo_88 (some q0)) 1 g_88o_122_2 := vOk_inI fun ρ η f0 f1 f2 f3 f4 f5 f6 f7 f8 f9 f10 f11 f12 f13 f14 f15 f16 f17 f18 f19 f20 f21 f22 f23 f24 f25 f26 f27 f28 f29 => q_88o_30 (q0 := q0) (n0 := ρ 7) (n1 := ρ 6) (n2 := ρ 5) (n3 := ρ 4) (n4 := ρ 3) (n5 := ρ 2) (n6 := ρ 1) (n7 := ρ 0) (n8 := ρ 8) (n9 := ρ 9) (n10 := ρ 10) (n11 := ρ 11) (n12 := ρ 12) (n13 := ρ 13) (H0 := η 0) (H1 := η 1) f29 f28 f27 f26 f25 f24 f23 f22 f21 f20 f19 f18 f17 f16 f15 f14 f13 f12 f11 f10 f9 f8 f7 f6 f5 f4 f3 f2 f1 f0
theorem q_88o_31 {q0 : Nat} {n0 n1 n2 n3 n4 n5 n6 n7 n8 n9 n10 n11 n12 n13 n14 : Int} {H0 H1 H2 : gH} (f0 : n0 ≤ 2147483647) (f1 : (-2147483648) ≤ n0) (f2 : n1 ≤ 2147483647) (f3 : (-2147483648) ≤ n1) (f4 : n2 ≤ 2147483647) (f5 : (-2147483648) ≤ n2) (f6 : n3 ≤ 2147483647) (f7 : (-2147483648) ≤ n3) (f8 : n4 ≤ 2147483647) (f9 : (-2147483648) ≤ n4) (f10 : n5 ≤ 2147483647) (f11 : (-2147483648) ≤ n5) (f12 : n6 = 30) (f13 : n7 = 30) (f14 : (hLe T0 H0 H1 ∧ hFr s_88v.2.2.2.2 H0 H1 ∧ hWt T0 H1) ∧ ((Ab_88v_122 n7 n6 n5 n4 n3 n2 n1 n0 H0 H1 ∧ Bbo_88_122 n7 n6 n5 n4 n3 n2 n1 n0 H0 H1) ∧ preb_88v n7 H0) ∧ some q0 = some (mub_88v_122 n7 n6 n5 n4 n3 n2 n1 n0 H0 H1)) (f15 : n8 ≤ 2147483647) (f16 : (-2147483648) ≤ n8) (f17 : hK H1 (n6).toNat = 4) (f18 : n8 = hV H1 (n6).toNat 2) (f19 : n9 = 43) (f20 : n8 ≠ n9) (f21 : n10 ≤ 2147483647) (f22 : (-2147483648) ≤ n10) (f23 : hK H1 (n6).toNat = 4) (f24 : n10 = hV H1 (n6).toNat 2) (f25 : n11 = 42) (f26 : n10 ≠ n11) (f27 : n12 = 0) (f28 : n12 ≠ 0) (f29 : n13 ≤ 2147483647) (f30 : (-2147483648) ≤ n13) (f31 : hK H1 (n6).toNat = 4) (f32 : n13 = hV H1 (n6).toNat 2) (f33 : (hLe T0 H1 H2 ∧ hFr s_66v.2.2.2.2 H1 H2 ∧ ((0 : Int) = 0 → H2.length = H1.length) ∧ hWt T0 H2) ∧ postb_66v n6 n13 H1 H2) (f34 : n14 = w32 (n2 + 1)) : Bbo_88_9 n7 n6 n5 n4 n12 n14 H0 H2 := by
  exfalso
  omega
def g_88o_122_3 : vG := ([(10, [14, 5], [], 1), (1066, [1, 13], [1, 2], 0), (20, [13, 1], [1], 2), (23, [1], [1], 4), (90, [13], [], -2147483648), (91, [13], [], 2147483647), (31, [12], [], 0), (0, [12], [], 0), (41, [10, 11], [], 0), (0, [11], [], 42), (20, [10, 1], [1], 2), (23, [1], [1], 4), (90, [10], [], -2147483648), (91, [10], [], 2147483647), (41, [8, 9], [], 0), (0, [9], [], 43), (20, [8, 1], [1], 2), (23, [1], [1], 4), (90, [8], [], -2147483648), (91, [8], [], 2147483647), (5000, [0, 1, 2, 3, 4, 5, 6, 7], [0, 1], 122), (0, [0], [], 30), (0, [1], [], 30), (90, [2], [], -2147483648), (91, [2], [], 2147483647), (90, [3], [], -2147483648), (91, [3], [], 2147483647), (90, [4], [], -2147483648), (91, [4], [], 2147483647), (90, [5], [], -2147483648), (91, [5], [], 2147483647), (90, [6], [], -2147483648), (91, [6], [], 2147483647), (90, [7], [], -2147483648), (91, [7], [], 2147483647)], (4000, [1, 2, 3, 12, 14], [2], 9))
theorem c_88o_122_3 {q0 : Nat} : vOkm T0 (eN e_88v L_88o A_88v mu_88v no_88 Bo_88 (some q0)) 1 g_88o_122_3 := vOk_inI fun ρ η f0 f1 f2 f3 f4 f5 f6 f7 f8 f9 f10 f11 f12 f13 f14 f15 f16 f17 f18 f19 f20 f21 f22 f23 f24 f25 f26 f27 f28 f29 f30 f31 f32 f33 f34 => q_88o_31 (q0 := q0) (n0 := ρ 7) (n1 := ρ 6) (n2 := ρ 5) (n3 := ρ 4) (n4 := ρ 3) (n5 := ρ 2) (n6 := ρ 1) (n7 := ρ 0) (n8 := ρ 8) (n9 := ρ 9) (n10 := ρ 10) (n11 := ρ 11) (n12 := ρ 12) (n13 := ρ 13) (n14 := ρ 14) (H0 := η 0) (H1 := η 1) (H2 := η 2) f34 f33 f32 f31 f30 f29 f28 f27 f26 f25 f24 f23 f22 f21 f20 f19 f18 f17 f16 f15 f14 f13 f12 f11 f10 f9 f8 f7 f6 f5 f4 f3 f2 f1 f0
theorem q_88o_32 {q0 : Nat} {n0 n1 n2 n3 n4 n5 n6 n7 n8 n9 n10 n11 n12 n13 : Int} {H0 H1 : gH} (f0 : n0 ≤ 2147483647) (f1 : (-2147483648) ≤ n0) (f2 : n1 ≤ 2147483647) (f3 : (-2147483648) ≤ n1) (f4 : n2 ≤ 2147483647) (f5 : (-2147483648) ≤ n2) (f6 : n3 ≤ 2147483647) (f7 : (-2147483648) ≤ n3) (f8 : n4 ≤ 2147483647) (f9 : (-2147483648) ≤ n4) (f10 : n5 ≤ 2147483647) (f11 : (-2147483648) ≤ n5) (f12 : n6 = 30) (f13 : n7 = 30) (f14 : (hLe T0 H0 H1 ∧ hFr s_88v.2.2.2.2 H0 H1 ∧ hWt T0 H1) ∧ ((Ab_88v_122 n7 n6 n5 n4 n3 n2 n1 n0 H0 H1 ∧ Bbo_88_122 n7 n6 n5 n4 n3 n2 n1 n0 H0 H1) ∧ preb_88v n7 H0) ∧ some q0 = some (mub_88v_122 n7 n6 n5 n4 n3 n2 n1 n0 H0 H1)) (f15 : n8 ≤ 2147483647) (f16 : (-2147483648) ≤ n8) (f17 : hK H1 (n6).toNat = 4) (f18 : n8 = hV H1 (n6).toNat 2) (f19 : n9 = 43) (f20 : n8 ≠ n9) (f21 : n10 ≤ 2147483647) (f22 : (-2147483648) ≤ n10) (f23 : hK H1 (n6).toNat = 4) (f24 : n10 = hV H1 (n6).toNat 2) (f25 : n11 = 42) (f26 : n10 = n11) (f27 : n12 = 1) (f28 : n12 = 0) (f29 : n13 = w32 (n2 + 1)) : Bbo_88_9 n7 n6 n5 n4 n12 n13 H0 H1 := by
  exfalso
  omega
def g_88o_122_4 : vG := ([(10, [13, 5], [], 1), (30, [12], [], 0), (0, [12], [], 1), (40, [10, 11], [], 0), (0, [11], [], 42), (20, [10, 1], [1], 2), (23, [1], [1], 4), (90, [10], [], -2147483648), (91, [10], [], 2147483647), (41, [8, 9], [], 0), (0, [9], [], 43), (20, [8, 1], [1], 2), (23, [1], [1], 4), (90, [8], [], -2147483648), (91, [8], [], 2147483647), (5000, [0, 1, 2, 3, 4, 5, 6, 7], [0, 1], 122), (0, [0], [], 30), (0, [1], [], 30), (90, [2], [], -2147483648), (91, [2], [], 2147483647), (90, [3], [], -2147483648), (91, [3], [], 2147483647), (90, [4], [], -2147483648), (91, [4], [], 2147483647), (90, [5], [], -2147483648), (91, [5], [], 2147483647), (90, [6], [], -2147483648), (91, [6], [], 2147483647), (90, [7], [], -2147483648), (91, [7], [], 2147483647)], (4000, [1, 2, 3, 12, 13], [1], 9))
theorem c_88o_122_4 {q0 : Nat} : vOkm T0 (eN e_88v L_88o A_88v mu_88v no_88 Bo_88 (some q0)) 1 g_88o_122_4 := vOk_inI fun ρ η f0 f1 f2 f3 f4 f5 f6 f7 f8 f9 f10 f11 f12 f13 f14 f15 f16 f17 f18 f19 f20 f21 f22 f23 f24 f25 f26 f27 f28 f29 => q_88o_32 (q0 := q0) (n0 := ρ 7) (n1 := ρ 6) (n2 := ρ 5) (n3 := ρ 4) (n4 := ρ 3) (n5 := ρ 2) (n6 := ρ 1) (n7 := ρ 0) (n8 := ρ 8) (n9 := ρ 9) (n10 := ρ 10) (n11 := ρ 11) (n12 := ρ 12) (n13 := ρ 13) (H0 := η 0) (H1 := η 1) f29 f28 f27 f26 f25 f24 f23 f22 f21 f20 f19 f18 f17 f16 f15 f14 f13 f12 f11 f10 f9 f8 f7 f6 f5 f4 f3 f2 f1 f0
theorem q_88o_33 {q0 : Nat} {n0 n1 n2 n3 n4 n5 n6 n7 n8 n9 n10 n11 n12 n13 n14 : Int} {H0 H1 H2 : gH} (f0 : n0 ≤ 2147483647) (f1 : (-2147483648) ≤ n0) (f2 : n1 ≤ 2147483647) (f3 : (-2147483648) ≤ n1) (f4 : n2 ≤ 2147483647) (f5 : (-2147483648) ≤ n2) (f6 : n3 ≤ 2147483647) (f7 : (-2147483648) ≤ n3) (f8 : n4 ≤ 2147483647) (f9 : (-2147483648) ≤ n4) (f10 : n5 ≤ 2147483647) (f11 : (-2147483648) ≤ n5) (f12 : n6 = 30) (f13 : n7 = 30) (f14 : (hLe T0 H0 H1 ∧ hFr s_88v.2.2.2.2 H0 H1 ∧ hWt T0 H1) ∧ ((Ab_88v_122 n7 n6 n5 n4 n3 n2 n1 n0 H0 H1 ∧ Bbo_88_122 n7 n6 n5 n4 n3 n2 n1 n0 H0 H1) ∧ preb_88v n7 H0) ∧ some q0 = some (mub_88v_122 n7 n6 n5 n4 n3 n2 n1 n0 H0 H1)) (f15 : n8 ≤ 2147483647) (f16 : (-2147483648) ≤ n8) (f17 : hK H1 (n6).toNat = 4) (f18 : n8 = hV H1 (n6).toNat 2) (f19 : n9 = 43) (f20 : n8 ≠ n9) (f21 : n10 ≤ 2147483647) (f22 : (-2147483648) ≤ n10) (f23 : hK H1 (n6).toNat = 4) (f24 : n10 = hV H1 (n6).toNat 2) (f25 : n11 = 42) (f26 : n10 = n11) (f27 : n12 = 1) (f28 : n12 ≠ 0) (f29 : n13 ≤ 2147483647) (f30 : (-2147483648) ≤ n13) (f31 : hK H1 (n6).toNat = 4) (f32 : n13 = hV H1 (n6).toNat 2) (f33 : (hLe T0 H1 H2 ∧ hFr s_66v.2.2.2.2 H1 H2 ∧ ((0 : Int) = 0 → H2.length = H1.length) ∧ hWt T0 H2) ∧ postb_66v n6 n13 H1 H2) (f34 : n14 = w32 (n2 + 1)) : Bbo_88_9 n7 n6 n5 n4 n12 n14 H0 H2 := by
  unfold Bbo_88_9
  intro d ed zo w49
  have pz := f14.2.1.2
  unfold preb_88v at pz
  have ga := f14.2.1.1.1
  unfold Ab_88v_122 at ga
  have vz : vwC H1 = vwC H0 := vwC_fr f14.1.2.1 (by decide +kernel)
  have x0_13 := f32
  rw [f12] at x0_13
  rw [show ((30 : Int)).toNat = 30 from rfl] at x0_13
  have u0_13 := f24
  rw [f12] at u0_13
  rw [show ((30 : Int)).toNat = 30 from rfl] at u0_13
  have kx0_13 : n13 = 42 := by omega
  have c0 := f33.2
  unfold postb_66v at c0
  rw [kx0_13] at c0
  rw [vz] at c0
  have a0 : absC H2 = (ptk (vwC H0) 42 (absC H1)) := c0.2
  have v0 : vwC H2 = vwC H0 := (vwC_fr f33.1.2.1 (by decide +kernel)).trans vz
  have gb := f14.2.1.1.2
  unfold Bbo_88_122 at gb
  obtain ⟨ko, w1, k⟩ := gb d ed zo w49
  have zo1 := ko.1
  have e8 : hV H1 30 8 = d := (f14.1.2.1.1 30 8 (by decide +kernel)).trans ed.symm
  have gc := ga
  have r18 : n8 = hV H1 30 2 := by
    have w := f18
    rw [f12] at w
    exact w
  have r24 : n10 = hV H1 30 2 := by
    have w := f24
    rw [f12] at w
    exact w
  have r32 : n13 = hV H1 30 2 := by
    have w := f32
    rw [f12] at w
    exact w
  have q34_ := f34
  unfold w32 at q34_
  obtain ⟨_, s0_, s5, xn, y1⟩ := gc
  refine ⟨KO_tr ko (KO_sm zo1 (SMf_fr f33.1.1 f33.1.2.1 (by decide +kernel) (by decide +kernel))), W49_le f33.1.1 w1, fun L cd hl hp => ⟨fun m1 => ?_, fun m0 => by exfalso; omega⟩⟩
  rw [a0] at hp ⊢
  have kq := pt1_kind (h := H0) pz.2.1 (s := (absC H1).1) hp
  have pn := ptk_next (h := H0) pz.2.1 (p := absC H1) hp
  have hp1 := kq.1
  have hv : (vwC H0).1 (absC H1).1 = hV H1 30 2 := by
    have u := (kd_at ga.1).resolve_left (by omega)
    rw [vz] at u
    exact u
  rw [show (502 - n14).toNat = (502 - n2).toNat - 1 by omega]
  exact CNk_take zo1 (SMf_fr f33.1.1 f33.1.2.1 (by decide +kernel) (by decide +kernel)) (k L cd hl hp1) (by omega) (by rw [kq.2]) pn
def g_88o_122_5 : vG := ([(10, [14, 5], [], 1), (1066, [1, 13], [1, 2], 0), (20, [13, 1], [1], 2), (23, [1], [1], 4), (90, [13], [], -2147483648), (91, [13], [], 2147483647), (31, [12], [], 0), (0, [12], [], 1), (40, [10, 11], [], 0), (0, [11], [], 42), (20, [10, 1], [1], 2), (23, [1], [1], 4), (90, [10], [], -2147483648), (91, [10], [], 2147483647), (41, [8, 9], [], 0), (0, [9], [], 43), (20, [8, 1], [1], 2), (23, [1], [1], 4), (90, [8], [], -2147483648), (91, [8], [], 2147483647), (5000, [0, 1, 2, 3, 4, 5, 6, 7], [0, 1], 122), (0, [0], [], 30), (0, [1], [], 30), (90, [2], [], -2147483648), (91, [2], [], 2147483647), (90, [3], [], -2147483648), (91, [3], [], 2147483647), (90, [4], [], -2147483648), (91, [4], [], 2147483647), (90, [5], [], -2147483648), (91, [5], [], 2147483647), (90, [6], [], -2147483648), (91, [6], [], 2147483647), (90, [7], [], -2147483648), (91, [7], [], 2147483647)], (4000, [1, 2, 3, 12, 14], [2], 9))
theorem c_88o_122_5 {q0 : Nat} : vOkm T0 (eN e_88v L_88o A_88v mu_88v no_88 Bo_88 (some q0)) 1 g_88o_122_5 := vOk_inI fun ρ η f0 f1 f2 f3 f4 f5 f6 f7 f8 f9 f10 f11 f12 f13 f14 f15 f16 f17 f18 f19 f20 f21 f22 f23 f24 f25 f26 f27 f28 f29 f30 f31 f32 f33 f34 => q_88o_33 (q0 := q0) (n0 := ρ 7) (n1 := ρ 6) (n2 := ρ 5) (n3 := ρ 4) (n4 := ρ 3) (n5 := ρ 2) (n6 := ρ 1) (n7 := ρ 0) (n8 := ρ 8) (n9 := ρ 9) (n10 := ρ 10) (n11 := ρ 11) (n12 := ρ 12) (n13 := ρ 13) (n14 := ρ 14) (H0 := η 0) (H1 := η 1) (H2 := η 2) f34 f33 f32 f31 f30 f29 f28 f27 f26 f25 f24 f23 f22 f21 f20 f19 f18 f17 f16 f15 f14 f13 f12 f11 f10 f9 f8 f7 f6 f5 f4 f3 f2 f1 f0
def p_88o_122 : List vG := [g_88o_122_0,
  g_88o_122_1,
  g_88o_122_2,
  g_88o_122_3,
  g_88o_122_4,
  g_88o_122_5]
theorem r_88o_122 : vCovBO (eRc e_88v L_88v cs_88v 2000 (122, [(0, (3, 4, 30, 0)), (1, (0, -2147483648, 2147483647, 0)), (2, (0, -2147483648, 2147483647, 0)), (3, (0, -2147483648, 2147483647, 0)), (4, (0, -2147483648, 2147483647, 0)), (5, (0, -2147483648, 2147483647, 0)), (6, (0, -2147483648, 2147483647, 0))])) p_88o_122 = true := by decide +kernel
theorem m_88o (d : Nat) : eC e_88o (d + 4) := eC_ref (e := e_88v) (L := L_88v) (L' := L_88o) (cs := cs_88v) (n := 2000) (d := d + 3) (A := A_88v) (μ := mu_88v) (tp := false) (p0 := p_88v_s) (p1 := p_88o_s) (N := no_88) (B := Bo_88) rfl ⟨m_66v (d + 1), ⟨m_89o d, ⟨m_90o d, ⟨m_91o (d + 1), ⟨m_92o d, ⟨m_98o (d + 2), trivial⟩⟩⟩⟩⟩⟩ rfl (.inl rfl) (by decide +kernel) (fun z => nomatch z) r_88v_s (allC c_88v_s_0 allN) (allC (.inl ⟨p_88v_9, r_88v_9, fun q0 => (allC c_88v_9_0 (allC c_88v_9_1 (allC c_88v_9_2 (allC c_88v_9_3 (allC c_88v_9_4 (allC c_88v_9_5 (allC c_88v_9_6 (allC c_88v_9_7 (allC c_88v_9_8 (allC c_88v_9_9 (allC c_88v_9_10 (allC c_88v_9_11 (allC c_88v_9_12 (allC c_88v_9_13 (allC c_88v_9_14 (allC c_88v_9_15 (allC c_88v_9_16 (allC c_88v_9_17 (allC c_88v_9_18 (allC c_88v_9_19 (allC c_88v_9_20 (allC c_88v_9_21 (allC c_88v_9_22 (allC c_88v_9_23 (allC c_88v_9_24 (allC c_88v_9_25 (allC c_88v_9_26 (allC c_88v_9_27 (allC c_88v_9_28 (allC c_88v_9_29 (allC c_88v_9_30 allN)))))))))))))))))))))))))))))))⟩) (allC (.inl ⟨p_88v_122, r_88v_122, fun q0 => (allC c_88v_122_0 (allC c_88v_122_1 (allC c_88v_122_2 (allC c_88v_122_3 (allC c_88v_122_4 (allC c_88v_122_5 (allC c_88v_122_6 (allC c_88v_122_7 (allC c_88v_122_8 allN)))))))))⟩) allN)) (sub0 (sub1 (sub1 (sub1 (sub1 (sub1 trivial)))))) r_88o_s (allC c_88o_s_0 allN) (allC ⟨p_88o_9, r_88o_9, fun q0 => (allC c_88o_9_0 (allC c_88o_9_1 (allC c_88o_9_2 (allC c_88o_9_3 (allC c_88o_9_4 (allC c_88o_9_5 (allC c_88o_9_6 (allC c_88o_9_7 (allC c_88o_9_8 (allC c_88o_9_9 (allC c_88o_9_10 (allC c_88o_9_11 (allC c_88o_9_12 (allC c_88o_9_13 (allC c_88o_9_14 (allC c_88o_9_15 (allC c_88o_9_16 (allC c_88o_9_17 (allC c_88o_9_18 (allC c_88o_9_19 (allC c_88o_9_20 (allC c_88o_9_21 (allC c_88o_9_22 (allC c_88o_9_23 (allC c_88o_9_24 (allC c_88o_9_25 (allC c_88o_9_26 allN)))))))))))))))))))))))))))⟩ (allC ⟨p_88o_122, r_88o_122, fun q0 => (allC c_88o_122_0 (allC c_88o_122_1 (allC c_88o_122_2 (allC c_88o_122_3 (allC c_88o_122_4 (allC c_88o_122_5 allN))))))⟩ allN))
