/- Reader.readRules ()V, more fully -/
def nbo_84 (a0 : Int) (h0 h : gH) : Prop := ∀ d : Int, d = hV h0 30 8 → RO h0 d → W49 h0 → RO h d ∧ OT h0 h d ∧ W49 h ∧ (0 ≤ (absC h).1 → (absC h).2 = 0 → RRe h d (vwC h0) (absC h0))
def no_84 : List Int → gH → gH → Prop := fun xs h0 h => match xs with
  | [a0] => nbo_84 a0 h0 h
  | _ => True
noncomputable def e_84o : vE := eV e_84v no_84
noncomputable def L_84o : List vE := [e_64v, e_66v, e_85v, e_86o, e_87o, e_97o]
def Bbo_84_15 (a0 x0 x1 : Int) (h0 h : gH) : Prop := ∀ d : Int, d = hV h0 30 8 → RO h0 d → W49 h0 → RO h d ∧ OT h0 h d ∧ W49 h ∧ (0 ≤ (absC h).1 → (absC h).2 = 0 → RRi h d (vwC h0) (ptk (vwC h0) 19 (absC h0)) x1 (absC h))
def Bo_84 : Int → List Int → gH → gH → Prop := fun c xs h0 h => match c.toNat with
  | 15 => (match xs with
    | [a0, x0, x1] => Bbo_84_15 a0 x0 x1 h0 h
    | _ => False)
  | _ => True
theorem q_84o_0 {n0 n1 n2 n3 : Int} {H0 H1 H2 : gH} (f0 : n0 = 30) (f1 : hWt T0 H0 ∧ preb_84v n0 H0) (f2 : 0 ≤ n1) (f3 : hK H0 (n0).toNat = 4) (f4 : n1 = hV H0 (n0).toNat 8) (f5 : (hLe T0 H0 H1 ∧ hFr s_97v.2.2.2.2 H0 H1 ∧ ((0 : Int) = 0 → H1.length = H0.length) ∧ hWt T0 H1) ∧ (postb_97v n1 H0 H1 ∧ nbo_97 n1 H0 H1)) (f6 : n2 = 19) (f7 : (hLe T0 H1 H2 ∧ hFr s_66v.2.2.2.2 H1 H2 ∧ ((0 : Int) = 0 → H2.length = H1.length) ∧ hWt T0 H2) ∧ postb_66v n0 n2 H1 H2) (f8 : n3 = 0) : Bbo_84_15 n0 n0 n3 H0 H2 := by
  unfold Bbo_84_15
  intro d ed zo w49
  have pz := f1.2
  unfold preb_84v at pz
  have pz := pz.1
  have s0 := PF_fr f5.1.1 f5.1.2.1 (by decide +kernel) pz
  have a0 : absC H1 = (absC H0) := s0.1
  have v0 : vwC H1 = vwC H0 := s0.2.1
  have c1 := f7.2
  unfold postb_66v at c1
  try rw [f6] at c1
  rw [v0] at c1
  rw [a0] at c1
  have a1 : absC H2 = (ptk (vwC H0) 19 (absC H0)) := c1.2
  have v1 : vwC H2 = vwC H0 := (vwC_fr f7.1.2.1 (by decide +kernel)).trans v0
  have r4 : n1 = hV H0 30 8 := by
    have w := f4
    rw [f0] at w
    exact w
  have em := f5.2.2
  unfold nbo_97 at em
  rw [show n1 = d from r4.trans (show hV H0 30 8 = d from ed.symm)] at em
  obtain ⟨e1, e2, e3, e4, e5⟩ := em zo
  have kk := KO_sm e1 (SMf_fr f7.1.1 f7.1.2.1 (by decide +kernel) (by decide +kernel))
  refine ⟨kk.1, OT_tr e2 kk.2.2.2, W49_le f7.1.1 (W49_le f5.1.1 w49), fun hp h2 => ?_⟩
  rw [a1] at hp ⊢
  rw [show n3 = 0 by omega]
  exact RR_0 e1 e4 e5 (SMf_fr f7.1.1 f7.1.2.1 (by decide +kernel) (by decide +kernel)) hp
def g_84o_s_0 : vG := ([(0, [3], [], 0), (1066, [0, 2], [1, 2], 0), (0, [2], [], 19), (1097, [1], [0, 1], 0), (20, [1, 0], [0], 8), (23, [0], [0], 4), (51, [1], [], 0), (6000, [0], [0], 0), (0, [0], [], 30)], (4000, [0, 3], [2], 15))
theorem c_84o_s_0 : vOkm T0 (eN e_84v L_84o A_84v mu_84v no_84 Bo_84 none) 1 g_84o_s_0 := vOk_inI fun ρ η f0 f1 f2 f3 f4 f5 f6 f7 f8 => q_84o_0 (n0 := ρ 0) (n1 := ρ 1) (n2 := ρ 2) (n3 := ρ 3) (H0 := η 0) (H1 := η 1) (H2 := η 2) f8 f7 f6 f5 f4 f3 f2 f1 f0
def p_84o_s : List vG := [g_84o_s_0]
theorem r_84o_s : vCovBO (eR0 e_84v L_84v cs_84v 2000) p_84o_s = true := by decide +kernel
theorem q_84o_1 {q0 : Nat} {n0 n1 n2 n3 n4 : Int} {H0 H1 H2 : gH} (f0 : n0 ≤ 2147483647) (f1 : (-2147483648) ≤ n0) (f2 : n1 = 30) (f3 : n2 = 30) (f4 : (hLe T0 H0 H1 ∧ hFr s_84v.2.2.2.2 H0 H1 ∧ hWt T0 H1) ∧ ((Ab_84v_15 n2 n1 n0 H0 H1 ∧ Bbo_84_15 n2 n1 n0 H0 H1) ∧ preb_84v n2 H0) ∧ some q0 = some (mub_84v_15 n2 n1 n0 H0 H1)) (f5 : n3 = 12) (f6 : n3 < n0) (f7 : n4 = 17) (f8 : (hLe T0 H1 H2 ∧ hFr s_66v.2.2.2.2 H1 H2 ∧ ((0 : Int) = 0 → H2.length = H1.length) ∧ hWt T0 H2) ∧ postb_66v n1 n4 H1 H2) : nbo_84 n2 H0 H2 := by
  unfold nbo_84
  intro d ed zo w49
  have pz := f4.2.1.2
  unfold preb_84v at pz
  have pz := pz.1
  have ga := f4.2.1.1.1
  unfold Ab_84v_15 at ga
  have vz : vwC H1 = vwC H0 := vwC_fr f4.1.2.1 (by decide +kernel)
  have c0 := f8.2
  unfold postb_66v at c0
  try rw [f7] at c0
  rw [vz] at c0
  have a0 : absC H2 = (ptk (vwC H0) 17 (absC H1)) := c0.2
  have v0 : vwC H2 = vwC H0 := (vwC_fr f8.1.2.1 (by decide +kernel)).trans vz
  have gb := f4.2.1.1.2
  unfold Bbo_84_15 at gb
  obtain ⟨zr, ot, w1, k⟩ := gb d ed zo w49
  have e8 : hV H1 30 8 = d := (f4.1.2.1.1 30 8 (by decide +kernel)).trans ed.symm
  have gc := ga
  obtain ⟨kz, dz, x10, x113, rc0, rc12, xr, ya⟩ := gc
  have hv : 0 ≤ (absC H1).1 → (vwC H0).1 (absC H1).1 = hV H1 30 2 := fun n => by
    have u := (kd_at kz).resolve_left (by omega)
    rw [vz] at u
    exact u
  have kk := KO_sm zr (SMf_fr f8.1.1 f8.1.2.1 (by decide +kernel) (by decide +kernel))
  refine ⟨kk.1, OT_tr ot kk.2.2.2, (W49_le f8.1.1 w1), fun hp h2 => ?_⟩
  rw [a0] at hp h2
  have h1 := (ptk_mono pz.2.1 hp).1
  have ri := k h1 ((ptk_2 hp).symm.trans h2)
  have hf : hV H1 30 3 = 0 := fault_no kz h1
  have x5 := xr hf
  have hv1 := hv h1
  have nw := kz.2.2.2.1.2.1
  have ap := absC_pos kz hf
  obtain ⟨R, r1, r2, r3⟩ := RR_end ri (by omega) (by omega)
  exact ⟨R, RLo_sm zr (SMf_fr f8.1.1 f8.1.2.1 (by decide +kernel) (by decide +kernel)) r1, r2, r3⟩
def g_84o_15_0 : vG := ([(1066, [1, 4], [1, 2], 0), (0, [4], [], 17), (44, [2, 3], [], 0), (0, [3], [], 12), (5000, [0, 1, 2], [0, 1], 15), (0, [0], [], 30), (0, [1], [], 30), (90, [2], [], -2147483648), (91, [2], [], 2147483647)], (3000, [], [2], 95))
theorem c_84o_15_0 {q0 : Nat} : vOkm T0 (eN e_84v L_84o A_84v mu_84v no_84 Bo_84 (some q0)) 1 g_84o_15_0 := vOk_inI fun ρ η f0 f1 f2 f3 f4 f5 f6 f7 f8 => q_84o_1 (q0 := q0) (n0 := ρ 2) (n1 := ρ 1) (n2 := ρ 0) (n3 := ρ 3) (n4 := ρ 4) (H0 := η 0) (H1 := η 1) (H2 := η 2) f8 f7 f6 f5 f4 f3 f2 f1 f0
theorem q_84o_2 {q0 : Nat} {n0 n1 n2 n3 n4 n5 : Int} {H0 H1 H2 : gH} (f0 : n0 ≤ 2147483647) (f1 : (-2147483648) ≤ n0) (f2 : n1 = 30) (f3 : n2 = 30) (f4 : (hLe T0 H0 H1 ∧ hFr s_84v.2.2.2.2 H0 H1 ∧ hWt T0 H1) ∧ ((Ab_84v_15 n2 n1 n0 H0 H1 ∧ Bbo_84_15 n2 n1 n0 H0 H1) ∧ preb_84v n2 H0) ∧ some q0 = some (mub_84v_15 n2 n1 n0 H0 H1)) (f5 : n3 = 12) (f6 : n0 ≤ n3) (f7 : n4 ≤ 2147483647) (f8 : (-2147483648) ≤ n4) (f9 : hK H1 (n1).toNat = 4) (f10 : n4 = hV H1 (n1).toNat 3) (f11 : n4 ≠ 0) (f12 : n5 = 17) (f13 : (hLe T0 H1 H2 ∧ hFr s_66v.2.2.2.2 H1 H2 ∧ ((0 : Int) = 0 → H2.length = H1.length) ∧ hWt T0 H2) ∧ postb_66v n1 n5 H1 H2) : nbo_84 n2 H0 H2 := by
  unfold nbo_84
  intro d ed zo w49
  have pz := f4.2.1.2
  unfold preb_84v at pz
  have pz := pz.1
  have ga := f4.2.1.1.1
  unfold Ab_84v_15 at ga
  have vz : vwC H1 = vwC H0 := vwC_fr f4.1.2.1 (by decide +kernel)
  have c0 := f13.2
  unfold postb_66v at c0
  try rw [f12] at c0
  rw [vz] at c0
  have a0 : absC H2 = (ptk (vwC H0) 17 (absC H1)) := c0.2
  have v0 : vwC H2 = vwC H0 := (vwC_fr f13.1.2.1 (by decide +kernel)).trans vz
  have r10 : n4 = hV H1 30 3 := by
    have w := f10
    rw [f2] at w
    exact w
  have gb := f4.2.1.1.2
  unfold Bbo_84_15 at gb
  obtain ⟨zr, ot, w1, k⟩ := gb d ed zo w49
  have e8 : hV H1 30 8 = d := (f4.1.2.1.1 30 8 (by decide +kernel)).trans ed.symm
  have gc := ga
  obtain ⟨kz, dz, x10, x113, rc0, rc12, xr, ya⟩ := gc
  have hv : 0 ≤ (absC H1).1 → (vwC H0).1 (absC H1).1 = hV H1 30 2 := fun n => by
    have u := (kd_at kz).resolve_left (by omega)
    rw [vz] at u
    exact u
  have kk := KO_sm zr (SMf_fr f13.1.1 f13.1.2.1 (by decide +kernel) (by decide +kernel))
  refine ⟨kk.1, OT_tr ot kk.2.2.2, (W49_le f13.1.1 w1), fun hp h2 => ?_⟩
  rw [a0] at hp h2
  have h1 := (ptk_mono pz.2.1 hp).1
  have ri := k h1 ((ptk_2 hp).symm.trans h2)
  have hf : hV H1 30 3 = 0 := fault_no kz h1
  have x5 := xr hf
  have hv1 := hv h1
  have nw := kz.2.2.2.1.2.1
  have ap := absC_pos kz hf
  obtain ⟨R, r1, r2, r3⟩ := RR_end ri (by omega) (by omega)
  exact ⟨R, RLo_sm zr (SMf_fr f13.1.1 f13.1.2.1 (by decide +kernel) (by decide +kernel)) r1, r2, r3⟩
def g_84o_15_1 : vG := ([(1066, [1, 5], [1, 2], 0), (0, [5], [], 17), (31, [4], [], 0), (20, [4, 1], [1], 3), (23, [1], [1], 4), (90, [4], [], -2147483648), (91, [4], [], 2147483647), (45, [2, 3], [], 0), (0, [3], [], 12), (5000, [0, 1, 2], [0, 1], 15), (0, [0], [], 30), (0, [1], [], 30), (90, [2], [], -2147483648), (91, [2], [], 2147483647)], (3000, [], [2], 95))
theorem c_84o_15_1 {q0 : Nat} : vOkm T0 (eN e_84v L_84o A_84v mu_84v no_84 Bo_84 (some q0)) 1 g_84o_15_1 := vOk_inI fun ρ η f0 f1 f2 f3 f4 f5 f6 f7 f8 f9 f10 f11 f12 f13 => q_84o_2 (q0 := q0) (n0 := ρ 2) (n1 := ρ 1) (n2 := ρ 0) (n3 := ρ 3) (n4 := ρ 4) (n5 := ρ 5) (H0 := η 0) (H1 := η 1) (H2 := η 2) f13 f12 f11 f10 f9 f8 f7 f6 f5 f4 f3 f2 f1 f0
theorem q_84o_3 {q0 : Nat} {n0 n1 n2 n3 n4 n5 n6 n7 : Int} {H0 H1 H2 H3 : gH} (f0 : n0 ≤ 2147483647) (f1 : (-2147483648) ≤ n0) (f2 : n1 = 30) (f3 : n2 = 30) (f4 : (hLe T0 H0 H1 ∧ hFr s_84v.2.2.2.2 H0 H1 ∧ hWt T0 H1) ∧ ((Ab_84v_15 n2 n1 n0 H0 H1 ∧ Bbo_84_15 n2 n1 n0 H0 H1) ∧ preb_84v n2 H0) ∧ some q0 = some (mub_84v_15 n2 n1 n0 H0 H1)) (f5 : n3 = 12) (f6 : n0 ≤ n3) (f7 : n4 ≤ 2147483647) (f8 : (-2147483648) ≤ n4) (f9 : hK H1 (n1).toNat = 4) (f10 : n4 = hV H1 (n1).toNat 3) (f11 : n4 = 0) (f12 : n5 ≤ 2147483647) (f13 : (-2147483648) ≤ n5) (f14 : hK H1 (n1).toNat = 4) (f15 : n5 = hV H1 (n1).toNat 2) (f16 : n6 ≤ 1) (f17 : 0 ≤ n6) (f18 : (hLe T0 H1 H2 ∧ hFr s_85v.2.2.2.2 H1 H2 ∧ ((0 : Int) = 0 → H2.length = H1.length) ∧ hWt T0 H2) ∧ postb_85v n6 n5 H1 H2) (f19 : n6 = 0) (f20 : n7 = 17) (f21 : (hLe T0 H2 H3 ∧ hFr s_66v.2.2.2.2 H2 H3 ∧ ((0 : Int) = 0 → H3.length = H2.length) ∧ hWt T0 H3) ∧ postb_66v n1 n7 H2 H3) : nbo_84 n2 H0 H3 := by
  unfold nbo_84
  intro d ed zo w49
  have pz := f4.2.1.2
  unfold preb_84v at pz
  have pz := pz.1
  have ga := f4.2.1.1.1
  unfold Ab_84v_15 at ga
  have vz : vwC H1 = vwC H0 := vwC_fr f4.1.2.1 (by decide +kernel)
  have s0 := PF_fr f18.1.1 f18.1.2.1 (by decide +kernel) ga.1
  have a0 : absC H2 = (absC H1) := s0.1
  have v0 : vwC H2 = vwC H0 := s0.2.1.trans vz
  have c1 := f21.2
  unfold postb_66v at c1
  try rw [f20] at c1
  rw [v0] at c1
  rw [a0] at c1
  have a1 : absC H3 = (ptk (vwC H0) 17 (absC H1)) := c1.2
  have v1 : vwC H3 = vwC H0 := (vwC_fr f21.1.2.1 (by decide +kernel)).trans v0
  have r10 : n4 = hV H1 30 3 := by
    have w := f10
    rw [f2] at w
    exact w
  have r15 : n5 = hV H1 30 2 := by
    have w := f15
    rw [f2] at w
    exact w
  have gb := f4.2.1.1.2
  unfold Bbo_84_15 at gb
  obtain ⟨zr, ot, w1, k⟩ := gb d ed zo w49
  have e8 : hV H1 30 8 = d := (f4.1.2.1.1 30 8 (by decide +kernel)).trans ed.symm
  have gc := ga
  obtain ⟨kz, dz, x10, x113, rc0, rc12, xr, ya⟩ := gc
  have pc := f18.2
  unfold postb_85v at pc
  have hv : 0 ≤ (absC H1).1 → (vwC H0).1 (absC H1).1 = hV H1 30 2 := fun n => by
    have u := (kd_at kz).resolve_left (by omega)
    rw [vz] at u
    exact u
  have kk := KO_sm zr (SMf_tr (SMf_fr f18.1.1 f18.1.2.1 (by decide +kernel) (by decide +kernel)) (SMf_fr f21.1.1 f21.1.2.1 (by decide +kernel) (by decide +kernel)))
  refine ⟨kk.1, OT_tr ot kk.2.2.2, (W49_le f21.1.1 (W49_le f18.1.1 w1)), fun hp h2 => ?_⟩
  rw [a1] at hp h2
  have h1 := (ptk_mono pz.2.1 hp).1
  have ri := k h1 ((ptk_2 hp).symm.trans h2)
  have hf : hV H1 30 3 = 0 := fault_no kz h1
  have x5 := xr hf
  have hv1 := hv h1
  have nw := kz.2.2.2.1.2.1
  have ap := absC_pos kz hf
  obtain ⟨R, r1, r2, r3⟩ := RR_end ri (by omega) (by omega)
  exact ⟨R, RLo_sm zr (SMf_tr (SMf_fr f18.1.1 f18.1.2.1 (by decide +kernel) (by decide +kernel)) (SMf_fr f21.1.1 f21.1.2.1 (by decide +kernel) (by decide +kernel))) r1, r2, r3⟩
def g_84o_15_2 : vG := ([(1066, [1, 7], [2, 3], 0), (0, [7], [], 17), (30, [6], [], 0), (1085, [6, 5], [1, 2], 0), (90, [6], [], 0), (91, [6], [], 1), (20, [5, 1], [1], 2), (23, [1], [1], 4), (90, [5], [], -2147483648), (91, [5], [], 2147483647), (30, [4], [], 0), (20, [4, 1], [1], 3), (23, [1], [1], 4), (90, [4], [], -2147483648), (91, [4], [], 2147483647), (45, [2, 3], [], 0), (0, [3], [], 12), (5000, [0, 1, 2], [0, 1], 15), (0, [0], [], 30), (0, [1], [], 30), (90, [2], [], -2147483648), (91, [2], [], 2147483647)], (3000, [], [3], 95))
theorem c_84o_15_2 {q0 : Nat} : vOkm T0 (eN e_84v L_84o A_84v mu_84v no_84 Bo_84 (some q0)) 1 g_84o_15_2 := vOk_inI fun ρ η f0 f1 f2 f3 f4 f5 f6 f7 f8 f9 f10 f11 f12 f13 f14 f15 f16 f17 f18 f19 f20 f21 => q_84o_3 (q0 := q0) (n0 := ρ 2) (n1 := ρ 1) (n2 := ρ 0) (n3 := ρ 3) (n4 := ρ 4) (n5 := ρ 5) (n6 := ρ 6) (n7 := ρ 7) (H0 := η 0) (H1 := η 1) (H2 := η 2) (H3 := η 3) f21 f20 f19 f18 f17 f16 f15 f14 f13 f12 f11 f10 f9 f8 f7 f6 f5 f4 f3 f2 f1 f0
theorem q_84o_4 {q0 : Nat} {n0 n1 n2 n3 n4 n5 n6 n7 n8 n9 n10 n11 n12 n13 : Int} {H0 H1 H2 H3 H4 : gH} (f0 : n0 ≤ 2147483647) (f1 : (-2147483648) ≤ n0) (f2 : n1 = 30) (f3 : n2 = 30) (f4 : (hLe T0 H0 H1 ∧ hFr s_84v.2.2.2.2 H0 H1 ∧ hWt T0 H1) ∧ ((Ab_84v_15 n2 n1 n0 H0 H1 ∧ Bbo_84_15 n2 n1 n0 H0 H1) ∧ preb_84v n2 H0) ∧ some q0 = some (mub_84v_15 n2 n1 n0 H0 H1)) (f5 : n3 = 12) (f6 : n0 ≤ n3) (f7 : n4 ≤ 2147483647) (f8 : (-2147483648) ≤ n4) (f9 : hK H1 (n1).toNat = 4) (f10 : n4 = hV H1 (n1).toNat 3) (f11 : n4 = 0) (f12 : n5 ≤ 2147483647) (f13 : (-2147483648) ≤ n5) (f14 : hK H1 (n1).toNat = 4) (f15 : n5 = hV H1 (n1).toNat 2) (f16 : n6 ≤ 1) (f17 : 0 ≤ n6) (f18 : (hLe T0 H1 H2 ∧ hFr s_85v.2.2.2.2 H1 H2 ∧ ((0 : Int) = 0 → H2.length = H1.length) ∧ hWt T0 H2) ∧ postb_85v n6 n5 H1 H2) (f19 : n6 ≠ 0) (f20 : 0 ≤ n7) (f21 : hK H2 (n1).toNat = 4) (f22 : n7 = hV H2 (n1).toNat 8) (f23 : n8 ≤ 2147483647) (f24 : (-2147483648) ≤ n8) (f25 : hK H2 (n7).toNat = 5) (f26 : n8 = hV H2 (n7).toNat 0) (f27 : n9 = 12) (f28 : n8 < n9) (f29 : n10 ≤ 2147483647) (f30 : (-2147483648) ≤ n10) (f31 : hK H2 (n1).toNat = 4) (f32 : n10 = hV H2 (n1).toNat 2) (f33 : n11 = 38) (f34 : n10 ≠ n11) (f35 : (hLe T0 H2 H3 ∧ hFr s_86v.2.2.2.2 H2 H3 ∧ ((0 : Int) = 0 → H3.length = H2.length) ∧ hWt T0 H3) ∧ (postb_86v n1 H2 H3 ∧ nbo_86 n1 H2 H3)) (f36 : n12 = 4) (f37 : (hLe T0 H3 H4 ∧ hFr s_66v.2.2.2.2 H3 H4 ∧ ((0 : Int) = 0 → H4.length = H3.length) ∧ hWt T0 H4) ∧ postb_66v n1 n12 H3 H4) (f38 : n13 = w32 (n0 + 1)) : Bbo_84_15 n2 n1 n13 H0 H4 := by
  unfold Bbo_84_15
  intro d ed zo w49
  have pz := f4.2.1.2
  unfold preb_84v at pz
  have pz := pz.1
  have ga := f4.2.1.1.1
  unfold Ab_84v_15 at ga
  have vz : vwC H1 = vwC H0 := vwC_fr f4.1.2.1 (by decide +kernel)
  have s0 := PF_fr f18.1.1 f18.1.2.1 (by decide +kernel) ga.1
  have a0 : absC H2 = (absC H1) := s0.1
  have v0 : vwC H2 = vwC H0 := s0.2.1.trans vz
  have c1 := f35.2.1
  unfold postb_86v at c1
  rw [v0] at c1
  rw [a0] at c1
  have a1 : absC H3 = (pLoud (vwC H0) (absC H1)) := c1.2.1
  have v1 : vwC H3 = vwC H0 := (vwC_fr f35.1.2.1 (by decide +kernel)).trans v0
  have c2 := f37.2
  unfold postb_66v at c2
  try rw [f36] at c2
  rw [v1] at c2
  rw [a1] at c2
  have a2 : absC H4 = (ptk (vwC H0) 4 (pLoud (vwC H0) (absC H1))) := c2.2
  have v2 : vwC H4 = vwC H0 := (vwC_fr f37.1.2.1 (by decide +kernel)).trans v1
  have r10 : n4 = hV H1 30 3 := by
    have w := f10
    rw [f2] at w
    exact w
  have r15 : n5 = hV H1 30 2 := by
    have w := f15
    rw [f2] at w
    exact w
  have r22 : n7 = hV H2 30 8 := by
    have w := f22
    rw [f2] at w
    exact w
  have r32 : n10 = hV H2 30 2 := by
    have w := f32
    rw [f2] at w
    exact w
  have gb := f4.2.1.1.2
  unfold Bbo_84_15 at gb
  obtain ⟨zr, ot, w1, k⟩ := gb d ed zo w49
  have e8 : hV H1 30 8 = d := (f4.1.2.1.1 30 8 (by decide +kernel)).trans ed.symm
  have gc := ga
  obtain ⟨kz, dz, x10, x113, rc0, rc12, xr, ya⟩ := gc
  have pc := f18.2
  unfold postb_85v at pc
  have q38_ := f38
  unfold w32 at q38_
  have hv : 0 ≤ (absC H1).1 → (vwC H0).1 (absC H1).1 = hV H1 30 2 := fun n => by
    have u := (kd_at kz).resolve_left (by omega)
    rw [vz] at u
    exact u
  have q32 : hV H2 30 2 = hV H1 30 2 := f18.1.2.1.1 30 2 (by decide +kernel)
  have k0 := KO_sm zr (SMf_fr f18.1.1 f18.1.2.1 (by decide +kernel) (by decide +kernel))
  have w2 := W49_le f18.1.1 w1
  have rq := f35.2.2
  unfold nbo_86 at rq
  obtain ⟨g1, g2, g3, gr⟩ := rq d (show hV H2 30 8 = d from (f18.1.2.1.1 30 8 (by decide +kernel)).trans e8).symm k0.1 w2
  have kt := KO_sm g1 (SMf_fr f37.1.1 f37.1.2.1 (by decide +kernel) (by decide +kernel))
  have e7 := f26
  rw [r22.trans (show hV H2 30 8 = d from (f18.1.2.1.1 30 8 (by decide +kernel)).trans e8)] at e7
  have e7b := k0.2.2.1 0 (by decide)
  have eb : absC H2 = absC H1 := a0
  have vb : vwC H2 = vwC H0 := v0
  have eR : absC H3 = pLoud (vwC H0) (absC H1) := a1
  refine ⟨kt.1, OT_tr ot (OT_tr k0.2.2.2 (OT_tr g2 kt.2.2.2)), W49_le f37.1.1 g3, fun hp h2 => ?_⟩
  rw [a2] at hp h2 ⊢
  have q1 := ptk_mono pz.2.1 hp
  have h3 : (pLoud (vwC H0) (absC H1)).2 = 0 := (ptk_2 hp).symm.trans h2
  have n_ := pLoud_in (absC_ok kz) q1.1 h3
  have n0_ := n_.1
  have n2_ := n_.2.1
  obtain ⟨L, R, c1, c2, c3, c4, c5, c6⟩ := k n0_ n2_
  have rl0 := c3.1
  have hv1 := hv n0_
  have hk : (vwC H0).1 (absC H1).1 = 40 := by omega
  have lt : R.length < 12 := by omega
  obtain ⟨M, y1, y2, y3, y4⟩ := gr L R (CODE_sm zr (SMf_fr f18.1.1 f18.1.2.1 (by decide +kernel) (by decide +kernel)) c1) (by rw [eb]; exact c2) (RLl_sm zr (SMf_fr f18.1.1 f18.1.2.1 (by decide +kernel) (by decide +kernel)) c3) lt (by rw [eR]; exact q1.1) (by rw [eR]; exact h3) (by rw [vb, eb]; exact hk)
  rw [vb, eb] at y3 y4
  rw [eR] at y2
  exact RR_step g1 (SMf_fr f37.1.1 f37.1.2.1 (by decide +kernel) (by decide +kernel)) y1 y2 y3 y4 c4 c5 lt (by omega) (by omega) (if_neg (by omega)).symm (by omega) c6
def g_84o_15_3 : vG := ([(10, [13, 2], [], 1), (1066, [1, 12], [3, 4], 0), (0, [12], [], 4), (1086, [1], [2, 3], 0), (41, [10, 11], [], 0), (0, [11], [], 38), (20, [10, 1], [2], 2), (23, [1], [2], 4), (90, [10], [], -2147483648), (91, [10], [], 2147483647), (42, [8, 9], [], 0), (0, [9], [], 12), (20, [8, 7], [2], 0), (23, [7], [2], 5), (90, [8], [], -2147483648), (91, [8], [], 2147483647), (20, [7, 1], [2], 8), (23, [1], [2], 4), (51, [7], [], 0), (31, [6], [], 0), (1085, [6, 5], [1, 2], 0), (90, [6], [], 0), (91, [6], [], 1), (20, [5, 1], [1], 2), (23, [1], [1], 4), (90, [5], [], -2147483648), (91, [5], [], 2147483647), (30, [4], [], 0), (20, [4, 1], [1], 3), (23, [1], [1], 4), (90, [4], [], -2147483648), (91, [4], [], 2147483647), (45, [2, 3], [], 0), (0, [3], [], 12), (5000, [0, 1, 2], [0, 1], 15), (0, [0], [], 30), (0, [1], [], 30), (90, [2], [], -2147483648), (91, [2], [], 2147483647)], (4000, [1, 13], [4], 15))
theorem c_84o_15_3 {q0 : Nat} : vOkm T0 (eN e_84v L_84o A_84v mu_84v no_84 Bo_84 (some q0)) 1 g_84o_15_3 := vOk_inI fun ρ η f0 f1 f2 f3 f4 f5 f6 f7 f8 f9 f10 f11 f12 f13 f14 f15 f16 f17 f18 f19 f20 f21 f22 f23 f24 f25 f26 f27 f28 f29 f30 f31 f32 f33 f34 f35 f36 f37 f38 => q_84o_4 (q0 := q0) (n0 := ρ 2) (n1 := ρ 1) (n2 := ρ 0) (n3 := ρ 3) (n4 := ρ 4) (n5 := ρ 5) (n6 := ρ 6) (n7 := ρ 7) (n8 := ρ 8) (n9 := ρ 9) (n10 := ρ 10) (n11 := ρ 11) (n12 := ρ 12) (n13 := ρ 13) (H0 := η 0) (H1 := η 1) (H2 := η 2) (H3 := η 3) (H4 := η 4) f38 f37 f36 f35 f34 f33 f32 f31 f30 f29 f28 f27 f26 f25 f24 f23 f22 f21 f20 f19 f18 f17 f16 f15 f14 f13 f12 f11 f10 f9 f8 f7 f6 f5 f4 f3 f2 f1 f0
theorem q_84o_5 {q0 : Nat} {n0 n1 n2 n3 n4 n5 n6 n7 n8 n9 n10 n11 n12 n13 : Int} {H0 H1 H2 H3 H4 : gH} (f0 : n0 ≤ 2147483647) (f1 : (-2147483648) ≤ n0) (f2 : n1 = 30) (f3 : n2 = 30) (f4 : (hLe T0 H0 H1 ∧ hFr s_84v.2.2.2.2 H0 H1 ∧ hWt T0 H1) ∧ ((Ab_84v_15 n2 n1 n0 H0 H1 ∧ Bbo_84_15 n2 n1 n0 H0 H1) ∧ preb_84v n2 H0) ∧ some q0 = some (mub_84v_15 n2 n1 n0 H0 H1)) (f5 : n3 = 12) (f6 : n0 ≤ n3) (f7 : n4 ≤ 2147483647) (f8 : (-2147483648) ≤ n4) (f9 : hK H1 (n1).toNat = 4) (f10 : n4 = hV H1 (n1).toNat 3) (f11 : n4 = 0) (f12 : n5 ≤ 2147483647) (f13 : (-2147483648) ≤ n5) (f14 : hK H1 (n1).toNat = 4) (f15 : n5 = hV H1 (n1).toNat 2) (f16 : n6 ≤ 1) (f17 : 0 ≤ n6) (f18 : (hLe T0 H1 H2 ∧ hFr s_85v.2.2.2.2 H1 H2 ∧ ((0 : Int) = 0 → H2.length = H1.length) ∧ hWt T0 H2) ∧ postb_85v n6 n5 H1 H2) (f19 : n6 ≠ 0) (f20 : 0 ≤ n7) (f21 : hK H2 (n1).toNat = 4) (f22 : n7 = hV H2 (n1).toNat 8) (f23 : n8 ≤ 2147483647) (f24 : (-2147483648) ≤ n8) (f25 : hK H2 (n7).toNat = 5) (f26 : n8 = hV H2 (n7).toNat 0) (f27 : n9 = 12) (f28 : n8 < n9) (f29 : n10 ≤ 2147483647) (f30 : (-2147483648) ≤ n10) (f31 : hK H2 (n1).toNat = 4) (f32 : n10 = hV H2 (n1).toNat 2) (f33 : n11 = 38) (f34 : n10 = n11) (f35 : (hLe T0 H2 H3 ∧ hFr s_87v.2.2.2.2 H2 H3 ∧ ((0 : Int) = 0 → H3.length = H2.length) ∧ hWt T0 H3) ∧ (postb_87v n1 H2 H3 ∧ nbo_87 n1 H2 H3)) (f36 : n12 = 4) (f37 : (hLe T0 H3 H4 ∧ hFr s_66v.2.2.2.2 H3 H4 ∧ ((0 : Int) = 0 → H4.length = H3.length) ∧ hWt T0 H4) ∧ postb_66v n1 n12 H3 H4) (f38 : n13 = w32 (n0 + 1)) : Bbo_84_15 n2 n1 n13 H0 H4 := by
  unfold Bbo_84_15
  intro d ed zo w49
  have pz := f4.2.1.2
  unfold preb_84v at pz
  have pz := pz.1
  have ga := f4.2.1.1.1
  unfold Ab_84v_15 at ga
  have vz : vwC H1 = vwC H0 := vwC_fr f4.1.2.1 (by decide +kernel)
  have s0 := PF_fr f18.1.1 f18.1.2.1 (by decide +kernel) ga.1
  have a0 : absC H2 = (absC H1) := s0.1
  have v0 : vwC H2 = vwC H0 := s0.2.1.trans vz
  have c1 := f35.2.1
  unfold postb_87v at c1
  rw [v0] at c1
  rw [a0] at c1
  have a1 : absC H3 = (pRight (vwC H0) (absC H1)) := c1.2.1
  have v1 : vwC H3 = vwC H0 := (vwC_fr f35.1.2.1 (by decide +kernel)).trans v0
  have c2 := f37.2
  unfold postb_66v at c2
  try rw [f36] at c2
  rw [v1] at c2
  rw [a1] at c2
  have a2 : absC H4 = (ptk (vwC H0) 4 (pRight (vwC H0) (absC H1))) := c2.2
  have v2 : vwC H4 = vwC H0 := (vwC_fr f37.1.2.1 (by decide +kernel)).trans v1
  have r10 : n4 = hV H1 30 3 := by
    have w := f10
    rw [f2] at w
    exact w
  have r15 : n5 = hV H1 30 2 := by
    have w := f15
    rw [f2] at w
    exact w
  have r22 : n7 = hV H2 30 8 := by
    have w := f22
    rw [f2] at w
    exact w
  have r32 : n10 = hV H2 30 2 := by
    have w := f32
    rw [f2] at w
    exact w
  have gb := f4.2.1.1.2
  unfold Bbo_84_15 at gb
  obtain ⟨zr, ot, w1, k⟩ := gb d ed zo w49
  have e8 : hV H1 30 8 = d := (f4.1.2.1.1 30 8 (by decide +kernel)).trans ed.symm
  have gc := ga
  obtain ⟨kz, dz, x10, x113, rc0, rc12, xr, ya⟩ := gc
  have pc := f18.2
  unfold postb_85v at pc
  have q38_ := f38
  unfold w32 at q38_
  have hv : 0 ≤ (absC H1).1 → (vwC H0).1 (absC H1).1 = hV H1 30 2 := fun n => by
    have u := (kd_at kz).resolve_left (by omega)
    rw [vz] at u
    exact u
  have q32 : hV H2 30 2 = hV H1 30 2 := f18.1.2.1.1 30 2 (by decide +kernel)
  have k0 := KO_sm zr (SMf_fr f18.1.1 f18.1.2.1 (by decide +kernel) (by decide +kernel))
  have w2 := W49_le f18.1.1 w1
  have rq := f35.2.2
  unfold nbo_87 at rq
  obtain ⟨g1, g2, g3, gr⟩ := rq d (show hV H2 30 8 = d from (f18.1.2.1.1 30 8 (by decide +kernel)).trans e8).symm k0.1 w2
  have kt := KO_sm g1 (SMf_fr f37.1.1 f37.1.2.1 (by decide +kernel) (by decide +kernel))
  have e7 := f26
  rw [r22.trans (show hV H2 30 8 = d from (f18.1.2.1.1 30 8 (by decide +kernel)).trans e8)] at e7
  have e7b := k0.2.2.1 0 (by decide)
  have eb : absC H2 = absC H1 := a0
  have vb : vwC H2 = vwC H0 := v0
  have eR : absC H3 = pRight (vwC H0) (absC H1) := a1
  refine ⟨kt.1, OT_tr ot (OT_tr k0.2.2.2 (OT_tr g2 kt.2.2.2)), W49_le f37.1.1 g3, fun hp h2 => ?_⟩
  rw [a2] at hp h2 ⊢
  have q1 := ptk_mono pz.2.1 hp
  have h3 : (pRight (vwC H0) (absC H1)).2 = 0 := (ptk_2 hp).symm.trans h2
  have n_ := (pRight_n2 (v := vwC H0) (absC_ok kz)).2 q1.1
  have n0_ := n_.1
  have n2_ := n_.2.symm.trans h3
  obtain ⟨L, R, c1, c2, c3, c4, c5, c6⟩ := k n0_ n2_
  have rl0 := c3.1
  have hv1 := hv n0_
  have hk : (vwC H0).1 (absC H1).1 = 38 := by omega
  have lt : R.length < 12 := by omega
  obtain ⟨M, y1, y2, y3, y4⟩ := gr L R (CODE_sm zr (SMf_fr f18.1.1 f18.1.2.1 (by decide +kernel) (by decide +kernel)) c1) (by rw [eb]; exact c2) (RLl_sm zr (SMf_fr f18.1.1 f18.1.2.1 (by decide +kernel) (by decide +kernel)) c3) lt (by rw [eR]; exact q1.1) (by rw [vb, eb]; exact hk)
  rw [vb, eb] at y3 y4
  rw [eR] at y2
  exact RR_step g1 (SMf_fr f37.1.1 f37.1.2.1 (by decide +kernel) (by decide +kernel)) y1 y2 y3 y4 c4 c5 lt (by omega) (by omega) (if_pos hk).symm (by omega) c6
def g_84o_15_4 : vG := ([(10, [13, 2], [], 1), (1066, [1, 12], [3, 4], 0), (0, [12], [], 4), (1087, [1], [2, 3], 0), (40, [10, 11], [], 0), (0, [11], [], 38), (20, [10, 1], [2], 2), (23, [1], [2], 4), (90, [10], [], -2147483648), (91, [10], [], 2147483647), (42, [8, 9], [], 0), (0, [9], [], 12), (20, [8, 7], [2], 0), (23, [7], [2], 5), (90, [8], [], -2147483648), (91, [8], [], 2147483647), (20, [7, 1], [2], 8), (23, [1], [2], 4), (51, [7], [], 0), (31, [6], [], 0), (1085, [6, 5], [1, 2], 0), (90, [6], [], 0), (91, [6], [], 1), (20, [5, 1], [1], 2), (23, [1], [1], 4), (90, [5], [], -2147483648), (91, [5], [], 2147483647), (30, [4], [], 0), (20, [4, 1], [1], 3), (23, [1], [1], 4), (90, [4], [], -2147483648), (91, [4], [], 2147483647), (45, [2, 3], [], 0), (0, [3], [], 12), (5000, [0, 1, 2], [0, 1], 15), (0, [0], [], 30), (0, [1], [], 30), (90, [2], [], -2147483648), (91, [2], [], 2147483647)], (4000, [1, 13], [4], 15))
theorem c_84o_15_4 {q0 : Nat} : vOkm T0 (eN e_84v L_84o A_84v mu_84v no_84 Bo_84 (some q0)) 1 g_84o_15_4 := vOk_inI fun ρ η f0 f1 f2 f3 f4 f5 f6 f7 f8 f9 f10 f11 f12 f13 f14 f15 f16 f17 f18 f19 f20 f21 f22 f23 f24 f25 f26 f27 f28 f29 f30 f31 f32 f33 f34 f35 f36 f37 f38 => q_84o_5 (q0 := q0) (n0 := ρ 2) (n1 := ρ 1) (n2 := ρ 0) (n3 := ρ 3) (n4 := ρ 4) (n5 := ρ 5) (n6 := ρ 6) (n7 := ρ 7) (n8 := ρ 8) (n9 := ρ 9) (n10 := ρ 10) (n11 := ρ 11) (n12 := ρ 12) (n13 := ρ 13) (H0 := η 0) (H1 := η 1) (H2 := η 2) (H3 := η 3) (H4 := η 4) f38 f37 f36 f35 f34 f33 f32 f31 f30 f29 f28 f27 f26 f25 f24 f23 f22 f21 f20 f19 f18 f17 f16 f15 f14 f13 f12 f11 f10 f9 f8 f7 f6 f5 f4 f3 f2 f1 f0
theorem q_84o_6 {q0 : Nat} {n0 n1 n2 n3 n4 n5 n6 n7 n8 n9 n10 n11 n12 : Int} {H0 H1 H2 H3 H4 : gH} (f0 : n0 ≤ 2147483647) (f1 : (-2147483648) ≤ n0) (f2 : n1 = 30) (f3 : n2 = 30) (f4 : (hLe T0 H0 H1 ∧ hFr s_84v.2.2.2.2 H0 H1 ∧ hWt T0 H1) ∧ ((Ab_84v_15 n2 n1 n0 H0 H1 ∧ Bbo_84_15 n2 n1 n0 H0 H1) ∧ preb_84v n2 H0) ∧ some q0 = some (mub_84v_15 n2 n1 n0 H0 H1)) (f5 : n3 = 12) (f6 : n0 ≤ n3) (f7 : n4 ≤ 2147483647) (f8 : (-2147483648) ≤ n4) (f9 : hK H1 (n1).toNat = 4) (f10 : n4 = hV H1 (n1).toNat 3) (f11 : n4 = 0) (f12 : n5 ≤ 2147483647) (f13 : (-2147483648) ≤ n5) (f14 : hK H1 (n1).toNat = 4) (f15 : n5 = hV H1 (n1).toNat 2) (f16 : n6 ≤ 1) (f17 : 0 ≤ n6) (f18 : (hLe T0 H1 H2 ∧ hFr s_85v.2.2.2.2 H1 H2 ∧ ((0 : Int) = 0 → H2.length = H1.length) ∧ hWt T0 H2) ∧ postb_85v n6 n5 H1 H2) (f19 : n6 ≠ 0) (f20 : 0 ≤ n7) (f21 : hK H2 (n1).toNat = 4) (f22 : n7 = hV H2 (n1).toNat 8) (f23 : n8 ≤ 2147483647) (f24 : (-2147483648) ≤ n8) (f25 : hK H2 (n7).toNat = 5) (f26 : n8 = hV H2 (n7).toNat 0) (f27 : n9 = 12) (f28 : n9 ≤ n8) (f29 : n10 = 2) (f30 : (hLe T0 H2 H3 ∧ hFr s_64v.2.2.2.2 H2 H3 ∧ ((0 : Int) = 0 → H3.length = H2.length) ∧ hWt T0 H3) ∧ postb_64v n1 n10 H2 H3) (f31 : n11 = 4) (f32 : (hLe T0 H3 H4 ∧ hFr s_66v.2.2.2.2 H3 H4 ∧ ((0 : Int) = 0 → H4.length = H3.length) ∧ hWt T0 H4) ∧ postb_66v n1 n11 H3 H4) (f33 : n12 = w32 (n0 + 1)) : Bbo_84_15 n2 n1 n12 H0 H4 := by
  unfold Bbo_84_15
  intro d ed zo w49
  have pz := f4.2.1.2
  unfold preb_84v at pz
  have pz := pz.1
  have ga := f4.2.1.1.1
  unfold Ab_84v_15 at ga
  have vz : vwC H1 = vwC H0 := vwC_fr f4.1.2.1 (by decide +kernel)
  have s0 := PF_fr f18.1.1 f18.1.2.1 (by decide +kernel) ga.1
  have a0 : absC H2 = (absC H1) := s0.1
  have v0 : vwC H2 = vwC H0 := s0.2.1.trans vz
  have c1 := f30.2
  unfold postb_64v at c1
  try rw [f29] at c1
  rw [v0] at c1
  rw [a0] at c1
  have a1 : absC H3 = (pfail (vwC H0) 2 (absC H1)) := c1.2
  have v1 : vwC H3 = vwC H0 := (vwC_fr f30.1.2.1 (by decide +kernel)).trans v0
  have c2 := f32.2
  unfold postb_66v at c2
  try rw [f31] at c2
  rw [v1] at c2
  rw [a1] at c2
  have a2 : absC H4 = (ptk (vwC H0) 4 (pfail (vwC H0) 2 (absC H1))) := c2.2
  have v2 : vwC H4 = vwC H0 := (vwC_fr f32.1.2.1 (by decide +kernel)).trans v1
  have r10 : n4 = hV H1 30 3 := by
    have w := f10
    rw [f2] at w
    exact w
  have r15 : n5 = hV H1 30 2 := by
    have w := f15
    rw [f2] at w
    exact w
  have r22 : n7 = hV H2 30 8 := by
    have w := f22
    rw [f2] at w
    exact w
  have gb := f4.2.1.1.2
  unfold Bbo_84_15 at gb
  obtain ⟨zr, ot, w1, k⟩ := gb d ed zo w49
  have e8 : hV H1 30 8 = d := (f4.1.2.1.1 30 8 (by decide +kernel)).trans ed.symm
  have gc := ga
  obtain ⟨kz, dz, x10, x113, rc0, rc12, xr, ya⟩ := gc
  have pc := f18.2
  unfold postb_85v at pc
  have q33_ := f33
  unfold w32 at q33_
  have kk := KO_sm zr (SMf_tr (SMf_fr f18.1.1 f18.1.2.1 (by decide +kernel) (by decide +kernel)) (SMf_tr (SMf_fr f30.1.1 f30.1.2.1 (by decide +kernel) (by decide +kernel)) (SMf_fr f32.1.1 f32.1.2.1 (by decide +kernel) (by decide +kernel))))
  refine ⟨kk.1, OT_tr ot kk.2.2.2, (W49_le f32.1.1 (W49_le f30.1.1 (W49_le f18.1.1 w1))), fun hp h2 => ?_⟩
  exfalso
  rw [a2] at hp
  have := (ptk_mono pz.2.1 hp).1
  have := pfail_lt pz (f := 2) (by decide) (p := absC H1)
  omega
def g_84o_15_5 : vG := ([(10, [12, 2], [], 1), (1066, [1, 11], [3, 4], 0), (0, [11], [], 4), (1064, [1, 10], [2, 3], 0), (0, [10], [], 2), (43, [8, 9], [], 0), (0, [9], [], 12), (20, [8, 7], [2], 0), (23, [7], [2], 5), (90, [8], [], -2147483648), (91, [8], [], 2147483647), (20, [7, 1], [2], 8), (23, [1], [2], 4), (51, [7], [], 0), (31, [6], [], 0), (1085, [6, 5], [1, 2], 0), (90, [6], [], 0), (91, [6], [], 1), (20, [5, 1], [1], 2), (23, [1], [1], 4), (90, [5], [], -2147483648), (91, [5], [], 2147483647), (30, [4], [], 0), (20, [4, 1], [1], 3), (23, [1], [1], 4), (90, [4], [], -2147483648), (91, [4], [], 2147483647), (45, [2, 3], [], 0), (0, [3], [], 12), (5000, [0, 1, 2], [0, 1], 15), (0, [0], [], 30), (0, [1], [], 30), (90, [2], [], -2147483648), (91, [2], [], 2147483647)], (4000, [1, 12], [4], 15))
theorem c_84o_15_5 {q0 : Nat} : vOkm T0 (eN e_84v L_84o A_84v mu_84v no_84 Bo_84 (some q0)) 1 g_84o_15_5 := vOk_inI fun ρ η f0 f1 f2 f3 f4 f5 f6 f7 f8 f9 f10 f11 f12 f13 f14 f15 f16 f17 f18 f19 f20 f21 f22 f23 f24 f25 f26 f27 f28 f29 f30 f31 f32 f33 => q_84o_6 (q0 := q0) (n0 := ρ 2) (n1 := ρ 1) (n2 := ρ 0) (n3 := ρ 3) (n4 := ρ 4) (n5 := ρ 5) (n6 := ρ 6) (n7 := ρ 7) (n8 := ρ 8) (n9 := ρ 9) (n10 := ρ 10) (n11 := ρ 11) (n12 := ρ 12) (H0 := η 0) (H1 := η 1) (H2 := η 2) (H3 := η 3) (H4 := η 4) f33 f32 f31 f30 f29 f28 f27 f26 f25 f24 f23 f22 f21 f20 f19 f18 f17 f16 f15 f14 f13 f12 f11 f10 f9 f8 f7 f6 f5 f4 f3 f2 f1 f0
def p_84o_15 : List vG := [g_84o_15_0,
  g_84o_15_1,
  g_84o_15_2,
  g_84o_15_3,
  g_84o_15_4,
  g_84o_15_5]
theorem r_84o_15 : vCovBO (eRc e_84v L_84v cs_84v 2000 (15, [(0, (3, 4, 30, 0)), (1, (0, -2147483648, 2147483647, 0))])) p_84o_15 = true := by decide +kernel
theorem m_84o (d : Nat) : eC e_84o (d + 6) := eC_ref (e := e_84v) (L := L_84v) (L' := L_84o) (cs := cs_84v) (n := 2000) (d := d + 5) (A := A_84v) (μ := mu_84v) (tp := false) (p0 := p_84v_s) (p1 := p_84o_s) (N := no_84) (B := Bo_84) rfl ⟨m_64v (d + 4), ⟨m_66v (d + 3), ⟨m_85v (d + 4), ⟨m_86o (d + 1), ⟨m_87o d, ⟨m_97o (d + 4), trivial⟩⟩⟩⟩⟩⟩ rfl (.inl rfl) (by decide +kernel) (fun z => nomatch z) r_84v_s (allC c_84v_s_0 (allC c_84v_s_1 (allC c_84v_s_2 allN))) (allC (.inl ⟨p_84v_15, r_84v_15, fun q0 => (allC c_84v_15_0 (allC c_84v_15_1 (allC c_84v_15_2 (allC c_84v_15_3 (allC c_84v_15_4 (allC c_84v_15_5 (allC c_84v_15_6 (allC c_84v_15_7 (allC c_84v_15_8 (allC c_84v_15_9 (allC c_84v_15_10 (allC c_84v_15_11 (allC c_84v_15_12 (allC c_84v_15_13 (allC c_84v_15_14 allN)))))))))))))))⟩) allN) (sub0 (sub0 (sub0 (sub1 (sub1 (sub1 trivial)))))) r_84o_s (allC c_84o_s_0 allN) (allC ⟨p_84o_15, r_84o_15, fun q0 => (allC c_84o_15_0 (allC c_84o_15_1 (allC c_84o_15_2 (allC c_84o_15_3 (allC c_84o_15_4 (allC c_84o_15_5 allN))))))⟩ allN)
