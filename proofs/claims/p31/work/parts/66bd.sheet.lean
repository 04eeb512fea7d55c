/-! CONTRACTS of methods told more fully. -/
/- Reader.readCues ()V, more fully -/
def nb_72 (a0 : Int) (h0 h : gH) : Prop := CK h0 → CUq h0 h (hV h0 30 13).toNat ∧ (∀ i : Nat, ¬ (i : Int) = hV h0 30 13 → hV h 46 i = hV h0 46 i ∧ hV h 47 i = hV h0 47 i) ∧ (B16 h0 7 → B16 h 7) ∧ (hV h 30 3 = 0 → 0 ≤ hV h 46 (hV h0 30 13).toNat ∧ hV h 46 (hV h0 30 13).toNat ≤ 16 ∧ lsC h (hV h0 30 13).toNat (hV h 46 (hV h0 30 13).toNat).toNat = pDr (vwC h0) (BLc h0) 16 (absC h0))
def n_72 : List Int → gH → gH → Prop := fun xs h0 h => match xs with
  | [a0] => nb_72 a0 h0 h
  | _ => True
noncomputable def e_72vw : vE := eV e_72v n_72
noncomputable def L_72vw : List vE := [e_24vw, e_64v, e_66v, e_67vw, e_73v, e_74vw, e_75vw, e_76vw, e_77vw, e_78vw, e_80vw, e_124x, e_199vk740, e_201vk740]
def Bb_72_6 (a0 x0 x1 x2 x3 : Int) (h0 h : gH) : Prop := CK h0 → CUq h0 h (hV h0 30 13).toNat ∧ hV h 46 = hV h0 46 ∧ hV h 47 = hV h0 47 ∧ (hV h 30 3 = 0 → lsC h (hV h0 30 13).toNat (x1).toNat ++ pDr (vwC h0) (BLc h0) (16 - (x1).toNat) (absC h) = pDr (vwC h0) (BLc h0) 16 (absC h0))
def B_72 : Int → List Int → gH → gH → Prop := fun c xs h0 h => match c.toNat with
  | 6 => (match xs with
    | [a0, x0, x1, x2, x3] => Bb_72_6 a0 x0 x1 x2 x3 h0 h
    | _ => False)
  | _ => True
theorem q_72vw_0 {n0 n1 n2 n3 : Int} {H0 : gH} (f0 : n0 = 30) (f1 : hWt T0 H0 ∧ preb_72v n0 H0) (f2 : n1 = 0) (f3 : n2 = 0) (f4 : n3 = 0) : Bb_72_6 n0 n0 n1 n2 n3 H0 H0 := by
  unfold Bb_72_6
  intro ck
  refine ⟨CUq_rfl, rfl, rfl, fun _ => ?_⟩
  rw [show (n1).toNat = 0 by omega]
  rfl
def g_72vw_s_0 : vG := ([(0, [3], [], 0), (0, [2], [], 0), (0, [1], [], 0), (6000, [0], [0], 0), (0, [0], [], 30)], (4000, [0, 1, 2, 3], [0], 6))
theorem c_72vw_s_0 : vOkm T0 (eN e_72v L_72vw A_72v mu_72v n_72 B_72 none) 1 g_72vw_s_0 := vOk_inI fun ρ η f0 f1 f2 f3 f4 => q_72vw_0 (n0 := ρ 0) (n1 := ρ 1) (n2 := ρ 2) (n3 := ρ 3) (H0 := η 0) f4 f3 f2 f1 f0
def p_72vw_s : List vG := [g_72vw_s_0]
theorem r_72vw_s : vCovBO (eR0 e_72v L_72v cs_72v 2000) p_72vw_s = true := by decide +kernel
theorem q_72vw_1 {q0 : Nat} {n0 n1 n2 n3 n4 n5 n6 n7 n8 n9 : Int} {H0 H1 H2 H3 : gH} (f0 : n0 ≤ 2147483647) (f1 : (-2147483648) ≤ n0) (f2 : n1 ≤ 2147483647) (f3 : (-2147483648) ≤ n1) (f4 : n2 ≤ 2147483647) (f5 : (-2147483648) ≤ n2) (f6 : n3 = 30) (f7 : n4 = 30) (f8 : (hLe T0 H0 H1 ∧ hFr s_72v.2.2.2.2 H0 H1 ∧ hWt T0 H1) ∧ ((Ab_72v_6 n4 n3 n2 n1 n0 H0 H1 ∧ Bb_72_6 n4 n3 n2 n1 n0 H0 H1) ∧ preb_72v n4 H0) ∧ some q0 = some (mub_72v_6 n4 n3 n2 n1 n0 H0 H1)) (f9 : n5 = 16) (f10 : n5 < n0) (f11 : n6 = 46) (f12 : hK H1 (n3).toNat = 4) (f13 : n6 = hV H1 (n3).toNat 10) (f14 : n7 ≤ 2147483647) (f15 : (-2147483648) ≤ n7) (f16 : hK H1 (n3).toNat = 4) (f17 : n7 = hV H1 (n3).toNat 13) (f18 : (hLe T0 H1 H2 ∧ hFr s_201vk740.2.2.2.2 H1 H2 ∧ ((0 : Int) = 0 → H2.length = H1.length) ∧ hWt T0 H2) ∧ postb_201vk740 n6 n7 n2 H1 H2) (f19 : n8 = 47) (f20 : hK H2 (n3).toNat = 4) (f21 : n8 = hV H2 (n3).toNat 11) (f22 : n9 ≤ 2147483647) (f23 : (-2147483648) ≤ n9) (f24 : hK H2 (n3).toNat = 4) (f25 : n9 = hV H2 (n3).toNat 13) (f26 : (hLe T0 H2 H3 ∧ hFr s_201vk740.2.2.2.2 H2 H3 ∧ ((0 : Int) = 0 → H3.length = H2.length) ∧ hWt T0 H3) ∧ postb_201vk740 n8 n9 n1 H2 H3) : nb_72 n4 H0 H3 := by
  unfold nb_72
  intro ck
  have pz := f8.2.1.2
  unfold preb_72v at pz
  have ga := f8.2.1.1.1
  unfold Ab_72v_6 at ga
  have vz : vwC H1 = vwC H0 := vwC_fr f8.1.2.1 (by decide +kernel)
  obtain ⟨kz, bz, blz, b13, cz_, b48, x10, x116, x30, x317, x13, ya, yt⟩ := ga
  have gb := f8.2.1.1.2
  unfold Bb_72_6 at gb
  obtain ⟨gq, g46, g47, gl⟩ := gb ck
  have ck1 := CK_fr f8.1.1 f8.1.2.1 (by decide +kernel) ck
  have y2 := pz.2.1.2.1
  have y3 := pz.2.1.2.2.1
  have s0 := PF_fr f18.1.1 f18.1.2.1 (by decide +kernel) kz
  have a0 : absC H2 = (absC H1) := s0.1
  have v0 : vwC H2 = vwC H0 := (vwC_fr f18.1.2.1 (by decide +kernel)).trans vz
  have u0 := CU_fr f18.1.1 f18.1.2.1 (by decide +kernel) cz_
  have pp0 := f18.2
  unfold postb_201vk740 at pp0
  rw [f11] at pp0
  have d0 := BI_put46 f18.1.1 f18.1.2.1 (by decide +kernel) bz pp0
  have j0 : BLc H2 = BLc H0 := d0.2.1.trans blz
  have s1 := PF_fr f26.1.1 f26.1.2.1 (by decide +kernel) s0.2.2
  have a1 : absC H3 = (absC H1) := s1.1.trans a0
  have v1 : vwC H3 = vwC H0 := (vwC_fr f26.1.2.1 (by decide +kernel)).trans v0
  have u1 := CU_fr f26.1.1 f26.1.2.1 (by decide +kernel) u0
  have pp1 := f26.2
  unfold postb_201vk740 at pp1
  rw [f19] at pp1
  have rp1 := f25
  rw [f6] at rp1
  rw [show ((30 : Int)).toNat = 30 from rfl] at rp1
  rw [rp1] at pp1
  have d1 := BI_put47 f26.1.1 f26.1.2.1 (by decide +kernel) d0.1 pp1
  have j1 : BLc H3 = BLc H0 := d1.2.1.trans j0
  have q1 := f17
  rw [f6] at q1
  rw [show ((30 : Int)).toNat = 30 from rfl] at q1
  have q2 := f25
  rw [f6] at q2
  rw [show ((30 : Int)).toNat = 30 from rfl] at q2
  have t1 : hV H1 30 13 = hV H1 30 13 := rfl
  have t2 : hV H2 30 13 = hV H1 30 13 := d0.2.2.1
  have pa := f18.2
  unfold postb_201vk740 at pa
  rw [f11] at pa
  have pb := f26.2
  unfold postb_201vk740 at pb
  rw [f19] at pb
  have ck2 := ck1
  have n46 := ck2.2.2
  have n47 : hN H2 47 = 7 := d0.1.1.2.2.2
  have e46 : hV H2 46 = uF (hV H0 46) (hV H0 30 13) n2 := by
    have w := putQ_rowN (q := 46) pa (by omega) (by rw [n46]; omega)
    rw [show n7 = hV H0 30 13 by omega, show hV H1 46 = hV H0 46 from (rfl).trans g46] at w
    exact w
  have e47 : hV H3 47 = uF (hV H0 47) (hV H0 30 13) n1 := by
    have w := putQ_rowN (q := 47) pb (by omega) (by rw [n47]; omega)
    rw [show n9 = hV H0 30 13 by omega, show hV H2 47 = hV H0 47 from (putQ_o (q := 46) pa (by decide)).trans (g47)] at w
    exact w
  have x46 : hV H3 46 = uF (hV H0 46) (hV H0 30 13) n2 := (putQ_o (q := 47) pb (by decide)).trans e46
  have co : CUo H1 H3 (-1) := (CUo_tr (CUo_fr f18.1.1 f18.1.2.1 (by decide +kernel)) (CUo_fr f26.1.1 f26.1.2.1 (by decide +kernel)))
  have t3 : hV H3 30 3 = hV H1 30 3 := (f26.1.2.1.1 30 3 (by decide +kernel)).trans (f18.1.2.1.1 30 3 (by decide +kernel))
  refine ⟨CUq_tr gq (fun o ho => ⟨(co o ho).1, fun _ => (co o ho).2 (by omega)⟩), fun i hi => ⟨by rw [x46, uF_at, if_neg hi], by rw [e47, uF_at, if_neg hi]⟩, fun z b hb => ?_, fun hf => ?_⟩
  · rw [x46, uF_at]
    by_cases c : (b : Int) = hV H0 30 13
    · rw [if_pos c]
      omega
    · rw [if_neg c]
      exact z b hb
  have st : pDr (vwC H0) (BLc H0) (16 - (n2).toNat) (absC H1) = [] := by
    have := x13 (by omega)
    exfalso
    omega
  have gl := gl (by omega)
  rw [st, List.append_nil] at gl
  have e : hV H3 46 (hV H0 30 13).toNat = n2 := by rw [x46, uF_at, if_pos (by omega)]
  rw [e]
  refine ⟨by omega, by omega, ?_⟩
  rw [← gl]
  exact lsC_eq (fun k hk s => (co _ (C45_k ck1.1 cz_ (by omega) (by omega))).2 (by omega) s)
def g_72vw_6_0 : vG := ([(1201, [8, 9, 3], [2, 3], 0), (20, [9, 1], [2], 13), (23, [1], [2], 4), (90, [9], [], -2147483648), (91, [9], [], 2147483647), (20, [8, 1], [2], 11), (23, [1], [2], 4), (0, [8], [], 47), (1201, [6, 7, 2], [1, 2], 0), (20, [7, 1], [1], 13), (23, [1], [1], 4), (90, [7], [], -2147483648), (91, [7], [], 2147483647), (20, [6, 1], [1], 10), (23, [1], [1], 4), (0, [6], [], 46), (44, [4, 5], [], 0), (0, [5], [], 16), (5000, [0, 1, 2, 3, 4], [0, 1], 6), (0, [0], [], 30), (0, [1], [], 30), (90, [2], [], -2147483648), (91, [2], [], 2147483647), (90, [3], [], -2147483648), (91, [3], [], 2147483647), (90, [4], [], -2147483648), (91, [4], [], 2147483647)], (3000, [], [3], 248))
theorem c_72vw_6_0 {q0 : Nat} : vOkm T0 (eN e_72v L_72vw A_72v mu_72v n_72 B_72 (some q0)) 1 g_72vw_6_0 := vOk_inI fun ρ η f0 f1 f2 f3 f4 f5 f6 f7 f8 f9 f10 f11 f12 f13 f14 f15 f16 f17 f18 f19 f20 f21 f22 f23 f24 f25 f26 => q_72vw_1 (q0 := q0) (n0 := ρ 4) (n1 := ρ 3) (n2 := ρ 2) (n3 := ρ 1) (n4 := ρ 0) (n5 := ρ 5) (n6 := ρ 6) (n7 := ρ 7) (n8 := ρ 8) (n9 := ρ 9) (H0 := η 0) (H1 := η 1) (H2 := η 2) (H3 := η 3) f26 f25 f24 f23 f22 f21 f20 f19 f18 f17 f16 f15 f14 f13 f12 f11 f10 f9 f8 f7 f6 f5 f4 f3 f2 f1 f0
theorem q_72vw_2 {q0 : Nat} {n0 n1 n2 n3 n4 n5 n6 n7 n8 n9 n10 : Int} {H0 H1 H2 H3 : gH} (f0 : n0 ≤ 2147483647) (f1 : (-2147483648) ≤ n0) (f2 : n1 ≤ 2147483647) (f3 : (-2147483648) ≤ n1) (f4 : n2 ≤ 2147483647) (f5 : (-2147483648) ≤ n2) (f6 : n3 = 30) (f7 : n4 = 30) (f8 : (hLe T0 H0 H1 ∧ hFr s_72v.2.2.2.2 H0 H1 ∧ hWt T0 H1) ∧ ((Ab_72v_6 n4 n3 n2 n1 n0 H0 H1 ∧ Bb_72_6 n4 n3 n2 n1 n0 H0 H1) ∧ preb_72v n4 H0) ∧ some q0 = some (mub_72v_6 n4 n3 n2 n1 n0 H0 H1)) (f9 : n5 = 16) (f10 : n0 ≤ n5) (f11 : n6 ≤ 2147483647) (f12 : (-2147483648) ≤ n6) (f13 : hK H1 (n3).toNat = 4) (f14 : n6 = hV H1 (n3).toNat 3) (f15 : n6 ≠ 0) (f16 : n7 = 46) (f17 : hK H1 (n3).toNat = 4) (f18 : n7 = hV H1 (n3).toNat 10) (f19 : n8 ≤ 2147483647) (f20 : (-2147483648) ≤ n8) (f21 : hK H1 (n3).toNat = 4) (f22 : n8 = hV H1 (n3).toNat 13) (f23 : (hLe T0 H1 H2 ∧ hFr s_201vk740.2.2.2.2 H1 H2 ∧ ((0 : Int) = 0 → H2.length = H1.length) ∧ hWt T0 H2) ∧ postb_201vk740 n7 n8 n2 H1 H2) (f24 : n9 = 47) (f25 : hK H2 (n3).toNat = 4) (f26 : n9 = hV H2 (n3).toNat 11) (f27 : n10 ≤ 2147483647) (f28 : (-2147483648) ≤ n10) (f29 : hK H2 (n3).toNat = 4) (f30 : n10 = hV H2 (n3).toNat 13) (f31 : (hLe T0 H2 H3 ∧ hFr s_201vk740.2.2.2.2 H2 H3 ∧ ((0 : Int) = 0 → H3.length = H2.length) ∧ hWt T0 H3) ∧ postb_201vk740 n9 n10 n1 H2 H3) : nb_72 n4 H0 H3 := by
  unfold nb_72
  intro ck
  have pz := f8.2.1.2
  unfold preb_72v at pz
  have ga := f8.2.1.1.1
  unfold Ab_72v_6 at ga
  have vz : vwC H1 = vwC H0 := vwC_fr f8.1.2.1 (by decide +kernel)
  obtain ⟨kz, bz, blz, b13, cz_, b48, x10, x116, x30, x317, x13, ya, yt⟩ := ga
  have gb := f8.2.1.1.2
  unfold Bb_72_6 at gb
  obtain ⟨gq, g46, g47, gl⟩ := gb ck
  have ck1 := CK_fr f8.1.1 f8.1.2.1 (by decide +kernel) ck
  have y2 := pz.2.1.2.1
  have y3 := pz.2.1.2.2.1
  have r3 := f14
  rw [f6] at r3
  rw [show ((30 : Int)).toNat = 30 from rfl] at r3
  have s0 := PF_fr f23.1.1 f23.1.2.1 (by decide +kernel) kz
  have a0 : absC H2 = (absC H1) := s0.1
  have v0 : vwC H2 = vwC H0 := (vwC_fr f23.1.2.1 (by decide +kernel)).trans vz
  have u0 := CU_fr f23.1.1 f23.1.2.1 (by decide +kernel) cz_
  have pp0 := f23.2
  unfold postb_201vk740 at pp0
  rw [f16] at pp0
  have d0 := BI_put46 f23.1.1 f23.1.2.1 (by decide +kernel) bz pp0
  have j0 : BLc H2 = BLc H0 := d0.2.1.trans blz
  have s1 := PF_fr f31.1.1 f31.1.2.1 (by decide +kernel) s0.2.2
  have a1 : absC H3 = (absC H1) := s1.1.trans a0
  have v1 : vwC H3 = vwC H0 := (vwC_fr f31.1.2.1 (by decide +kernel)).trans v0
  have u1 := CU_fr f31.1.1 f31.1.2.1 (by decide +kernel) u0
  have pp1 := f31.2
  unfold postb_201vk740 at pp1
  rw [f24] at pp1
  have rp1 := f30
  rw [f6] at rp1
  rw [show ((30 : Int)).toNat = 30 from rfl] at rp1
  rw [rp1] at pp1
  have d1 := BI_put47 f31.1.1 f31.1.2.1 (by decide +kernel) d0.1 pp1
  have j1 : BLc H3 = BLc H0 := d1.2.1.trans j0
  have q1 := f22
  rw [f6] at q1
  rw [show ((30 : Int)).toNat = 30 from rfl] at q1
  have q2 := f30
  rw [f6] at q2
  rw [show ((30 : Int)).toNat = 30 from rfl] at q2
  have t1 : hV H1 30 13 = hV H1 30 13 := rfl
  have t2 : hV H2 30 13 = hV H1 30 13 := d0.2.2.1
  have pa := f23.2
  unfold postb_201vk740 at pa
  rw [f16] at pa
  have pb := f31.2
  unfold postb_201vk740 at pb
  rw [f24] at pb
  have ck2 := ck1
  have n46 := ck2.2.2
  have n47 : hN H2 47 = 7 := d0.1.1.2.2.2
  have e46 : hV H2 46 = uF (hV H0 46) (hV H0 30 13) n2 := by
    have w := putQ_rowN (q := 46) pa (by omega) (by rw [n46]; omega)
    rw [show n8 = hV H0 30 13 by omega, show hV H1 46 = hV H0 46 from (rfl).trans g46] at w
    exact w
  have e47 : hV H3 47 = uF (hV H0 47) (hV H0 30 13) n1 := by
    have w := putQ_rowN (q := 47) pb (by omega) (by rw [n47]; omega)
    rw [show n10 = hV H0 30 13 by omega, show hV H2 47 = hV H0 47 from (putQ_o (q := 46) pa (by decide)).trans (g47)] at w
    exact w
  have x46 : hV H3 46 = uF (hV H0 46) (hV H0 30 13) n2 := (putQ_o (q := 47) pb (by decide)).trans e46
  have co : CUo H1 H3 (-1) := (CUo_tr (CUo_fr f23.1.1 f23.1.2.1 (by decide +kernel)) (CUo_fr f31.1.1 f31.1.2.1 (by decide +kernel)))
  have t3 : hV H3 30 3 = hV H1 30 3 := (f31.1.2.1.1 30 3 (by decide +kernel)).trans (f23.1.2.1.1 30 3 (by decide +kernel))
  refine ⟨CUq_tr gq (fun o ho => ⟨(co o ho).1, fun _ => (co o ho).2 (by omega)⟩), fun i hi => ⟨by rw [x46, uF_at, if_neg hi], by rw [e47, uF_at, if_neg hi]⟩, fun z b hb => ?_, fun hf => ?_⟩
  · rw [x46, uF_at]
    by_cases c : (b : Int) = hV H0 30 13
    · rw [if_pos c]
      omega
    · rw [if_neg c]
      exact z b hb
  have st : pDr (vwC H0) (BLc H0) (16 - (n2).toNat) (absC H1) = [] := by
    exfalso
    omega
  have gl := gl (by omega)
  rw [st, List.append_nil] at gl
  have e : hV H3 46 (hV H0 30 13).toNat = n2 := by rw [x46, uF_at, if_pos (by omega)]
  rw [e]
  refine ⟨by omega, by omega, ?_⟩
  rw [← gl]
  exact lsC_eq (fun k hk s => (co _ (C45_k ck1.1 cz_ (by omega) (by omega))).2 (by omega) s)
def g_72vw_6_1 : vG := ([(1201, [9, 10, 3], [2, 3], 0), (20, [10, 1], [2], 13), (23, [1], [2], 4), (90, [10], [], -2147483648), (91, [10], [], 2147483647), (20, [9, 1], [2], 11), (23, [1], [2], 4), (0, [9], [], 47), (1201, [7, 8, 2], [1, 2], 0), (20, [8, 1], [1], 13), (23, [1], [1], 4), (90, [8], [], -2147483648), (91, [8], [], 2147483647), (20, [7, 1], [1], 10), (23, [1], [1], 4), (0, [7], [], 46), (31, [6], [], 0), (20, [6, 1], [1], 3), (23, [1], [1], 4), (90, [6], [], -2147483648), (91, [6], [], 2147483647), (45, [4, 5], [], 0), (0, [5], [], 16), (5000, [0, 1, 2, 3, 4], [0, 1], 6), (0, [0], [], 30), (0, [1], [], 30), (90, [2], [], -2147483648), (91, [2], [], 2147483647), (90, [3], [], -2147483648), (91, [3], [], 2147483647), (90, [4], [], -2147483648), (91, [4], [], 2147483647)], (3000, [], [3], 248))
theorem c_72vw_6_1 {q0 : Nat} : vOkm T0 (eN e_72v L_72vw A_72v mu_72v n_72 B_72 (some q0)) 1 g_72vw_6_1 := vOk_inI fun ρ η f0 f1 f2 f3 f4 f5 f6 f7 f8 f9 f10 f11 f12 f13 f14 f15 f16 f17 f18 f19 f20 f21 f22 f23 f24 f25 f26 f27 f28 f29 f30 f31 => q_72vw_2 (q0 := q0) (n0 := ρ 4) (n1 := ρ 3) (n2 := ρ 2) (n3 := ρ 1) (n4 := ρ 0) (n5 := ρ 5) (n6 := ρ 6) (n7 := ρ 7) (n8 := ρ 8) (n9 := ρ 9) (n10 := ρ 10) (H0 := η 0) (H1 := η 1) (H2 := η 2) (H3 := η 3) f31 f30 f29 f28 f27 f26 f25 f24 f23 f22 f21 f20 f19 f18 f17 f16 f15 f14 f13 f12 f11 f10 f9 f8 f7 f6 f5 f4 f3 f2 f1 f0
theorem q_72vw_3 {q0 : Nat} {n0 n1 n2 n3 n4 n5 n6 n7 n8 n9 n10 n11 n12 : Int} {H0 H1 H2 H3 H4 : gH} (f0 : n0 ≤ 2147483647) (f1 : (-2147483648) ≤ n0) (f2 : n1 ≤ 2147483647) (f3 : (-2147483648) ≤ n1) (f4 : n2 ≤ 2147483647) (f5 : (-2147483648) ≤ n2) (f6 : n3 = 30) (f7 : n4 = 30) (f8 : (hLe T0 H0 H1 ∧ hFr s_72v.2.2.2.2 H0 H1 ∧ hWt T0 H1) ∧ ((Ab_72v_6 n4 n3 n2 n1 n0 H0 H1 ∧ Bb_72_6 n4 n3 n2 n1 n0 H0 H1) ∧ preb_72v n4 H0) ∧ some q0 = some (mub_72v_6 n4 n3 n2 n1 n0 H0 H1)) (f9 : n5 = 16) (f10 : n0 ≤ n5) (f11 : n6 ≤ 2147483647) (f12 : (-2147483648) ≤ n6) (f13 : hK H1 (n3).toNat = 4) (f14 : n6 = hV H1 (n3).toNat 3) (f15 : n6 = 0) (f16 : n7 ≤ 2147483647) (f17 : (-2147483648) ≤ n7) (f18 : hK H1 (n3).toNat = 4) (f19 : n7 = hV H1 (n3).toNat 2) (f20 : n8 ≤ 1) (f21 : 0 ≤ n8) (f22 : (hLe T0 H1 H2 ∧ hFr s_73v.2.2.2.2 H1 H2 ∧ ((0 : Int) = 0 → H2.length = H1.length) ∧ hWt T0 H2) ∧ postb_73v n8 n7 H1 H2) (f23 : n8 = 0) (f24 : n9 = 46) (f25 : hK H2 (n3).toNat = 4) (f26 : n9 = hV H2 (n3).toNat 10) (f27 : n10 ≤ 2147483647) (f28 : (-2147483648) ≤ n10) (f29 : hK H2 (n3).toNat = 4) (f30 : n10 = hV H2 (n3).toNat 13) (f31 : (hLe T0 H2 H3 ∧ hFr s_201vk740.2.2.2.2 H2 H3 ∧ ((0 : Int) = 0 → H3.length = H2.length) ∧ hWt T0 H3) ∧ postb_201vk740 n9 n10 n2 H2 H3) (f32 : n11 = 47) (f33 : hK H3 (n3).toNat = 4) (f34 : n11 = hV H3 (n3).toNat 11) (f35 : n12 ≤ 2147483647) (f36 : (-2147483648) ≤ n12) (f37 : hK H3 (n3).toNat = 4) (f38 : n12 = hV H3 (n3).toNat 13) (f39 : (hLe T0 H3 H4 ∧ hFr s_201vk740.2.2.2.2 H3 H4 ∧ ((0 : Int) = 0 → H4.length = H3.length) ∧ hWt T0 H4) ∧ postb_201vk740 n11 n12 n1 H3 H4) : nb_72 n4 H0 H4 := by
  unfold nb_72
  intro ck
  have pz := f8.2.1.2
  unfold preb_72v at pz
  have ga := f8.2.1.1.1
  unfold Ab_72v_6 at ga
  have vz : vwC H1 = vwC H0 := vwC_fr f8.1.2.1 (by decide +kernel)
  obtain ⟨kz, bz, blz, b13, cz_, b48, x10, x116, x30, x317, x13, ya, yt⟩ := ga
  have gb := f8.2.1.1.2
  unfold Bb_72_6 at gb
  obtain ⟨gq, g46, g47, gl⟩ := gb ck
  have ck1 := CK_fr f8.1.1 f8.1.2.1 (by decide +kernel) ck
  have y2 := pz.2.1.2.1
  have y3 := pz.2.1.2.2.1
  have r3 := f14
  rw [f6] at r3
  rw [show ((30 : Int)).toNat = 30 from rfl] at r3
  have r2 := f19
  rw [f6] at r2
  rw [show ((30 : Int)).toNat = 30 from rfl] at r2
  have pc := f22.2
  unfold postb_73v at pc
  have s0 := PF_fr f22.1.1 f22.1.2.1 (by decide +kernel) kz
  have a0 : absC H2 = (absC H1) := s0.1
  have v0 : vwC H2 = vwC H0 := (vwC_fr f22.1.2.1 (by decide +kernel)).trans vz
  have u0 := CU_fr f22.1.1 f22.1.2.1 (by decide +kernel) cz_
  have d0 := BI_fr f22.1.1 f22.1.2.1 (by decide +kernel) bz
  have j0 : BLc H2 = BLc H0 := d0.2.trans blz
  have s1 := PF_fr f31.1.1 f31.1.2.1 (by decide +kernel) s0.2.2
  have a1 : absC H3 = (absC H1) := s1.1.trans a0
  have v1 : vwC H3 = vwC H0 := (vwC_fr f31.1.2.1 (by decide +kernel)).trans v0
  have u1 := CU_fr f31.1.1 f31.1.2.1 (by decide +kernel) u0
  have pp1 := f31.2
  unfold postb_201vk740 at pp1
  rw [f24] at pp1
  have d1 := BI_put46 f31.1.1 f31.1.2.1 (by decide +kernel) d0.1 pp1
  have j1 : BLc H3 = BLc H0 := d1.2.1.trans j0
  have s2 := PF_fr f39.1.1 f39.1.2.1 (by decide +kernel) s1.2.2
  have a2 : absC H4 = (absC H1) := s2.1.trans a1
  have v2 : vwC H4 = vwC H0 := (vwC_fr f39.1.2.1 (by decide +kernel)).trans v1
  have u2 := CU_fr f39.1.1 f39.1.2.1 (by decide +kernel) u1
  have pp2 := f39.2
  unfold postb_201vk740 at pp2
  rw [f32] at pp2
  have rp2 := f38
  rw [f6] at rp2
  rw [show ((30 : Int)).toNat = 30 from rfl] at rp2
  rw [rp2] at pp2
  have d2 := BI_put47 f39.1.1 f39.1.2.1 (by decide +kernel) d1.1 pp2
  have j2 : BLc H4 = BLc H0 := d2.2.1.trans j1
  have q1 := f30
  rw [f6] at q1
  rw [show ((30 : Int)).toNat = 30 from rfl] at q1
  have q2 := f38
  rw [f6] at q2
  rw [show ((30 : Int)).toNat = 30 from rfl] at q2
  have t1 : hV H2 30 13 = hV H1 30 13 := f22.1.2.1.1 30 13 (by decide +kernel)
  have t2 : hV H3 30 13 = hV H1 30 13 := (d1.2.2.1).trans (f22.1.2.1.1 30 13 (by decide +kernel))
  have pa := f31.2
  unfold postb_201vk740 at pa
  rw [f24] at pa
  have pb := f39.2
  unfold postb_201vk740 at pb
  rw [f32] at pb
  have ck2 := (CK_fr f22.1.1 f22.1.2.1 (by decide +kernel) ck1)
  have n46 := ck2.2.2
  have n47 : hN H3 47 = 7 := d1.1.1.2.2.2
  have e46 : hV H3 46 = uF (hV H0 46) (hV H0 30 13) n2 := by
    have w := putQ_rowN (q := 46) pa (by omega) (by rw [n46]; omega)
    rw [show n10 = hV H0 30 13 by omega, show hV H2 46 = hV H0 46 from (fRow f22.1.2.1 46 (by decide +kernel)).trans g46] at w
    exact w
  have e47 : hV H4 47 = uF (hV H0 47) (hV H0 30 13) n1 := by
    have w := putQ_rowN (q := 47) pb (by omega) (by rw [n47]; omega)
    rw [show n12 = hV H0 30 13 by omega, show hV H3 47 = hV H0 47 from (putQ_o (q := 46) pa (by decide)).trans ((fRow f22.1.2.1 47 (by decide +kernel)).trans g47)] at w
    exact w
  have x46 : hV H4 46 = uF (hV H0 46) (hV H0 30 13) n2 := (putQ_o (q := 47) pb (by decide)).trans e46
  have co : CUo H1 H4 (-1) := (CUo_tr (CUo_fr f22.1.1 f22.1.2.1 (by decide +kernel)) (CUo_tr (CUo_fr f31.1.1 f31.1.2.1 (by decide +kernel)) (CUo_fr f39.1.1 f39.1.2.1 (by decide +kernel))))
  have t3 : hV H4 30 3 = hV H1 30 3 := (f39.1.2.1.1 30 3 (by decide +kernel)).trans ((f31.1.2.1.1 30 3 (by decide +kernel)).trans (f22.1.2.1.1 30 3 (by decide +kernel)))
  refine ⟨CUq_tr gq (fun o ho => ⟨(co o ho).1, fun _ => (co o ho).2 (by omega)⟩), fun i hi => ⟨by rw [x46, uF_at, if_neg hi], by rw [e47, uF_at, if_neg hi]⟩, fun z b hb => ?_, fun hf => ?_⟩
  · rw [x46, uF_at]
    by_cases c : (b : Int) = hV H0 30 13
    · rw [if_pos c]
      omega
    · rw [if_neg c]
      exact z b hb
  have st : pDr (vwC H0) (BLc H0) (16 - (n2).toNat) (absC H1) = [] := by
    refine pDr_stop ?_
    have kd := kd_at kz
    rw [vz] at kd
    rcases kd with q | q
    · rw [vwC_ok H0 _ q]
      omega
    · rw [q]
      omega
  have gl := gl (by omega)
  rw [st, List.append_nil] at gl
  have e : hV H4 46 (hV H0 30 13).toNat = n2 := by rw [x46, uF_at, if_pos (by omega)]
  rw [e]
  refine ⟨by omega, by omega, ?_⟩
  rw [← gl]
  exact lsC_eq (fun k hk s => (co _ (C45_k ck1.1 cz_ (by omega) (by omega))).2 (by omega) s)
def g_72vw_6_2 : vG := ([(1201, [11, 12, 3], [3, 4], 0), (20, [12, 1], [3], 13), (23, [1], [3], 4), (90, [12], [], -2147483648), (91, [12], [], 2147483647), (20, [11, 1], [3], 11), (23, [1], [3], 4), (0, [11], [], 47), (1201, [9, 10, 2], [2, 3], 0), (20, [10, 1], [2], 13), (23, [1], [2], 4), (90, [10], [], -2147483648), (91, [10], [], 2147483647), (20, [9, 1], [2], 10), (23, [1], [2], 4), (0, [9], [], 46), (30, [8], [], 0), (1073, [8, 7], [1, 2], 0), (90, [8], [], 0), (91, [8], [], 1), (20, [7, 1], [1], 2), (23, [1], [1], 4), (90, [7], [], -2147483648), (91, [7], [], 2147483647), (30, [6], [], 0), (20, [6, 1], [1], 3), (23, [1], [1], 4), (90, [6], [], -2147483648), (91, [6], [], 2147483647), (45, [4, 5], [], 0), (0, [5], [], 16), (5000, [0, 1, 2, 3, 4], [0, 1], 6), (0, [0], [], 30), (0, [1], [], 30), (90, [2], [], -2147483648), (91, [2], [], 2147483647), (90, [3], [], -2147483648), (91, [3], [], 2147483647), (90, [4], [], -2147483648), (91, [4], [], 2147483647)], (3000, [], [4], 248))
theorem c_72vw_6_2 {q0 : Nat} : vOkm T0 (eN e_72v L_72vw A_72v mu_72v n_72 B_72 (some q0)) 1 g_72vw_6_2 := vOk_inI fun ρ η f0 f1 f2 f3 f4 f5 f6 f7 f8 f9 f10 f11 f12 f13 f14 f15 f16 f17 f18 f19 f20 f21 f22 f23 f24 f25 f26 f27 f28 f29 f30 f31 f32 f33 f34 f35 f36 f37 f38 f39 => q_72vw_3 (q0 := q0) (n0 := ρ 4) (n1 := ρ 3) (n2 := ρ 2) (n3 := ρ 1) (n4 := ρ 0) (n5 := ρ 5) (n6 := ρ 6) (n7 := ρ 7) (n8 := ρ 8) (n9 := ρ 9) (n10 := ρ 10) (n11 := ρ 11) (n12 := ρ 12) (H0 := η 0) (H1 := η 1) (H2 := η 2) (H3 := η 3) (H4 := η 4) f39 f38 f37 f36 f35 f34 f33 f32 f31 f30 f29 f28 f27 f26 f25 f24 f23 f22 f21 f20 f19 f18 f17 f16 f15 f14 f13 f12 f11 f10 f9 f8 f7 f6 f5 f4 f3 f2 f1 f0
theorem q_72vw_4 {q0 : Nat} {n0 n1 n2 n3 n4 n5 n6 n7 n8 n9 n10 n11 n12 : Int} {H0 H1 H2 H3 H4 : gH} (f0 : n0 ≤ 2147483647) (f1 : (-2147483648) ≤ n0) (f2 : n1 ≤ 2147483647) (f3 : (-2147483648) ≤ n1) (f4 : n2 ≤ 2147483647) (f5 : (-2147483648) ≤ n2) (f6 : n3 = 30) (f7 : n4 = 30) (f8 : (hLe T0 H0 H1 ∧ hFr s_72v.2.2.2.2 H0 H1 ∧ hWt T0 H1) ∧ ((Ab_72v_6 n4 n3 n2 n1 n0 H0 H1 ∧ Bb_72_6 n4 n3 n2 n1 n0 H0 H1) ∧ preb_72v n4 H0) ∧ some q0 = some (mub_72v_6 n4 n3 n2 n1 n0 H0 H1)) (f9 : n5 = 16) (f10 : n0 ≤ n5) (f11 : n6 ≤ 2147483647) (f12 : (-2147483648) ≤ n6) (f13 : hK H1 (n3).toNat = 4) (f14 : n6 = hV H1 (n3).toNat 3) (f15 : n6 = 0) (f16 : n7 ≤ 2147483647) (f17 : (-2147483648) ≤ n7) (f18 : hK H1 (n3).toNat = 4) (f19 : n7 = hV H1 (n3).toNat 2) (f20 : n8 ≤ 1) (f21 : 0 ≤ n8) (f22 : (hLe T0 H1 H2 ∧ hFr s_73v.2.2.2.2 H1 H2 ∧ ((0 : Int) = 0 → H2.length = H1.length) ∧ hWt T0 H2) ∧ postb_73v n8 n7 H1 H2) (f23 : n8 ≠ 0) (f24 : n9 ≤ 2147483647) (f25 : (-2147483648) ≤ n9) (f26 : hK H2 (n3).toNat = 4) (f27 : n9 = hV H2 (n3).toNat 13) (f28 : (hLe T0 H2 H3 ∧ hFr s_74v.2.2.2.2 H2 H3 ∧ ((0 : Int) = 0 → H3.length = H2.length) ∧ hWt T0 H3) ∧ (postb_74v n10 n3 n9 n2 H2 H3 ∧ nb_74 n10 n3 n9 n2 H2 H3)) (f29 : n10 = -1) (f30 : n11 = 2) (f31 : (hLe T0 H3 H4 ∧ hFr s_64v.2.2.2.2 H3 H4 ∧ ((0 : Int) = 0 → H4.length = H3.length) ∧ hWt T0 H4) ∧ postb_64v n3 n11 H3 H4) (f32 : n12 = w32 (n0 + 1)) : Bb_72_6 n4 n3 n2 n1 n12 H0 H4 := by
  unfold Bb_72_6
  intro ck
  have pz := f8.2.1.2
  unfold preb_72v at pz
  have ga := f8.2.1.1.1
  unfold Ab_72v_6 at ga
  have vz : vwC H1 = vwC H0 := vwC_fr f8.1.2.1 (by decide +kernel)
  obtain ⟨kz, bz, blz, b13, cz_, b48, x10, x116, x30, x317, x13, ya, yt⟩ := ga
  have gb := f8.2.1.1.2
  unfold Bb_72_6 at gb
  obtain ⟨gq, g46, g47, gl⟩ := gb ck
  have ck1 := CK_fr f8.1.1 f8.1.2.1 (by decide +kernel) ck
  have y2 := pz.2.1.2.1
  have y3 := pz.2.1.2.2.1
  have r3 := f14
  rw [f6] at r3
  rw [show ((30 : Int)).toNat = 30 from rfl] at r3
  have r2 := f19
  rw [f6] at r2
  rw [show ((30 : Int)).toNat = 30 from rfl] at r2
  have pc := f22.2
  unfold postb_73v at pc
  have s0 := PF_fr f22.1.1 f22.1.2.1 (by decide +kernel) kz
  have a0 : absC H2 = (absC H1) := s0.1
  have v0 : vwC H2 = vwC H0 := (vwC_fr f22.1.2.1 (by decide +kernel)).trans vz
  have u0 := CU_fr f22.1.1 f22.1.2.1 (by decide +kernel) cz_
  have d0 := BI_fr f22.1.1 f22.1.2.1 (by decide +kernel) bz
  have j0 : BLc H2 = BLc H0 := d0.2.trans blz
  have s1 := PF_fr f28.1.1 f28.1.2.1 (by decide +kernel) s0.2.2
  have a1 : absC H3 = (absC H1) := s1.1.trans a0
  have v1 : vwC H3 = vwC H0 := (vwC_fr f28.1.2.1 (by decide +kernel)).trans v0
  have u1 := CU_fr f28.1.1 f28.1.2.1 (by decide +kernel) u0
  have d1 := BI_fr f28.1.1 f28.1.2.1 (by decide +kernel) d0.1
  have j1 : BLc H3 = BLc H0 := d1.2.trans j0
  have c2 := f31.2
  unfold postb_64v at c2
  try rw [f30] at c2
  rw [v1] at c2
  rw [a1] at c2
  have a2 : absC H4 = (pfail (vwC H0) 2 (absC H1)) := c2.2
  have v2 : vwC H4 = vwC H0 := (vwC_fr f31.1.2.1 (by decide +kernel)).trans v1
  have u2 := CU_fr f31.1.1 f31.1.2.1 (by decide +kernel) u1
  have d2 := BI_fr f31.1.1 f31.1.2.1 (by decide +kernel) d1.1
  have j2 : BLc H4 = BLc H0 := d2.2.trans j1
  have hn : (absC H4).1 < 0 := by
    rw [a2]
    exact pfail_lt pz.1 (by decide)
  have ff := fault_of c2.1 hn
  have co : CUo H1 H4 (-1) := (CUo_tr (CUo_fr f22.1.1 f22.1.2.1 (by decide +kernel)) (CUo_tr (CUo_fr f28.1.1 f28.1.2.1 (by decide +kernel)) (CUo_fr f31.1.1 f31.1.2.1 (by decide +kernel))))
  exact ⟨CUq_tr gq (fun o ho => ⟨(co o ho).1, fun _ => (co o ho).2 (by omega)⟩), ((fRow f31.1.2.1 46 (by decide +kernel)).trans ((fRow f28.1.2.1 46 (by decide +kernel)).trans (fRow f22.1.2.1 46 (by decide +kernel)))).trans g46, ((fRow f31.1.2.1 47 (by decide +kernel)).trans ((fRow f28.1.2.1 47 (by decide +kernel)).trans (fRow f22.1.2.1 47 (by decide +kernel)))).trans g47, fun hf => absurd hf ff⟩
def g_72vw_6_3 : vG := ([(10, [12, 4], [], 1), (1064, [1, 11], [3, 4], 0), (0, [11], [], 2), (50, [10], [], 0), (1074, [10, 1, 9, 2], [2, 3], 0), (20, [9, 1], [2], 13), (23, [1], [2], 4), (90, [9], [], -2147483648), (91, [9], [], 2147483647), (31, [8], [], 0), (1073, [8, 7], [1, 2], 0), (90, [8], [], 0), (91, [8], [], 1), (20, [7, 1], [1], 2), (23, [1], [1], 4), (90, [7], [], -2147483648), (91, [7], [], 2147483647), (30, [6], [], 0), (20, [6, 1], [1], 3), (23, [1], [1], 4), (90, [6], [], -2147483648), (91, [6], [], 2147483647), (45, [4, 5], [], 0), (0, [5], [], 16), (5000, [0, 1, 2, 3, 4], [0, 1], 6), (0, [0], [], 30), (0, [1], [], 30), (90, [2], [], -2147483648), (91, [2], [], 2147483647), (90, [3], [], -2147483648), (91, [3], [], 2147483647), (90, [4], [], -2147483648), (91, [4], [], 2147483647)], (4000, [1, 2, 3, 12], [4], 6))
theorem c_72vw_6_3 {q0 : Nat} : vOkm T0 (eN e_72v L_72vw A_72v mu_72v n_72 B_72 (some q0)) 1 g_72vw_6_3 := vOk_inI fun ρ η f0 f1 f2 f3 f4 f5 f6 f7 f8 f9 f10 f11 f12 f13 f14 f15 f16 f17 f18 f19 f20 f21 f22 f23 f24 f25 f26 f27 f28 f29 f30 f31 f32 => q_72vw_4 (q0 := q0) (n0 := ρ 4) (n1 := ρ 3) (n2 := ρ 2) (n3 := ρ 1) (n4 := ρ 0) (n5 := ρ 5) (n6 := ρ 6) (n7 := ρ 7) (n8 := ρ 8) (n9 := ρ 9) (n10 := ρ 10) (n11 := ρ 11) (n12 := ρ 12) (H0 := η 0) (H1 := η 1) (H2 := η 2) (H3 := η 3) (H4 := η 4) f32 f31 f30 f29 f28 f27 f26 f25 f24 f23 f22 f21 f20 f19 f18 f17 f16 f15 f14 f13 f12 f11 f10 f9 f8 f7 f6 f5 f4 f3 f2 f1 f0
theorem q_72vw_5 {q0 : Nat} {n0 n1 n2 n3 n4 n5 n6 n7 n8 n9 n10 n11 n12 n13 n14 n15 n16 n17 n18 n19 n20 n21 n22 n23 n24 n25 : Int} {H0 H1 H2 H3 H4 H5 H6 H7 H8 : gH} (f0 : n0 ≤ 2147483647) (f1 : (-2147483648) ≤ n0) (f2 : n1 ≤ 2147483647) (f3 : (-2147483648) ≤ n1) (f4 : n2 ≤ 2147483647) (f5 : (-2147483648) ≤ n2) (f6 : n3 = 30) (f7 : n4 = 30) (f8 : (hLe T0 H0 H1 ∧ hFr s_72v.2.2.2.2 H0 H1 ∧ hWt T0 H1) ∧ ((Ab_72v_6 n4 n3 n2 n1 n0 H0 H1 ∧ Bb_72_6 n4 n3 n2 n1 n0 H0 H1) ∧ preb_72v n4 H0) ∧ some q0 = some (mub_72v_6 n4 n3 n2 n1 n0 H0 H1)) (f9 : n5 = 16) (f10 : n0 ≤ n5) (f11 : n6 ≤ 2147483647) (f12 : (-2147483648) ≤ n6) (f13 : hK H1 (n3).toNat = 4) (f14 : n6 = hV H1 (n3).toNat 3) (f15 : n6 = 0) (f16 : n7 ≤ 2147483647) (f17 : (-2147483648) ≤ n7) (f18 : hK H1 (n3).toNat = 4) (f19 : n7 = hV H1 (n3).toNat 2) (f20 : n8 ≤ 1) (f21 : 0 ≤ n8) (f22 : (hLe T0 H1 H2 ∧ hFr s_73v.2.2.2.2 H1 H2 ∧ ((0 : Int) = 0 → H2.length = H1.length) ∧ hWt T0 H2) ∧ postb_73v n8 n7 H1 H2) (f23 : n8 ≠ 0) (f24 : n9 ≤ 2147483647) (f25 : (-2147483648) ≤ n9) (f26 : hK H2 (n3).toNat = 4) (f27 : n9 = hV H2 (n3).toNat 13) (f28 : (hLe T0 H2 H3 ∧ hFr s_74v.2.2.2.2 H2 H3 ∧ ((0 : Int) = 0 → H3.length = H2.length) ∧ hWt T0 H3) ∧ (postb_74v n10 n3 n9 n2 H2 H3 ∧ nb_74 n10 n3 n9 n2 H2 H3)) (f29 : 0 ≤ n10) (f30 : n11 ≤ 2147483647) (f31 : (-2147483648) ≤ n11) (f32 : hK H3 (n3).toNat = 4) (f33 : n11 = hV H3 (n3).toNat 2) (f34 : n12 = 20) (f35 : n13 = w32 (n11 - n12)) (f36 : n14 = 31) (f37 : hK H3 (n3).toNat = 4) (f38 : n14 = hV H3 (n3).toNat 0) (f39 : n15 ≤ 2147483647) (f40 : (-2147483648) ≤ n15) (f41 : hK H3 (n3).toNat = 4) (f42 : n15 = hV H3 (n3).toNat 1) (f43 : n16 ≤ 2147483647) (f44 : (-2147483648) ≤ n16) (f45 : (hLe T0 H3 H4 ∧ hFr s_124.2.2.2.2 H3 H4 ∧ ((0 : Int) = 0 → H4.length = H3.length) ∧ hWt T0 H4) ∧ postb_124x n16 n14 n15 H3 H4) (f46 : (hLe T0 H4 H5 ∧ hFr s_24v.2.2.2.2 H4 H5 ∧ ((0 : Int) = 0 → H5.length = H4.length) ∧ hWt T0 H5) ∧ (postb_24v n10 n13 n16 H4 H5 ∧ nb_24 n10 n13 n16 H4 H5)) (f47 : n17 ≤ 2147483647) (f48 : (-2147483648) ≤ n17) (f49 : hK H5 (n3).toNat = 4) (f50 : n17 = hV H5 (n3).toNat 2) (f51 : (hLe T0 H5 H6 ∧ hFr s_66v.2.2.2.2 H5 H6 ∧ ((0 : Int) = 0 → H6.length = H5.length) ∧ hWt T0 H6) ∧ postb_66v n3 n17 H5 H6) (f52 : n18 ≤ 2147483647) (f53 : (-2147483648) ≤ n18) (f54 : hK H6 (n10).toNat = 1) (f55 : n18 = hV H6 (n10).toNat 0) (f56 : n18 < 0) (f57 : (hLe T0 H6 H7 ∧ hFr s_80v.2.2.2.2 H6 H7 ∧ ((0 : Int) = 0 → H7.length = H6.length) ∧ hWt T0 H7) ∧ (postb_80v n3 n10 H6 H7 ∧ nb_80 n3 n10 H6 H7)) (f58 : n19 = 4) (f59 : (hLe T0 H7 H8 ∧ hFr s_66v.2.2.2.2 H7 H8 ∧ ((0 : Int) = 0 → H8.length = H7.length) ∧ hWt T0 H8) ∧ postb_66v n3 n19 H7 H8) (f60 : n20 = w32 (n2 + 1)) (f61 : n21 ≤ 2147483647) (f62 : (-2147483648) ≤ n21) (f63 : hK H8 (n10).toNat = 1) (f64 : n21 = hV H8 (n10).toNat 0) (f65 : n22 = 5) (f66 : n21 ≠ n22) (f67 : n23 = 1) (f68 : n24 = w32 (n1 + n23)) (f69 : n25 = w32 (n0 + 1)) : Bb_72_6 n4 n3 n20 n24 n25 H0 H8 := by
  unfold Bb_72_6
  intro ck
  have pz := f8.2.1.2
  unfold preb_72v at pz
  have ga := f8.2.1.1.1
  unfold Ab_72v_6 at ga
  have vz : vwC H1 = vwC H0 := vwC_fr f8.1.2.1 (by decide +kernel)
  obtain ⟨kz, bz, blz, b13, cz_, b48, x10, x116, x30, x317, x13, ya, yt⟩ := ga
  have gb := f8.2.1.1.2
  unfold Bb_72_6 at gb
  obtain ⟨gq, g46, g47, gl⟩ := gb ck
  have ck1 := CK_fr f8.1.1 f8.1.2.1 (by decide +kernel) ck
  have y2 := pz.2.1.2.1
  have y3 := pz.2.1.2.2.1
  have r3 := f14
  rw [f6] at r3
  rw [show ((30 : Int)).toNat = 30 from rfl] at r3
  have r2 := f19
  rw [f6] at r2
  rw [show ((30 : Int)).toNat = 30 from rfl] at r2
  have pc := f22.2
  unfold postb_73v at pc
  have cq := f28.2.1
  unfold postb_74v at cq
  have cq2 := cq.2
  have x16 : n2 < 16 := by
    rcases Int.lt_or_le n2 16 with w | w
    · omega
    · have := cq2 w
      omega
  have rb := f27
  rw [f6] at rb
  rw [show ((30 : Int)).toNat = 30 from rfl] at rb
  have t13 : hV H2 30 13 = hV H1 30 13 := f22.1.2.1.1 30 13 (by decide +kernel)
  have cw := f28.2.2
  unfold nb_74 at cw
  have cw := cw (CK_fr f22.1.1 f22.1.2.1 (by decide +kernel) ck1).1 (by omega) (by omega) (by omega)
  have ce : n10 = ((cuP (hV H0 30 13).toNat (n2).toNat : Nat) : Int) := by
    unfold cuP
    omega
  have cz : 0 ≤ n10 := by omega
  have hk1 : hK H1 (n10).toNat = 1 := by
    rw [ce, Int.toNat_natCast]
    exact C45_k ck1.1 cz_ (by omega) (by omega)
  have kc0 : hK H2 (n10).toNat = 1 := kLe f22.1.1 hk1 rfl
  have kc1 : hK H3 (n10).toNat = 1 := kLe f28.1.1 kc0 rfl
  have kc2 : hK H4 (n10).toNat = 1 := kLe f45.1.1 kc1 rfl
  have kc3 : hK H5 (n10).toNat = 1 := kLe f46.1.1 kc2 rfl
  have ow46 := f46.2.2
  unfold nb_24 at ow46
  have ow46 := ow46 kc2 cz
  have kc4 : hK H6 (n10).toNat = 1 := kLe f51.1.1 kc3 rfl
  have kc5 : hK H7 (n10).toNat = 1 := kLe f57.1.1 kc4 rfl
  have ow57 := f57.2.2
  unfold nb_80 at ow57
  have ow57 := ow57 kc4 cz
  try rw [f6] at ow57
  have kc6 : hK H8 (n10).toNat = 1 := kLe f59.1.1 kc5 rfl
  have s0 := PF_fr f22.1.1 f22.1.2.1 (by decide +kernel) kz
  have a0 : absC H2 = (absC H1) := s0.1
  have v0 : vwC H2 = vwC H0 := (vwC_fr f22.1.2.1 (by decide +kernel)).trans vz
  have u0 := CU_fr f22.1.1 f22.1.2.1 (by decide +kernel) cz_
  have d0 := BI_fr f22.1.1 f22.1.2.1 (by decide +kernel) bz
  have j0 : BLc H2 = BLc H0 := d0.2.trans blz
  have s1 := PF_fr f28.1.1 f28.1.2.1 (by decide +kernel) s0.2.2
  have a1 : absC H3 = (absC H1) := s1.1.trans a0
  have v1 : vwC H3 = vwC H0 := (vwC_fr f28.1.2.1 (by decide +kernel)).trans v0
  have u1 := CU_fr f28.1.1 f28.1.2.1 (by decide +kernel) u0
  have d1 := BI_fr f28.1.1 f28.1.2.1 (by decide +kernel) d0.1
  have j1 : BLc H3 = BLc H0 := d1.2.trans j0
  have s2 := PF_fr f45.1.1 f45.1.2.1 (by decide +kernel) s1.2.2
  have a2 : absC H4 = (absC H1) := s2.1.trans a1
  have v2 : vwC H4 = vwC H0 := (vwC_fr f45.1.2.1 (by decide +kernel)).trans v1
  have u2 := CU_fr f45.1.1 f45.1.2.1 (by decide +kernel) u1
  have d2 := BI_fr f45.1.1 f45.1.2.1 (by decide +kernel) d1.1
  have j2 : BLc H4 = BLc H0 := d2.2.trans j1
  have s3 := PF_fr f46.1.1 f46.1.2.1 (by decide +kernel) s2.2.2
  have a3 : absC H5 = (absC H1) := s3.1.trans a2
  have v3 : vwC H5 = vwC H0 := (vwC_fr f46.1.2.1 (by decide +kernel)).trans v2
  have u3 := CU_fr f46.1.1 f46.1.2.1 (by decide +kernel) u2
  have d3 := BI_fr f46.1.1 f46.1.2.1 (by decide +kernel) d2.1
  have j3 : BLc H5 = BLc H0 := d3.2.trans j2
  have c4 := f51.2
  unfold postb_66v at c4
  rw [v3] at c4
  rw [a3] at c4
  have a4 : absC H6 = (ptk (vwC H0) n17 (absC H1)) := c4.2
  have v4 : vwC H6 = vwC H0 := (vwC_fr f51.1.2.1 (by decide +kernel)).trans v3
  have u4 := CU_fr f51.1.1 f51.1.2.1 (by decide +kernel) u3
  have d4 := BI_fr f51.1.1 f51.1.2.1 (by decide +kernel) d3.1
  have j4 : BLc H6 = BLc H0 := d4.2.trans j3
  have c5 := f57.2.1
  unfold postb_80v at c5
  rw [v4] at c5
  rw [a4] at c5
  rw [j4] at c5
  have a5 : absC H7 = (pUse (vwC H0) (BLc H0) (ptk (vwC H0) n17 (absC H1))) := c5.2.1
  have v5 : vwC H7 = vwC H0 := (vwC_fr f57.1.2.1 (by decide +kernel)).trans v4
  have u5 := CU_fr f57.1.1 f57.1.2.1 (by decide +kernel) u4
  have j5 : BLc H7 = BLc H0 := c5.2.2.2.1
  have c6 := f59.2
  unfold postb_66v at c6
  try rw [f58] at c6
  rw [v5] at c6
  rw [a5] at c6
  have a6 : absC H8 = (ptk (vwC H0) 4 (pUse (vwC H0) (BLc H0) (ptk (vwC H0) n17 (absC H1)))) := c6.2
  have v6 : vwC H8 = vwC H0 := (vwC_fr f59.1.2.1 (by decide +kernel)).trans v5
  have u6 := CU_fr f59.1.1 f59.1.2.1 (by decide +kernel) u5
  have d6 := BI_fr f59.1.1 f59.1.2.1 (by decide +kernel) c5.2.2.1
  have j6 : BLc H8 = BLc H0 := d6.2.trans j5
  have kq0 : n18 = n13 := f55.trans ((fr1 f51.1.2.1 (by decide +kernel) kc3 0).trans (ow46.2.1))
  have kq1 : n21 = n13 := f64.trans ((fr1 f59.1.2.1 (by decide +kernel) kc5 0).trans ((ow57.2.1 0 (by decide) (by decide) (by decide)).trans ((fr1 f51.1.2.1 (by decide +kernel) kc3 0).trans (ow46.2.1))))
  have rz0 := f33
  rw [f6] at rz0
  rw [show ((30 : Int)).toNat = 30 from rfl] at rz0
  have tz0 : hV H3 30 2 = hV H1 30 2 := (f28.1.2.1.1 30 2 (by decide +kernel)).trans (f22.1.2.1.1 30 2 (by decide +kernel))
  have rz1 := f50
  rw [f6] at rz1
  rw [show ((30 : Int)).toNat = 30 from rfl] at rz1
  have tz1 : hV H5 30 2 = hV H1 30 2 := (f46.1.2.1.1 30 2 (by decide +kernel)).trans ((f45.1.2.1.1 30 2 (by decide +kernel)).trans ((f28.1.2.1.1 30 2 (by decide +kernel)).trans (f22.1.2.1.1 30 2 (by decide +kernel))))
  have wq35 := f35
  unfold w32 at wq35
  have wq60 := f60
  unfold w32 at wq60
  have wq68 := f68
  unfold w32 at wq68
  have wq69 := f69
  unfold w32 at wq69
  exfalso
  omega
def g_72vw_6_4 : vG := ([(10, [25, 4], [], 1), (1, [24, 3, 23], [], 0), (0, [23], [], 1), (41, [21, 22], [], 0), (0, [22], [], 5), (20, [21, 10], [8], 0), (23, [10], [8], 1), (90, [21], [], -2147483648), (91, [21], [], 2147483647), (10, [20, 2], [], 1), (1066, [1, 19], [7, 8], 0), (0, [19], [], 4), (1080, [1, 10], [6, 7], 0), (66, [18], [], 0), (20, [18, 10], [6], 0), (23, [10], [6], 1), (90, [18], [], -2147483648), (91, [18], [], 2147483647), (1066, [1, 17], [5, 6], 0), (20, [17, 1], [5], 2), (23, [1], [5], 4), (90, [17], [], -2147483648), (91, [17], [], 2147483647), (1024, [10, 13, 16], [4, 5], 0), (1124, [16, 14, 15], [3, 4], 0), (90, [16], [], -2147483648), (91, [16], [], 2147483647), (20, [15, 1], [3], 1), (23, [1], [3], 4), (90, [15], [], -2147483648), (91, [15], [], 2147483647), (20, [14, 1], [3], 0), (23, [1], [3], 4), (0, [14], [], 31), (2, [13, 11, 12], [], 0), (0, [12], [], 20), (20, [11, 1], [3], 2), (23, [1], [3], 4), (90, [11], [], -2147483648), (91, [11], [], 2147483647), (51, [10], [], 0), (1074, [10, 1, 9, 2], [2, 3], 0), (20, [9, 1], [2], 13), (23, [1], [2], 4), (90, [9], [], -2147483648), (91, [9], [], 2147483647), (31, [8], [], 0), (1073, [8, 7], [1, 2], 0), (90, [8], [], 0), (91, [8], [], 1), (20, [7, 1], [1], 2), (23, [1], [1], 4), (90, [7], [], -2147483648), (91, [7], [], 2147483647), (30, [6], [], 0), (20, [6, 1], [1], 3), (23, [1], [1], 4), (90, [6], [], -2147483648), (91, [6], [], 2147483647), (45, [4, 5], [], 0), (0, [5], [], 16), (5000, [0, 1, 2, 3, 4], [0, 1], 6), (0, [0], [], 30), (0, [1], [], 30), (90, [2], [], -2147483648), (91, [2], [], 2147483647), (90, [3], [], -2147483648), (91, [3], [], 2147483647), (90, [4], [], -2147483648), (91, [4], [], 2147483647)], (4000, [1, 20, 24, 25], [8], 6))
theorem c_72vw_6_4 {q0 : Nat} : vOkm T0 (eN e_72v L_72vw A_72v mu_72v n_72 B_72 (some q0)) 1 g_72vw_6_4 := vOk_inI fun ρ η f0 f1 f2 f3 f4 f5 f6 f7 f8 f9 f10 f11 f12 f13 f14 f15 f16 f17 f18 f19 f20 f21 f22 f23 f24 f25 f26 f27 f28 f29 f30 f31 f32 f33 f34 f35 f36 f37 f38 f39 f40 f41 f42 f43 f44 f45 f46 f47 f48 f49 f50 f51 f52 f53 f54 f55 f56 f57 f58 f59 f60 f61 f62 f63 f64 f65 f66 f67 f68 f69 => q_72vw_5 (q0 := q0) (n0 := ρ 4) (n1 := ρ 3) (n2 := ρ 2) (n3 := ρ 1) (n4 := ρ 0) (n5 := ρ 5) (n6 := ρ 6) (n7 := ρ 7) (n8 := ρ 8) (n9 := ρ 9) (n10 := ρ 10) (n11 := ρ 11) (n12 := ρ 12) (n13 := ρ 13) (n14 := ρ 14) (n15 := ρ 15) (n16 := ρ 16) (n17 := ρ 17) (n18 := ρ 18) (n19 := ρ 19) (n20 := ρ 20) (n21 := ρ 21) (n22 := ρ 22) (n23 := ρ 23) (n24 := ρ 24) (n25 := ρ 25) (H0 := η 0) (H1 := η 1) (H2 := η 2) (H3 := η 3) (H4 := η 4) (H5 := η 5) (H6 := η 6) (H7 := η 7) (H8 := η 8) f69 f68 f67 f66 f65 f64 f63 f62 f61 f60 f59 f58 f57 f56 f55 f54 f53 f52 f51 f50 f49 f48 f47 f46 f45 f44 f43 f42 f41 f40 f39 f38 f37 f36 f35 f34 f33 f32 f31 f30 f29 f28 f27 f26 f25 f24 f23 f22 f21 f20 f19 f18 f17 f16 f15 f14 f13 f12 f11 f10 f9 f8 f7 f6 f5 f4 f3 f2 f1 f0
theorem q_72vw_6 {q0 : Nat} {n0 n1 n2 n3 n4 n5 n6 n7 n8 n9 n10 n11 n12 n13 n14 n15 n16 n17 n18 n19 n20 n21 n22 n23 n24 n25 n26 n27 : Int} {H0 H1 H2 H3 H4 H5 H6 H7 H8 H9 : gH} (f0 : n0 ≤ 2147483647) (f1 : (-2147483648) ≤ n0) (f2 : n1 ≤ 2147483647) (f3 : (-2147483648) ≤ n1) (f4 : n2 ≤ 2147483647) (f5 : (-2147483648) ≤ n2) (f6 : n3 = 30) (f7 : n4 = 30) (f8 : (hLe T0 H0 H1 ∧ hFr s_72v.2.2.2.2 H0 H1 ∧ hWt T0 H1) ∧ ((Ab_72v_6 n4 n3 n2 n1 n0 H0 H1 ∧ Bb_72_6 n4 n3 n2 n1 n0 H0 H1) ∧ preb_72v n4 H0) ∧ some q0 = some (mub_72v_6 n4 n3 n2 n1 n0 H0 H1)) (f9 : n5 = 16) (f10 : n0 ≤ n5) (f11 : n6 ≤ 2147483647) (f12 : (-2147483648) ≤ n6) (f13 : hK H1 (n3).toNat = 4) (f14 : n6 = hV H1 (n3).toNat 3) (f15 : n6 = 0) (f16 : n7 ≤ 2147483647) (f17 : (-2147483648) ≤ n7) (f18 : hK H1 (n3).toNat = 4) (f19 : n7 = hV H1 (n3).toNat 2) (f20 : n8 ≤ 1) (f21 : 0 ≤ n8) (f22 : (hLe T0 H1 H2 ∧ hFr s_73v.2.2.2.2 H1 H2 ∧ ((0 : Int) = 0 → H2.length = H1.length) ∧ hWt T0 H2) ∧ postb_73v n8 n7 H1 H2) (f23 : n8 ≠ 0) (f24 : n9 ≤ 2147483647) (f25 : (-2147483648) ≤ n9) (f26 : hK H2 (n3).toNat = 4) (f27 : n9 = hV H2 (n3).toNat 13) (f28 : (hLe T0 H2 H3 ∧ hFr s_74v.2.2.2.2 H2 H3 ∧ ((0 : Int) = 0 → H3.length = H2.length) ∧ hWt T0 H3) ∧ (postb_74v n10 n3 n9 n2 H2 H3 ∧ nb_74 n10 n3 n9 n2 H2 H3)) (f29 : 0 ≤ n10) (f30 : n11 ≤ 2147483647) (f31 : (-2147483648) ≤ n11) (f32 : hK H3 (n3).toNat = 4) (f33 : n11 = hV H3 (n3).toNat 2) (f34 : n12 = 20) (f35 : n13 = w32 (n11 - n12)) (f36 : n14 = 31) (f37 : hK H3 (n3).toNat = 4) (f38 : n14 = hV H3 (n3).toNat 0) (f39 : n15 ≤ 2147483647) (f40 : (-2147483648) ≤ n15) (f41 : hK H3 (n3).toNat = 4) (f42 : n15 = hV H3 (n3).toNat 1) (f43 : n16 ≤ 2147483647) (f44 : (-2147483648) ≤ n16) (f45 : (hLe T0 H3 H4 ∧ hFr s_124.2.2.2.2 H3 H4 ∧ ((0 : Int) = 0 → H4.length = H3.length) ∧ hWt T0 H4) ∧ postb_124x n16 n14 n15 H3 H4) (f46 : (hLe T0 H4 H5 ∧ hFr s_24v.2.2.2.2 H4 H5 ∧ ((0 : Int) = 0 → H5.length = H4.length) ∧ hWt T0 H5) ∧ (postb_24v n10 n13 n16 H4 H5 ∧ nb_24 n10 n13 n16 H4 H5)) (f47 : n17 ≤ 2147483647) (f48 : (-2147483648) ≤ n17) (f49 : hK H5 (n3).toNat = 4) (f50 : n17 = hV H5 (n3).toNat 2) (f51 : (hLe T0 H5 H6 ∧ hFr s_66v.2.2.2.2 H5 H6 ∧ ((0 : Int) = 0 → H6.length = H5.length) ∧ hWt T0 H6) ∧ postb_66v n3 n17 H5 H6) (f52 : n18 ≤ 2147483647) (f53 : (-2147483648) ≤ n18) (f54 : hK H6 (n10).toNat = 1) (f55 : n18 = hV H6 (n10).toNat 0) (f56 : n18 < 0) (f57 : (hLe T0 H6 H7 ∧ hFr s_80v.2.2.2.2 H6 H7 ∧ ((0 : Int) = 0 → H7.length = H6.length) ∧ hWt T0 H7) ∧ (postb_80v n3 n10 H6 H7 ∧ nb_80 n3 n10 H6 H7)) (f58 : n19 = 4) (f59 : (hLe T0 H7 H8 ∧ hFr s_66v.2.2.2.2 H7 H8 ∧ ((0 : Int) = 0 → H8.length = H7.length) ∧ hWt T0 H8) ∧ postb_66v n3 n19 H7 H8) (f60 : n20 = w32 (n2 + 1)) (f61 : n21 ≤ 2147483647) (f62 : (-2147483648) ≤ n21) (f63 : hK H8 (n10).toNat = 1) (f64 : n21 = hV H8 (n10).toNat 0) (f65 : n22 = 5) (f66 : n21 = n22) (f67 : n23 = 47) (f68 : hK H8 (n3).toNat = 4) (f69 : n23 = hV H8 (n3).toNat 11) (f70 : n24 ≤ 2147483647) (f71 : (-2147483648) ≤ n24) (f72 : hK H8 (n10).toNat = 1) (f73 : n24 = hV H8 (n10).toNat 2) (f74 : n25 ≤ 2147483647) (f75 : (-2147483648) ≤ n25) (f76 : (hLe T0 H8 H9 ∧ hFr s_199vk740.2.2.2.2 H8 H9 ∧ ((0 : Int) = 0 → H9.length = H8.length) ∧ hWt T0 H9) ∧ postb_199vk740 n25 n23 n24 H8 H9) (f77 : n26 = w32 (n1 + n25)) (f78 : n27 = w32 (n0 + 1)) : Bb_72_6 n4 n3 n20 n26 n27 H0 H9 := by
  unfold Bb_72_6
  intro ck
  have pz := f8.2.1.2
  unfold preb_72v at pz
  have ga := f8.2.1.1.1
  unfold Ab_72v_6 at ga
  have vz : vwC H1 = vwC H0 := vwC_fr f8.1.2.1 (by decide +kernel)
  obtain ⟨kz, bz, blz, b13, cz_, b48, x10, x116, x30, x317, x13, ya, yt⟩ := ga
  have gb := f8.2.1.1.2
  unfold Bb_72_6 at gb
  obtain ⟨gq, g46, g47, gl⟩ := gb ck
  have ck1 := CK_fr f8.1.1 f8.1.2.1 (by decide +kernel) ck
  have y2 := pz.2.1.2.1
  have y3 := pz.2.1.2.2.1
  have r3 := f14
  rw [f6] at r3
  rw [show ((30 : Int)).toNat = 30 from rfl] at r3
  have r2 := f19
  rw [f6] at r2
  rw [show ((30 : Int)).toNat = 30 from rfl] at r2
  have pc := f22.2
  unfold postb_73v at pc
  have cq := f28.2.1
  unfold postb_74v at cq
  have cq2 := cq.2
  have x16 : n2 < 16 := by
    rcases Int.lt_or_le n2 16 with w | w
    · omega
    · have := cq2 w
      omega
  have rb := f27
  rw [f6] at rb
  rw [show ((30 : Int)).toNat = 30 from rfl] at rb
  have t13 : hV H2 30 13 = hV H1 30 13 := f22.1.2.1.1 30 13 (by decide +kernel)
  have cw := f28.2.2
  unfold nb_74 at cw
  have cw := cw (CK_fr f22.1.1 f22.1.2.1 (by decide +kernel) ck1).1 (by omega) (by omega) (by omega)
  have ce : n10 = ((cuP (hV H0 30 13).toNat (n2).toNat : Nat) : Int) := by
    unfold cuP
    omega
  have cz : 0 ≤ n10 := by omega
  have hk1 : hK H1 (n10).toNat = 1 := by
    rw [ce, Int.toNat_natCast]
    exact C45_k ck1.1 cz_ (by omega) (by omega)
  have kc0 : hK H2 (n10).toNat = 1 := kLe f22.1.1 hk1 rfl
  have kc1 : hK H3 (n10).toNat = 1 := kLe f28.1.1 kc0 rfl
  have kc2 : hK H4 (n10).toNat = 1 := kLe f45.1.1 kc1 rfl
  have kc3 : hK H5 (n10).toNat = 1 := kLe f46.1.1 kc2 rfl
  have ow46 := f46.2.2
  unfold nb_24 at ow46
  have ow46 := ow46 kc2 cz
  have kc4 : hK H6 (n10).toNat = 1 := kLe f51.1.1 kc3 rfl
  have kc5 : hK H7 (n10).toNat = 1 := kLe f57.1.1 kc4 rfl
  have ow57 := f57.2.2
  unfold nb_80 at ow57
  have ow57 := ow57 kc4 cz
  try rw [f6] at ow57
  have kc6 : hK H8 (n10).toNat = 1 := kLe f59.1.1 kc5 rfl
  have kc7 : hK H9 (n10).toNat = 1 := kLe f76.1.1 kc6 rfl
  have s0 := PF_fr f22.1.1 f22.1.2.1 (by decide +kernel) kz
  have a0 : absC H2 = (absC H1) := s0.1
  have v0 : vwC H2 = vwC H0 := (vwC_fr f22.1.2.1 (by decide +kernel)).trans vz
  have u0 := CU_fr f22.1.1 f22.1.2.1 (by decide +kernel) cz_
  have d0 := BI_fr f22.1.1 f22.1.2.1 (by decide +kernel) bz
  have j0 : BLc H2 = BLc H0 := d0.2.trans blz
  have s1 := PF_fr f28.1.1 f28.1.2.1 (by decide +kernel) s0.2.2
  have a1 : absC H3 = (absC H1) := s1.1.trans a0
  have v1 : vwC H3 = vwC H0 := (vwC_fr f28.1.2.1 (by decide +kernel)).trans v0
  have u1 := CU_fr f28.1.1 f28.1.2.1 (by decide +kernel) u0
  have d1 := BI_fr f28.1.1 f28.1.2.1 (by decide +kernel) d0.1
  have j1 : BLc H3 = BLc H0 := d1.2.trans j0
  have s2 := PF_fr f45.1.1 f45.1.2.1 (by decide +kernel) s1.2.2
  have a2 : absC H4 = (absC H1) := s2.1.trans a1
  have v2 : vwC H4 = vwC H0 := (vwC_fr f45.1.2.1 (by decide +kernel)).trans v1
  have u2 := CU_fr f45.1.1 f45.1.2.1 (by decide +kernel) u1
  have d2 := BI_fr f45.1.1 f45.1.2.1 (by decide +kernel) d1.1
  have j2 : BLc H4 = BLc H0 := d2.2.trans j1
  have s3 := PF_fr f46.1.1 f46.1.2.1 (by decide +kernel) s2.2.2
  have a3 : absC H5 = (absC H1) := s3.1.trans a2
  have v3 : vwC H5 = vwC H0 := (vwC_fr f46.1.2.1 (by decide +kernel)).trans v2
  have u3 := CU_fr f46.1.1 f46.1.2.1 (by decide +kernel) u2
  have d3 := BI_fr f46.1.1 f46.1.2.1 (by decide +kernel) d2.1
  have j3 : BLc H5 = BLc H0 := d3.2.trans j2
  have c4 := f51.2
  unfold postb_66v at c4
  rw [v3] at c4
  rw [a3] at c4
  have a4 : absC H6 = (ptk (vwC H0) n17 (absC H1)) := c4.2
  have v4 : vwC H6 = vwC H0 := (vwC_fr f51.1.2.1 (by decide +kernel)).trans v3
  have u4 := CU_fr f51.1.1 f51.1.2.1 (by decide +kernel) u3
  have d4 := BI_fr f51.1.1 f51.1.2.1 (by decide +kernel) d3.1
  have j4 : BLc H6 = BLc H0 := d4.2.trans j3
  have c5 := f57.2.1
  unfold postb_80v at c5
  rw [v4] at c5
  rw [a4] at c5
  rw [j4] at c5
  have a5 : absC H7 = (pUse (vwC H0) (BLc H0) (ptk (vwC H0) n17 (absC H1))) := c5.2.1
  have v5 : vwC H7 = vwC H0 := (vwC_fr f57.1.2.1 (by decide +kernel)).trans v4
  have u5 := CU_fr f57.1.1 f57.1.2.1 (by decide +kernel) u4
  have j5 : BLc H7 = BLc H0 := c5.2.2.2.1
  have c6 := f59.2
  unfold postb_66v at c6
  try rw [f58] at c6
  rw [v5] at c6
  rw [a5] at c6
  have a6 : absC H8 = (ptk (vwC H0) 4 (pUse (vwC H0) (BLc H0) (ptk (vwC H0) n17 (absC H1)))) := c6.2
  have v6 : vwC H8 = vwC H0 := (vwC_fr f59.1.2.1 (by decide +kernel)).trans v5
  have u6 := CU_fr f59.1.1 f59.1.2.1 (by decide +kernel) u5
  have d6 := BI_fr f59.1.1 f59.1.2.1 (by decide +kernel) c5.2.2.1
  have j6 : BLc H8 = BLc H0 := d6.2.trans j5
  have s7 := PF_fr f76.1.1 f76.1.2.1 (by decide +kernel) c6.1
  have a7 : absC H9 = (ptk (vwC H0) 4 (pUse (vwC H0) (BLc H0) (ptk (vwC H0) n17 (absC H1)))) := s7.1.trans a6
  have v7 : vwC H9 = vwC H0 := (vwC_fr f76.1.2.1 (by decide +kernel)).trans v6
  have u7 := CU_fr f76.1.1 f76.1.2.1 (by decide +kernel) u6
  have d7 := BI_fr f76.1.1 f76.1.2.1 (by decide +kernel) d6.1
  have j7 : BLc H9 = BLc H0 := d7.2.trans j6
  have kq0 : n18 = n13 := f55.trans ((fr1 f51.1.2.1 (by decide +kernel) kc3 0).trans (ow46.2.1))
  have kq1 : n21 = n13 := f64.trans ((fr1 f59.1.2.1 (by decide +kernel) kc5 0).trans ((ow57.2.1 0 (by decide) (by decide) (by decide)).trans ((fr1 f51.1.2.1 (by decide +kernel) kc3 0).trans (ow46.2.1))))
  have rz0 := f33
  rw [f6] at rz0
  rw [show ((30 : Int)).toNat = 30 from rfl] at rz0
  have tz0 : hV H3 30 2 = hV H1 30 2 := (f28.1.2.1.1 30 2 (by decide +kernel)).trans (f22.1.2.1.1 30 2 (by decide +kernel))
  have rz1 := f50
  rw [f6] at rz1
  rw [show ((30 : Int)).toNat = 30 from rfl] at rz1
  have tz1 : hV H5 30 2 = hV H1 30 2 := (f46.1.2.1.1 30 2 (by decide +kernel)).trans ((f45.1.2.1.1 30 2 (by decide +kernel)).trans ((f28.1.2.1.1 30 2 (by decide +kernel)).trans (f22.1.2.1.1 30 2 (by decide +kernel))))
  have wq35 := f35
  unfold w32 at wq35
  have wq60 := f60
  unfold w32 at wq60
  have wq77 := f77
  unfold w32 at wq77
  have wq78 := f78
  unfold w32 at wq78
  exfalso
  omega
def g_72vw_6_5 : vG := ([(10, [27, 4], [], 1), (1, [26, 3, 25], [], 0), (1199, [25, 23, 24], [8, 9], 0), (90, [25], [], -2147483648), (91, [25], [], 2147483647), (20, [24, 10], [8], 2), (23, [10], [8], 1), (90, [24], [], -2147483648), (91, [24], [], 2147483647), (20, [23, 1], [8], 11), (23, [1], [8], 4), (0, [23], [], 47), (40, [21, 22], [], 0), (0, [22], [], 5), (20, [21, 10], [8], 0), (23, [10], [8], 1), (90, [21], [], -2147483648), (91, [21], [], 2147483647), (10, [20, 2], [], 1), (1066, [1, 19], [7, 8], 0), (0, [19], [], 4), (1080, [1, 10], [6, 7], 0), (66, [18], [], 0), (20, [18, 10], [6], 0), (23, [10], [6], 1), (90, [18], [], -2147483648), (91, [18], [], 2147483647), (1066, [1, 17], [5, 6], 0), (20, [17, 1], [5], 2), (23, [1], [5], 4), (90, [17], [], -2147483648), (91, [17], [], 2147483647), (1024, [10, 13, 16], [4, 5], 0), (1124, [16, 14, 15], [3, 4], 0), (90, [16], [], -2147483648), (91, [16], [], 2147483647), (20, [15, 1], [3], 1), (23, [1], [3], 4), (90, [15], [], -2147483648), (91, [15], [], 2147483647), (20, [14, 1], [3], 0), (23, [1], [3], 4), (0, [14], [], 31), (2, [13, 11, 12], [], 0), (0, [12], [], 20), (20, [11, 1], [3], 2), (23, [1], [3], 4), (90, [11], [], -2147483648), (91, [11], [], 2147483647), (51, [10], [], 0), (1074, [10, 1, 9, 2], [2, 3], 0), (20, [9, 1], [2], 13), (23, [1], [2], 4), (90, [9], [], -2147483648), (91, [9], [], 2147483647), (31, [8], [], 0), (1073, [8, 7], [1, 2], 0), (90, [8], [], 0), (91, [8], [], 1), (20, [7, 1], [1], 2), (23, [1], [1], 4), (90, [7], [], -2147483648), (91, [7], [], 2147483647), (30, [6], [], 0), (20, [6, 1], [1], 3), (23, [1], [1], 4), (90, [6], [], -2147483648), (91, [6], [], 2147483647), (45, [4, 5], [], 0), (0, [5], [], 16), (5000, [0, 1, 2, 3, 4], [0, 1], 6), (0, [0], [], 30), (0, [1], [], 30), (90, [2], [], -2147483648), (91, [2], [], 2147483647), (90, [3], [], -2147483648), (91, [3], [], 2147483647), (90, [4], [], -2147483648), (91, [4], [], 2147483647)], (4000, [1, 20, 26, 27], [9], 6))
theorem c_72vw_6_5 {q0 : Nat} : vOkm T0 (eN e_72v L_72vw A_72v mu_72v n_72 B_72 (some q0)) 1 g_72vw_6_5 := vOk_inI fun ρ η f0 f1 f2 f3 f4 f5 f6 f7 f8 f9 f10 f11 f12 f13 f14 f15 f16 f17 f18 f19 f20 f21 f22 f23 f24 f25 f26 f27 f28 f29 f30 f31 f32 f33 f34 f35 f36 f37 f38 f39 f40 f41 f42 f43 f44 f45 f46 f47 f48 f49 f50 f51 f52 f53 f54 f55 f56 f57 f58 f59 f60 f61 f62 f63 f64 f65 f66 f67 f68 f69 f70 f71 f72 f73 f74 f75 f76 f77 f78 => q_72vw_6 (q0 := q0) (n0 := ρ 4) (n1 := ρ 3) (n2 := ρ 2) (n3 := ρ 1) (n4 := ρ 0) (n5 := ρ 5) (n6 := ρ 6) (n7 := ρ 7) (n8 := ρ 8) (n9 := ρ 9) (n10 := ρ 10) (n11 := ρ 11) (n12 := ρ 12) (n13 := ρ 13) (n14 := ρ 14) (n15 := ρ 15) (n16 := ρ 16) (n17 := ρ 17) (n18 := ρ 18) (n19 := ρ 19) (n20 := ρ 20) (n21 := ρ 21) (n22 := ρ 22) (n23 := ρ 23) (n24 := ρ 24) (n25 := ρ 25) (n26 := ρ 26) (n27 := ρ 27) (H0 := η 0) (H1 := η 1) (H2 := η 2) (H3 := η 3) (H4 := η 4) (H5 := η 5) (H6 := η 6) (H7 := η 7) (H8 := η 8) (H9 := η 9) f78 f77 f76 f75 f74 f73 f72 f71 f70 f69 f68 f67 f66 f65 f64 f63 f62 f61 f60 f59 f58 f57 f56 f55 f54 f53 f52 f51 f50 f49 f48 f47 f46 f45 f44 f43 f42 f41 f40 f39 f38 f37 f36 f35 f34 f33 f32 f31 f30 f29 f28 f27 f26 f25 f24 f23 f22 f21 f20 f19 f18 f17 f16 f15 f14 f13 f12 f11 f10 f9 f8 f7 f6 f5 f4 f3 f2 f1 f0
theorem q_72vw_7 {q0 : Nat} {n0 n1 n2 n3 n4 n5 n6 n7 n8 n9 n10 n11 n12 n13 n14 n15 n16 n17 n18 n19 n20 n21 n22 n23 n24 n25 : Int} {H0 H1 H2 H3 H4 H5 H6 H7 H8 : gH} (f0 : n0 ≤ 2147483647) (f1 : (-2147483648) ≤ n0) (f2 : n1 ≤ 2147483647) (f3 : (-2147483648) ≤ n1) (f4 : n2 ≤ 2147483647) (f5 : (-2147483648) ≤ n2) (f6 : n3 = 30) (f7 : n4 = 30) (f8 : (hLe T0 H0 H1 ∧ hFr s_72v.2.2.2.2 H0 H1 ∧ hWt T0 H1) ∧ ((Ab_72v_6 n4 n3 n2 n1 n0 H0 H1 ∧ Bb_72_6 n4 n3 n2 n1 n0 H0 H1) ∧ preb_72v n4 H0) ∧ some q0 = some (mub_72v_6 n4 n3 n2 n1 n0 H0 H1)) (f9 : n5 = 16) (f10 : n0 ≤ n5) (f11 : n6 ≤ 2147483647) (f12 : (-2147483648) ≤ n6) (f13 : hK H1 (n3).toNat = 4) (f14 : n6 = hV H1 (n3).toNat 3) (f15 : n6 = 0) (f16 : n7 ≤ 2147483647) (f17 : (-2147483648) ≤ n7) (f18 : hK H1 (n3).toNat = 4) (f19 : n7 = hV H1 (n3).toNat 2) (f20 : n8 ≤ 1) (f21 : 0 ≤ n8) (f22 : (hLe T0 H1 H2 ∧ hFr s_73v.2.2.2.2 H1 H2 ∧ ((0 : Int) = 0 → H2.length = H1.length) ∧ hWt T0 H2) ∧ postb_73v n8 n7 H1 H2) (f23 : n8 ≠ 0) (f24 : n9 ≤ 2147483647) (f25 : (-2147483648) ≤ n9) (f26 : hK H2 (n3).toNat = 4) (f27 : n9 = hV H2 (n3).toNat 13) (f28 : (hLe T0 H2 H3 ∧ hFr s_74v.2.2.2.2 H2 H3 ∧ ((0 : Int) = 0 → H3.length = H2.length) ∧ hWt T0 H3) ∧ (postb_74v n10 n3 n9 n2 H2 H3 ∧ nb_74 n10 n3 n9 n2 H2 H3)) (f29 : 0 ≤ n10) (f30 : n11 ≤ 2147483647) (f31 : (-2147483648) ≤ n11) (f32 : hK H3 (n3).toNat = 4) (f33 : n11 = hV H3 (n3).toNat 2) (f34 : n12 = 20) (f35 : n13 = w32 (n11 - n12)) (f36 : n14 = 31) (f37 : hK H3 (n3).toNat = 4) (f38 : n14 = hV H3 (n3).toNat 0) (f39 : n15 ≤ 2147483647) (f40 : (-2147483648) ≤ n15) (f41 : hK H3 (n3).toNat = 4) (f42 : n15 = hV H3 (n3).toNat 1) (f43 : n16 ≤ 2147483647) (f44 : (-2147483648) ≤ n16) (f45 : (hLe T0 H3 H4 ∧ hFr s_124.2.2.2.2 H3 H4 ∧ ((0 : Int) = 0 → H4.length = H3.length) ∧ hWt T0 H4) ∧ postb_124x n16 n14 n15 H3 H4) (f46 : (hLe T0 H4 H5 ∧ hFr s_24v.2.2.2.2 H4 H5 ∧ ((0 : Int) = 0 → H5.length = H4.length) ∧ hWt T0 H5) ∧ (postb_24v n10 n13 n16 H4 H5 ∧ nb_24 n10 n13 n16 H4 H5)) (f47 : n17 ≤ 2147483647) (f48 : (-2147483648) ≤ n17) (f49 : hK H5 (n3).toNat = 4) (f50 : n17 = hV H5 (n3).toNat 2) (f51 : (hLe T0 H5 H6 ∧ hFr s_66v.2.2.2.2 H5 H6 ∧ ((0 : Int) = 0 → H6.length = H5.length) ∧ hWt T0 H6) ∧ postb_66v n3 n17 H5 H6) (f52 : n18 ≤ 2147483647) (f53 : (-2147483648) ≤ n18) (f54 : hK H6 (n10).toNat = 1) (f55 : n18 = hV H6 (n10).toNat 0) (f56 : 4 < n18) (f57 : (hLe T0 H6 H7 ∧ hFr s_80v.2.2.2.2 H6 H7 ∧ ((0 : Int) = 0 → H7.length = H6.length) ∧ hWt T0 H7) ∧ (postb_80v n3 n10 H6 H7 ∧ nb_80 n3 n10 H6 H7)) (f58 : n19 = 4) (f59 : (hLe T0 H7 H8 ∧ hFr s_66v.2.2.2.2 H7 H8 ∧ ((0 : Int) = 0 → H8.length = H7.length) ∧ hWt T0 H8) ∧ postb_66v n3 n19 H7 H8) (f60 : n20 = w32 (n2 + 1)) (f61 : n21 ≤ 2147483647) (f62 : (-2147483648) ≤ n21) (f63 : hK H8 (n10).toNat = 1) (f64 : n21 = hV H8 (n10).toNat 0) (f65 : n22 = 5) (f66 : n21 ≠ n22) (f67 : n23 = 1) (f68 : n24 = w32 (n1 + n23)) (f69 : n25 = w32 (n0 + 1)) : Bb_72_6 n4 n3 n20 n24 n25 H0 H8 := by
  unfold Bb_72_6
  intro ck
  have pz := f8.2.1.2
  unfold preb_72v at pz
  have ga := f8.2.1.1.1
  unfold Ab_72v_6 at ga
  have vz : vwC H1 = vwC H0 := vwC_fr f8.1.2.1 (by decide +kernel)
  obtain ⟨kz, bz, blz, b13, cz_, b48, x10, x116, x30, x317, x13, ya, yt⟩ := ga
  have gb := f8.2.1.1.2
  unfold Bb_72_6 at gb
  obtain ⟨gq, g46, g47, gl⟩ := gb ck
  have ck1 := CK_fr f8.1.1 f8.1.2.1 (by decide +kernel) ck
  have y2 := pz.2.1.2.1
  have y3 := pz.2.1.2.2.1
  have r3 := f14
  rw [f6] at r3
  rw [show ((30 : Int)).toNat = 30 from rfl] at r3
  have r2 := f19
  rw [f6] at r2
  rw [show ((30 : Int)).toNat = 30 from rfl] at r2
  have pc := f22.2
  unfold postb_73v at pc
  have cq := f28.2.1
  unfold postb_74v at cq
  have cq2 := cq.2
  have x16 : n2 < 16 := by
    rcases Int.lt_or_le n2 16 with w | w
    · omega
    · have := cq2 w
      omega
  have rb := f27
  rw [f6] at rb
  rw [show ((30 : Int)).toNat = 30 from rfl] at rb
  have t13 : hV H2 30 13 = hV H1 30 13 := f22.1.2.1.1 30 13 (by decide +kernel)
  have cw := f28.2.2
  unfold nb_74 at cw
  have cw := cw (CK_fr f22.1.1 f22.1.2.1 (by decide +kernel) ck1).1 (by omega) (by omega) (by omega)
  have ce : n10 = ((cuP (hV H0 30 13).toNat (n2).toNat : Nat) : Int) := by
    unfold cuP
    omega
  have cz : 0 ≤ n10 := by omega
  have hk1 : hK H1 (n10).toNat = 1 := by
    rw [ce, Int.toNat_natCast]
    exact C45_k ck1.1 cz_ (by omega) (by omega)
  have kc0 : hK H2 (n10).toNat = 1 := kLe f22.1.1 hk1 rfl
  have kc1 : hK H3 (n10).toNat = 1 := kLe f28.1.1 kc0 rfl
  have kc2 : hK H4 (n10).toNat = 1 := kLe f45.1.1 kc1 rfl
  have kc3 : hK H5 (n10).toNat = 1 := kLe f46.1.1 kc2 rfl
  have ow46 := f46.2.2
  unfold nb_24 at ow46
  have ow46 := ow46 kc2 cz
  have kc4 : hK H6 (n10).toNat = 1 := kLe f51.1.1 kc3 rfl
  have kc5 : hK H7 (n10).toNat = 1 := kLe f57.1.1 kc4 rfl
  have ow57 := f57.2.2
  unfold nb_80 at ow57
  have ow57 := ow57 kc4 cz
  try rw [f6] at ow57
  have kc6 : hK H8 (n10).toNat = 1 := kLe f59.1.1 kc5 rfl
  have s0 := PF_fr f22.1.1 f22.1.2.1 (by decide +kernel) kz
  have a0 : absC H2 = (absC H1) := s0.1
  have v0 : vwC H2 = vwC H0 := (vwC_fr f22.1.2.1 (by decide +kernel)).trans vz
  have u0 := CU_fr f22.1.1 f22.1.2.1 (by decide +kernel) cz_
  have d0 := BI_fr f22.1.1 f22.1.2.1 (by decide +kernel) bz
  have j0 : BLc H2 = BLc H0 := d0.2.trans blz
  have s1 := PF_fr f28.1.1 f28.1.2.1 (by decide +kernel) s0.2.2
  have a1 : absC H3 = (absC H1) := s1.1.trans a0
  have v1 : vwC H3 = vwC H0 := (vwC_fr f28.1.2.1 (by decide +kernel)).trans v0
  have u1 := CU_fr f28.1.1 f28.1.2.1 (by decide +kernel) u0
  have d1 := BI_fr f28.1.1 f28.1.2.1 (by decide +kernel) d0.1
  have j1 : BLc H3 = BLc H0 := d1.2.trans j0
  have s2 := PF_fr f45.1.1 f45.1.2.1 (by decide +kernel) s1.2.2
  have a2 : absC H4 = (absC H1) := s2.1.trans a1
  have v2 : vwC H4 = vwC H0 := (vwC_fr f45.1.2.1 (by decide +kernel)).trans v1
  have u2 := CU_fr f45.1.1 f45.1.2.1 (by decide +kernel) u1
  have d2 := BI_fr f45.1.1 f45.1.2.1 (by decide +kernel) d1.1
  have j2 : BLc H4 = BLc H0 := d2.2.trans j1
  have s3 := PF_fr f46.1.1 f46.1.2.1 (by decide +kernel) s2.2.2
  have a3 : absC H5 = (absC H1) := s3.1.trans a2
  have v3 : vwC H5 = vwC H0 := (vwC_fr f46.1.2.1 (by decide +kernel)).trans v2
  have u3 := CU_fr f46.1.1 f46.1.2.1 (by decide +kernel) u2
  have d3 := BI_fr f46.1.1 f46.1.2.1 (by decide +kernel) d2.1
  have j3 : BLc H5 = BLc H0 := d3.2.trans j2
  have c4 := f51.2
  unfold postb_66v at c4
  rw [v3] at c4
  rw [a3] at c4
  have a4 : absC H6 = (ptk (vwC H0) n17 (absC H1)) := c4.2
  have v4 : vwC H6 = vwC H0 := (vwC_fr f51.1.2.1 (by decide +kernel)).trans v3
  have u4 := CU_fr f51.1.1 f51.1.2.1 (by decide +kernel) u3
  have d4 := BI_fr f51.1.1 f51.1.2.1 (by decide +kernel) d3.1
  have j4 : BLc H6 = BLc H0 := d4.2.trans j3
  have c5 := f57.2.1
  unfold postb_80v at c5
  rw [v4] at c5
  rw [a4] at c5
  rw [j4] at c5
  have a5 : absC H7 = (pUse (vwC H0) (BLc H0) (ptk (vwC H0) n17 (absC H1))) := c5.2.1
  have v5 : vwC H7 = vwC H0 := (vwC_fr f57.1.2.1 (by decide +kernel)).trans v4
  have u5 := CU_fr f57.1.1 f57.1.2.1 (by decide +kernel) u4
  have j5 : BLc H7 = BLc H0 := c5.2.2.2.1
  have c6 := f59.2
  unfold postb_66v at c6
  try rw [f58] at c6
  rw [v5] at c6
  rw [a5] at c6
  have a6 : absC H8 = (ptk (vwC H0) 4 (pUse (vwC H0) (BLc H0) (ptk (vwC H0) n17 (absC H1)))) := c6.2
  have v6 : vwC H8 = vwC H0 := (vwC_fr f59.1.2.1 (by decide +kernel)).trans v5
  have u6 := CU_fr f59.1.1 f59.1.2.1 (by decide +kernel) u5
  have d6 := BI_fr f59.1.1 f59.1.2.1 (by decide +kernel) c5.2.2.1
  have j6 : BLc H8 = BLc H0 := d6.2.trans j5
  have kq0 : n18 = n13 := f55.trans ((fr1 f51.1.2.1 (by decide +kernel) kc3 0).trans (ow46.2.1))
  have kq1 : n21 = n13 := f64.trans ((fr1 f59.1.2.1 (by decide +kernel) kc5 0).trans ((ow57.2.1 0 (by decide) (by decide) (by decide)).trans ((fr1 f51.1.2.1 (by decide +kernel) kc3 0).trans (ow46.2.1))))
  have rz0 := f33
  rw [f6] at rz0
  rw [show ((30 : Int)).toNat = 30 from rfl] at rz0
  have tz0 : hV H3 30 2 = hV H1 30 2 := (f28.1.2.1.1 30 2 (by decide +kernel)).trans (f22.1.2.1.1 30 2 (by decide +kernel))
  have rz1 := f50
  rw [f6] at rz1
  rw [show ((30 : Int)).toNat = 30 from rfl] at rz1
  have tz1 : hV H5 30 2 = hV H1 30 2 := (f46.1.2.1.1 30 2 (by decide +kernel)).trans ((f45.1.2.1.1 30 2 (by decide +kernel)).trans ((f28.1.2.1.1 30 2 (by decide +kernel)).trans (f22.1.2.1.1 30 2 (by decide +kernel))))
  have wq35 := f35
  unfold w32 at wq35
  have wq60 := f60
  unfold w32 at wq60
  have wq68 := f68
  unfold w32 at wq68
  have wq69 := f69
  unfold w32 at wq69
  exfalso
  omega
def g_72vw_6_6 : vG := ([(10, [25, 4], [], 1), (1, [24, 3, 23], [], 0), (0, [23], [], 1), (41, [21, 22], [], 0), (0, [22], [], 5), (20, [21, 10], [8], 0), (23, [10], [8], 1), (90, [21], [], -2147483648), (91, [21], [], 2147483647), (10, [20, 2], [], 1), (1066, [1, 19], [7, 8], 0), (0, [19], [], 4), (1080, [1, 10], [6, 7], 0), (67, [18], [], 4), (20, [18, 10], [6], 0), (23, [10], [6], 1), (90, [18], [], -2147483648), (91, [18], [], 2147483647), (1066, [1, 17], [5, 6], 0), (20, [17, 1], [5], 2), (23, [1], [5], 4), (90, [17], [], -2147483648), (91, [17], [], 2147483647), (1024, [10, 13, 16], [4, 5], 0), (1124, [16, 14, 15], [3, 4], 0), (90, [16], [], -2147483648), (91, [16], [], 2147483647), (20, [15, 1], [3], 1), (23, [1], [3], 4), (90, [15], [], -2147483648), (91, [15], [], 2147483647), (20, [14, 1], [3], 0), (23, [1], [3], 4), (0, [14], [], 31), (2, [13, 11, 12], [], 0), (0, [12], [], 20), (20, [11, 1], [3], 2), (23, [1], [3], 4), (90, [11], [], -2147483648), (91, [11], [], 2147483647), (51, [10], [], 0), (1074, [10, 1, 9, 2], [2, 3], 0), (20, [9, 1], [2], 13), (23, [1], [2], 4), (90, [9], [], -2147483648), (91, [9], [], 2147483647), (31, [8], [], 0), (1073, [8, 7], [1, 2], 0), (90, [8], [], 0), (91, [8], [], 1), (20, [7, 1], [1], 2), (23, [1], [1], 4), (90, [7], [], -2147483648), (91, [7], [], 2147483647), (30, [6], [], 0), (20, [6, 1], [1], 3), (23, [1], [1], 4), (90, [6], [], -2147483648), (91, [6], [], 2147483647), (45, [4, 5], [], 0), (0, [5], [], 16), (5000, [0, 1, 2, 3, 4], [0, 1], 6), (0, [0], [], 30), (0, [1], [], 30), (90, [2], [], -2147483648), (91, [2], [], 2147483647), (90, [3], [], -2147483648), (91, [3], [], 2147483647), (90, [4], [], -2147483648), (91, [4], [], 2147483647)], (4000, [1, 20, 24, 25], [8], 6))
theorem c_72vw_6_6 {q0 : Nat} : vOkm T0 (eN e_72v L_72vw A_72v mu_72v n_72 B_72 (some q0)) 1 g_72vw_6_6 := vOk_inI fun ρ η f0 f1 f2 f3 f4 f5 f6 f7 f8 f9 f10 f11 f12 f13 f14 f15 f16 f17 f18 f19 f20 f21 f22 f23 f24 f25 f26 f27 f28 f29 f30 f31 f32 f33 f34 f35 f36 f37 f38 f39 f40 f41 f42 f43 f44 f45 f46 f47 f48 f49 f50 f51 f52 f53 f54 f55 f56 f57 f58 f59 f60 f61 f62 f63 f64 f65 f66 f67 f68 f69 => q_72vw_7 (q0 := q0) (n0 := ρ 4) (n1 := ρ 3) (n2 := ρ 2) (n3 := ρ 1) (n4 := ρ 0) (n5 := ρ 5) (n6 := ρ 6) (n7 := ρ 7) (n8 := ρ 8) (n9 := ρ 9) (n10 := ρ 10) (n11 := ρ 11) (n12 := ρ 12) (n13 := ρ 13) (n14 := ρ 14) (n15 := ρ 15) (n16 := ρ 16) (n17 := ρ 17) (n18 := ρ 18) (n19 := ρ 19) (n20 := ρ 20) (n21 := ρ 21) (n22 := ρ 22) (n23 := ρ 23) (n24 := ρ 24) (n25 := ρ 25) (H0 := η 0) (H1 := η 1) (H2 := η 2) (H3 := η 3) (H4 := η 4) (H5 := η 5) (H6 := η 6) (H7 := η 7) (H8 := η 8) f69 f68 f67 f66 f65 f64 f63 f62 f61 f60 f59 f58 f57 f56 f55 f54 f53 f52 f51 f50 f49 f48 f47 f46 f45 f44 f43 f42 f41 f40 f39 f38 f37 f36 f35 f34 f33 f32 f31 f30 f29 f28 f27 f26 f25 f24 f23 f22 f21 f20 f19 f18 f17 f16 f15 f14 f13 f12 f11 f10 f9 f8 f7 f6 f5 f4 f3 f2 f1 f0
theorem q_72vw_8 {q0 : Nat} {n0 n1 n2 n3 n4 n5 n6 n7 n8 n9 n10 n11 n12 n13 n14 n15 n16 n17 n18 n19 n20 n21 n22 n23 n24 n25 n26 n27 : Int} {H0 H1 H2 H3 H4 H5 H6 H7 H8 H9 : gH} (f0 : n0 ≤ 2147483647) (f1 : (-2147483648) ≤ n0) (f2 : n1 ≤ 2147483647) (f3 : (-2147483648) ≤ n1) (f4 : n2 ≤ 2147483647) (f5 : (-2147483648) ≤ n2) (f6 : n3 = 30) (f7 : n4 = 30) (f8 : (hLe T0 H0 H1 ∧ hFr s_72v.2.2.2.2 H0 H1 ∧ hWt T0 H1) ∧ ((Ab_72v_6 n4 n3 n2 n1 n0 H0 H1 ∧ Bb_72_6 n4 n3 n2 n1 n0 H0 H1) ∧ preb_72v n4 H0) ∧ some q0 = some (mub_72v_6 n4 n3 n2 n1 n0 H0 H1)) (f9 : n5 = 16) (f10 : n0 ≤ n5) (f11 : n6 ≤ 2147483647) (f12 : (-2147483648) ≤ n6) (f13 : hK H1 (n3).toNat = 4) (f14 : n6 = hV H1 (n3).toNat 3) (f15 : n6 = 0) (f16 : n7 ≤ 2147483647) (f17 : (-2147483648) ≤ n7) (f18 : hK H1 (n3).toNat = 4) (f19 : n7 = hV H1 (n3).toNat 2) (f20 : n8 ≤ 1) (f21 : 0 ≤ n8) (f22 : (hLe T0 H1 H2 ∧ hFr s_73v.2.2.2.2 H1 H2 ∧ ((0 : Int) = 0 → H2.length = H1.length) ∧ hWt T0 H2) ∧ postb_73v n8 n7 H1 H2) (f23 : n8 ≠ 0) (f24 : n9 ≤ 2147483647) (f25 : (-2147483648) ≤ n9) (f26 : hK H2 (n3).toNat = 4) (f27 : n9 = hV H2 (n3).toNat 13) (f28 : (hLe T0 H2 H3 ∧ hFr s_74v.2.2.2.2 H2 H3 ∧ ((0 : Int) = 0 → H3.length = H2.length) ∧ hWt T0 H3) ∧ (postb_74v n10 n3 n9 n2 H2 H3 ∧ nb_74 n10 n3 n9 n2 H2 H3)) (f29 : 0 ≤ n10) (f30 : n11 ≤ 2147483647) (f31 : (-2147483648) ≤ n11) (f32 : hK H3 (n3).toNat = 4) (f33 : n11 = hV H3 (n3).toNat 2) (f34 : n12 = 20) (f35 : n13 = w32 (n11 - n12)) (f36 : n14 = 31) (f37 : hK H3 (n3).toNat = 4) (f38 : n14 = hV H3 (n3).toNat 0) (f39 : n15 ≤ 2147483647) (f40 : (-2147483648) ≤ n15) (f41 : hK H3 (n3).toNat = 4) (f42 : n15 = hV H3 (n3).toNat 1) (f43 : n16 ≤ 2147483647) (f44 : (-2147483648) ≤ n16) (f45 : (hLe T0 H3 H4 ∧ hFr s_124.2.2.2.2 H3 H4 ∧ ((0 : Int) = 0 → H4.length = H3.length) ∧ hWt T0 H4) ∧ postb_124x n16 n14 n15 H3 H4) (f46 : (hLe T0 H4 H5 ∧ hFr s_24v.2.2.2.2 H4 H5 ∧ ((0 : Int) = 0 → H5.length = H4.length) ∧ hWt T0 H5) ∧ (postb_24v n10 n13 n16 H4 H5 ∧ nb_24 n10 n13 n16 H4 H5)) (f47 : n17 ≤ 2147483647) (f48 : (-2147483648) ≤ n17) (f49 : hK H5 (n3).toNat = 4) (f50 : n17 = hV H5 (n3).toNat 2) (f51 : (hLe T0 H5 H6 ∧ hFr s_66v.2.2.2.2 H5 H6 ∧ ((0 : Int) = 0 → H6.length = H5.length) ∧ hWt T0 H6) ∧ postb_66v n3 n17 H5 H6) (f52 : n18 ≤ 2147483647) (f53 : (-2147483648) ≤ n18) (f54 : hK H6 (n10).toNat = 1) (f55 : n18 = hV H6 (n10).toNat 0) (f56 : 4 < n18) (f57 : (hLe T0 H6 H7 ∧ hFr s_80v.2.2.2.2 H6 H7 ∧ ((0 : Int) = 0 → H7.length = H6.length) ∧ hWt T0 H7) ∧ (postb_80v n3 n10 H6 H7 ∧ nb_80 n3 n10 H6 H7)) (f58 : n19 = 4) (f59 : (hLe T0 H7 H8 ∧ hFr s_66v.2.2.2.2 H7 H8 ∧ ((0 : Int) = 0 → H8.length = H7.length) ∧ hWt T0 H8) ∧ postb_66v n3 n19 H7 H8) (f60 : n20 = w32 (n2 + 1)) (f61 : n21 ≤ 2147483647) (f62 : (-2147483648) ≤ n21) (f63 : hK H8 (n10).toNat = 1) (f64 : n21 = hV H8 (n10).toNat 0) (f65 : n22 = 5) (f66 : n21 = n22) (f67 : n23 = 47) (f68 : hK H8 (n3).toNat = 4) (f69 : n23 = hV H8 (n3).toNat 11) (f70 : n24 ≤ 2147483647) (f71 : (-2147483648) ≤ n24) (f72 : hK H8 (n10).toNat = 1) (f73 : n24 = hV H8 (n10).toNat 2) (f74 : n25 ≤ 2147483647) (f75 : (-2147483648) ≤ n25) (f76 : (hLe T0 H8 H9 ∧ hFr s_199vk740.2.2.2.2 H8 H9 ∧ ((0 : Int) = 0 → H9.length = H8.length) ∧ hWt T0 H9) ∧ postb_199vk740 n25 n23 n24 H8 H9) (f77 : n26 = w32 (n1 + n25)) (f78 : n27 = w32 (n0 + 1)) : Bb_72_6 n4 n3 n20 n26 n27 H0 H9 := by
  unfold Bb_72_6
  intro ck
  have pz := f8.2.1.2
  unfold preb_72v at pz
  have ga := f8.2.1.1.1
  unfold Ab_72v_6 at ga
  have vz : vwC H1 = vwC H0 := vwC_fr f8.1.2.1 (by decide +kernel)
  obtain ⟨kz, bz, blz, b13, cz_, b48, x10, x116, x30, x317, x13, ya, yt⟩ := ga
  have gb := f8.2.1.1.2
  unfold Bb_72_6 at gb
  obtain ⟨gq, g46, g47, gl⟩ := gb ck
  have ck1 := CK_fr f8.1.1 f8.1.2.1 (by decide +kernel) ck
  have y2 := pz.2.1.2.1
  have y3 := pz.2.1.2.2.1
  have r3 := f14
  rw [f6] at r3
  rw [show ((30 : Int)).toNat = 30 from rfl] at r3
  have r2 := f19
  rw [f6] at r2
  rw [show ((30 : Int)).toNat = 30 from rfl] at r2
  have pc := f22.2
  unfold postb_73v at pc
  have cq := f28.2.1
  unfold postb_74v at cq
  have cq2 := cq.2
  have x16 : n2 < 16 := by
    rcases Int.lt_or_le n2 16 with w | w
    · omega
    · have := cq2 w
      omega
  have rb := f27
  rw [f6] at rb
  rw [show ((30 : Int)).toNat = 30 from rfl] at rb
  have t13 : hV H2 30 13 = hV H1 30 13 := f22.1.2.1.1 30 13 (by decide +kernel)
  have cw := f28.2.2
  unfold nb_74 at cw
  have cw := cw (CK_fr f22.1.1 f22.1.2.1 (by decide +kernel) ck1).1 (by omega) (by omega) (by omega)
  have ce : n10 = ((cuP (hV H0 30 13).toNat (n2).toNat : Nat) : Int) := by
    unfold cuP
    omega
  have cz : 0 ≤ n10 := by omega
  have hk1 : hK H1 (n10).toNat = 1 := by
    rw [ce, Int.toNat_natCast]
    exact C45_k ck1.1 cz_ (by omega) (by omega)
  have kc0 : hK H2 (n10).toNat = 1 := kLe f22.1.1 hk1 rfl
  have kc1 : hK H3 (n10).toNat = 1 := kLe f28.1.1 kc0 rfl
  have kc2 : hK H4 (n10).toNat = 1 := kLe f45.1.1 kc1 rfl
  have kc3 : hK H5 (n10).toNat = 1 := kLe f46.1.1 kc2 rfl
  have ow46 := f46.2.2
  unfold nb_24 at ow46
  have ow46 := ow46 kc2 cz
  have kc4 : hK H6 (n10).toNat = 1 := kLe f51.1.1 kc3 rfl
  have kc5 : hK H7 (n10).toNat = 1 := kLe f57.1.1 kc4 rfl
  have ow57 := f57.2.2
  unfold nb_80 at ow57
  have ow57 := ow57 kc4 cz
  try rw [f6] at ow57
  have kc6 : hK H8 (n10).toNat = 1 := kLe f59.1.1 kc5 rfl
  have kc7 : hK H9 (n10).toNat = 1 := kLe f76.1.1 kc6 rfl
  have s0 := PF_fr f22.1.1 f22.1.2.1 (by decide +kernel) kz
  have a0 : absC H2 = (absC H1) := s0.1
  have v0 : vwC H2 = vwC H0 := (vwC_fr f22.1.2.1 (by decide +kernel)).trans vz
  have u0 := CU_fr f22.1.1 f22.1.2.1 (by decide +kernel) cz_
  have d0 := BI_fr f22.1.1 f22.1.2.1 (by decide +kernel) bz
  have j0 : BLc H2 = BLc H0 := d0.2.trans blz
  have s1 := PF_fr f28.1.1 f28.1.2.1 (by decide +kernel) s0.2.2
  have a1 : absC H3 = (absC H1) := s1.1.trans a0
  have v1 : vwC H3 = vwC H0 := (vwC_fr f28.1.2.1 (by decide +kernel)).trans v0
  have u1 := CU_fr f28.1.1 f28.1.2.1 (by decide +kernel) u0
  have d1 := BI_fr f28.1.1 f28.1.2.1 (by decide +kernel) d0.1
  have j1 : BLc H3 = BLc H0 := d1.2.trans j0
  have s2 := PF_fr f45.1.1 f45.1.2.1 (by decide +kernel) s1.2.2
  have a2 : absC H4 = (absC H1) := s2.1.trans a1
  have v2 : vwC H4 = vwC H0 := (vwC_fr f45.1.2.1 (by decide +kernel)).trans v1
  have u2 := CU_fr f45.1.1 f45.1.2.1 (by decide +kernel) u1
  have d2 := BI_fr f45.1.1 f45.1.2.1 (by decide +kernel) d1.1
  have j2 : BLc H4 = BLc H0 := d2.2.trans j1
  have s3 := PF_fr f46.1.1 f46.1.2.1 (by decide +kernel) s2.2.2
  have a3 : absC H5 = (absC H1) := s3.1.trans a2
  have v3 : vwC H5 = vwC H0 := (vwC_fr f46.1.2.1 (by decide +kernel)).trans v2
  have u3 := CU_fr f46.1.1 f46.1.2.1 (by decide +kernel) u2
  have d3 := BI_fr f46.1.1 f46.1.2.1 (by decide +kernel) d2.1
  have j3 : BLc H5 = BLc H0 := d3.2.trans j2
  have c4 := f51.2
  unfold postb_66v at c4
  rw [v3] at c4
  rw [a3] at c4
  have a4 : absC H6 = (ptk (vwC H0) n17 (absC H1)) := c4.2
  have v4 : vwC H6 = vwC H0 := (vwC_fr f51.1.2.1 (by decide +kernel)).trans v3
  have u4 := CU_fr f51.1.1 f51.1.2.1 (by decide +kernel) u3
  have d4 := BI_fr f51.1.1 f51.1.2.1 (by decide +kernel) d3.1
  have j4 : BLc H6 = BLc H0 := d4.2.trans j3
  have c5 := f57.2.1
  unfold postb_80v at c5
  rw [v4] at c5
  rw [a4] at c5
  rw [j4] at c5
  have a5 : absC H7 = (pUse (vwC H0) (BLc H0) (ptk (vwC H0) n17 (absC H1))) := c5.2.1
  have v5 : vwC H7 = vwC H0 := (vwC_fr f57.1.2.1 (by decide +kernel)).trans v4
  have u5 := CU_fr f57.1.1 f57.1.2.1 (by decide +kernel) u4
  have j5 : BLc H7 = BLc H0 := c5.2.2.2.1
  have c6 := f59.2
  unfold postb_66v at c6
  try rw [f58] at c6
  rw [v5] at c6
  rw [a5] at c6
  have a6 : absC H8 = (ptk (vwC H0) 4 (pUse (vwC H0) (BLc H0) (ptk (vwC H0) n17 (absC H1)))) := c6.2
  have v6 : vwC H8 = vwC H0 := (vwC_fr f59.1.2.1 (by decide +kernel)).trans v5
  have u6 := CU_fr f59.1.1 f59.1.2.1 (by decide +kernel) u5
  have d6 := BI_fr f59.1.1 f59.1.2.1 (by decide +kernel) c5.2.2.1
  have j6 : BLc H8 = BLc H0 := d6.2.trans j5
  have s7 := PF_fr f76.1.1 f76.1.2.1 (by decide +kernel) c6.1
  have a7 : absC H9 = (ptk (vwC H0) 4 (pUse (vwC H0) (BLc H0) (ptk (vwC H0) n17 (absC H1)))) := s7.1.trans a6
  have v7 : vwC H9 = vwC H0 := (vwC_fr f76.1.2.1 (by decide +kernel)).trans v6
  have u7 := CU_fr f76.1.1 f76.1.2.1 (by decide +kernel) u6
  have d7 := BI_fr f76.1.1 f76.1.2.1 (by decide +kernel) d6.1
  have j7 : BLc H9 = BLc H0 := d7.2.trans j6
  have kq0 : n18 = n13 := f55.trans ((fr1 f51.1.2.1 (by decide +kernel) kc3 0).trans (ow46.2.1))
  have kq1 : n21 = n13 := f64.trans ((fr1 f59.1.2.1 (by decide +kernel) kc5 0).trans ((ow57.2.1 0 (by decide) (by decide) (by decide)).trans ((fr1 f51.1.2.1 (by decide +kernel) kc3 0).trans (ow46.2.1))))
  have rz0 := f33
  rw [f6] at rz0
  rw [show ((30 : Int)).toNat = 30 from rfl] at rz0
  have tz0 : hV H3 30 2 = hV H1 30 2 := (f28.1.2.1.1 30 2 (by decide +kernel)).trans (f22.1.2.1.1 30 2 (by decide +kernel))
  have rz1 := f50
  rw [f6] at rz1
  rw [show ((30 : Int)).toNat = 30 from rfl] at rz1
  have tz1 : hV H5 30 2 = hV H1 30 2 := (f46.1.2.1.1 30 2 (by decide +kernel)).trans ((f45.1.2.1.1 30 2 (by decide +kernel)).trans ((f28.1.2.1.1 30 2 (by decide +kernel)).trans (f22.1.2.1.1 30 2 (by decide +kernel))))
  have wq35 := f35
  unfold w32 at wq35
  have wq60 := f60
  unfold w32 at wq60
  have wq77 := f77
  unfold w32 at wq77
  have wq78 := f78
  unfold w32 at wq78
  have k2 : hV H1 30 2 = 25 := by omega
  have kt : n17 = 25 := by omega
  refine ⟨CUq_tr gq (CUq_of (c := n10) (CUo_tr (CUo_fr f22.1.1 f22.1.2.1 (by decide +kernel)) (CUo_tr (CUo_fr f28.1.1 f28.1.2.1 (by decide +kernel)) (CUo_tr (CUo_fr f45.1.1 f45.1.2.1 (by decide +kernel)) (CUo_tr ow46.1 (CUo_tr (CUo_fr f51.1.1 f51.1.2.1 (by decide +kernel)) (CUo_tr ow57.1 (CUo_tr (CUo_fr f59.1.1 f59.1.2.1 (by decide +kernel)) (CUo_fr f76.1.1 f76.1.2.1 (by decide +kernel))))))))) (k := (n2).toNat) (by omega) ce), ((fRow f76.1.2.1 46 (by decide +kernel)).trans ((fRow f59.1.2.1 46 (by decide +kernel)).trans ((fRow f57.1.2.1 46 (by decide +kernel)).trans ((fRow f51.1.2.1 46 (by decide +kernel)).trans ((fRow f46.1.2.1 46 (by decide +kernel)).trans ((fRow f45.1.2.1 46 (by decide +kernel)).trans ((fRow f28.1.2.1 46 (by decide +kernel)).trans (fRow f22.1.2.1 46 (by decide +kernel))))))))).trans g46, ((fRow f76.1.2.1 47 (by decide +kernel)).trans ((fRow f59.1.2.1 47 (by decide +kernel)).trans ((fRow f57.1.2.1 47 (by decide +kernel)).trans ((fRow f51.1.2.1 47 (by decide +kernel)).trans ((fRow f46.1.2.1 47 (by decide +kernel)).trans ((fRow f45.1.2.1 47 (by decide +kernel)).trans ((fRow f28.1.2.1 47 (by decide +kernel)).trans (fRow f22.1.2.1 47 (by decide +kernel))))))))).trans g47, fun hf => ?_⟩
  have hzH8 := fzE c6.1 s7.2.2 a6 a7 (fun _ _ => rfl) hf
  have hzH7 := fzE c5.1 c6.1 a5 a6 (fun n k => ptk_neg n k) hzH8.1
  have hzH6 := fzE c4.1 c5.1 a4 a5 (fun n k => pUse_neg (vwC_ok H0) n k) hzH7.1
  have hzH5 := fzE s3.2.2 c4.1 a3 a4 (fun n k => ptk_neg n k) hzH6.1
  have hzH4 := fzE s2.2.2 s3.2.2 a2 a3 (fun _ _ => rfl) hzH5.1
  have hzH3 := fzE s1.2.2 s2.2.2 a1 a2 (fun _ _ => rfl) hzH4.1
  have hzH2 := fzE s0.2.2 s1.2.2 a0 a1 (fun _ _ => rfl) hzH3.1
  have hzH1 := fzE kz s0.2.2 rfl a0 (fun _ _ => rfl) hzH2.1
  have hk : (vwC H0).1 (absC H1).1 = hV H1 30 2 := by
    have u := (kd_at kz).resolve_left (by have := absC_pos kz hzH1.1; omega)
    rw [vz] at u
    exact u
  have hb : absC H9 = ptk (vwC H0) 4 (pBody (vwC H0) (BLc H0) 25 (ptk (vwC H0) 25 (absC H1))) := by
    rw [pBody_25, ← kt]
    exact a7
  have to := ow57.2.2 hzH7.1
  rw [v4, a4, kt, j4] at to
  obtain ⟨to57_2, to57_4, to57_5⟩ := to
  have rp := f42
  rw [f6] at rp
  rw [show ((30 : Int)).toNat = 30 from rfl] at rp
  have p1 : hV H3 30 1 = hV H1 30 1 := (f28.1.2.1.1 30 1 (by decide +kernel)).trans (f22.1.2.1.1 30 1 (by decide +kernel))
  have pl := f45.2
  unfold postb_124x at pl
  have pl := pl s1.2.2.1
  have it := kz.2.2.2.1
  have lp : n16 = (vwC H0).2.2.2 (absC H1).1 := by
    rw [(absC_pos kz hzH1.1).1, ← vz, vwC_place it, lC_at it kz.2.1, pl, if_pos (by have := it.1; have := it.2.1; omega), show hV H3 34 = hV H1 34 from (fRow f28.1.2.1 34 (by decide +kernel)).trans (fRow f22.1.2.1 34 (by decide +kernel))]
    exact congrArg _ (by omega)
  have cu_ : (n10).toNat = cuP (hV H0 30 13).toNat (n2).toNat := by rw [ce, Int.toNat_natCast]
  have w0 : hV H9 (n10).toNat 0 = 5 := ((fr1 f76.1.2.1 (by decide +kernel) kc6 0).trans ((fr1 f59.1.2.1 (by decide +kernel) kc5 0).trans ((ow57.2.1 0 (by decide) (by decide) (by decide)).trans ((fr1 f51.1.2.1 (by decide +kernel) kc3 0).trans (ow46.2.1))))).trans (by omega)
  have w1 : hV H9 (n10).toNat 1 = n16 := (fr1 f76.1.2.1 (by decide +kernel) kc6 1).trans ((fr1 f59.1.2.1 (by decide +kernel) kc5 1).trans ((ow57.2.1 1 (by decide) (by decide) (by decide)).trans ((fr1 f51.1.2.1 (by decide +kernel) kc3 1).trans (ow46.2.2.1))))
  have w2 := (fr1 f76.1.2.1 (by decide +kernel) kc6 2).trans ((fr1 f59.1.2.1 (by decide +kernel) kc5 2).trans (to57_2))
  have w4 := (fr1 f76.1.2.1 (by decide +kernel) kc6 4).trans ((fr1 f59.1.2.1 (by decide +kernel) kc5 4).trans (to57_4))
  have w5 := (fr1 f76.1.2.1 (by decide +kernel) kc6 5).trans ((fr1 f59.1.2.1 (by decide +kernel) kc5 5).trans (to57_5))
  have w6 : hV H9 (n10).toNat 6 = (-1) := (fr1 f76.1.2.1 (by decide +kernel) kc6 6).trans ((fr1 f59.1.2.1 (by decide +kernel) kc5 6).trans ((ow57.2.1 6 (by decide) (by decide) (by decide)).trans ((fr1 f51.1.2.1 (by decide +kernel) kc3 6).trans (ow46.2.2.2.2.2.2.1))))
  have w7 : hV H9 (n10).toNat 7 = (0) := (fr1 f76.1.2.1 (by decide +kernel) kc6 7).trans ((fr1 f59.1.2.1 (by decide +kernel) kc5 7).trans ((ow57.2.1 7 (by decide) (by decide) (by decide)).trans ((fr1 f51.1.2.1 (by decide +kernel) kc3 7).trans (ow46.2.2.2.2.2.2.2.1))))
  have re : recC H9 (cuP (hV H0 30 13).toNat (n2).toNat) = cuT (vwC H0) (BLc H0) (absC H1) := by
    rw [← cu_, recC_num w0 (.inr rfl), w1, w2, w4, w5, w6, w7, cuT_25 (hk.trans k2), lp]
  have le_ : lsC H9 (hV H0 30 13).toNat (n2).toNat = lsC H1 (hV H0 30 13).toNat (n2).toNat := lsC_eq (fun k hk_ s => (((CUo_tr (CUo_fr f22.1.1 f22.1.2.1 (by decide +kernel)) (CUo_tr (CUo_fr f28.1.1 f28.1.2.1 (by decide +kernel)) (CUo_tr (CUo_fr f45.1.1 f45.1.2.1 (by decide +kernel)) (CUo_tr ow46.1 (CUo_tr (CUo_fr f51.1.1 f51.1.2.1 (by decide +kernel)) (CUo_tr ow57.1 (CUo_tr (CUo_fr f59.1.1 f59.1.2.1 (by decide +kernel)) (CUo_fr f76.1.1 f76.1.2.1 (by decide +kernel))))))))) : CUo H1 H9 n10) _ (C45_k ck1.1 cz_ (by omega) (by omega))).2 (by rw [ce]; unfold cuP; omega) s)
  have st := pDr_step (v := vwC H0) (bl := BLc H0) (f := 16 - ((n2).toNat + 1)) (p := absC H1) (by rw [hk, k2]; decide)
  rw [pCue_k (hk.trans k2), ← hb, show 16 - ((n2).toNat + 1) + 1 = 16 - (n2).toNat by omega] at st
  have gl := gl hzH1.1
  rw [show (n20).toNat = (n2).toNat + 1 by omega, lsC_snoc, re, le_, ← st]
  exact gl
def g_72vw_6_7 : vG := ([(10, [27, 4], [], 1), (1, [26, 3, 25], [], 0), (1199, [25, 23, 24], [8, 9], 0), (90, [25], [], -2147483648), (91, [25], [], 2147483647), (20, [24, 10], [8], 2), (23, [10], [8], 1), (90, [24], [], -2147483648), (91, [24], [], 2147483647), (20, [23, 1], [8], 11), (23, [1], [8], 4), (0, [23], [], 47), (40, [21, 22], [], 0), (0, [22], [], 5), (20, [21, 10], [8], 0), (23, [10], [8], 1), (90, [21], [], -2147483648), (91, [21], [], 2147483647), (10, [20, 2], [], 1), (1066, [1, 19], [7, 8], 0), (0, [19], [], 4), (1080, [1, 10], [6, 7], 0), (67, [18], [], 4), (20, [18, 10], [6], 0), (23, [10], [6], 1), (90, [18], [], -2147483648), (91, [18], [], 2147483647), (1066, [1, 17], [5, 6], 0), (20, [17, 1], [5], 2), (23, [1], [5], 4), (90, [17], [], -2147483648), (91, [17], [], 2147483647), (1024, [10, 13, 16], [4, 5], 0), (1124, [16, 14, 15], [3, 4], 0), (90, [16], [], -2147483648), (91, [16], [], 2147483647), (20, [15, 1], [3], 1), (23, [1], [3], 4), (90, [15], [], -2147483648), (91, [15], [], 2147483647), (20, [14, 1], [3], 0), (23, [1], [3], 4), (0, [14], [], 31), (2, [13, 11, 12], [], 0), (0, [12], [], 20), (20, [11, 1], [3], 2), (23, [1], [3], 4), (90, [11], [], -2147483648), (91, [11], [], 2147483647), (51, [10], [], 0), (1074, [10, 1, 9, 2], [2, 3], 0), (20, [9, 1], [2], 13), (23, [1], [2], 4), (90, [9], [], -2147483648), (91, [9], [], 2147483647), (31, [8], [], 0), (1073, [8, 7], [1, 2], 0), (90, [8], [], 0), (91, [8], [], 1), (20, [7, 1], [1], 2), (23, [1], [1], 4), (90, [7], [], -2147483648), (91, [7], [], 2147483647), (30, [6], [], 0), (20, [6, 1], [1], 3), (23, [1], [1], 4), (90, [6], [], -2147483648), (91, [6], [], 2147483647), (45, [4, 5], [], 0), (0, [5], [], 16), (5000, [0, 1, 2, 3, 4], [0, 1], 6), (0, [0], [], 30), (0, [1], [], 30), (90, [2], [], -2147483648), (91, [2], [], 2147483647), (90, [3], [], -2147483648), (91, [3], [], 2147483647), (90, [4], [], -2147483648), (91, [4], [], 2147483647)], (4000, [1, 20, 26, 27], [9], 6))
theorem c_72vw_6_7 {q0 : Nat} : vOkm T0 (eN e_72v L_72vw A_72v mu_72v n_72 B_72 (some q0)) 1 g_72vw_6_7 := vOk_inI fun ρ η f0 f1 f2 f3 f4 f5 f6 f7 f8 f9 f10 f11 f12 f13 f14 f15 f16 f17 f18 f19 f20 f21 f22 f23 f24 f25 f26 f27 f28 f29 f30 f31 f32 f33 f34 f35 f36 f37 f38 f39 f40 f41 f42 f43 f44 f45 f46 f47 f48 f49 f50 f51 f52 f53 f54 f55 f56 f57 f58 f59 f60 f61 f62 f63 f64 f65 f66 f67 f68 f69 f70 f71 f72 f73 f74 f75 f76 f77 f78 => q_72vw_8 (q0 := q0) (n0 := ρ 4) (n1 := ρ 3) (n2 := ρ 2) (n3 := ρ 1) (n4 := ρ 0) (n5 := ρ 5) (n6 := ρ 6) (n7 := ρ 7) (n8 := ρ 8) (n9 := ρ 9) (n10 := ρ 10) (n11 := ρ 11) (n12 := ρ 12) (n13 := ρ 13) (n14 := ρ 14) (n15 := ρ 15) (n16 := ρ 16) (n17 := ρ 17) (n18 := ρ 18) (n19 := ρ 19) (n20 := ρ 20) (n21 := ρ 21) (n22 := ρ 22) (n23 := ρ 23) (n24 := ρ 24) (n25 := ρ 25) (n26 := ρ 26) (n27 := ρ 27) (H0 := η 0) (H1 := η 1) (H2 := η 2) (H3 := η 3) (H4 := η 4) (H5 := η 5) (H6 := η 6) (H7 := η 7) (H8 := η 8) (H9 := η 9) f78 f77 f76 f75 f74 f73 f72 f71 f70 f69 f68 f67 f66 f65 f64 f63 f62 f61 f60 f59 f58 f57 f56 f55 f54 f53 f52 f51 f50 f49 f48 f47 f46 f45 f44 f43 f42 f41 f40 f39 f38 f37 f36 f35 f34 f33 f32 f31 f30 f29 f28 f27 f26 f25 f24 f23 f22 f21 f20 f19 f18 f17 f16 f15 f14 f13 f12 f11 f10 f9 f8 f7 f6 f5 f4 f3 f2 f1 f0
theorem q_72vw_9 {q0 : Nat} {n0 n1 n2 n3 n4 n5 n6 n7 n8 n9 n10 n11 n12 n13 n14 n15 n16 n17 n18 n19 n20 n21 n22 n23 n24 n25 : Int} {H0 H1 H2 H3 H4 H5 H6 H7 H8 : gH} (f0 : n0 ≤ 2147483647) (f1 : (-2147483648) ≤ n0) (f2 : n1 ≤ 2147483647) (f3 : (-2147483648) ≤ n1) (f4 : n2 ≤ 2147483647) (f5 : (-2147483648) ≤ n2) (f6 : n3 = 30) (f7 : n4 = 30) (f8 : (hLe T0 H0 H1 ∧ hFr s_72v.2.2.2.2 H0 H1 ∧ hWt T0 H1) ∧ ((Ab_72v_6 n4 n3 n2 n1 n0 H0 H1 ∧ Bb_72_6 n4 n3 n2 n1 n0 H0 H1) ∧ preb_72v n4 H0) ∧ some q0 = some (mub_72v_6 n4 n3 n2 n1 n0 H0 H1)) (f9 : n5 = 16) (f10 : n0 ≤ n5) (f11 : n6 ≤ 2147483647) (f12 : (-2147483648) ≤ n6) (f13 : hK H1 (n3).toNat = 4) (f14 : n6 = hV H1 (n3).toNat 3) (f15 : n6 = 0) (f16 : n7 ≤ 2147483647) (f17 : (-2147483648) ≤ n7) (f18 : hK H1 (n3).toNat = 4) (f19 : n7 = hV H1 (n3).toNat 2) (f20 : n8 ≤ 1) (f21 : 0 ≤ n8) (f22 : (hLe T0 H1 H2 ∧ hFr s_73v.2.2.2.2 H1 H2 ∧ ((0 : Int) = 0 → H2.length = H1.length) ∧ hWt T0 H2) ∧ postb_73v n8 n7 H1 H2) (f23 : n8 ≠ 0) (f24 : n9 ≤ 2147483647) (f25 : (-2147483648) ≤ n9) (f26 : hK H2 (n3).toNat = 4) (f27 : n9 = hV H2 (n3).toNat 13) (f28 : (hLe T0 H2 H3 ∧ hFr s_74v.2.2.2.2 H2 H3 ∧ ((0 : Int) = 0 → H3.length = H2.length) ∧ hWt T0 H3) ∧ (postb_74v n10 n3 n9 n2 H2 H3 ∧ nb_74 n10 n3 n9 n2 H2 H3)) (f29 : 0 ≤ n10) (f30 : n11 ≤ 2147483647) (f31 : (-2147483648) ≤ n11) (f32 : hK H3 (n3).toNat = 4) (f33 : n11 = hV H3 (n3).toNat 2) (f34 : n12 = 20) (f35 : n13 = w32 (n11 - n12)) (f36 : n14 = 31) (f37 : hK H3 (n3).toNat = 4) (f38 : n14 = hV H3 (n3).toNat 0) (f39 : n15 ≤ 2147483647) (f40 : (-2147483648) ≤ n15) (f41 : hK H3 (n3).toNat = 4) (f42 : n15 = hV H3 (n3).toNat 1) (f43 : n16 ≤ 2147483647) (f44 : (-2147483648) ≤ n16) (f45 : (hLe T0 H3 H4 ∧ hFr s_124.2.2.2.2 H3 H4 ∧ ((0 : Int) = 0 → H4.length = H3.length) ∧ hWt T0 H4) ∧ postb_124x n16 n14 n15 H3 H4) (f46 : (hLe T0 H4 H5 ∧ hFr s_24v.2.2.2.2 H4 H5 ∧ ((0 : Int) = 0 → H5.length = H4.length) ∧ hWt T0 H5) ∧ (postb_24v n10 n13 n16 H4 H5 ∧ nb_24 n10 n13 n16 H4 H5)) (f47 : n17 ≤ 2147483647) (f48 : (-2147483648) ≤ n17) (f49 : hK H5 (n3).toNat = 4) (f50 : n17 = hV H5 (n3).toNat 2) (f51 : (hLe T0 H5 H6 ∧ hFr s_66v.2.2.2.2 H5 H6 ∧ ((0 : Int) = 0 → H6.length = H5.length) ∧ hWt T0 H6) ∧ postb_66v n3 n17 H5 H6) (f52 : n18 ≤ 2147483647) (f53 : (-2147483648) ≤ n18) (f54 : hK H6 (n10).toNat = 1) (f55 : n18 = hV H6 (n10).toNat 0) (f56 : n18 = 0) (f57 : (hLe T0 H6 H7 ∧ hFr s_75v.2.2.2.2 H6 H7 ∧ ((0 : Int) = 0 → H7.length = H6.length) ∧ hWt T0 H7) ∧ (postb_75v n3 n10 H6 H7 ∧ nb_75 n3 n10 H6 H7)) (f58 : n19 = 4) (f59 : (hLe T0 H7 H8 ∧ hFr s_66v.2.2.2.2 H7 H8 ∧ ((0 : Int) = 0 → H8.length = H7.length) ∧ hWt T0 H8) ∧ postb_66v n3 n19 H7 H8) (f60 : n20 = w32 (n2 + 1)) (f61 : n21 ≤ 2147483647) (f62 : (-2147483648) ≤ n21) (f63 : hK H8 (n10).toNat = 1) (f64 : n21 = hV H8 (n10).toNat 0) (f65 : n22 = 5) (f66 : n21 ≠ n22) (f67 : n23 = 1) (f68 : n24 = w32 (n1 + n23)) (f69 : n25 = w32 (n0 + 1)) : Bb_72_6 n4 n3 n20 n24 n25 H0 H8 := by
  unfold Bb_72_6
  intro ck
  have pz := f8.2.1.2
  unfold preb_72v at pz
  have ga := f8.2.1.1.1
  unfold Ab_72v_6 at ga
  have vz : vwC H1 = vwC H0 := vwC_fr f8.1.2.1 (by decide +kernel)
  obtain ⟨kz, bz, blz, b13, cz_, b48, x10, x116, x30, x317, x13, ya, yt⟩ := ga
  have gb := f8.2.1.1.2
  unfold Bb_72_6 at gb
  obtain ⟨gq, g46, g47, gl⟩ := gb ck
  have ck1 := CK_fr f8.1.1 f8.1.2.1 (by decide +kernel) ck
  have y2 := pz.2.1.2.1
  have y3 := pz.2.1.2.2.1
  have r3 := f14
  rw [f6] at r3
  rw [show ((30 : Int)).toNat = 30 from rfl] at r3
  have r2 := f19
  rw [f6] at r2
  rw [show ((30 : Int)).toNat = 30 from rfl] at r2
  have pc := f22.2
  unfold postb_73v at pc
  have cq := f28.2.1
  unfold postb_74v at cq
  have cq2 := cq.2
  have x16 : n2 < 16 := by
    rcases Int.lt_or_le n2 16 with w | w
    · omega
    · have := cq2 w
      omega
  have rb := f27
  rw [f6] at rb
  rw [show ((30 : Int)).toNat = 30 from rfl] at rb
  have t13 : hV H2 30 13 = hV H1 30 13 := f22.1.2.1.1 30 13 (by decide +kernel)
  have cw := f28.2.2
  unfold nb_74 at cw
  have cw := cw (CK_fr f22.1.1 f22.1.2.1 (by decide +kernel) ck1).1 (by omega) (by omega) (by omega)
  have ce : n10 = ((cuP (hV H0 30 13).toNat (n2).toNat : Nat) : Int) := by
    unfold cuP
    omega
  have cz : 0 ≤ n10 := by omega
  have hk1 : hK H1 (n10).toNat = 1 := by
    rw [ce, Int.toNat_natCast]
    exact C45_k ck1.1 cz_ (by omega) (by omega)
  have kc0 : hK H2 (n10).toNat = 1 := kLe f22.1.1 hk1 rfl
  have kc1 : hK H3 (n10).toNat = 1 := kLe f28.1.1 kc0 rfl
  have kc2 : hK H4 (n10).toNat = 1 := kLe f45.1.1 kc1 rfl
  have kc3 : hK H5 (n10).toNat = 1 := kLe f46.1.1 kc2 rfl
  have ow46 := f46.2.2
  unfold nb_24 at ow46
  have ow46 := ow46 kc2 cz
  have kc4 : hK H6 (n10).toNat = 1 := kLe f51.1.1 kc3 rfl
  have kc5 : hK H7 (n10).toNat = 1 := kLe f57.1.1 kc4 rfl
  have ow57 := f57.2.2
  unfold nb_75 at ow57
  have ow57 := ow57 kc4 cz
  try rw [f6] at ow57
  have kc6 : hK H8 (n10).toNat = 1 := kLe f59.1.1 kc5 rfl
  have s0 := PF_fr f22.1.1 f22.1.2.1 (by decide +kernel) kz
  have a0 : absC H2 = (absC H1) := s0.1
  have v0 : vwC H2 = vwC H0 := (vwC_fr f22.1.2.1 (by decide +kernel)).trans vz
  have u0 := CU_fr f22.1.1 f22.1.2.1 (by decide +kernel) cz_
  have d0 := BI_fr f22.1.1 f22.1.2.1 (by decide +kernel) bz
  have j0 : BLc H2 = BLc H0 := d0.2.trans blz
  have s1 := PF_fr f28.1.1 f28.1.2.1 (by decide +kernel) s0.2.2
  have a1 : absC H3 = (absC H1) := s1.1.trans a0
  have v1 : vwC H3 = vwC H0 := (vwC_fr f28.1.2.1 (by decide +kernel)).trans v0
  have u1 := CU_fr f28.1.1 f28.1.2.1 (by decide +kernel) u0
  have d1 := BI_fr f28.1.1 f28.1.2.1 (by decide +kernel) d0.1
  have j1 : BLc H3 = BLc H0 := d1.2.trans j0
  have s2 := PF_fr f45.1.1 f45.1.2.1 (by decide +kernel) s1.2.2
  have a2 : absC H4 = (absC H1) := s2.1.trans a1
  have v2 : vwC H4 = vwC H0 := (vwC_fr f45.1.2.1 (by decide +kernel)).trans v1
  have u2 := CU_fr f45.1.1 f45.1.2.1 (by decide +kernel) u1
  have d2 := BI_fr f45.1.1 f45.1.2.1 (by decide +kernel) d1.1
  have j2 : BLc H4 = BLc H0 := d2.2.trans j1
  have s3 := PF_fr f46.1.1 f46.1.2.1 (by decide +kernel) s2.2.2
  have a3 : absC H5 = (absC H1) := s3.1.trans a2
  have v3 : vwC H5 = vwC H0 := (vwC_fr f46.1.2.1 (by decide +kernel)).trans v2
  have u3 := CU_fr f46.1.1 f46.1.2.1 (by decide +kernel) u2
  have d3 := BI_fr f46.1.1 f46.1.2.1 (by decide +kernel) d2.1
  have j3 : BLc H5 = BLc H0 := d3.2.trans j2
  have c4 := f51.2
  unfold postb_66v at c4
  rw [v3] at c4
  rw [a3] at c4
  have a4 : absC H6 = (ptk (vwC H0) n17 (absC H1)) := c4.2
  have v4 : vwC H6 = vwC H0 := (vwC_fr f51.1.2.1 (by decide +kernel)).trans v3
  have u4 := CU_fr f51.1.1 f51.1.2.1 (by decide +kernel) u3
  have d4 := BI_fr f51.1.1 f51.1.2.1 (by decide +kernel) d3.1
  have j4 : BLc H6 = BLc H0 := d4.2.trans j3
  have c5 := f57.2.1
  unfold postb_75v at c5
  rw [v4] at c5
  rw [a4] at c5
  have a5 : absC H7 = (pLay (vwC H0) (ptk (vwC H0) n17 (absC H1))) := c5.2
  have v5 : vwC H7 = vwC H0 := (vwC_fr f57.1.2.1 (by decide +kernel)).trans v4
  have u5 := CU_fr f57.1.1 f57.1.2.1 (by decide +kernel) u4
  have d5 := BI_fr f57.1.1 f57.1.2.1 (by decide +kernel) d4.1
  have j5 : BLc H7 = BLc H0 := d5.2.trans j4
  have c6 := f59.2
  unfold postb_66v at c6
  try rw [f58] at c6
  rw [v5] at c6
  rw [a5] at c6
  have a6 : absC H8 = (ptk (vwC H0) 4 (pLay (vwC H0) (ptk (vwC H0) n17 (absC H1)))) := c6.2
  have v6 : vwC H8 = vwC H0 := (vwC_fr f59.1.2.1 (by decide +kernel)).trans v5
  have u6 := CU_fr f59.1.1 f59.1.2.1 (by decide +kernel) u5
  have d6 := BI_fr f59.1.1 f59.1.2.1 (by decide +kernel) d5.1
  have j6 : BLc H8 = BLc H0 := d6.2.trans j5
  have kq0 : n18 = n13 := f55.trans ((fr1 f51.1.2.1 (by decide +kernel) kc3 0).trans (ow46.2.1))
  have kq1 : n21 = n13 := f64.trans ((fr1 f59.1.2.1 (by decide +kernel) kc5 0).trans ((ow57.2.1 0 (by decide) (by decide) (by decide) (by decide) (by decide) (by decide) (by decide) (by decide) (by decide)).trans ((fr1 f51.1.2.1 (by decide +kernel) kc3 0).trans (ow46.2.1))))
  have rz0 := f33
  rw [f6] at rz0
  rw [show ((30 : Int)).toNat = 30 from rfl] at rz0
  have tz0 : hV H3 30 2 = hV H1 30 2 := (f28.1.2.1.1 30 2 (by decide +kernel)).trans (f22.1.2.1.1 30 2 (by decide +kernel))
  have rz1 := f50
  rw [f6] at rz1
  rw [show ((30 : Int)).toNat = 30 from rfl] at rz1
  have tz1 : hV H5 30 2 = hV H1 30 2 := (f46.1.2.1.1 30 2 (by decide +kernel)).trans ((f45.1.2.1.1 30 2 (by decide +kernel)).trans ((f28.1.2.1.1 30 2 (by decide +kernel)).trans (f22.1.2.1.1 30 2 (by decide +kernel))))
  have wq35 := f35
  unfold w32 at wq35
  have wq60 := f60
  unfold w32 at wq60
  have wq68 := f68
  unfold w32 at wq68
  have wq69 := f69
  unfold w32 at wq69
  have k2 : hV H1 30 2 = 20 := by omega
  have kt : n17 = 20 := by omega
  refine ⟨CUq_tr gq (CUq_of (c := n10) (CUo_tr (CUo_fr f22.1.1 f22.1.2.1 (by decide +kernel)) (CUo_tr (CUo_fr f28.1.1 f28.1.2.1 (by decide +kernel)) (CUo_tr (CUo_fr f45.1.1 f45.1.2.1 (by decide +kernel)) (CUo_tr ow46.1 (CUo_tr (CUo_fr f51.1.1 f51.1.2.1 (by decide +kernel)) (CUo_tr ow57.1 (CUo_fr f59.1.1 f59.1.2.1 (by decide +kernel)))))))) (k := (n2).toNat) (by omega) ce), ((fRow f59.1.2.1 46 (by decide +kernel)).trans ((fRow f57.1.2.1 46 (by decide +kernel)).trans ((fRow f51.1.2.1 46 (by decide +kernel)).trans ((fRow f46.1.2.1 46 (by decide +kernel)).trans ((fRow f45.1.2.1 46 (by decide +kernel)).trans ((fRow f28.1.2.1 46 (by decide +kernel)).trans (fRow f22.1.2.1 46 (by decide +kernel)))))))).trans g46, ((fRow f59.1.2.1 47 (by decide +kernel)).trans ((fRow f57.1.2.1 47 (by decide +kernel)).trans ((fRow f51.1.2.1 47 (by decide +kernel)).trans ((fRow f46.1.2.1 47 (by decide +kernel)).trans ((fRow f45.1.2.1 47 (by decide +kernel)).trans ((fRow f28.1.2.1 47 (by decide +kernel)).trans (fRow f22.1.2.1 47 (by decide +kernel)))))))).trans g47, fun hf => ?_⟩
  have hzH7 := fzE c5.1 c6.1 a5 a6 (fun n k => ptk_neg n k) hf
  have hzH6 := fzE c4.1 c5.1 a4 a5 (fun n k => pLay_neg (vwC_ok H0) n k) hzH7.1
  have hzH5 := fzE s3.2.2 c4.1 a3 a4 (fun n k => ptk_neg n k) hzH6.1
  have hzH4 := fzE s2.2.2 s3.2.2 a2 a3 (fun _ _ => rfl) hzH5.1
  have hzH3 := fzE s1.2.2 s2.2.2 a1 a2 (fun _ _ => rfl) hzH4.1
  have hzH2 := fzE s0.2.2 s1.2.2 a0 a1 (fun _ _ => rfl) hzH3.1
  have hzH1 := fzE kz s0.2.2 rfl a0 (fun _ _ => rfl) hzH2.1
  have hk : (vwC H0).1 (absC H1).1 = hV H1 30 2 := by
    have u := (kd_at kz).resolve_left (by have := absC_pos kz hzH1.1; omega)
    rw [vz] at u
    exact u
  have hb : absC H8 = ptk (vwC H0) 4 (pBody (vwC H0) (BLc H0) 20 (ptk (vwC H0) 20 (absC H1))) := by
    rw [pBody_20, ← kt]
    exact a6
  have to := ow57.2.2 hzH7.1
  rw [v4, a4, kt] at to
  rw [show hV H6 (n10).toNat 8 = (0) from (fr1 f51.1.2.1 (by decide +kernel) kc3 8).trans (ow46.2.2.2.2.2.2.2.2.1)] at to
  rw [show hV H6 (n10).toNat 9 = (-1) from (fr1 f51.1.2.1 (by decide +kernel) kc3 9).trans (ow46.2.2.2.2.2.2.2.2.2.1)] at to
  rw [show hV H6 (n10).toNat 10 = (100) from (fr1 f51.1.2.1 (by decide +kernel) kc3 10).trans (ow46.2.2.2.2.2.2.2.2.2.2.1)] at to
  rw [show hV H6 (n10).toNat 12 = (1) from (fr1 f51.1.2.1 (by decide +kernel) kc3 12).trans (ow46.2.2.2.2.2.2.2.2.2.2.2.1)] at to
  rw [show hV H6 (n10).toNat 13 = (1) from (fr1 f51.1.2.1 (by decide +kernel) kc3 13).trans (ow46.2.2.2.2.2.2.2.2.2.2.2.2)] at to
  obtain ⟨to57_2, to57_4, to57_5, to57_8, to57_9, to57_10, to57_12, to57_13⟩ := to
  have rp := f42
  rw [f6] at rp
  rw [show ((30 : Int)).toNat = 30 from rfl] at rp
  have p1 : hV H3 30 1 = hV H1 30 1 := (f28.1.2.1.1 30 1 (by decide +kernel)).trans (f22.1.2.1.1 30 1 (by decide +kernel))
  have pl := f45.2
  unfold postb_124x at pl
  have pl := pl s1.2.2.1
  have it := kz.2.2.2.1
  have lp : n16 = (vwC H0).2.2.2 (absC H1).1 := by
    rw [(absC_pos kz hzH1.1).1, ← vz, vwC_place it, lC_at it kz.2.1, pl, if_pos (by have := it.1; have := it.2.1; omega), show hV H3 34 = hV H1 34 from (fRow f28.1.2.1 34 (by decide +kernel)).trans (fRow f22.1.2.1 34 (by decide +kernel))]
    exact congrArg _ (by omega)
  have cu_ : (n10).toNat = cuP (hV H0 30 13).toNat (n2).toNat := by rw [ce, Int.toNat_natCast]
  have w0 : hV H8 (n10).toNat 0 = 0 := ((fr1 f59.1.2.1 (by decide +kernel) kc5 0).trans ((ow57.2.1 0 (by decide) (by decide) (by decide) (by decide) (by decide) (by decide) (by decide) (by decide) (by decide)).trans ((fr1 f51.1.2.1 (by decide +kernel) kc3 0).trans (ow46.2.1)))).trans (by omega)
  have w1 : hV H8 (n10).toNat 1 = n16 := (fr1 f59.1.2.1 (by decide +kernel) kc5 1).trans ((ow57.2.1 1 (by decide) (by decide) (by decide) (by decide) (by decide) (by decide) (by decide) (by decide) (by decide)).trans ((fr1 f51.1.2.1 (by decide +kernel) kc3 1).trans (ow46.2.2.1)))
  have w2 := (fr1 f59.1.2.1 (by decide +kernel) kc5 2).trans (to57_2)
  have w4 := (fr1 f59.1.2.1 (by decide +kernel) kc5 4).trans (to57_4)
  have w5 := (fr1 f59.1.2.1 (by decide +kernel) kc5 5).trans (to57_5)
  have w6 : hV H8 (n10).toNat 6 = (-1) := (fr1 f59.1.2.1 (by decide +kernel) kc5 6).trans ((ow57.2.1 6 (by decide) (by decide) (by decide) (by decide) (by decide) (by decide) (by decide) (by decide) (by decide)).trans ((fr1 f51.1.2.1 (by decide +kernel) kc3 6).trans (ow46.2.2.2.2.2.2.1)))
  have w7 : hV H8 (n10).toNat 7 = (0) := (fr1 f59.1.2.1 (by decide +kernel) kc5 7).trans ((ow57.2.1 7 (by decide) (by decide) (by decide) (by decide) (by decide) (by decide) (by decide) (by decide) (by decide)).trans ((fr1 f51.1.2.1 (by decide +kernel) kc3 7).trans (ow46.2.2.2.2.2.2.2.1)))
  have w8 := (fr1 f59.1.2.1 (by decide +kernel) kc5 8).trans (to57_8)
  have w9 := (fr1 f59.1.2.1 (by decide +kernel) kc5 9).trans (to57_9)
  have w10 := (fr1 f59.1.2.1 (by decide +kernel) kc5 10).trans (to57_10)
  have w12 := (fr1 f59.1.2.1 (by decide +kernel) kc5 12).trans (to57_12)
  have w13 := (fr1 f59.1.2.1 (by decide +kernel) kc5 13).trans (to57_13)
  have re : recC H8 (cuP (hV H0 30 13).toNat (n2).toNat) = cuT (vwC H0) (BLc H0) (absC H1) := by
    rw [← cu_, recC_lay w0, w1, w2, w4, w5, w6, w7, w8, w9, w10, w12, w13, cuT_20 (hk.trans k2), lp]
  have le_ : lsC H8 (hV H0 30 13).toNat (n2).toNat = lsC H1 (hV H0 30 13).toNat (n2).toNat := lsC_eq (fun k hk_ s => (((CUo_tr (CUo_fr f22.1.1 f22.1.2.1 (by decide +kernel)) (CUo_tr (CUo_fr f28.1.1 f28.1.2.1 (by decide +kernel)) (CUo_tr (CUo_fr f45.1.1 f45.1.2.1 (by decide +kernel)) (CUo_tr ow46.1 (CUo_tr (CUo_fr f51.1.1 f51.1.2.1 (by decide +kernel)) (CUo_tr ow57.1 (CUo_fr f59.1.1 f59.1.2.1 (by decide +kernel)))))))) : CUo H1 H8 n10) _ (C45_k ck1.1 cz_ (by omega) (by omega))).2 (by rw [ce]; unfold cuP; omega) s)
  have st := pDr_step (v := vwC H0) (bl := BLc H0) (f := 16 - ((n2).toNat + 1)) (p := absC H1) (by rw [hk, k2]; decide)
  rw [pCue_k (hk.trans k2), ← hb, show 16 - ((n2).toNat + 1) + 1 = 16 - (n2).toNat by omega] at st
  have gl := gl hzH1.1
  rw [show (n20).toNat = (n2).toNat + 1 by omega, lsC_snoc, re, le_, ← st]
  exact gl
def g_72vw_6_8 : vG := ([(10, [25, 4], [], 1), (1, [24, 3, 23], [], 0), (0, [23], [], 1), (41, [21, 22], [], 0), (0, [22], [], 5), (20, [21, 10], [8], 0), (23, [10], [8], 1), (90, [21], [], -2147483648), (91, [21], [], 2147483647), (10, [20, 2], [], 1), (1066, [1, 19], [7, 8], 0), (0, [19], [], 4), (1075, [1, 10], [6, 7], 0), (0, [18], [], 0), (20, [18, 10], [6], 0), (23, [10], [6], 1), (90, [18], [], -2147483648), (91, [18], [], 2147483647), (1066, [1, 17], [5, 6], 0), (20, [17, 1], [5], 2), (23, [1], [5], 4), (90, [17], [], -2147483648), (91, [17], [], 2147483647), (1024, [10, 13, 16], [4, 5], 0), (1124, [16, 14, 15], [3, 4], 0), (90, [16], [], -2147483648), (91, [16], [], 2147483647), (20, [15, 1], [3], 1), (23, [1], [3], 4), (90, [15], [], -2147483648), (91, [15], [], 2147483647), (20, [14, 1], [3], 0), (23, [1], [3], 4), (0, [14], [], 31), (2, [13, 11, 12], [], 0), (0, [12], [], 20), (20, [11, 1], [3], 2), (23, [1], [3], 4), (90, [11], [], -2147483648), (91, [11], [], 2147483647), (51, [10], [], 0), (1074, [10, 1, 9, 2], [2, 3], 0), (20, [9, 1], [2], 13), (23, [1], [2], 4), (90, [9], [], -2147483648), (91, [9], [], 2147483647), (31, [8], [], 0), (1073, [8, 7], [1, 2], 0), (90, [8], [], 0), (91, [8], [], 1), (20, [7, 1], [1], 2), (23, [1], [1], 4), (90, [7], [], -2147483648), (91, [7], [], 2147483647), (30, [6], [], 0), (20, [6, 1], [1], 3), (23, [1], [1], 4), (90, [6], [], -2147483648), (91, [6], [], 2147483647), (45, [4, 5], [], 0), (0, [5], [], 16), (5000, [0, 1, 2, 3, 4], [0, 1], 6), (0, [0], [], 30), (0, [1], [], 30), (90, [2], [], -2147483648), (91, [2], [], 2147483647), (90, [3], [], -2147483648), (91, [3], [], 2147483647), (90, [4], [], -2147483648), (91, [4], [], 2147483647)], (4000, [1, 20, 24, 25], [8], 6))
theorem c_72vw_6_8 {q0 : Nat} : vOkm T0 (eN e_72v L_72vw A_72v mu_72v n_72 B_72 (some q0)) 1 g_72vw_6_8 := vOk_inI fun ρ η f0 f1 f2 f3 f4 f5 f6 f7 f8 f9 f10 f11 f12 f13 f14 f15 f16 f17 f18 f19 f20 f21 f22 f23 f24 f25 f26 f27 f28 f29 f30 f31 f32 f33 f34 f35 f36 f37 f38 f39 f40 f41 f42 f43 f44 f45 f46 f47 f48 f49 f50 f51 f52 f53 f54 f55 f56 f57 f58 f59 f60 f61 f62 f63 f64 f65 f66 f67 f68 f69 => q_72vw_9 (q0 := q0) (n0 := ρ 4) (n1 := ρ 3) (n2 := ρ 2) (n3 := ρ 1) (n4 := ρ 0) (n5 := ρ 5) (n6 := ρ 6) (n7 := ρ 7) (n8 := ρ 8) (n9 := ρ 9) (n10 := ρ 10) (n11 := ρ 11) (n12 := ρ 12) (n13 := ρ 13) (n14 := ρ 14) (n15 := ρ 15) (n16 := ρ 16) (n17 := ρ 17) (n18 := ρ 18) (n19 := ρ 19) (n20 := ρ 20) (n21 := ρ 21) (n22 := ρ 22) (n23 := ρ 23) (n24 := ρ 24) (n25 := ρ 25) (H0 := η 0) (H1 := η 1) (H2 := η 2) (H3 := η 3) (H4 := η 4) (H5 := η 5) (H6 := η 6) (H7 := η 7) (H8 := η 8) f69 f68 f67 f66 f65 f64 f63 f62 f61 f60 f59 f58 f57 f56 f55 f54 f53 f52 f51 f50 f49 f48 f47 f46 f45 f44 f43 f42 f41 f40 f39 f38 f37 f36 f35 f34 f33 f32 f31 f30 f29 f28 f27 f26 f25 f24 f23 f22 f21 f20 f19 f18 f17 f16 f15 f14 f13 f12 f11 f10 f9 f8 f7 f6 f5 f4 f3 f2 f1 f0
theorem q_72vw_10 {q0 : Nat} {n0 n1 n2 n3 n4 n5 n6 n7 n8 n9 n10 n11 n12 n13 n14 n15 n16 n17 n18 n19 n20 n21 n22 n23 n24 n25 n26 n27 : Int} {H0 H1 H2 H3 H4 H5 H6 H7 H8 H9 : gH} (f0 : n0 ≤ 2147483647) (f1 : (-2147483648) ≤ n0) (f2 : n1 ≤ 2147483647) (f3 : (-2147483648) ≤ n1) (f4 : n2 ≤ 2147483647) (f5 : (-2147483648) ≤ n2) (f6 : n3 = 30) (f7 : n4 = 30) (f8 : (hLe T0 H0 H1 ∧ hFr s_72v.2.2.2.2 H0 H1 ∧ hWt T0 H1) ∧ ((Ab_72v_6 n4 n3 n2 n1 n0 H0 H1 ∧ Bb_72_6 n4 n3 n2 n1 n0 H0 H1) ∧ preb_72v n4 H0) ∧ some q0 = some (mub_72v_6 n4 n3 n2 n1 n0 H0 H1)) (f9 : n5 = 16) (f10 : n0 ≤ n5) (f11 : n6 ≤ 2147483647) (f12 : (-2147483648) ≤ n6) (f13 : hK H1 (n3).toNat = 4) (f14 : n6 = hV H1 (n3).toNat 3) (f15 : n6 = 0) (f16 : n7 ≤ 2147483647) (f17 : (-2147483648) ≤ n7) (f18 : hK H1 (n3).toNat = 4) (f19 : n7 = hV H1 (n3).toNat 2) (f20 : n8 ≤ 1) (f21 : 0 ≤ n8) (f22 : (hLe T0 H1 H2 ∧ hFr s_73v.2.2.2.2 H1 H2 ∧ ((0 : Int) = 0 → H2.length = H1.length) ∧ hWt T0 H2) ∧ postb_73v n8 n7 H1 H2) (f23 : n8 ≠ 0) (f24 : n9 ≤ 2147483647) (f25 : (-2147483648) ≤ n9) (f26 : hK H2 (n3).toNat = 4) (f27 : n9 = hV H2 (n3).toNat 13) (f28 : (hLe T0 H2 H3 ∧ hFr s_74v.2.2.2.2 H2 H3 ∧ ((0 : Int) = 0 → H3.length = H2.length) ∧ hWt T0 H3) ∧ (postb_74v n10 n3 n9 n2 H2 H3 ∧ nb_74 n10 n3 n9 n2 H2 H3)) (f29 : 0 ≤ n10) (f30 : n11 ≤ 2147483647) (f31 : (-2147483648) ≤ n11) (f32 : hK H3 (n3).toNat = 4) (f33 : n11 = hV H3 (n3).toNat 2) (f34 : n12 = 20) (f35 : n13 = w32 (n11 - n12)) (f36 : n14 = 31) (f37 : hK H3 (n3).toNat = 4) (f38 : n14 = hV H3 (n3).toNat 0) (f39 : n15 ≤ 2147483647) (f40 : (-2147483648) ≤ n15) (f41 : hK H3 (n3).toNat = 4) (f42 : n15 = hV H3 (n3).toNat 1) (f43 : n16 ≤ 2147483647) (f44 : (-2147483648) ≤ n16) (f45 : (hLe T0 H3 H4 ∧ hFr s_124.2.2.2.2 H3 H4 ∧ ((0 : Int) = 0 → H4.length = H3.length) ∧ hWt T0 H4) ∧ postb_124x n16 n14 n15 H3 H4) (f46 : (hLe T0 H4 H5 ∧ hFr s_24v.2.2.2.2 H4 H5 ∧ ((0 : Int) = 0 → H5.length = H4.length) ∧ hWt T0 H5) ∧ (postb_24v n10 n13 n16 H4 H5 ∧ nb_24 n10 n13 n16 H4 H5)) (f47 : n17 ≤ 2147483647) (f48 : (-2147483648) ≤ n17) (f49 : hK H5 (n3).toNat = 4) (f50 : n17 = hV H5 (n3).toNat 2) (f51 : (hLe T0 H5 H6 ∧ hFr s_66v.2.2.2.2 H5 H6 ∧ ((0 : Int) = 0 → H6.length = H5.length) ∧ hWt T0 H6) ∧ postb_66v n3 n17 H5 H6) (f52 : n18 ≤ 2147483647) (f53 : (-2147483648) ≤ n18) (f54 : hK H6 (n10).toNat = 1) (f55 : n18 = hV H6 (n10).toNat 0) (f56 : n18 = 0) (f57 : (hLe T0 H6 H7 ∧ hFr s_75v.2.2.2.2 H6 H7 ∧ ((0 : Int) = 0 → H7.length = H6.length) ∧ hWt T0 H7) ∧ (postb_75v n3 n10 H6 H7 ∧ nb_75 n3 n10 H6 H7)) (f58 : n19 = 4) (f59 : (hLe T0 H7 H8 ∧ hFr s_66v.2.2.2.2 H7 H8 ∧ ((0 : Int) = 0 → H8.length = H7.length) ∧ hWt T0 H8) ∧ postb_66v n3 n19 H7 H8) (f60 : n20 = w32 (n2 + 1)) (f61 : n21 ≤ 2147483647) (f62 : (-2147483648) ≤ n21) (f63 : hK H8 (n10).toNat = 1) (f64 : n21 = hV H8 (n10).toNat 0) (f65 : n22 = 5) (f66 : n21 = n22) (f67 : n23 = 47) (f68 : hK H8 (n3).toNat = 4) (f69 : n23 = hV H8 (n3).toNat 11) (f70 : n24 ≤ 2147483647) (f71 : (-2147483648) ≤ n24) (f72 : hK H8 (n10).toNat = 1) (f73 : n24 = hV H8 (n10).toNat 2) (f74 : n25 ≤ 2147483647) (f75 : (-2147483648) ≤ n25) (f76 : (hLe T0 H8 H9 ∧ hFr s_199vk740.2.2.2.2 H8 H9 ∧ ((0 : Int) = 0 → H9.length = H8.length) ∧ hWt T0 H9) ∧ postb_199vk740 n25 n23 n24 H8 H9) (f77 : n26 = w32 (n1 + n25)) (f78 : n27 = w32 (n0 + 1)) : Bb_72_6 n4 n3 n20 n26 n27 H0 H9 := by
  unfold Bb_72_6
  intro ck
  have pz := f8.2.1.2
  unfold preb_72v at pz
  have ga := f8.2.1.1.1
  unfold Ab_72v_6 at ga
  have vz : vwC H1 = vwC H0 := vwC_fr f8.1.2.1 (by decide +kernel)
  obtain ⟨kz, bz, blz, b13, cz_, b48, x10, x116, x30, x317, x13, ya, yt⟩ := ga
  have gb := f8.2.1.1.2
  unfold Bb_72_6 at gb
  obtain ⟨gq, g46, g47, gl⟩ := gb ck
  have ck1 := CK_fr f8.1.1 f8.1.2.1 (by decide +kernel) ck
  have y2 := pz.2.1.2.1
  have y3 := pz.2.1.2.2.1
  have r3 := f14
  rw [f6] at r3
  rw [show ((30 : Int)).toNat = 30 from rfl] at r3
  have r2 := f19
  rw [f6] at r2
  rw [show ((30 : Int)).toNat = 30 from rfl] at r2
  have pc := f22.2
  unfold postb_73v at pc
  have cq := f28.2.1
  unfold postb_74v at cq
  have cq2 := cq.2
  have x16 : n2 < 16 := by
    rcases Int.lt_or_le n2 16 with w | w
    · omega
    · have := cq2 w
      omega
  have rb := f27
  rw [f6] at rb
  rw [show ((30 : Int)).toNat = 30 from rfl] at rb
  have t13 : hV H2 30 13 = hV H1 30 13 := f22.1.2.1.1 30 13 (by decide +kernel)
  have cw := f28.2.2
  unfold nb_74 at cw
  have cw := cw (CK_fr f22.1.1 f22.1.2.1 (by decide +kernel) ck1).1 (by omega) (by omega) (by omega)
  have ce : n10 = ((cuP (hV H0 30 13).toNat (n2).toNat : Nat) : Int) := by
    unfold cuP
    omega
  have cz : 0 ≤ n10 := by omega
  have hk1 : hK H1 (n10).toNat = 1 := by
    rw [ce, Int.toNat_natCast]
    exact C45_k ck1.1 cz_ (by omega) (by omega)
  have kc0 : hK H2 (n10).toNat = 1 := kLe f22.1.1 hk1 rfl
  have kc1 : hK H3 (n10).toNat = 1 := kLe f28.1.1 kc0 rfl
  have kc2 : hK H4 (n10).toNat = 1 := kLe f45.1.1 kc1 rfl
  have kc3 : hK H5 (n10).toNat = 1 := kLe f46.1.1 kc2 rfl
  have ow46 := f46.2.2
  unfold nb_24 at ow46
  have ow46 := ow46 kc2 cz
  have kc4 : hK H6 (n10).toNat = 1 := kLe f51.1.1 kc3 rfl
  have kc5 : hK H7 (n10).toNat = 1 := kLe f57.1.1 kc4 rfl
  have ow57 := f57.2.2
  unfold nb_75 at ow57
  have ow57 := ow57 kc4 cz
  try rw [f6] at ow57
  have kc6 : hK H8 (n10).toNat = 1 := kLe f59.1.1 kc5 rfl
  have kc7 : hK H9 (n10).toNat = 1 := kLe f76.1.1 kc6 rfl
  have s0 := PF_fr f22.1.1 f22.1.2.1 (by decide +kernel) kz
  have a0 : absC H2 = (absC H1) := s0.1
  have v0 : vwC H2 = vwC H0 := (vwC_fr f22.1.2.1 (by decide +kernel)).trans vz
  have u0 := CU_fr f22.1.1 f22.1.2.1 (by decide +kernel) cz_
  have d0 := BI_fr f22.1.1 f22.1.2.1 (by decide +kernel) bz
  have j0 : BLc H2 = BLc H0 := d0.2.trans blz
  have s1 := PF_fr f28.1.1 f28.1.2.1 (by decide +kernel) s0.2.2
  have a1 : absC H3 = (absC H1) := s1.1.trans a0
  have v1 : vwC H3 = vwC H0 := (vwC_fr f28.1.2.1 (by decide +kernel)).trans v0
  have u1 := CU_fr f28.1.1 f28.1.2.1 (by decide +kernel) u0
  have d1 := BI_fr f28.1.1 f28.1.2.1 (by decide +kernel) d0.1
  have j1 : BLc H3 = BLc H0 := d1.2.trans j0
  have s2 := PF_fr f45.1.1 f45.1.2.1 (by decide +kernel) s1.2.2
  have a2 : absC H4 = (absC H1) := s2.1.trans a1
  have v2 : vwC H4 = vwC H0 := (vwC_fr f45.1.2.1 (by decide +kernel)).trans v1
  have u2 := CU_fr f45.1.1 f45.1.2.1 (by decide +kernel) u1
  have d2 := BI_fr f45.1.1 f45.1.2.1 (by decide +kernel) d1.1
  have j2 : BLc H4 = BLc H0 := d2.2.trans j1
  have s3 := PF_fr f46.1.1 f46.1.2.1 (by decide +kernel) s2.2.2
  have a3 : absC H5 = (absC H1) := s3.1.trans a2
  have v3 : vwC H5 = vwC H0 := (vwC_fr f46.1.2.1 (by decide +kernel)).trans v2
  have u3 := CU_fr f46.1.1 f46.1.2.1 (by decide +kernel) u2
  have d3 := BI_fr f46.1.1 f46.1.2.1 (by decide +kernel) d2.1
  have j3 : BLc H5 = BLc H0 := d3.2.trans j2
  have c4 := f51.2
  unfold postb_66v at c4
  rw [v3] at c4
  rw [a3] at c4
  have a4 : absC H6 = (ptk (vwC H0) n17 (absC H1)) := c4.2
  have v4 : vwC H6 = vwC H0 := (vwC_fr f51.1.2.1 (by decide +kernel)).trans v3
  have u4 := CU_fr f51.1.1 f51.1.2.1 (by decide +kernel) u3
  have d4 := BI_fr f51.1.1 f51.1.2.1 (by decide +kernel) d3.1
  have j4 : BLc H6 = BLc H0 := d4.2.trans j3
  have c5 := f57.2.1
  unfold postb_75v at c5
  rw [v4] at c5
  rw [a4] at c5
  have a5 : absC H7 = (pLay (vwC H0) (ptk (vwC H0) n17 (absC H1))) := c5.2
  have v5 : vwC H7 = vwC H0 := (vwC_fr f57.1.2.1 (by decide +kernel)).trans v4
  have u5 := CU_fr f57.1.1 f57.1.2.1 (by decide +kernel) u4
  have d5 := BI_fr f57.1.1 f57.1.2.1 (by decide +kernel) d4.1
  have j5 : BLc H7 = BLc H0 := d5.2.trans j4
  have c6 := f59.2
  unfold postb_66v at c6
  try rw [f58] at c6
  rw [v5] at c6
  rw [a5] at c6
  have a6 : absC H8 = (ptk (vwC H0) 4 (pLay (vwC H0) (ptk (vwC H0) n17 (absC H1)))) := c6.2
  have v6 : vwC H8 = vwC H0 := (vwC_fr f59.1.2.1 (by decide +kernel)).trans v5
  have u6 := CU_fr f59.1.1 f59.1.2.1 (by decide +kernel) u5
  have d6 := BI_fr f59.1.1 f59.1.2.1 (by decide +kernel) d5.1
  have j6 : BLc H8 = BLc H0 := d6.2.trans j5
  have s7 := PF_fr f76.1.1 f76.1.2.1 (by decide +kernel) c6.1
  have a7 : absC H9 = (ptk (vwC H0) 4 (pLay (vwC H0) (ptk (vwC H0) n17 (absC H1)))) := s7.1.trans a6
  have v7 : vwC H9 = vwC H0 := (vwC_fr f76.1.2.1 (by decide +kernel)).trans v6
  have u7 := CU_fr f76.1.1 f76.1.2.1 (by decide +kernel) u6
  have d7 := BI_fr f76.1.1 f76.1.2.1 (by decide +kernel) d6.1
  have j7 : BLc H9 = BLc H0 := d7.2.trans j6
  have kq0 : n18 = n13 := f55.trans ((fr1 f51.1.2.1 (by decide +kernel) kc3 0).trans (ow46.2.1))
  have kq1 : n21 = n13 := f64.trans ((fr1 f59.1.2.1 (by decide +kernel) kc5 0).trans ((ow57.2.1 0 (by decide) (by decide) (by decide) (by decide) (by decide) (by decide) (by decide) (by decide) (by decide)).trans ((fr1 f51.1.2.1 (by decide +kernel) kc3 0).trans (ow46.2.1))))
  have rz0 := f33
  rw [f6] at rz0
  rw [show ((30 : Int)).toNat = 30 from rfl] at rz0
  have tz0 : hV H3 30 2 = hV H1 30 2 := (f28.1.2.1.1 30 2 (by decide +kernel)).trans (f22.1.2.1.1 30 2 (by decide +kernel))
  have rz1 := f50
  rw [f6] at rz1
  rw [show ((30 : Int)).toNat = 30 from rfl] at rz1
  have tz1 : hV H5 30 2 = hV H1 30 2 := (f46.1.2.1.1 30 2 (by decide +kernel)).trans ((f45.1.2.1.1 30 2 (by decide +kernel)).trans ((f28.1.2.1.1 30 2 (by decide +kernel)).trans (f22.1.2.1.1 30 2 (by decide +kernel))))
  have wq35 := f35
  unfold w32 at wq35
  have wq60 := f60
  unfold w32 at wq60
  have wq77 := f77
  unfold w32 at wq77
  have wq78 := f78
  unfold w32 at wq78
  exfalso
  omega
def g_72vw_6_9 : vG := ([(10, [27, 4], [], 1), (1, [26, 3, 25], [], 0), (1199, [25, 23, 24], [8, 9], 0), (90, [25], [], -2147483648), (91, [25], [], 2147483647), (20, [24, 10], [8], 2), (23, [10], [8], 1), (90, [24], [], -2147483648), (91, [24], [], 2147483647), (20, [23, 1], [8], 11), (23, [1], [8], 4), (0, [23], [], 47), (40, [21, 22], [], 0), (0, [22], [], 5), (20, [21, 10], [8], 0), (23, [10], [8], 1), (90, [21], [], -2147483648), (91, [21], [], 2147483647), (10, [20, 2], [], 1), (1066, [1, 19], [7, 8], 0), (0, [19], [], 4), (1075, [1, 10], [6, 7], 0), (0, [18], [], 0), (20, [18, 10], [6], 0), (23, [10], [6], 1), (90, [18], [], -2147483648), (91, [18], [], 2147483647), (1066, [1, 17], [5, 6], 0), (20, [17, 1], [5], 2), (23, [1], [5], 4), (90, [17], [], -2147483648), (91, [17], [], 2147483647), (1024, [10, 13, 16], [4, 5], 0), (1124, [16, 14, 15], [3, 4], 0), (90, [16], [], -2147483648), (91, [16], [], 2147483647), (20, [15, 1], [3], 1), (23, [1], [3], 4), (90, [15], [], -2147483648), (91, [15], [], 2147483647), (20, [14, 1], [3], 0), (23, [1], [3], 4), (0, [14], [], 31), (2, [13, 11, 12], [], 0), (0, [12], [], 20), (20, [11, 1], [3], 2), (23, [1], [3], 4), (90, [11], [], -2147483648), (91, [11], [], 2147483647), (51, [10], [], 0), (1074, [10, 1, 9, 2], [2, 3], 0), (20, [9, 1], [2], 13), (23, [1], [2], 4), (90, [9], [], -2147483648), (91, [9], [], 2147483647), (31, [8], [], 0), (1073, [8, 7], [1, 2], 0), (90, [8], [], 0), (91, [8], [], 1), (20, [7, 1], [1], 2), (23, [1], [1], 4), (90, [7], [], -2147483648), (91, [7], [], 2147483647), (30, [6], [], 0), (20, [6, 1], [1], 3), (23, [1], [1], 4), (90, [6], [], -2147483648), (91, [6], [], 2147483647), (45, [4, 5], [], 0), (0, [5], [], 16), (5000, [0, 1, 2, 3, 4], [0, 1], 6), (0, [0], [], 30), (0, [1], [], 30), (90, [2], [], -2147483648), (91, [2], [], 2147483647), (90, [3], [], -2147483648), (91, [3], [], 2147483647), (90, [4], [], -2147483648), (91, [4], [], 2147483647)], (4000, [1, 20, 26, 27], [9], 6))
theorem c_72vw_6_9 {q0 : Nat} : vOkm T0 (eN e_72v L_72vw A_72v mu_72v n_72 B_72 (some q0)) 1 g_72vw_6_9 := vOk_inI fun ρ η f0 f1 f2 f3 f4 f5 f6 f7 f8 f9 f10 f11 f12 f13 f14 f15 f16 f17 f18 f19 f20 f21 f22 f23 f24 f25 f26 f27 f28 f29 f30 f31 f32 f33 f34 f35 f36 f37 f38 f39 f40 f41 f42 f43 f44 f45 f46 f47 f48 f49 f50 f51 f52 f53 f54 f55 f56 f57 f58 f59 f60 f61 f62 f63 f64 f65 f66 f67 f68 f69 f70 f71 f72 f73 f74 f75 f76 f77 f78 => q_72vw_10 (q0 := q0) (n0 := ρ 4) (n1 := ρ 3) (n2 := ρ 2) (n3 := ρ 1) (n4 := ρ 0) (n5 := ρ 5) (n6 := ρ 6) (n7 := ρ 7) (n8 := ρ 8) (n9 := ρ 9) (n10 := ρ 10) (n11 := ρ 11) (n12 := ρ 12) (n13 := ρ 13) (n14 := ρ 14) (n15 := ρ 15) (n16 := ρ 16) (n17 := ρ 17) (n18 := ρ 18) (n19 := ρ 19) (n20 := ρ 20) (n21 := ρ 21) (n22 := ρ 22) (n23 := ρ 23) (n24 := ρ 24) (n25 := ρ 25) (n26 := ρ 26) (n27 := ρ 27) (H0 := η 0) (H1 := η 1) (H2 := η 2) (H3 := η 3) (H4 := η 4) (H5 := η 5) (H6 := η 6) (H7 := η 7) (H8 := η 8) (H9 := η 9) f78 f77 f76 f75 f74 f73 f72 f71 f70 f69 f68 f67 f66 f65 f64 f63 f62 f61 f60 f59 f58 f57 f56 f55 f54 f53 f52 f51 f50 f49 f48 f47 f46 f45 f44 f43 f42 f41 f40 f39 f38 f37 f36 f35 f34 f33 f32 f31 f30 f29 f28 f27 f26 f25 f24 f23 f22 f21 f20 f19 f18 f17 f16 f15 f14 f13 f12 f11 f10 f9 f8 f7 f6 f5 f4 f3 f2 f1 f0
theorem q_72vw_11 {q0 : Nat} {n0 n1 n2 n3 n4 n5 n6 n7 n8 n9 n10 n11 n12 n13 n14 n15 n16 n17 n18 n19 n20 n21 n22 n23 n24 n25 : Int} {H0 H1 H2 H3 H4 H5 H6 H7 H8 : gH} (f0 : n0 ≤ 2147483647) (f1 : (-2147483648) ≤ n0) (f2 : n1 ≤ 2147483647) (f3 : (-2147483648) ≤ n1) (f4 : n2 ≤ 2147483647) (f5 : (-2147483648) ≤ n2) (f6 : n3 = 30) (f7 : n4 = 30) (f8 : (hLe T0 H0 H1 ∧ hFr s_72v.2.2.2.2 H0 H1 ∧ hWt T0 H1) ∧ ((Ab_72v_6 n4 n3 n2 n1 n0 H0 H1 ∧ Bb_72_6 n4 n3 n2 n1 n0 H0 H1) ∧ preb_72v n4 H0) ∧ some q0 = some (mub_72v_6 n4 n3 n2 n1 n0 H0 H1)) (f9 : n5 = 16) (f10 : n0 ≤ n5) (f11 : n6 ≤ 2147483647) (f12 : (-2147483648) ≤ n6) (f13 : hK H1 (n3).toNat = 4) (f14 : n6 = hV H1 (n3).toNat 3) (f15 : n6 = 0) (f16 : n7 ≤ 2147483647) (f17 : (-2147483648) ≤ n7) (f18 : hK H1 (n3).toNat = 4) (f19 : n7 = hV H1 (n3).toNat 2) (f20 : n8 ≤ 1) (f21 : 0 ≤ n8) (f22 : (hLe T0 H1 H2 ∧ hFr s_73v.2.2.2.2 H1 H2 ∧ ((0 : Int) = 0 → H2.length = H1.length) ∧ hWt T0 H2) ∧ postb_73v n8 n7 H1 H2) (f23 : n8 ≠ 0) (f24 : n9 ≤ 2147483647) (f25 : (-2147483648) ≤ n9) (f26 : hK H2 (n3).toNat = 4) (f27 : n9 = hV H2 (n3).toNat 13) (f28 : (hLe T0 H2 H3 ∧ hFr s_74v.2.2.2.2 H2 H3 ∧ ((0 : Int) = 0 → H3.length = H2.length) ∧ hWt T0 H3) ∧ (postb_74v n10 n3 n9 n2 H2 H3 ∧ nb_74 n10 n3 n9 n2 H2 H3)) (f29 : 0 ≤ n10) (f30 : n11 ≤ 2147483647) (f31 : (-2147483648) ≤ n11) (f32 : hK H3 (n3).toNat = 4) (f33 : n11 = hV H3 (n3).toNat 2) (f34 : n12 = 20) (f35 : n13 = w32 (n11 - n12)) (f36 : n14 = 31) (f37 : hK H3 (n3).toNat = 4) (f38 : n14 = hV H3 (n3).toNat 0) (f39 : n15 ≤ 2147483647) (f40 : (-2147483648) ≤ n15) (f41 : hK H3 (n3).toNat = 4) (f42 : n15 = hV H3 (n3).toNat 1) (f43 : n16 ≤ 2147483647) (f44 : (-2147483648) ≤ n16) (f45 : (hLe T0 H3 H4 ∧ hFr s_124.2.2.2.2 H3 H4 ∧ ((0 : Int) = 0 → H4.length = H3.length) ∧ hWt T0 H4) ∧ postb_124x n16 n14 n15 H3 H4) (f46 : (hLe T0 H4 H5 ∧ hFr s_24v.2.2.2.2 H4 H5 ∧ ((0 : Int) = 0 → H5.length = H4.length) ∧ hWt T0 H5) ∧ (postb_24v n10 n13 n16 H4 H5 ∧ nb_24 n10 n13 n16 H4 H5)) (f47 : n17 ≤ 2147483647) (f48 : (-2147483648) ≤ n17) (f49 : hK H5 (n3).toNat = 4) (f50 : n17 = hV H5 (n3).toNat 2) (f51 : (hLe T0 H5 H6 ∧ hFr s_66v.2.2.2.2 H5 H6 ∧ ((0 : Int) = 0 → H6.length = H5.length) ∧ hWt T0 H6) ∧ postb_66v n3 n17 H5 H6) (f52 : n18 ≤ 2147483647) (f53 : (-2147483648) ≤ n18) (f54 : hK H6 (n10).toNat = 1) (f55 : n18 = hV H6 (n10).toNat 0) (f56 : n18 = 1) (f57 : (hLe T0 H6 H7 ∧ hFr s_76v.2.2.2.2 H6 H7 ∧ ((0 : Int) = 0 → H7.length = H6.length) ∧ hWt T0 H7) ∧ (postb_76v n3 n10 H6 H7 ∧ nb_76 n3 n10 H6 H7)) (f58 : n19 = 4) (f59 : (hLe T0 H7 H8 ∧ hFr s_66v.2.2.2.2 H7 H8 ∧ ((0 : Int) = 0 → H8.length = H7.length) ∧ hWt T0 H8) ∧ postb_66v n3 n19 H7 H8) (f60 : n20 = w32 (n2 + 1)) (f61 : n21 ≤ 2147483647) (f62 : (-2147483648) ≤ n21) (f63 : hK H8 (n10).toNat = 1) (f64 : n21 = hV H8 (n10).toNat 0) (f65 : n22 = 5) (f66 : n21 ≠ n22) (f67 : n23 = 1) (f68 : n24 = w32 (n1 + n23)) (f69 : n25 = w32 (n0 + 1)) : Bb_72_6 n4 n3 n20 n24 n25 H0 H8 := by
  unfold Bb_72_6
  intro ck
  have pz := f8.2.1.2
  unfold preb_72v at pz
  have ga := f8.2.1.1.1
  unfold Ab_72v_6 at ga
  have vz : vwC H1 = vwC H0 := vwC_fr f8.1.2.1 (by decide +kernel)
  obtain ⟨kz, bz, blz, b13, cz_, b48, x10, x116, x30, x317, x13, ya, yt⟩ := ga
  have gb := f8.2.1.1.2
  unfold Bb_72_6 at gb
  obtain ⟨gq, g46, g47, gl⟩ := gb ck
  have ck1 := CK_fr f8.1.1 f8.1.2.1 (by decide +kernel) ck
  have y2 := pz.2.1.2.1
  have y3 := pz.2.1.2.2.1
  have r3 := f14
  rw [f6] at r3
  rw [show ((30 : Int)).toNat = 30 from rfl] at r3
  have r2 := f19
  rw [f6] at r2
  rw [show ((30 : Int)).toNat = 30 from rfl] at r2
  have pc := f22.2
  unfold postb_73v at pc
  have cq := f28.2.1
  unfold postb_74v at cq
  have cq2 := cq.2
  have x16 : n2 < 16 := by
    rcases Int.lt_or_le n2 16 with w | w
    · omega
    · have := cq2 w
      omega
  have rb := f27
  rw [f6] at rb
  rw [show ((30 : Int)).toNat = 30 from rfl] at rb
  have t13 : hV H2 30 13 = hV H1 30 13 := f22.1.2.1.1 30 13 (by decide +kernel)
  have cw := f28.2.2
  unfold nb_74 at cw
  have cw := cw (CK_fr f22.1.1 f22.1.2.1 (by decide +kernel) ck1).1 (by omega) (by omega) (by omega)
  have ce : n10 = ((cuP (hV H0 30 13).toNat (n2).toNat : Nat) : Int) := by
    unfold cuP
    omega
  have cz : 0 ≤ n10 := by omega
  have hk1 : hK H1 (n10).toNat = 1 := by
    rw [ce, Int.toNat_natCast]
    exact C45_k ck1.1 cz_ (by omega) (by omega)
  have kc0 : hK H2 (n10).toNat = 1 := kLe f22.1.1 hk1 rfl
  have kc1 : hK H3 (n10).toNat = 1 := kLe f28.1.1 kc0 rfl
  have kc2 : hK H4 (n10).toNat = 1 := kLe f45.1.1 kc1 rfl
  have kc3 : hK H5 (n10).toNat = 1 := kLe f46.1.1 kc2 rfl
  have ow46 := f46.2.2
  unfold nb_24 at ow46
  have ow46 := ow46 kc2 cz
  have kc4 : hK H6 (n10).toNat = 1 := kLe f51.1.1 kc3 rfl
  have kc5 : hK H7 (n10).toNat = 1 := kLe f57.1.1 kc4 rfl
  have ow57 := f57.2.2
  unfold nb_76 at ow57
  have ow57 := ow57 kc4 cz
  try rw [f6] at ow57
  have kc6 : hK H8 (n10).toNat = 1 := kLe f59.1.1 kc5 rfl
  have s0 := PF_fr f22.1.1 f22.1.2.1 (by decide +kernel) kz
  have a0 : absC H2 = (absC H1) := s0.1
  have v0 : vwC H2 = vwC H0 := (vwC_fr f22.1.2.1 (by decide +kernel)).trans vz
  have u0 := CU_fr f22.1.1 f22.1.2.1 (by decide +kernel) cz_
  have d0 := BI_fr f22.1.1 f22.1.2.1 (by decide +kernel) bz
  have j0 : BLc H2 = BLc H0 := d0.2.trans blz
  have s1 := PF_fr f28.1.1 f28.1.2.1 (by decide +kernel) s0.2.2
  have a1 : absC H3 = (absC H1) := s1.1.trans a0
  have v1 : vwC H3 = vwC H0 := (vwC_fr f28.1.2.1 (by decide +kernel)).trans v0
  have u1 := CU_fr f28.1.1 f28.1.2.1 (by decide +kernel) u0
  have d1 := BI_fr f28.1.1 f28.1.2.1 (by decide +kernel) d0.1
  have j1 : BLc H3 = BLc H0 := d1.2.trans j0
  have s2 := PF_fr f45.1.1 f45.1.2.1 (by decide +kernel) s1.2.2
  have a2 : absC H4 = (absC H1) := s2.1.trans a1
  have v2 : vwC H4 = vwC H0 := (vwC_fr f45.1.2.1 (by decide +kernel)).trans v1
  have u2 := CU_fr f45.1.1 f45.1.2.1 (by decide +kernel) u1
  have d2 := BI_fr f45.1.1 f45.1.2.1 (by decide +kernel) d1.1
  have j2 : BLc H4 = BLc H0 := d2.2.trans j1
  have s3 := PF_fr f46.1.1 f46.1.2.1 (by decide +kernel) s2.2.2
  have a3 : absC H5 = (absC H1) := s3.1.trans a2
  have v3 : vwC H5 = vwC H0 := (vwC_fr f46.1.2.1 (by decide +kernel)).trans v2
  have u3 := CU_fr f46.1.1 f46.1.2.1 (by decide +kernel) u2
  have d3 := BI_fr f46.1.1 f46.1.2.1 (by decide +kernel) d2.1
  have j3 : BLc H5 = BLc H0 := d3.2.trans j2
  have c4 := f51.2
  unfold postb_66v at c4
  rw [v3] at c4
  rw [a3] at c4
  have a4 : absC H6 = (ptk (vwC H0) n17 (absC H1)) := c4.2
  have v4 : vwC H6 = vwC H0 := (vwC_fr f51.1.2.1 (by decide +kernel)).trans v3
  have u4 := CU_fr f51.1.1 f51.1.2.1 (by decide +kernel) u3
  have d4 := BI_fr f51.1.1 f51.1.2.1 (by decide +kernel) d3.1
  have j4 : BLc H6 = BLc H0 := d4.2.trans j3
  have c5 := f57.2.1
  unfold postb_76v at c5
  rw [v4] at c5
  rw [a4] at c5
  have a5 : absC H7 = (pFade (vwC H0) (ptk (vwC H0) n17 (absC H1))) := c5.2
  have v5 : vwC H7 = vwC H0 := (vwC_fr f57.1.2.1 (by decide +kernel)).trans v4
  have u5 := CU_fr f57.1.1 f57.1.2.1 (by decide +kernel) u4
  have d5 := BI_fr f57.1.1 f57.1.2.1 (by decide +kernel) d4.1
  have j5 : BLc H7 = BLc H0 := d5.2.trans j4
  have c6 := f59.2
  unfold postb_66v at c6
  try rw [f58] at c6
  rw [v5] at c6
  rw [a5] at c6
  have a6 : absC H8 = (ptk (vwC H0) 4 (pFade (vwC H0) (ptk (vwC H0) n17 (absC H1)))) := c6.2
  have v6 : vwC H8 = vwC H0 := (vwC_fr f59.1.2.1 (by decide +kernel)).trans v5
  have u6 := CU_fr f59.1.1 f59.1.2.1 (by decide +kernel) u5
  have d6 := BI_fr f59.1.1 f59.1.2.1 (by decide +kernel) d5.1
  have j6 : BLc H8 = BLc H0 := d6.2.trans j5
  have kq0 : n18 = n13 := f55.trans ((fr1 f51.1.2.1 (by decide +kernel) kc3 0).trans (ow46.2.1))
  have kq1 : n21 = n13 := f64.trans ((fr1 f59.1.2.1 (by decide +kernel) kc5 0).trans ((ow57.2.1 0 (by decide) (by decide) (by decide) (by decide) (by decide) (by decide) (by decide)).trans ((fr1 f51.1.2.1 (by decide +kernel) kc3 0).trans (ow46.2.1))))
  have rz0 := f33
  rw [f6] at rz0
  rw [show ((30 : Int)).toNat = 30 from rfl] at rz0
  have tz0 : hV H3 30 2 = hV H1 30 2 := (f28.1.2.1.1 30 2 (by decide +kernel)).trans (f22.1.2.1.1 30 2 (by decide +kernel))
  have rz1 := f50
  rw [f6] at rz1
  rw [show ((30 : Int)).toNat = 30 from rfl] at rz1
  have tz1 : hV H5 30 2 = hV H1 30 2 := (f46.1.2.1.1 30 2 (by decide +kernel)).trans ((f45.1.2.1.1 30 2 (by decide +kernel)).trans ((f28.1.2.1.1 30 2 (by decide +kernel)).trans (f22.1.2.1.1 30 2 (by decide +kernel))))
  have wq35 := f35
  unfold w32 at wq35
  have wq60 := f60
  unfold w32 at wq60
  have wq68 := f68
  unfold w32 at wq68
  have wq69 := f69
  unfold w32 at wq69
  have k2 : hV H1 30 2 = 21 := by omega
  have kt : n17 = 21 := by omega
  refine ⟨CUq_tr gq (CUq_of (c := n10) (CUo_tr (CUo_fr f22.1.1 f22.1.2.1 (by decide +kernel)) (CUo_tr (CUo_fr f28.1.1 f28.1.2.1 (by decide +kernel)) (CUo_tr (CUo_fr f45.1.1 f45.1.2.1 (by decide +kernel)) (CUo_tr ow46.1 (CUo_tr (CUo_fr f51.1.1 f51.1.2.1 (by decide +kernel)) (CUo_tr ow57.1 (CUo_fr f59.1.1 f59.1.2.1 (by decide +kernel)))))))) (k := (n2).toNat) (by omega) ce), ((fRow f59.1.2.1 46 (by decide +kernel)).trans ((fRow f57.1.2.1 46 (by decide +kernel)).trans ((fRow f51.1.2.1 46 (by decide +kernel)).trans ((fRow f46.1.2.1 46 (by decide +kernel)).trans ((fRow f45.1.2.1 46 (by decide +kernel)).trans ((fRow f28.1.2.1 46 (by decide +kernel)).trans (fRow f22.1.2.1 46 (by decide +kernel)))))))).trans g46, ((fRow f59.1.2.1 47 (by decide +kernel)).trans ((fRow f57.1.2.1 47 (by decide +kernel)).trans ((fRow f51.1.2.1 47 (by decide +kernel)).trans ((fRow f46.1.2.1 47 (by decide +kernel)).trans ((fRow f45.1.2.1 47 (by decide +kernel)).trans ((fRow f28.1.2.1 47 (by decide +kernel)).trans (fRow f22.1.2.1 47 (by decide +kernel)))))))).trans g47, fun hf => ?_⟩
  have hzH7 := fzE c5.1 c6.1 a5 a6 (fun n k => ptk_neg n k) hf
  have hzH6 := fzE c4.1 c5.1 a4 a5 (fun n k => pFade_neg (vwC_ok H0) n k) hzH7.1
  have hzH5 := fzE s3.2.2 c4.1 a3 a4 (fun n k => ptk_neg n k) hzH6.1
  have hzH4 := fzE s2.2.2 s3.2.2 a2 a3 (fun _ _ => rfl) hzH5.1
  have hzH3 := fzE s1.2.2 s2.2.2 a1 a2 (fun _ _ => rfl) hzH4.1
  have hzH2 := fzE s0.2.2 s1.2.2 a0 a1 (fun _ _ => rfl) hzH3.1
  have hzH1 := fzE kz s0.2.2 rfl a0 (fun _ _ => rfl) hzH2.1
  have hk : (vwC H0).1 (absC H1).1 = hV H1 30 2 := by
    have u := (kd_at kz).resolve_left (by have := absC_pos kz hzH1.1; omega)
    rw [vz] at u
    exact u
  have hb : absC H8 = ptk (vwC H0) 4 (pBody (vwC H0) (BLc H0) 21 (ptk (vwC H0) 21 (absC H1))) := by
    rw [pBody_21, ← kt]
    exact a6
  have to := ow57.2.2 hzH7.1
  rw [v4, a4, kt] at to
  obtain ⟨to57_3, to57_4, to57_5, to57_6, to57_7⟩ := to
  have rp := f42
  rw [f6] at rp
  rw [show ((30 : Int)).toNat = 30 from rfl] at rp
  have p1 : hV H3 30 1 = hV H1 30 1 := (f28.1.2.1.1 30 1 (by decide +kernel)).trans (f22.1.2.1.1 30 1 (by decide +kernel))
  have pl := f45.2
  unfold postb_124x at pl
  have pl := pl s1.2.2.1
  have it := kz.2.2.2.1
  have lp : n16 = (vwC H0).2.2.2 (absC H1).1 := by
    rw [(absC_pos kz hzH1.1).1, ← vz, vwC_place it, lC_at it kz.2.1, pl, if_pos (by have := it.1; have := it.2.1; omega), show hV H3 34 = hV H1 34 from (fRow f28.1.2.1 34 (by decide +kernel)).trans (fRow f22.1.2.1 34 (by decide +kernel))]
    exact congrArg _ (by omega)
  have cu_ : (n10).toNat = cuP (hV H0 30 13).toNat (n2).toNat := by rw [ce, Int.toNat_natCast]
  have w0 : hV H8 (n10).toNat 0 = 1 := ((fr1 f59.1.2.1 (by decide +kernel) kc5 0).trans ((ow57.2.1 0 (by decide) (by decide) (by decide) (by decide) (by decide) (by decide) (by decide)).trans ((fr1 f51.1.2.1 (by decide +kernel) kc3 0).trans (ow46.2.1)))).trans (by omega)
  have w1 : hV H8 (n10).toNat 1 = n16 := (fr1 f59.1.2.1 (by decide +kernel) kc5 1).trans ((ow57.2.1 1 (by decide) (by decide) (by decide) (by decide) (by decide) (by decide) (by decide)).trans ((fr1 f51.1.2.1 (by decide +kernel) kc3 1).trans (ow46.2.2.1)))
  have w3 := (fr1 f59.1.2.1 (by decide +kernel) kc5 3).trans (to57_3)
  have w4 := (fr1 f59.1.2.1 (by decide +kernel) kc5 4).trans (to57_4)
  have w5 := (fr1 f59.1.2.1 (by decide +kernel) kc5 5).trans (to57_5)
  have w6 := (fr1 f59.1.2.1 (by decide +kernel) kc5 6).trans (to57_6)
  have w7 := (fr1 f59.1.2.1 (by decide +kernel) kc5 7).trans (to57_7)
  have re : recC H8 (cuP (hV H0 30 13).toNat (n2).toNat) = cuT (vwC H0) (BLc H0) (absC H1) := by
    rw [← cu_, recC_stem w0 (by decide) (by decide), w1, w3, w4, w5, w6, w7, cuT_21 (hk.trans k2), lp]
  have le_ : lsC H8 (hV H0 30 13).toNat (n2).toNat = lsC H1 (hV H0 30 13).toNat (n2).toNat := lsC_eq (fun k hk_ s => (((CUo_tr (CUo_fr f22.1.1 f22.1.2.1 (by decide +kernel)) (CUo_tr (CUo_fr f28.1.1 f28.1.2.1 (by decide +kernel)) (CUo_tr (CUo_fr f45.1.1 f45.1.2.1 (by decide +kernel)) (CUo_tr ow46.1 (CUo_tr (CUo_fr f51.1.1 f51.1.2.1 (by decide +kernel)) (CUo_tr ow57.1 (CUo_fr f59.1.1 f59.1.2.1 (by decide +kernel)))))))) : CUo H1 H8 n10) _ (C45_k ck1.1 cz_ (by omega) (by omega))).2 (by rw [ce]; unfold cuP; omega) s)
  have st := pDr_step (v := vwC H0) (bl := BLc H0) (f := 16 - ((n2).toNat + 1)) (p := absC H1) (by rw [hk, k2]; decide)
  rw [pCue_k (hk.trans k2), ← hb, show 16 - ((n2).toNat + 1) + 1 = 16 - (n2).toNat by omega] at st
  have gl := gl hzH1.1
  rw [show (n20).toNat = (n2).toNat + 1 by omega, lsC_snoc, re, le_, ← st]
  exact gl
def g_72vw_6_10 : vG := ([(10, [25, 4], [], 1), (1, [24, 3, 23], [], 0), (0, [23], [], 1), (41, [21, 22], [], 0), (0, [22], [], 5), (20, [21, 10], [8], 0), (23, [10], [8], 1), (90, [21], [], -2147483648), (91, [21], [], 2147483647), (10, [20, 2], [], 1), (1066, [1, 19], [7, 8], 0), (0, [19], [], 4), (1076, [1, 10], [6, 7], 0), (0, [18], [], 1), (20, [18, 10], [6], 0), (23, [10], [6], 1), (90, [18], [], -2147483648), (91, [18], [], 2147483647), (1066, [1, 17], [5, 6], 0), (20, [17, 1], [5], 2), (23, [1], [5], 4), (90, [17], [], -2147483648), (91, [17], [], 2147483647), (1024, [10, 13, 16], [4, 5], 0), (1124, [16, 14, 15], [3, 4], 0), (90, [16], [], -2147483648), (91, [16], [], 2147483647), (20, [15, 1], [3], 1), (23, [1], [3], 4), (90, [15], [], -2147483648), (91, [15], [], 2147483647), (20, [14, 1], [3], 0), (23, [1], [3], 4), (0, [14], [], 31), (2, [13, 11, 12], [], 0), (0, [12], [], 20), (20, [11, 1], [3], 2), (23, [1], [3], 4), (90, [11], [], -2147483648), (91, [11], [], 2147483647), (51, [10], [], 0), (1074, [10, 1, 9, 2], [2, 3], 0), (20, [9, 1], [2], 13), (23, [1], [2], 4), (90, [9], [], -2147483648), (91, [9], [], 2147483647), (31, [8], [], 0), (1073, [8, 7], [1, 2], 0), (90, [8], [], 0), (91, [8], [], 1), (20, [7, 1], [1], 2), (23, [1], [1], 4), (90, [7], [], -2147483648), (91, [7], [], 2147483647), (30, [6], [], 0), (20, [6, 1], [1], 3), (23, [1], [1], 4), (90, [6], [], -2147483648), (91, [6], [], 2147483647), (45, [4, 5], [], 0), (0, [5], [], 16), (5000, [0, 1, 2, 3, 4], [0, 1], 6), (0, [0], [], 30), (0, [1], [], 30), (90, [2], [], -2147483648), (91, [2], [], 2147483647), (90, [3], [], -2147483648), (91, [3], [], 2147483647), (90, [4], [], -2147483648), (91, [4], [], 2147483647)], (4000, [1, 20, 24, 25], [8], 6))
theorem c_72vw_6_10 {q0 : Nat} : vOkm T0 (eN e_72v L_72vw A_72v mu_72v n_72 B_72 (some q0)) 1 g_72vw_6_10 := vOk_inI fun ρ η f0 f1 f2 f3 f4 f5 f6 f7 f8 f9 f10 f11 f12 f13 f14 f15 f16 f17 f18 f19 f20 f21 f22 f23 f24 f25 f26 f27 f28 f29 f30 f31 f32 f33 f34 f35 f36 f37 f38 f39 f40 f41 f42 f43 f44 f45 f46 f47 f48 f49 f50 f51 f52 f53 f54 f55 f56 f57 f58 f59 f60 f61 f62 f63 f64 f65 f66 f67 f68 f69 => q_72vw_11 (q0 := q0) (n0 := ρ 4) (n1 := ρ 3) (n2 := ρ 2) (n3 := ρ 1) (n4 := ρ 0) (n5 := ρ 5) (n6 := ρ 6) (n7 := ρ 7) (n8 := ρ 8) (n9 := ρ 9) (n10 := ρ 10) (n11 := ρ 11) (n12 := ρ 12) (n13 := ρ 13) (n14 := ρ 14) (n15 := ρ 15) (n16 := ρ 16) (n17 := ρ 17) (n18 := ρ 18) (n19 := ρ 19) (n20 := ρ 20) (n21 := ρ 21) (n22 := ρ 22) (n23 := ρ 23) (n24 := ρ 24) (n25 := ρ 25) (H0 := η 0) (H1 := η 1) (H2 := η 2) (H3 := η 3) (H4 := η 4) (H5 := η 5) (H6 := η 6) (H7 := η 7) (H8 := η 8) f69 f68 f67 f66 f65 f64 f63 f62 f61 f60 f59 f58 f57 f56 f55 f54 f53 f52 f51 f50 f49 f48 f47 f46 f45 f44 f43 f42 f41 f40 f39 f38 f37 f36 f35 f34 f33 f32 f31 f30 f29 f28 f27 f26 f25 f24 f23 f22 f21 f20 f19 f18 f17 f16 f15 f14 f13 f12 f11 f10 f9 f8 f7 f6 f5 f4 f3 f2 f1 f0
theorem q_72vw_12 {q0 : Nat} {n0 n1 n2 n3 n4 n5 n6 n7 n8 n9 n10 n11 n12 n13 n14 n15 n16 n17 n18 n19 n20 n21 n22 n23 n24 n25 n26 n27 : Int} {H0 H1 H2 H3 H4 H5 H6 H7 H8 H9 : gH} (f0 : n0 ≤ 2147483647) (f1 : (-2147483648) ≤ n0) (f2 : n1 ≤ 2147483647) (f3 : (-2147483648) ≤ n1) (f4 : n2 ≤ 2147483647) (f5 : (-2147483648) ≤ n2) (f6 : n3 = 30) (f7 : n4 = 30) (f8 : (hLe T0 H0 H1 ∧ hFr s_72v.2.2.2.2 H0 H1 ∧ hWt T0 H1) ∧ ((Ab_72v_6 n4 n3 n2 n1 n0 H0 H1 ∧ Bb_72_6 n4 n3 n2 n1 n0 H0 H1) ∧ preb_72v n4 H0) ∧ some q0 = some (mub_72v_6 n4 n3 n2 n1 n0 H0 H1)) (f9 : n5 = 16) (f10 : n0 ≤ n5) (f11 : n6 ≤ 2147483647) (f12 : (-2147483648) ≤ n6) (f13 : hK H1 (n3).toNat = 4) (f14 : n6 = hV H1 (n3).toNat 3) (f15 : n6 = 0) (f16 : n7 ≤ 2147483647) (f17 : (-2147483648) ≤ n7) (f18 : hK H1 (n3).toNat = 4) (f19 : n7 = hV H1 (n3).toNat 2) (f20 : n8 ≤ 1) (f21 : 0 ≤ n8) (f22 : (hLe T0 H1 H2 ∧ hFr s_73v.2.2.2.2 H1 H2 ∧ ((0 : Int) = 0 → H2.length = H1.length) ∧ hWt T0 H2) ∧ postb_73v n8 n7 H1 H2) (f23 : n8 ≠ 0) (f24 : n9 ≤ 2147483647) (f25 : (-2147483648) ≤ n9) (f26 : hK H2 (n3).toNat = 4) (f27 : n9 = hV H2 (n3).toNat 13) (f28 : (hLe T0 H2 H3 ∧ hFr s_74v.2.2.2.2 H2 H3 ∧ ((0 : Int) = 0 → H3.length = H2.length) ∧ hWt T0 H3) ∧ (postb_74v n10 n3 n9 n2 H2 H3 ∧ nb_74 n10 n3 n9 n2 H2 H3)) (f29 : 0 ≤ n10) (f30 : n11 ≤ 2147483647) (f31 : (-2147483648) ≤ n11) (f32 : hK H3 (n3).toNat = 4) (f33 : n11 = hV H3 (n3).toNat 2) (f34 : n12 = 20) (f35 : n13 = w32 (n11 - n12)) (f36 : n14 = 31) (f37 : hK H3 (n3).toNat = 4) (f38 : n14 = hV H3 (n3).toNat 0) (f39 : n15 ≤ 2147483647) (f40 : (-2147483648) ≤ n15) (f41 : hK H3 (n3).toNat = 4) (f42 : n15 = hV H3 (n3).toNat 1) (f43 : n16 ≤ 2147483647) (f44 : (-2147483648) ≤ n16) (f45 : (hLe T0 H3 H4 ∧ hFr s_124.2.2.2.2 H3 H4 ∧ ((0 : Int) = 0 → H4.length = H3.length) ∧ hWt T0 H4) ∧ postb_124x n16 n14 n15 H3 H4) (f46 : (hLe T0 H4 H5 ∧ hFr s_24v.2.2.2.2 H4 H5 ∧ ((0 : Int) = 0 → H5.length = H4.length) ∧ hWt T0 H5) ∧ (postb_24v n10 n13 n16 H4 H5 ∧ nb_24 n10 n13 n16 H4 H5)) (f47 : n17 ≤ 2147483647) (f48 : (-2147483648) ≤ n17) (f49 : hK H5 (n3).toNat = 4) (f50 : n17 = hV H5 (n3).toNat 2) (f51 : (hLe T0 H5 H6 ∧ hFr s_66v.2.2.2.2 H5 H6 ∧ ((0 : Int) = 0 → H6.length = H5.length) ∧ hWt T0 H6) ∧ postb_66v n3 n17 H5 H6) (f52 : n18 ≤ 2147483647) (f53 : (-2147483648) ≤ n18) (f54 : hK H6 (n10).toNat = 1) (f55 : n18 = hV H6 (n10).toNat 0) (f56 : n18 = 1) (f57 : (hLe T0 H6 H7 ∧ hFr s_76v.2.2.2.2 H6 H7 ∧ ((0 : Int) = 0 → H7.length = H6.length) ∧ hWt T0 H7) ∧ (postb_76v n3 n10 H6 H7 ∧ nb_76 n3 n10 H6 H7)) (f58 : n19 = 4) (f59 : (hLe T0 H7 H8 ∧ hFr s_66v.2.2.2.2 H7 H8 ∧ ((0 : Int) = 0 → H8.length = H7.length) ∧ hWt T0 H8) ∧ postb_66v n3 n19 H7 H8) (f60 : n20 = w32 (n2 + 1)) (f61 : n21 ≤ 2147483647) (f62 : (-2147483648) ≤ n21) (f63 : hK H8 (n10).toNat = 1) (f64 : n21 = hV H8 (n10).toNat 0) (f65 : n22 = 5) (f66 : n21 = n22) (f67 : n23 = 47) (f68 : hK H8 (n3).toNat = 4) (f69 : n23 = hV H8 (n3).toNat 11) (f70 : n24 ≤ 2147483647) (f71 : (-2147483648) ≤ n24) (f72 : hK H8 (n10).toNat = 1) (f73 : n24 = hV H8 (n10).toNat 2) (f74 : n25 ≤ 2147483647) (f75 : (-2147483648) ≤ n25) (f76 : (hLe T0 H8 H9 ∧ hFr s_199vk740.2.2.2.2 H8 H9 ∧ ((0 : Int) = 0 → H9.length = H8.length) ∧ hWt T0 H9) ∧ postb_199vk740 n25 n23 n24 H8 H9) (f77 : n26 = w32 (n1 + n25)) (f78 : n27 = w32 (n0 + 1)) : Bb_72_6 n4 n3 n20 n26 n27 H0 H9 := by
  unfold Bb_72_6
  intro ck
  have pz := f8.2.1.2
  unfold preb_72v at pz
  have ga := f8.2.1.1.1
  unfold Ab_72v_6 at ga
  have vz : vwC H1 = vwC H0 := vwC_fr f8.1.2.1 (by decide +kernel)
  obtain ⟨kz, bz, blz, b13, cz_, b48, x10, x116, x30, x317, x13, ya, yt⟩ := ga
  have gb := f8.2.1.1.2
  unfold Bb_72_6 at gb
  obtain ⟨gq, g46, g47, gl⟩ := gb ck
  have ck1 := CK_fr f8.1.1 f8.1.2.1 (by decide +kernel) ck
  have y2 := pz.2.1.2.1
  have y3 := pz.2.1.2.2.1
  have r3 := f14
  rw [f6] at r3
  rw [show ((30 : Int)).toNat = 30 from rfl] at r3
  have r2 := f19
  rw [f6] at r2
  rw [show ((30 : Int)).toNat = 30 from rfl] at r2
  have pc := f22.2
  unfold postb_73v at pc
  have cq := f28.2.1
  unfold postb_74v at cq
  have cq2 := cq.2
  have x16 : n2 < 16 := by
    rcases Int.lt_or_le n2 16 with w | w
    · omega
    · have := cq2 w
      omega
  have rb := f27
  rw [f6] at rb
  rw [show ((30 : Int)).toNat = 30 from rfl] at rb
  have t13 : hV H2 30 13 = hV H1 30 13 := f22.1.2.1.1 30 13 (by decide +kernel)
  have cw := f28.2.2
  unfold nb_74 at cw
  have cw := cw (CK_fr f22.1.1 f22.1.2.1 (by decide +kernel) ck1).1 (by omega) (by omega) (by omega)
  have ce : n10 = ((cuP (hV H0 30 13).toNat (n2).toNat : Nat) : Int) := by
    unfold cuP
    omega
  have cz : 0 ≤ n10 := by omega
  have hk1 : hK H1 (n10).toNat = 1 := by
    rw [ce, Int.toNat_natCast]
    exact C45_k ck1.1 cz_ (by omega) (by omega)
  have kc0 : hK H2 (n10).toNat = 1 := kLe f22.1.1 hk1 rfl
  have kc1 : hK H3 (n10).toNat = 1 := kLe f28.1.1 kc0 rfl
  have kc2 : hK H4 (n10).toNat = 1 := kLe f45.1.1 kc1 rfl
  have kc3 : hK H5 (n10).toNat = 1 := kLe f46.1.1 kc2 rfl
  have ow46 := f46.2.2
  unfold nb_24 at ow46
  have ow46 := ow46 kc2 cz
  have kc4 : hK H6 (n10).toNat = 1 := kLe f51.1.1 kc3 rfl
  have kc5 : hK H7 (n10).toNat = 1 := kLe f57.1.1 kc4 rfl
  have ow57 := f57.2.2
  unfold nb_76 at ow57
  have ow57 := ow57 kc4 cz
  try rw [f6] at ow57
  have kc6 : hK H8 (n10).toNat = 1 := kLe f59.1.1 kc5 rfl
  have kc7 : hK H9 (n10).toNat = 1 := kLe f76.1.1 kc6 rfl
  have s0 := PF_fr f22.1.1 f22.1.2.1 (by decide +kernel) kz
  have a0 : absC H2 = (absC H1) := s0.1
  have v0 : vwC H2 = vwC H0 := (vwC_fr f22.1.2.1 (by decide +kernel)).trans vz
  have u0 := CU_fr f22.1.1 f22.1.2.1 (by decide +kernel) cz_
  have d0 := BI_fr f22.1.1 f22.1.2.1 (by decide +kernel) bz
  have j0 : BLc H2 = BLc H0 := d0.2.trans blz
  have s1 := PF_fr f28.1.1 f28.1.2.1 (by decide +kernel) s0.2.2
  have a1 : absC H3 = (absC H1) := s1.1.trans a0
  have v1 : vwC H3 = vwC H0 := (vwC_fr f28.1.2.1 (by decide +kernel)).trans v0
  have u1 := CU_fr f28.1.1 f28.1.2.1 (by decide +kernel) u0
  have d1 := BI_fr f28.1.1 f28.1.2.1 (by decide +kernel) d0.1
  have j1 : BLc H3 = BLc H0 := d1.2.trans j0
  have s2 := PF_fr f45.1.1 f45.1.2.1 (by decide +kernel) s1.2.2
  have a2 : absC H4 = (absC H1) := s2.1.trans a1
  have v2 : vwC H4 = vwC H0 := (vwC_fr f45.1.2.1 (by decide +kernel)).trans v1
  have u2 := CU_fr f45.1.1 f45.1.2.1 (by decide +kernel) u1
  have d2 := BI_fr f45.1.1 f45.1.2.1 (by decide +kernel) d1.1
  have j2 : BLc H4 = BLc H0 := d2.2.trans j1
  have s3 := PF_fr f46.1.1 f46.1.2.1 (by decide +kernel) s2.2.2
  have a3 : absC H5 = (absC H1) := s3.1.trans a2
  have v3 : vwC H5 = vwC H0 := (vwC_fr f46.1.2.1 (by decide +kernel)).trans v2
  have u3 := CU_fr f46.1.1 f46.1.2.1 (by decide +kernel) u2
  have d3 := BI_fr f46.1.1 f46.1.2.1 (by decide +kernel) d2.1
  have j3 : BLc H5 = BLc H0 := d3.2.trans j2
  have c4 := f51.2
  unfold postb_66v at c4
  rw [v3] at c4
  rw [a3] at c4
  have a4 : absC H6 = (ptk (vwC H0) n17 (absC H1)) := c4.2
  have v4 : vwC H6 = vwC H0 := (vwC_fr f51.1.2.1 (by decide +kernel)).trans v3
  have u4 := CU_fr f51.1.1 f51.1.2.1 (by decide +kernel) u3
  have d4 := BI_fr f51.1.1 f51.1.2.1 (by decide +kernel) d3.1
  have j4 : BLc H6 = BLc H0 := d4.2.trans j3
  have c5 := f57.2.1
  unfold postb_76v at c5
  rw [v4] at c5
  rw [a4] at c5
  have a5 : absC H7 = (pFade (vwC H0) (ptk (vwC H0) n17 (absC H1))) := c5.2
  have v5 : vwC H7 = vwC H0 := (vwC_fr f57.1.2.1 (by decide +kernel)).trans v4
  have u5 := CU_fr f57.1.1 f57.1.2.1 (by decide +kernel) u4
  have d5 := BI_fr f57.1.1 f57.1.2.1 (by decide +kernel) d4.1
  have j5 : BLc H7 = BLc H0 := d5.2.trans j4
  have c6 := f59.2
  unfold postb_66v at c6
  try rw [f58] at c6
  rw [v5] at c6
  rw [a5] at c6
  have a6 : absC H8 = (ptk (vwC H0) 4 (pFade (vwC H0) (ptk (vwC H0) n17 (absC H1)))) := c6.2
  have v6 : vwC H8 = vwC H0 := (vwC_fr f59.1.2.1 (by decide +kernel)).trans v5
  have u6 := CU_fr f59.1.1 f59.1.2.1 (by decide +kernel) u5
  have d6 := BI_fr f59.1.1 f59.1.2.1 (by decide +kernel) d5.1
  have j6 : BLc H8 = BLc H0 := d6.2.trans j5
  have s7 := PF_fr f76.1.1 f76.1.2.1 (by decide +kernel) c6.1
  have a7 : absC H9 = (ptk (vwC H0) 4 (pFade (vwC H0) (ptk (vwC H0) n17 (absC H1)))) := s7.1.trans a6
  have v7 : vwC H9 = vwC H0 := (vwC_fr f76.1.2.1 (by decide +kernel)).trans v6
  have u7 := CU_fr f76.1.1 f76.1.2.1 (by decide +kernel) u6
  have d7 := BI_fr f76.1.1 f76.1.2.1 (by decide +kernel) d6.1
  have j7 : BLc H9 = BLc H0 := d7.2.trans j6
  have kq0 : n18 = n13 := f55.trans ((fr1 f51.1.2.1 (by decide +kernel) kc3 0).trans (ow46.2.1))
  have kq1 : n21 = n13 := f64.trans ((fr1 f59.1.2.1 (by decide +kernel) kc5 0).trans ((ow57.2.1 0 (by decide) (by decide) (by decide) (by decide) (by decide) (by decide) (by decide)).trans ((fr1 f51.1.2.1 (by decide +kernel) kc3 0).trans (ow46.2.1))))
  have rz0 := f33
  rw [f6] at rz0
  rw [show ((30 : Int)).toNat = 30 from rfl] at rz0
  have tz0 : hV H3 30 2 = hV H1 30 2 := (f28.1.2.1.1 30 2 (by decide +kernel)).trans (f22.1.2.1.1 30 2 (by decide +kernel))
  have rz1 := f50
  rw [f6] at rz1
  rw [show ((30 : Int)).toNat = 30 from rfl] at rz1
  have tz1 : hV H5 30 2 = hV H1 30 2 := (f46.1.2.1.1 30 2 (by decide +kernel)).trans ((f45.1.2.1.1 30 2 (by decide +kernel)).trans ((f28.1.2.1.1 30 2 (by decide +kernel)).trans (f22.1.2.1.1 30 2 (by decide +kernel))))
  have wq35 := f35
  unfold w32 at wq35
  have wq60 := f60
  unfold w32 at wq60
  have wq77 := f77
  unfold w32 at wq77
  have wq78 := f78
  unfold w32 at wq78
  exfalso
  omega
def g_72vw_6_11 : vG := ([(10, [27, 4], [], 1), (1, [26, 3, 25], [], 0), (1199, [25, 23, 24], [8, 9], 0), (90, [25], [], -2147483648), (91, [25], [], 2147483647), (20, [24, 10], [8], 2), (23, [10], [8], 1), (90, [24], [], -2147483648), (91, [24], [], 2147483647), (20, [23, 1], [8], 11), (23, [1], [8], 4), (0, [23], [], 47), (40, [21, 22], [], 0), (0, [22], [], 5), (20, [21, 10], [8], 0), (23, [10], [8], 1), (90, [21], [], -2147483648), (91, [21], [], 2147483647), (10, [20, 2], [], 1), (1066, [1, 19], [7, 8], 0), (0, [19], [], 4), (1076, [1, 10], [6, 7], 0), (0, [18], [], 1), (20, [18, 10], [6], 0), (23, [10], [6], 1), (90, [18], [], -2147483648), (91, [18], [], 2147483647), (1066, [1, 17], [5, 6], 0), (20, [17, 1], [5], 2), (23, [1], [5], 4), (90, [17], [], -2147483648), (91, [17], [], 2147483647), (1024, [10, 13, 16], [4, 5], 0), (1124, [16, 14, 15], [3, 4], 0), (90, [16], [], -2147483648), (91, [16], [], 2147483647), (20, [15, 1], [3], 1), (23, [1], [3], 4), (90, [15], [], -2147483648), (91, [15], [], 2147483647), (20, [14, 1], [3], 0), (23, [1], [3], 4), (0, [14], [], 31), (2, [13, 11, 12], [], 0), (0, [12], [], 20), (20, [11, 1], [3], 2), (23, [1], [3], 4), (90, [11], [], -2147483648), (91, [11], [], 2147483647), (51, [10], [], 0), (1074, [10, 1, 9, 2], [2, 3], 0), (20, [9, 1], [2], 13), (23, [1], [2], 4), (90, [9], [], -2147483648), (91, [9], [], 2147483647), (31, [8], [], 0), (1073, [8, 7], [1, 2], 0), (90, [8], [], 0), (91, [8], [], 1), (20, [7, 1], [1], 2), (23, [1], [1], 4), (90, [7], [], -2147483648), (91, [7], [], 2147483647), (30, [6], [], 0), (20, [6, 1], [1], 3), (23, [1], [1], 4), (90, [6], [], -2147483648), (91, [6], [], 2147483647), (45, [4, 5], [], 0), (0, [5], [], 16), (5000, [0, 1, 2, 3, 4], [0, 1], 6), (0, [0], [], 30), (0, [1], [], 30), (90, [2], [], -2147483648), (91, [2], [], 2147483647), (90, [3], [], -2147483648), (91, [3], [], 2147483647), (90, [4], [], -2147483648), (91, [4], [], 2147483647)], (4000, [1, 20, 26, 27], [9], 6))
theorem c_72vw_6_11 {q0 : Nat} : vOkm T0 (eN e_72v L_72vw A_72v mu_72v n_72 B_72 (some q0)) 1 g_72vw_6_11 := vOk_inI fun ρ η f0 f1 f2 f3 f4 f5 f6 f7 f8 f9 f10 f11 f12 f13 f14 f15 f16 f17 f18 f19 f20 f21 f22 f23 f24 f25 f26 f27 f28 f29 f30 f31 f32 f33 f34 f35 f36 f37 f38 f39 f40 f41 f42 f43 f44 f45 f46 f47 f48 f49 f50 f51 f52 f53 f54 f55 f56 f57 f58 f59 f60 f61 f62 f63 f64 f65 f66 f67 f68 f69 f70 f71 f72 f73 f74 f75 f76 f77 f78 => q_72vw_12 (q0 := q0) (n0 := ρ 4) (n1 := ρ 3) (n2 := ρ 2) (n3 := ρ 1) (n4 := ρ 0) (n5 := ρ 5) (n6 := ρ 6) (n7 := ρ 7) (n8 := ρ 8) (n9 := ρ 9) (n10 := ρ 10) (n11 := ρ 11) (n12 := ρ 12) (n13 := ρ 13) (n14 := ρ 14) (n15 := ρ 15) (n16 := ρ 16) (n17 := ρ 17) (n18 := ρ 18) (n19 := ρ 19) (n20 := ρ 20) (n21 := ρ 21) (n22 := ρ 22) (n23 := ρ 23) (n24 := ρ 24) (n25 := ρ 25) (n26 := ρ 26) (n27 := ρ 27) (H0 := η 0) (H1 := η 1) (H2 := η 2) (H3 := η 3) (H4 := η 4) (H5 := η 5) (H6 := η 6) (H7 := η 7) (H8 := η 8) (H9 := η 9) f78 f77 f76 f75 f74 f73 f72 f71 f70 f69 f68 f67 f66 f65 f64 f63 f62 f61 f60 f59 f58 f57 f56 f55 f54 f53 f52 f51 f50 f49 f48 f47 f46 f45 f44 f43 f42 f41 f40 f39 f38 f37 f36 f35 f34 f33 f32 f31 f30 f29 f28 f27 f26 f25 f24 f23 f22 f21 f20 f19 f18 f17 f16 f15 f14 f13 f12 f11 f10 f9 f8 f7 f6 f5 f4 f3 f2 f1 f0
theorem q_72vw_13 {q0 : Nat} {n0 n1 n2 n3 n4 n5 n6 n7 n8 n9 n10 n11 n12 n13 n14 n15 n16 n17 n18 n19 n20 n21 n22 n23 n24 n25 : Int} {H0 H1 H2 H3 H4 H5 H6 H7 H8 : gH} (f0 : n0 ≤ 2147483647) (f1 : (-2147483648) ≤ n0) (f2 : n1 ≤ 2147483647) (f3 : (-2147483648) ≤ n1) (f4 : n2 ≤ 2147483647) (f5 : (-2147483648) ≤ n2) (f6 : n3 = 30) (f7 : n4 = 30) (f8 : (hLe T0 H0 H1 ∧ hFr s_72v.2.2.2.2 H0 H1 ∧ hWt T0 H1) ∧ ((Ab_72v_6 n4 n3 n2 n1 n0 H0 H1 ∧ Bb_72_6 n4 n3 n2 n1 n0 H0 H1) ∧ preb_72v n4 H0) ∧ some q0 = some (mub_72v_6 n4 n3 n2 n1 n0 H0 H1)) (f9 : n5 = 16) (f10 : n0 ≤ n5) (f11 : n6 ≤ 2147483647) (f12 : (-2147483648) ≤ n6) (f13 : hK H1 (n3).toNat = 4) (f14 : n6 = hV H1 (n3).toNat 3) (f15 : n6 = 0) (f16 : n7 ≤ 2147483647) (f17 : (-2147483648) ≤ n7) (f18 : hK H1 (n3).toNat = 4) (f19 : n7 = hV H1 (n3).toNat 2) (f20 : n8 ≤ 1) (f21 : 0 ≤ n8) (f22 : (hLe T0 H1 H2 ∧ hFr s_73v.2.2.2.2 H1 H2 ∧ ((0 : Int) = 0 → H2.length = H1.length) ∧ hWt T0 H2) ∧ postb_73v n8 n7 H1 H2) (f23 : n8 ≠ 0) (f24 : n9 ≤ 2147483647) (f25 : (-2147483648) ≤ n9) (f26 : hK H2 (n3).toNat = 4) (f27 : n9 = hV H2 (n3).toNat 13) (f28 : (hLe T0 H2 H3 ∧ hFr s_74v.2.2.2.2 H2 H3 ∧ ((0 : Int) = 0 → H3.length = H2.length) ∧ hWt T0 H3) ∧ (postb_74v n10 n3 n9 n2 H2 H3 ∧ nb_74 n10 n3 n9 n2 H2 H3)) (f29 : 0 ≤ n10) (f30 : n11 ≤ 2147483647) (f31 : (-2147483648) ≤ n11) (f32 : hK H3 (n3).toNat = 4) (f33 : n11 = hV H3 (n3).toNat 2) (f34 : n12 = 20) (f35 : n13 = w32 (n11 - n12)) (f36 : n14 = 31) (f37 : hK H3 (n3).toNat = 4) (f38 : n14 = hV H3 (n3).toNat 0) (f39 : n15 ≤ 2147483647) (f40 : (-2147483648) ≤ n15) (f41 : hK H3 (n3).toNat = 4) (f42 : n15 = hV H3 (n3).toNat 1) (f43 : n16 ≤ 2147483647) (f44 : (-2147483648) ≤ n16) (f45 : (hLe T0 H3 H4 ∧ hFr s_124.2.2.2.2 H3 H4 ∧ ((0 : Int) = 0 → H4.length = H3.length) ∧ hWt T0 H4) ∧ postb_124x n16 n14 n15 H3 H4) (f46 : (hLe T0 H4 H5 ∧ hFr s_24v.2.2.2.2 H4 H5 ∧ ((0 : Int) = 0 → H5.length = H4.length) ∧ hWt T0 H5) ∧ (postb_24v n10 n13 n16 H4 H5 ∧ nb_24 n10 n13 n16 H4 H5)) (f47 : n17 ≤ 2147483647) (f48 : (-2147483648) ≤ n17) (f49 : hK H5 (n3).toNat = 4) (f50 : n17 = hV H5 (n3).toNat 2) (f51 : (hLe T0 H5 H6 ∧ hFr s_66v.2.2.2.2 H5 H6 ∧ ((0 : Int) = 0 → H6.length = H5.length) ∧ hWt T0 H6) ∧ postb_66v n3 n17 H5 H6) (f52 : n18 ≤ 2147483647) (f53 : (-2147483648) ≤ n18) (f54 : hK H6 (n10).toNat = 1) (f55 : n18 = hV H6 (n10).toNat 0) (f56 : n18 = 2) (f57 : (hLe T0 H6 H7 ∧ hFr s_77v.2.2.2.2 H6 H7 ∧ ((0 : Int) = 0 → H7.length = H6.length) ∧ hWt T0 H7) ∧ (postb_77v n3 n10 H6 H7 ∧ nb_77 n3 n10 H6 H7)) (f58 : n19 = 4) (f59 : (hLe T0 H7 H8 ∧ hFr s_66v.2.2.2.2 H7 H8 ∧ ((0 : Int) = 0 → H8.length = H7.length) ∧ hWt T0 H8) ∧ postb_66v n3 n19 H7 H8) (f60 : n20 = w32 (n2 + 1)) (f61 : n21 ≤ 2147483647) (f62 : (-2147483648) ≤ n21) (f63 : hK H8 (n10).toNat = 1) (f64 : n21 = hV H8 (n10).toNat 0) (f65 : n22 = 5) (f66 : n21 ≠ n22) (f67 : n23 = 1) (f68 : n24 = w32 (n1 + n23)) (f69 : n25 = w32 (n0 + 1)) : Bb_72_6 n4 n3 n20 n24 n25 H0 H8 := by
  unfold Bb_72_6
  intro ck
  have pz := f8.2.1.2
  unfold preb_72v at pz
  have ga := f8.2.1.1.1
  unfold Ab_72v_6 at ga
  have vz : vwC H1 = vwC H0 := vwC_fr f8.1.2.1 (by decide +kernel)
  obtain ⟨kz, bz, blz, b13, cz_, b48, x10, x116, x30, x317, x13, ya, yt⟩ := ga
  have gb := f8.2.1.1.2
  unfold Bb_72_6 at gb
  obtain ⟨gq, g46, g47, gl⟩ := gb ck
  have ck1 := CK_fr f8.1.1 f8.1.2.1 (by decide +kernel) ck
  have y2 := pz.2.1.2.1
  have y3 := pz.2.1.2.2.1
  have r3 := f14
  rw [f6] at r3
  rw [show ((30 : Int)).toNat = 30 from rfl] at r3
  have r2 := f19
  rw [f6] at r2
  rw [show ((30 : Int)).toNat = 30 from rfl] at r2
  have pc := f22.2
  unfold postb_73v at pc
  have cq := f28.2.1
  unfold postb_74v at cq
  have cq2 := cq.2
  have x16 : n2 < 16 := by
    rcases Int.lt_or_le n2 16 with w | w
    · omega
    · have := cq2 w
      omega
  have rb := f27
  rw [f6] at rb
  rw [show ((30 : Int)).toNat = 30 from rfl] at rb
  have t13 : hV H2 30 13 = hV H1 30 13 := f22.1.2.1.1 30 13 (by decide +kernel)
  have cw := f28.2.2
  unfold nb_74 at cw
  have cw := cw (CK_fr f22.1.1 f22.1.2.1 (by decide +kernel) ck1).1 (by omega) (by omega) (by omega)
  have ce : n10 = ((cuP (hV H0 30 13).toNat (n2).toNat : Nat) : Int) := by
    unfold cuP
    omega
  have cz : 0 ≤ n10 := by omega
  have hk1 : hK H1 (n10).toNat = 1 := by
    rw [ce, Int.toNat_natCast]
    exact C45_k ck1.1 cz_ (by omega) (by omega)
  have kc0 : hK H2 (n10).toNat = 1 := kLe f22.1.1 hk1 rfl
  have kc1 : hK H3 (n10).toNat = 1 := kLe f28.1.1 kc0 rfl
  have kc2 : hK H4 (n10).toNat = 1 := kLe f45.1.1 kc1 rfl
  have kc3 : hK H5 (n10).toNat = 1 := kLe f46.1.1 kc2 rfl
  have ow46 := f46.2.2
  unfold nb_24 at ow46
  have ow46 := ow46 kc2 cz
  have kc4 : hK H6 (n10).toNat = 1 := kLe f51.1.1 kc3 rfl
  have kc5 : hK H7 (n10).toNat = 1 := kLe f57.1.1 kc4 rfl
  have ow57 := f57.2.2
  unfold nb_77 at ow57
  have ow57 := ow57 kc4 cz
  try rw [f6] at ow57
  have kc6 : hK H8 (n10).toNat = 1 := kLe f59.1.1 kc5 rfl
  have s0 := PF_fr f22.1.1 f22.1.2.1 (by decide +kernel) kz
  have a0 : absC H2 = (absC H1) := s0.1
  have v0 : vwC H2 = vwC H0 := (vwC_fr f22.1.2.1 (by decide +kernel)).trans vz
  have u0 := CU_fr f22.1.1 f22.1.2.1 (by decide +kernel) cz_
  have d0 := BI_fr f22.1.1 f22.1.2.1 (by decide +kernel) bz
  have j0 : BLc H2 = BLc H0 := d0.2.trans blz
  have s1 := PF_fr f28.1.1 f28.1.2.1 (by decide +kernel) s0.2.2
  have a1 : absC H3 = (absC H1) := s1.1.trans a0
  have v1 : vwC H3 = vwC H0 := (vwC_fr f28.1.2.1 (by decide +kernel)).trans v0
  have u1 := CU_fr f28.1.1 f28.1.2.1 (by decide +kernel) u0
  have d1 := BI_fr f28.1.1 f28.1.2.1 (by decide +kernel) d0.1
  have j1 : BLc H3 = BLc H0 := d1.2.trans j0
  have s2 := PF_fr f45.1.1 f45.1.2.1 (by decide +kernel) s1.2.2
  have a2 : absC H4 = (absC H1) := s2.1.trans a1
  have v2 : vwC H4 = vwC H0 := (vwC_fr f45.1.2.1 (by decide +kernel)).trans v1
  have u2 := CU_fr f45.1.1 f45.1.2.1 (by decide +kernel) u1
  have d2 := BI_fr f45.1.1 f45.1.2.1 (by decide +kernel) d1.1
  have j2 : BLc H4 = BLc H0 := d2.2.trans j1
  have s3 := PF_fr f46.1.1 f46.1.2.1 (by decide +kernel) s2.2.2
  have a3 : absC H5 = (absC H1) := s3.1.trans a2
  have v3 : vwC H5 = vwC H0 := (vwC_fr f46.1.2.1 (by decide +kernel)).trans v2
  have u3 := CU_fr f46.1.1 f46.1.2.1 (by decide +kernel) u2
  have d3 := BI_fr f46.1.1 f46.1.2.1 (by decide +kernel) d2.1
  have j3 : BLc H5 = BLc H0 := d3.2.trans j2
  have c4 := f51.2
  unfold postb_66v at c4
  rw [v3] at c4
  rw [a3] at c4
  have a4 : absC H6 = (ptk (vwC H0) n17 (absC H1)) := c4.2
  have v4 : vwC H6 = vwC H0 := (vwC_fr f51.1.2.1 (by decide +kernel)).trans v3
  have u4 := CU_fr f51.1.1 f51.1.2.1 (by decide +kernel) u3
  have d4 := BI_fr f51.1.1 f51.1.2.1 (by decide +kernel) d3.1
  have j4 : BLc H6 = BLc H0 := d4.2.trans j3
  have c5 := f57.2.1
  unfold postb_77v at c5
  rw [v4] at c5
  rw [a4] at c5
  have a5 : absC H7 = (pDip (vwC H0) (ptk (vwC H0) n17 (absC H1))) := c5.2
  have v5 : vwC H7 = vwC H0 := (vwC_fr f57.1.2.1 (by decide +kernel)).trans v4
  have u5 := CU_fr f57.1.1 f57.1.2.1 (by decide +kernel) u4
  have d5 := BI_fr f57.1.1 f57.1.2.1 (by decide +kernel) d4.1
  have j5 : BLc H7 = BLc H0 := d5.2.trans j4
  have c6 := f59.2
  unfold postb_66v at c6
  try rw [f58] at c6
  rw [v5] at c6
  rw [a5] at c6
  have a6 : absC H8 = (ptk (vwC H0) 4 (pDip (vwC H0) (ptk (vwC H0) n17 (absC H1)))) := c6.2
  have v6 : vwC H8 = vwC H0 := (vwC_fr f59.1.2.1 (by decide +kernel)).trans v5
  have u6 := CU_fr f59.1.1 f59.1.2.1 (by decide +kernel) u5
  have d6 := BI_fr f59.1.1 f59.1.2.1 (by decide +kernel) d5.1
  have j6 : BLc H8 = BLc H0 := d6.2.trans j5
  have kq0 : n18 = n13 := f55.trans ((fr1 f51.1.2.1 (by decide +kernel) kc3 0).trans (ow46.2.1))
  have kq1 : n21 = n13 := f64.trans ((fr1 f59.1.2.1 (by decide +kernel) kc5 0).trans ((ow57.2.1 0 (by decide) (by decide) (by decide) (by decide)).trans ((fr1 f51.1.2.1 (by decide +kernel) kc3 0).trans (ow46.2.1))))
  have rz0 := f33
  rw [f6] at rz0
  rw [show ((30 : Int)).toNat = 30 from rfl] at rz0
  have tz0 : hV H3 30 2 = hV H1 30 2 := (f28.1.2.1.1 30 2 (by decide +kernel)).trans (f22.1.2.1.1 30 2 (by decide +kernel))
  have rz1 := f50
  rw [f6] at rz1
  rw [show ((30 : Int)).toNat = 30 from rfl] at rz1
  have tz1 : hV H5 30 2 = hV H1 30 2 := (f46.1.2.1.1 30 2 (by decide +kernel)).trans ((f45.1.2.1.1 30 2 (by decide +kernel)).trans ((f28.1.2.1.1 30 2 (by decide +kernel)).trans (f22.1.2.1.1 30 2 (by decide +kernel))))
  have wq35 := f35
  unfold w32 at wq35
  have wq60 := f60
  unfold w32 at wq60
  have wq68 := f68
  unfold w32 at wq68
  have wq69 := f69
  unfold w32 at wq69
  have k2 : hV H1 30 2 = 22 := by omega
  have kt : n17 = 22 := by omega
  refine ⟨CUq_tr gq (CUq_of (c := n10) (CUo_tr (CUo_fr f22.1.1 f22.1.2.1 (by decide +kernel)) (CUo_tr (CUo_fr f28.1.1 f28.1.2.1 (by decide +kernel)) (CUo_tr (CUo_fr f45.1.1 f45.1.2.1 (by decide +kernel)) (CUo_tr ow46.1 (CUo_tr (CUo_fr f51.1.1 f51.1.2.1 (by decide +kernel)) (CUo_tr ow57.1 (CUo_fr f59.1.1 f59.1.2.1 (by decide +kernel)))))))) (k := (n2).toNat) (by omega) ce), ((fRow f59.1.2.1 46 (by decide +kernel)).trans ((fRow f57.1.2.1 46 (by decide +kernel)).trans ((fRow f51.1.2.1 46 (by decide +kernel)).trans ((fRow f46.1.2.1 46 (by decide +kernel)).trans ((fRow f45.1.2.1 46 (by decide +kernel)).trans ((fRow f28.1.2.1 46 (by decide +kernel)).trans (fRow f22.1.2.1 46 (by decide +kernel)))))))).trans g46, ((fRow f59.1.2.1 47 (by decide +kernel)).trans ((fRow f57.1.2.1 47 (by decide +kernel)).trans ((fRow f51.1.2.1 47 (by decide +kernel)).trans ((fRow f46.1.2.1 47 (by decide +kernel)).trans ((fRow f45.1.2.1 47 (by decide +kernel)).trans ((fRow f28.1.2.1 47 (by decide +kernel)).trans (fRow f22.1.2.1 47 (by decide +kernel)))))))).trans g47, fun hf => ?_⟩
  have hzH7 := fzE c5.1 c6.1 a5 a6 (fun n k => ptk_neg n k) hf
  have hzH6 := fzE c4.1 c5.1 a4 a5 (fun n k => pDip_neg n k) hzH7.1
  have hzH5 := fzE s3.2.2 c4.1 a3 a4 (fun n k => ptk_neg n k) hzH6.1
  have hzH4 := fzE s2.2.2 s3.2.2 a2 a3 (fun _ _ => rfl) hzH5.1
  have hzH3 := fzE s1.2.2 s2.2.2 a1 a2 (fun _ _ => rfl) hzH4.1
  have hzH2 := fzE s0.2.2 s1.2.2 a0 a1 (fun _ _ => rfl) hzH3.1
  have hzH1 := fzE kz s0.2.2 rfl a0 (fun _ _ => rfl) hzH2.1
  have hk : (vwC H0).1 (absC H1).1 = hV H1 30 2 := by
    have u := (kd_at kz).resolve_left (by have := absC_pos kz hzH1.1; omega)
    rw [vz] at u
    exact u
  have hb : absC H8 = ptk (vwC H0) 4 (pBody (vwC H0) (BLc H0) 22 (ptk (vwC H0) 22 (absC H1))) := by
    rw [pBody_22, ← kt]
    exact a6
  have to := ow57.2.2 hzH7.1
  rw [v4, a4, kt] at to
  have to57_3 := to
  have rp := f42
  rw [f6] at rp
  rw [show ((30 : Int)).toNat = 30 from rfl] at rp
  have p1 : hV H3 30 1 = hV H1 30 1 := (f28.1.2.1.1 30 1 (by decide +kernel)).trans (f22.1.2.1.1 30 1 (by decide +kernel))
  have pl := f45.2
  unfold postb_124x at pl
  have pl := pl s1.2.2.1
  have it := kz.2.2.2.1
  have lp : n16 = (vwC H0).2.2.2 (absC H1).1 := by
    rw [(absC_pos kz hzH1.1).1, ← vz, vwC_place it, lC_at it kz.2.1, pl, if_pos (by have := it.1; have := it.2.1; omega), show hV H3 34 = hV H1 34 from (fRow f28.1.2.1 34 (by decide +kernel)).trans (fRow f22.1.2.1 34 (by decide +kernel))]
    exact congrArg _ (by omega)
  have cu_ : (n10).toNat = cuP (hV H0 30 13).toNat (n2).toNat := by rw [ce, Int.toNat_natCast]
  have w0 : hV H8 (n10).toNat 0 = 2 := ((fr1 f59.1.2.1 (by decide +kernel) kc5 0).trans ((ow57.2.1 0 (by decide) (by decide) (by decide) (by decide)).trans ((fr1 f51.1.2.1 (by decide +kernel) kc3 0).trans (ow46.2.1)))).trans (by omega)
  have w1 : hV H8 (n10).toNat 1 = n16 := (fr1 f59.1.2.1 (by decide +kernel) kc5 1).trans ((ow57.2.1 1 (by decide) (by decide) (by decide) (by decide)).trans ((fr1 f51.1.2.1 (by decide +kernel) kc3 1).trans (ow46.2.2.1)))
  have w3 := (fr1 f59.1.2.1 (by decide +kernel) kc5 3).trans (to57_3)
  have w4 : hV H8 (n10).toNat 4 = (-1) := (fr1 f59.1.2.1 (by decide +kernel) kc5 4).trans ((ow57.2.1 4 (by decide) (by decide) (by decide) (by decide)).trans ((fr1 f51.1.2.1 (by decide +kernel) kc3 4).trans (ow46.2.2.2.2.1)))
  have w5 : hV H8 (n10).toNat 5 = (0) := (fr1 f59.1.2.1 (by decide +kernel) kc5 5).trans ((ow57.2.1 5 (by decide) (by decide) (by decide) (by decide)).trans ((fr1 f51.1.2.1 (by decide +kernel) kc3 5).trans (ow46.2.2.2.2.2.1)))
  have w6 : hV H8 (n10).toNat 6 = (-1) := (fr1 f59.1.2.1 (by decide +kernel) kc5 6).trans ((ow57.2.1 6 (by decide) (by decide) (by decide) (by decide)).trans ((fr1 f51.1.2.1 (by decide +kernel) kc3 6).trans (ow46.2.2.2.2.2.2.1)))
  have w7 : hV H8 (n10).toNat 7 = (0) := (fr1 f59.1.2.1 (by decide +kernel) kc5 7).trans ((ow57.2.1 7 (by decide) (by decide) (by decide) (by decide)).trans ((fr1 f51.1.2.1 (by decide +kernel) kc3 7).trans (ow46.2.2.2.2.2.2.2.1)))
  have re : recC H8 (cuP (hV H0 30 13).toNat (n2).toNat) = cuT (vwC H0) (BLc H0) (absC H1) := by
    rw [← cu_, recC_stem w0 (by decide) (by decide), w1, w3, w4, w5, w6, w7, cuT_x (hk.trans k2) (by decide) (by decide), lp]
    rfl
  have le_ : lsC H8 (hV H0 30 13).toNat (n2).toNat = lsC H1 (hV H0 30 13).toNat (n2).toNat := lsC_eq (fun k hk_ s => (((CUo_tr (CUo_fr f22.1.1 f22.1.2.1 (by decide +kernel)) (CUo_tr (CUo_fr f28.1.1 f28.1.2.1 (by decide +kernel)) (CUo_tr (CUo_fr f45.1.1 f45.1.2.1 (by decide +kernel)) (CUo_tr ow46.1 (CUo_tr (CUo_fr f51.1.1 f51.1.2.1 (by decide +kernel)) (CUo_tr ow57.1 (CUo_fr f59.1.1 f59.1.2.1 (by decide +kernel)))))))) : CUo H1 H8 n10) _ (C45_k ck1.1 cz_ (by omega) (by omega))).2 (by rw [ce]; unfold cuP; omega) s)
  have st := pDr_step (v := vwC H0) (bl := BLc H0) (f := 16 - ((n2).toNat + 1)) (p := absC H1) (by rw [hk, k2]; decide)
  rw [pCue_k (hk.trans k2), ← hb, show 16 - ((n2).toNat + 1) + 1 = 16 - (n2).toNat by omega] at st
  have gl := gl hzH1.1
  rw [show (n20).toNat = (n2).toNat + 1 by omega, lsC_snoc, re, le_, ← st]
  exact gl
def g_72vw_6_12 : vG := ([(10, [25, 4], [], 1), (1, [24, 3, 23], [], 0), (0, [23], [], 1), (41, [21, 22], [], 0), (0, [22], [], 5), (20, [21, 10], [8], 0), (23, [10], [8], 1), (90, [21], [], -2147483648), (91, [21], [], 2147483647), (10, [20, 2], [], 1), (1066, [1, 19], [7, 8], 0), (0, [19], [], 4), (1077, [1, 10], [6, 7], 0), (0, [18], [], 2), (20, [18, 10], [6], 0), (23, [10], [6], 1), (90, [18], [], -2147483648), (91, [18], [], 2147483647), (1066, [1, 17], [5, 6], 0), (20, [17, 1], [5], 2), (23, [1], [5], 4), (90, [17], [], -2147483648), (91, [17], [], 2147483647), (1024, [10, 13, 16], [4, 5], 0), (1124, [16, 14, 15], [3, 4], 0), (90, [16], [], -2147483648), (91, [16], [], 2147483647), (20, [15, 1], [3], 1), (23, [1], [3], 4), (90, [15], [], -2147483648), (91, [15], [], 2147483647), (20, [14, 1], [3], 0), (23, [1], [3], 4), (0, [14], [], 31), (2, [13, 11, 12], [], 0), (0, [12], [], 20), (20, [11, 1], [3], 2), (23, [1], [3], 4), (90, [11], [], -2147483648), (91, [11], [], 2147483647), (51, [10], [], 0), (1074, [10, 1, 9, 2], [2, 3], 0), (20, [9, 1], [2], 13), (23, [1], [2], 4), (90, [9], [], -2147483648), (91, [9], [], 2147483647), (31, [8], [], 0), (1073, [8, 7], [1, 2], 0), (90, [8], [], 0), (91, [8], [], 1), (20, [7, 1], [1], 2), (23, [1], [1], 4), (90, [7], [], -2147483648), (91, [7], [], 2147483647), (30, [6], [], 0), (20, [6, 1], [1], 3), (23, [1], [1], 4), (90, [6], [], -2147483648), (91, [6], [], 2147483647), (45, [4, 5], [], 0), (0, [5], [], 16), (5000, [0, 1, 2, 3, 4], [0, 1], 6), (0, [0], [], 30), (0, [1], [], 30), (90, [2], [], -2147483648), (91, [2], [], 2147483647), (90, [3], [], -2147483648), (91, [3], [], 2147483647), (90, [4], [], -2147483648), (91, [4], [], 2147483647)], (4000, [1, 20, 24, 25], [8], 6))
theorem c_72vw_6_12 {q0 : Nat} : vOkm T0 (eN e_72v L_72vw A_72v mu_72v n_72 B_72 (some q0)) 1 g_72vw_6_12 := vOk_inI fun ρ η f0 f1 f2 f3 f4 f5 f6 f7 f8 f9 f10 f11 f12 f13 f14 f15 f16 f17 f18 f19 f20 f21 f22 f23 f24 f25 f26 f27 f28 f29 f30 f31 f32 f33 f34 f35 f36 f37 f38 f39 f40 f41 f42 f43 f44 f45 f46 f47 f48 f49 f50 f51 f52 f53 f54 f55 f56 f57 f58 f59 f60 f61 f62 f63 f64 f65 f66 f67 f68 f69 => q_72vw_13 (q0 := q0) (n0 := ρ 4) (n1 := ρ 3) (n2 := ρ 2) (n3 := ρ 1) (n4 := ρ 0) (n5 := ρ 5) (n6 := ρ 6) (n7 := ρ 7) (n8 := ρ 8) (n9 := ρ 9) (n10 := ρ 10) (n11 := ρ 11) (n12 := ρ 12) (n13 := ρ 13) (n14 := ρ 14) (n15 := ρ 15) (n16 := ρ 16) (n17 := ρ 17) (n18 := ρ 18) (n19 := ρ 19) (n20 := ρ 20) (n21 := ρ 21) (n22 := ρ 22) (n23 := ρ 23) (n24 := ρ 24) (n25 := ρ 25) (H0 := η 0) (H1 := η 1) (H2 := η 2) (H3 := η 3) (H4 := η 4) (H5 := η 5) (H6 := η 6) (H7 := η 7) (H8 := η 8) f69 f68 f67 f66 f65 f64 f63 f62 f61 f60 f59 f58 f57 f56 f55 f54 f53 f52 f51 f50 f49 f48 f47 f46 f45 f44 f43 f42 f41 f40 f39 f38 f37 f36 f35 f34 f33 f32 f31 f30 f29 f28 f27 f26 f25 f24 f23 f22 f21 f20 f19 f18 f17 f16 f15 f14 f13 f12 f11 f10 f9 f8 f7 f6 f5 f4 f3 f2 f1 f0
theorem q_72vw_14 {q0 : Nat} {n0 n1 n2 n3 n4 n5 n6 n7 n8 n9 n10 n11 n12 n13 n14 n15 n16 n17 n18 n19 n20 n21 n22 n23 n24 n25 n26 n27 : Int} {H0 H1 H2 H3 H4 H5 H6 H7 H8 H9 : gH} (f0 : n0 ≤ 2147483647) (f1 : (-2147483648) ≤ n0) (f2 : n1 ≤ 2147483647) (f3 : (-2147483648) ≤ n1) (f4 : n2 ≤ 2147483647) (f5 : (-2147483648) ≤ n2) (f6 : n3 = 30) (f7 : n4 = 30) (f8 : (hLe T0 H0 H1 ∧ hFr s_72v.2.2.2.2 H0 H1 ∧ hWt T0 H1) ∧ ((Ab_72v_6 n4 n3 n2 n1 n0 H0 H1 ∧ Bb_72_6 n4 n3 n2 n1 n0 H0 H1) ∧ preb_72v n4 H0) ∧ some q0 = some (mub_72v_6 n4 n3 n2 n1 n0 H0 H1)) (f9 : n5 = 16) (f10 : n0 ≤ n5) (f11 : n6 ≤ 2147483647) (f12 : (-2147483648) ≤ n6) (f13 : hK H1 (n3).toNat = 4) (f14 : n6 = hV H1 (n3).toNat 3) (f15 : n6 = 0) (f16 : n7 ≤ 2147483647) (f17 : (-2147483648) ≤ n7) (f18 : hK H1 (n3).toNat = 4) (f19 : n7 = hV H1 (n3).toNat 2) (f20 : n8 ≤ 1) (f21 : 0 ≤ n8) (f22 : (hLe T0 H1 H2 ∧ hFr s_73v.2.2.2.2 H1 H2 ∧ ((0 : Int) = 0 → H2.length = H1.length) ∧ hWt T0 H2) ∧ postb_73v n8 n7 H1 H2) (f23 : n8 ≠ 0) (f24 : n9 ≤ 2147483647) (f25 : (-2147483648) ≤ n9) (f26 : hK H2 (n3).toNat = 4) (f27 : n9 = hV H2 (n3).toNat 13) (f28 : (hLe T0 H2 H3 ∧ hFr s_74v.2.2.2.2 H2 H3 ∧ ((0 : Int) = 0 → H3.length = H2.length) ∧ hWt T0 H3) ∧ (postb_74v n10 n3 n9 n2 H2 H3 ∧ nb_74 n10 n3 n9 n2 H2 H3)) (f29 : 0 ≤ n10) (f30 : n11 ≤ 2147483647) (f31 : (-2147483648) ≤ n11) (f32 : hK H3 (n3).toNat = 4) (f33 : n11 = hV H3 (n3).toNat 2) (f34 : n12 = 20) (f35 : n13 = w32 (n11 - n12)) (f36 : n14 = 31) (f37 : hK H3 (n3).toNat = 4) (f38 : n14 = hV H3 (n3).toNat 0) (f39 : n15 ≤ 2147483647) (f40 : (-2147483648) ≤ n15) (f41 : hK H3 (n3).toNat = 4) (f42 : n15 = hV H3 (n3).toNat 1) (f43 : n16 ≤ 2147483647) (f44 : (-2147483648) ≤ n16) (f45 : (hLe T0 H3 H4 ∧ hFr s_124.2.2.2.2 H3 H4 ∧ ((0 : Int) = 0 → H4.length = H3.length) ∧ hWt T0 H4) ∧ postb_124x n16 n14 n15 H3 H4) (f46 : (hLe T0 H4 H5 ∧ hFr s_24v.2.2.2.2 H4 H5 ∧ ((0 : Int) = 0 → H5.length = H4.length) ∧ hWt T0 H5) ∧ (postb_24v n10 n13 n16 H4 H5 ∧ nb_24 n10 n13 n16 H4 H5)) (f47 : n17 ≤ 2147483647) (f48 : (-2147483648) ≤ n17) (f49 : hK H5 (n3).toNat = 4) (f50 : n17 = hV H5 (n3).toNat 2) (f51 : (hLe T0 H5 H6 ∧ hFr s_66v.2.2.2.2 H5 H6 ∧ ((0 : Int) = 0 → H6.length = H5.length) ∧ hWt T0 H6) ∧ postb_66v n3 n17 H5 H6) (f52 : n18 ≤ 2147483647) (f53 : (-2147483648) ≤ n18) (f54 : hK H6 (n10).toNat = 1) (f55 : n18 = hV H6 (n10).toNat 0) (f56 : n18 = 2) (f57 : (hLe T0 H6 H7 ∧ hFr s_77v.2.2.2.2 H6 H7 ∧ ((0 : Int) = 0 → H7.length = H6.length) ∧ hWt T0 H7) ∧ (postb_77v n3 n10 H6 H7 ∧ nb_77 n3 n10 H6 H7)) (f58 : n19 = 4) (f59 : (hLe T0 H7 H8 ∧ hFr s_66v.2.2.2.2 H7 H8 ∧ ((0 : Int) = 0 → H8.length = H7.length) ∧ hWt T0 H8) ∧ postb_66v n3 n19 H7 H8) (f60 : n20 = w32 (n2 + 1)) (f61 : n21 ≤ 2147483647) (f62 : (-2147483648) ≤ n21) (f63 : hK H8 (n10).toNat = 1) (f64 : n21 = hV H8 (n10).toNat 0) (f65 : n22 = 5) (f66 : n21 = n22) (f67 : n23 = 47) (f68 : hK H8 (n3).toNat = 4) (f69 : n23 = hV H8 (n3).toNat 11) (f70 : n24 ≤ 2147483647) (f71 : (-2147483648) ≤ n24) (f72 : hK H8 (n10).toNat = 1) (f73 : n24 = hV H8 (n10).toNat 2) (f74 : n25 ≤ 2147483647) (f75 : (-2147483648) ≤ n25) (f76 : (hLe T0 H8 H9 ∧ hFr s_199vk740.2.2.2.2 H8 H9 ∧ ((0 : Int) = 0 → H9.length = H8.length) ∧ hWt T0 H9) ∧ postb_199vk740 n25 n23 n24 H8 H9) (f77 : n26 = w32 (n1 + n25)) (f78 : n27 = w32 (n0 + 1)) : Bb_72_6 n4 n3 n20 n26 n27 H0 H9 := by
  unfold Bb_72_6
  intro ck
  have pz := f8.2.1.2
  unfold preb_72v at pz
  have ga := f8.2.1.1.1
  unfold Ab_72v_6 at ga
  have vz : vwC H1 = vwC H0 := vwC_fr f8.1.2.1 (by decide +kernel)
  obtain ⟨kz, bz, blz, b13, cz_, b48, x10, x116, x30, x317, x13, ya, yt⟩ := ga
  have gb := f8.2.1.1.2
  unfold Bb_72_6 at gb
  obtain ⟨gq, g46, g47, gl⟩ := gb ck
  have ck1 := CK_fr f8.1.1 f8.1.2.1 (by decide +kernel) ck
  have y2 := pz.2.1.2.1
  have y3 := pz.2.1.2.2.1
  have r3 := f14
  rw [f6] at r3
  rw [show ((30 : Int)).toNat = 30 from rfl] at r3
  have r2 := f19
  rw [f6] at r2
  rw [show ((30 : Int)).toNat = 30 from rfl] at r2
  have pc := f22.2
  unfold postb_73v at pc
  have cq := f28.2.1
  unfold postb_74v at cq
  have cq2 := cq.2
  have x16 : n2 < 16 := by
    rcases Int.lt_or_le n2 16 with w | w
    · omega
    · have := cq2 w
      omega
  have rb := f27
  rw [f6] at rb
  rw [show ((30 : Int)).toNat = 30 from rfl] at rb
  have t13 : hV H2 30 13 = hV H1 30 13 := f22.1.2.1.1 30 13 (by decide +kernel)
  have cw := f28.2.2
  unfold nb_74 at cw
  have cw := cw (CK_fr f22.1.1 f22.1.2.1 (by decide +kernel) ck1).1 (by omega) (by omega) (by omega)
  have ce : n10 = ((cuP (hV H0 30 13).toNat (n2).toNat : Nat) : Int) := by
    unfold cuP
    omega
  have cz : 0 ≤ n10 := by omega
  have hk1 : hK H1 (n10).toNat = 1 := by
    rw [ce, Int.toNat_natCast]
    exact C45_k ck1.1 cz_ (by omega) (by omega)
  have kc0 : hK H2 (n10).toNat = 1 := kLe f22.1.1 hk1 rfl
  have kc1 : hK H3 (n10).toNat = 1 := kLe f28.1.1 kc0 rfl
  have kc2 : hK H4 (n10).toNat = 1 := kLe f45.1.1 kc1 rfl
  have kc3 : hK H5 (n10).toNat = 1 := kLe f46.1.1 kc2 rfl
  have ow46 := f46.2.2
  unfold nb_24 at ow46
  have ow46 := ow46 kc2 cz
  have kc4 : hK H6 (n10).toNat = 1 := kLe f51.1.1 kc3 rfl
  have kc5 : hK H7 (n10).toNat = 1 := kLe f57.1.1 kc4 rfl
  have ow57 := f57.2.2
  unfold nb_77 at ow57
  have ow57 := ow57 kc4 cz
  try rw [f6] at ow57
  have kc6 : hK H8 (n10).toNat = 1 := kLe f59.1.1 kc5 rfl
  have kc7 : hK H9 (n10).toNat = 1 := kLe f76.1.1 kc6 rfl
  have s0 := PF_fr f22.1.1 f22.1.2.1 (by decide +kernel) kz
  have a0 : absC H2 = (absC H1) := s0.1
  have v0 : vwC H2 = vwC H0 := (vwC_fr f22.1.2.1 (by decide +kernel)).trans vz
  have u0 := CU_fr f22.1.1 f22.1.2.1 (by decide +kernel) cz_
  have d0 := BI_fr f22.1.1 f22.1.2.1 (by decide +kernel) bz
  have j0 : BLc H2 = BLc H0 := d0.2.trans blz
  have s1 := PF_fr f28.1.1 f28.1.2.1 (by decide +kernel) s0.2.2
  have a1 : absC H3 = (absC H1) := s1.1.trans a0
  have v1 : vwC H3 = vwC H0 := (vwC_fr f28.1.2.1 (by decide +kernel)).trans v0
  have u1 := CU_fr f28.1.1 f28.1.2.1 (by decide +kernel) u0
  have d1 := BI_fr f28.1.1 f28.1.2.1 (by decide +kernel) d0.1
  have j1 : BLc H3 = BLc H0 := d1.2.trans j0
  have s2 := PF_fr f45.1.1 f45.1.2.1 (by decide +kernel) s1.2.2
  have a2 : absC H4 = (absC H1) := s2.1.trans a1
  have v2 : vwC H4 = vwC H0 := (vwC_fr f45.1.2.1 (by decide +kernel)).trans v1
  have u2 := CU_fr f45.1.1 f45.1.2.1 (by decide +kernel) u1
  have d2 := BI_fr f45.1.1 f45.1.2.1 (by decide +kernel) d1.1
  have j2 : BLc H4 = BLc H0 := d2.2.trans j1
  have s3 := PF_fr f46.1.1 f46.1.2.1 (by decide +kernel) s2.2.2
  have a3 : absC H5 = (absC H1) := s3.1.trans a2
  have v3 : vwC H5 = vwC H0 := (vwC_fr f46.1.2.1 (by decide +kernel)).trans v2
  have u3 := CU_fr f46.1.1 f46.1.2.1 (by decide +kernel) u2
  have d3 := BI_fr f46.1.1 f46.1.2.1 (by decide +kernel) d2.1
  have j3 : BLc H5 = BLc H0 := d3.2.trans j2
  have c4 := f51.2
  unfold postb_66v at c4
  rw [v3] at c4
  rw [a3] at c4
  have a4 : absC H6 = (ptk (vwC H0) n17 (absC H1)) := c4.2
  have v4 : vwC H6 = vwC H0 := (vwC_fr f51.1.2.1 (by decide +kernel)).trans v3
  have u4 := CU_fr f51.1.1 f51.1.2.1 (by decide +kernel) u3
  have d4 := BI_fr f51.1.1 f51.1.2.1 (by decide +kernel) d3.1
  have j4 : BLc H6 = BLc H0 := d4.2.trans j3
  have c5 := f57.2.1
  unfold postb_77v at c5
  rw [v4] at c5
  rw [a4] at c5
  have a5 : absC H7 = (pDip (vwC H0) (ptk (vwC H0) n17 (absC H1))) := c5.2
  have v5 : vwC H7 = vwC H0 := (vwC_fr f57.1.2.1 (by decide +kernel)).trans v4
  have u5 := CU_fr f57.1.1 f57.1.2.1 (by decide +kernel) u4
  have d5 := BI_fr f57.1.1 f57.1.2.1 (by decide +kernel) d4.1
  have j5 : BLc H7 = BLc H0 := d5.2.trans j4
  have c6 := f59.2
  unfold postb_66v at c6
  try rw [f58] at c6
  rw [v5] at c6
  rw [a5] at c6
  have a6 : absC H8 = (ptk (vwC H0) 4 (pDip (vwC H0) (ptk (vwC H0) n17 (absC H1)))) := c6.2
  have v6 : vwC H8 = vwC H0 := (vwC_fr f59.1.2.1 (by decide +kernel)).trans v5
  have u6 := CU_fr f59.1.1 f59.1.2.1 (by decide +kernel) u5
  have d6 := BI_fr f59.1.1 f59.1.2.1 (by decide +kernel) d5.1
  have j6 : BLc H8 = BLc H0 := d6.2.trans j5
  have s7 := PF_fr f76.1.1 f76.1.2.1 (by decide +kernel) c6.1
  have a7 : absC H9 = (ptk (vwC H0) 4 (pDip (vwC H0) (ptk (vwC H0) n17 (absC H1)))) := s7.1.trans a6
  have v7 : vwC H9 = vwC H0 := (vwC_fr f76.1.2.1 (by decide +kernel)).trans v6
  have u7 := CU_fr f76.1.1 f76.1.2.1 (by decide +kernel) u6
  have d7 := BI_fr f76.1.1 f76.1.2.1 (by decide +kernel) d6.1
  have j7 : BLc H9 = BLc H0 := d7.2.trans j6
  have kq0 : n18 = n13 := f55.trans ((fr1 f51.1.2.1 (by decide +kernel) kc3 0).trans (ow46.2.1))
  have kq1 : n21 = n13 := f64.trans ((fr1 f59.1.2.1 (by decide +kernel) kc5 0).trans ((ow57.2.1 0 (by decide) (by decide) (by decide) (by decide)).trans ((fr1 f51.1.2.1 (by decide +kernel) kc3 0).trans (ow46.2.1))))
  have rz0 := f33
  rw [f6] at rz0
  rw [show ((30 : Int)).toNat = 30 from rfl] at rz0
  have tz0 : hV H3 30 2 = hV H1 30 2 := (f28.1.2.1.1 30 2 (by decide +kernel)).trans (f22.1.2.1.1 30 2 (by decide +kernel))
  have rz1 := f50
  rw [f6] at rz1
  rw [show ((30 : Int)).toNat = 30 from rfl] at rz1
  have tz1 : hV H5 30 2 = hV H1 30 2 := (f46.1.2.1.1 30 2 (by decide +kernel)).trans ((f45.1.2.1.1 30 2 (by decide +kernel)).trans ((f28.1.2.1.1 30 2 (by decide +kernel)).trans (f22.1.2.1.1 30 2 (by decide +kernel))))
  have wq35 := f35
  unfold w32 at wq35
  have wq60 := f60
  unfold w32 at wq60
  have wq77 := f77
  unfold w32 at wq77
  have wq78 := f78
  unfold w32 at wq78
  exfalso
  omega
def g_72vw_6_13 : vG := ([(10, [27, 4], [], 1), (1, [26, 3, 25], [], 0), (1199, [25, 23, 24], [8, 9], 0), (90, [25], [], -2147483648), (91, [25], [], 2147483647), (20, [24, 10], [8], 2), (23, [10], [8], 1), (90, [24], [], -2147483648), (91, [24], [], 2147483647), (20, [23, 1], [8], 11), (23, [1], [8], 4), (0, [23], [], 47), (40, [21, 22], [], 0), (0, [22], [], 5), (20, [21, 10], [8], 0), (23, [10], [8], 1), (90, [21], [], -2147483648), (91, [21], [], 2147483647), (10, [20, 2], [], 1), (1066, [1, 19], [7, 8], 0), (0, [19], [], 4), (1077, [1, 10], [6, 7], 0), (0, [18], [], 2), (20, [18, 10], [6], 0), (23, [10], [6], 1), (90, [18], [], -2147483648), (91, [18], [], 2147483647), (1066, [1, 17], [5, 6], 0), (20, [17, 1], [5], 2), (23, [1], [5], 4), (90, [17], [], -2147483648), (91, [17], [], 2147483647), (1024, [10, 13, 16], [4, 5], 0), (1124, [16, 14, 15], [3, 4], 0), (90, [16], [], -2147483648), (91, [16], [], 2147483647), (20, [15, 1], [3], 1), (23, [1], [3], 4), (90, [15], [], -2147483648), (91, [15], [], 2147483647), (20, [14, 1], [3], 0), (23, [1], [3], 4), (0, [14], [], 31), (2, [13, 11, 12], [], 0), (0, [12], [], 20), (20, [11, 1], [3], 2), (23, [1], [3], 4), (90, [11], [], -2147483648), (91, [11], [], 2147483647), (51, [10], [], 0), (1074, [10, 1, 9, 2], [2, 3], 0), (20, [9, 1], [2], 13), (23, [1], [2], 4), (90, [9], [], -2147483648), (91, [9], [], 2147483647), (31, [8], [], 0), (1073, [8, 7], [1, 2], 0), (90, [8], [], 0), (91, [8], [], 1), (20, [7, 1], [1], 2), (23, [1], [1], 4), (90, [7], [], -2147483648), (91, [7], [], 2147483647), (30, [6], [], 0), (20, [6, 1], [1], 3), (23, [1], [1], 4), (90, [6], [], -2147483648), (91, [6], [], 2147483647), (45, [4, 5], [], 0), (0, [5], [], 16), (5000, [0, 1, 2, 3, 4], [0, 1], 6), (0, [0], [], 30), (0, [1], [], 30), (90, [2], [], -2147483648), (91, [2], [], 2147483647), (90, [3], [], -2147483648), (91, [3], [], 2147483647), (90, [4], [], -2147483648), (91, [4], [], 2147483647)], (4000, [1, 20, 26, 27], [9], 6))
theorem c_72vw_6_13 {q0 : Nat} : vOkm T0 (eN e_72v L_72vw A_72v mu_72v n_72 B_72 (some q0)) 1 g_72vw_6_13 := vOk_inI fun ρ η f0 f1 f2 f3 f4 f5 f6 f7 f8 f9 f10 f11 f12 f13 f14 f15 f16 f17 f18 f19 f20 f21 f22 f23 f24 f25 f26 f27 f28 f29 f30 f31 f32 f33 f34 f35 f36 f37 f38 f39 f40 f41 f42 f43 f44 f45 f46 f47 f48 f49 f50 f51 f52 f53 f54 f55 f56 f57 f58 f59 f60 f61 f62 f63 f64 f65 f66 f67 f68 f69 f70 f71 f72 f73 f74 f75 f76 f77 f78 => q_72vw_14 (q0 := q0) (n0 := ρ 4) (n1 := ρ 3) (n2 := ρ 2) (n3 := ρ 1) (n4 := ρ 0) (n5 := ρ 5) (n6 := ρ 6) (n7 := ρ 7) (n8 := ρ 8) (n9 := ρ 9) (n10 := ρ 10) (n11 := ρ 11) (n12 := ρ 12) (n13 := ρ 13) (n14 := ρ 14) (n15 := ρ 15) (n16 := ρ 16) (n17 := ρ 17) (n18 := ρ 18) (n19 := ρ 19) (n20 := ρ 20) (n21 := ρ 21) (n22 := ρ 22) (n23 := ρ 23) (n24 := ρ 24) (n25 := ρ 25) (n26 := ρ 26) (n27 := ρ 27) (H0 := η 0) (H1 := η 1) (H2 := η 2) (H3 := η 3) (H4 := η 4) (H5 := η 5) (H6 := η 6) (H7 := η 7) (H8 := η 8) (H9 := η 9) f78 f77 f76 f75 f74 f73 f72 f71 f70 f69 f68 f67 f66 f65 f64 f63 f62 f61 f60 f59 f58 f57 f56 f55 f54 f53 f52 f51 f50 f49 f48 f47 f46 f45 f44 f43 f42 f41 f40 f39 f38 f37 f36 f35 f34 f33 f32 f31 f30 f29 f28 f27 f26 f25 f24 f23 f22 f21 f20 f19 f18 f17 f16 f15 f14 f13 f12 f11 f10 f9 f8 f7 f6 f5 f4 f3 f2 f1 f0
theorem q_72vw_15 {q0 : Nat} {n0 n1 n2 n3 n4 n5 n6 n7 n8 n9 n10 n11 n12 n13 n14 n15 n16 n17 n18 n19 n20 n21 n22 n23 n24 n25 : Int} {H0 H1 H2 H3 H4 H5 H6 H7 H8 : gH} (f0 : n0 ≤ 2147483647) (f1 : (-2147483648) ≤ n0) (f2 : n1 ≤ 2147483647) (f3 : (-2147483648) ≤ n1) (f4 : n2 ≤ 2147483647) (f5 : (-2147483648) ≤ n2) (f6 : n3 = 30) (f7 : n4 = 30) (f8 : (hLe T0 H0 H1 ∧ hFr s_72v.2.2.2.2 H0 H1 ∧ hWt T0 H1) ∧ ((Ab_72v_6 n4 n3 n2 n1 n0 H0 H1 ∧ Bb_72_6 n4 n3 n2 n1 n0 H0 H1) ∧ preb_72v n4 H0) ∧ some q0 = some (mub_72v_6 n4 n3 n2 n1 n0 H0 H1)) (f9 : n5 = 16) (f10 : n0 ≤ n5) (f11 : n6 ≤ 2147483647) (f12 : (-2147483648) ≤ n6) (f13 : hK H1 (n3).toNat = 4) (f14 : n6 = hV H1 (n3).toNat 3) (f15 : n6 = 0) (f16 : n7 ≤ 2147483647) (f17 : (-2147483648) ≤ n7) (f18 : hK H1 (n3).toNat = 4) (f19 : n7 = hV H1 (n3).toNat 2) (f20 : n8 ≤ 1) (f21 : 0 ≤ n8) (f22 : (hLe T0 H1 H2 ∧ hFr s_73v.2.2.2.2 H1 H2 ∧ ((0 : Int) = 0 → H2.length = H1.length) ∧ hWt T0 H2) ∧ postb_73v n8 n7 H1 H2) (f23 : n8 ≠ 0) (f24 : n9 ≤ 2147483647) (f25 : (-2147483648) ≤ n9) (f26 : hK H2 (n3).toNat = 4) (f27 : n9 = hV H2 (n3).toNat 13) (f28 : (hLe T0 H2 H3 ∧ hFr s_74v.2.2.2.2 H2 H3 ∧ ((0 : Int) = 0 → H3.length = H2.length) ∧ hWt T0 H3) ∧ (postb_74v n10 n3 n9 n2 H2 H3 ∧ nb_74 n10 n3 n9 n2 H2 H3)) (f29 : 0 ≤ n10) (f30 : n11 ≤ 2147483647) (f31 : (-2147483648) ≤ n11) (f32 : hK H3 (n3).toNat = 4) (f33 : n11 = hV H3 (n3).toNat 2) (f34 : n12 = 20) (f35 : n13 = w32 (n11 - n12)) (f36 : n14 = 31) (f37 : hK H3 (n3).toNat = 4) (f38 : n14 = hV H3 (n3).toNat 0) (f39 : n15 ≤ 2147483647) (f40 : (-2147483648) ≤ n15) (f41 : hK H3 (n3).toNat = 4) (f42 : n15 = hV H3 (n3).toNat 1) (f43 : n16 ≤ 2147483647) (f44 : (-2147483648) ≤ n16) (f45 : (hLe T0 H3 H4 ∧ hFr s_124.2.2.2.2 H3 H4 ∧ ((0 : Int) = 0 → H4.length = H3.length) ∧ hWt T0 H4) ∧ postb_124x n16 n14 n15 H3 H4) (f46 : (hLe T0 H4 H5 ∧ hFr s_24v.2.2.2.2 H4 H5 ∧ ((0 : Int) = 0 → H5.length = H4.length) ∧ hWt T0 H5) ∧ (postb_24v n10 n13 n16 H4 H5 ∧ nb_24 n10 n13 n16 H4 H5)) (f47 : n17 ≤ 2147483647) (f48 : (-2147483648) ≤ n17) (f49 : hK H5 (n3).toNat = 4) (f50 : n17 = hV H5 (n3).toNat 2) (f51 : (hLe T0 H5 H6 ∧ hFr s_66v.2.2.2.2 H5 H6 ∧ ((0 : Int) = 0 → H6.length = H5.length) ∧ hWt T0 H6) ∧ postb_66v n3 n17 H5 H6) (f52 : n18 ≤ 2147483647) (f53 : (-2147483648) ≤ n18) (f54 : hK H6 (n10).toNat = 1) (f55 : n18 = hV H6 (n10).toNat 0) (f56 : n18 = 3) (f57 : (hLe T0 H6 H7 ∧ hFr s_78v.2.2.2.2 H6 H7 ∧ ((0 : Int) = 0 → H7.length = H6.length) ∧ hWt T0 H7) ∧ (postb_78v n3 n10 H6 H7 ∧ nb_78 n3 n10 H6 H7)) (f58 : n19 = 4) (f59 : (hLe T0 H7 H8 ∧ hFr s_66v.2.2.2.2 H7 H8 ∧ ((0 : Int) = 0 → H8.length = H7.length) ∧ hWt T0 H8) ∧ postb_66v n3 n19 H7 H8) (f60 : n20 = w32 (n2 + 1)) (f61 : n21 ≤ 2147483647) (f62 : (-2147483648) ≤ n21) (f63 : hK H8 (n10).toNat = 1) (f64 : n21 = hV H8 (n10).toNat 0) (f65 : n22 = 5) (f66 : n21 ≠ n22) (f67 : n23 = 1) (f68 : n24 = w32 (n1 + n23)) (f69 : n25 = w32 (n0 + 1)) : Bb_72_6 n4 n3 n20 n24 n25 H0 H8 := by
  unfold Bb_72_6
  intro ck
  have pz := f8.2.1.2
  unfold preb_72v at pz
  have ga := f8.2.1.1.1
  unfold Ab_72v_6 at ga
  have vz : vwC H1 = vwC H0 := vwC_fr f8.1.2.1 (by decide +kernel)
  obtain ⟨kz, bz, blz, b13, cz_, b48, x10, x116, x30, x317, x13, ya, yt⟩ := ga
  have gb := f8.2.1.1.2
  unfold Bb_72_6 at gb
  obtain ⟨gq, g46, g47, gl⟩ := gb ck
  have ck1 := CK_fr f8.1.1 f8.1.2.1 (by decide +kernel) ck
  have y2 := pz.2.1.2.1
  have y3 := pz.2.1.2.2.1
  have r3 := f14
  rw [f6] at r3
  rw [show ((30 : Int)).toNat = 30 from rfl] at r3
  have r2 := f19
  rw [f6] at r2
  rw [show ((30 : Int)).toNat = 30 from rfl] at r2
  have pc := f22.2
  unfold postb_73v at pc
  have cq := f28.2.1
  unfold postb_74v at cq
  have cq2 := cq.2
  have x16 : n2 < 16 := by
    rcases Int.lt_or_le n2 16 with w | w
    · omega
    · have := cq2 w
      omega
  have rb := f27
  rw [f6] at rb
  rw [show ((30 : Int)).toNat = 30 from rfl] at rb
  have t13 : hV H2 30 13 = hV H1 30 13 := f22.1.2.1.1 30 13 (by decide +kernel)
  have cw := f28.2.2
  unfold nb_74 at cw
  have cw := cw (CK_fr f22.1.1 f22.1.2.1 (by decide +kernel) ck1).1 (by omega) (by omega) (by omega)
  have ce : n10 = ((cuP (hV H0 30 13).toNat (n2).toNat : Nat) : Int) := by
    unfold cuP
    omega
  have cz : 0 ≤ n10 := by omega
  have hk1 : hK H1 (n10).toNat = 1 := by
    rw [ce, Int.toNat_natCast]
    exact C45_k ck1.1 cz_ (by omega) (by omega)
  have kc0 : hK H2 (n10).toNat = 1 := kLe f22.1.1 hk1 rfl
  have kc1 : hK H3 (n10).toNat = 1 := kLe f28.1.1 kc0 rfl
  have kc2 : hK H4 (n10).toNat = 1 := kLe f45.1.1 kc1 rfl
  have kc3 : hK H5 (n10).toNat = 1 := kLe f46.1.1 kc2 rfl
  have ow46 := f46.2.2
  unfold nb_24 at ow46
  have ow46 := ow46 kc2 cz
  have kc4 : hK H6 (n10).toNat = 1 := kLe f51.1.1 kc3 rfl
  have kc5 : hK H7 (n10).toNat = 1 := kLe f57.1.1 kc4 rfl
  have ow57 := f57.2.2
  unfold nb_78 at ow57
  have ow57 := ow57 kc4 cz
  try rw [f6] at ow57
  have kc6 : hK H8 (n10).toNat = 1 := kLe f59.1.1 kc5 rfl
  have s0 := PF_fr f22.1.1 f22.1.2.1 (by decide +kernel) kz
  have a0 : absC H2 = (absC H1) := s0.1
  have v0 : vwC H2 = vwC H0 := (vwC_fr f22.1.2.1 (by decide +kernel)).trans vz
  have u0 := CU_fr f22.1.1 f22.1.2.1 (by decide +kernel) cz_
  have d0 := BI_fr f22.1.1 f22.1.2.1 (by decide +kernel) bz
  have j0 : BLc H2 = BLc H0 := d0.2.trans blz
  have s1 := PF_fr f28.1.1 f28.1.2.1 (by decide +kernel) s0.2.2
  have a1 : absC H3 = (absC H1) := s1.1.trans a0
  have v1 : vwC H3 = vwC H0 := (vwC_fr f28.1.2.1 (by decide +kernel)).trans v0
  have u1 := CU_fr f28.1.1 f28.1.2.1 (by decide +kernel) u0
  have d1 := BI_fr f28.1.1 f28.1.2.1 (by decide +kernel) d0.1
  have j1 : BLc H3 = BLc H0 := d1.2.trans j0
  have s2 := PF_fr f45.1.1 f45.1.2.1 (by decide +kernel) s1.2.2
  have a2 : absC H4 = (absC H1) := s2.1.trans a1
  have v2 : vwC H4 = vwC H0 := (vwC_fr f45.1.2.1 (by decide +kernel)).trans v1
  have u2 := CU_fr f45.1.1 f45.1.2.1 (by decide +kernel) u1
  have d2 := BI_fr f45.1.1 f45.1.2.1 (by decide +kernel) d1.1
  have j2 : BLc H4 = BLc H0 := d2.2.trans j1
  have s3 := PF_fr f46.1.1 f46.1.2.1 (by decide +kernel) s2.2.2
  have a3 : absC H5 = (absC H1) := s3.1.trans a2
  have v3 : vwC H5 = vwC H0 := (vwC_fr f46.1.2.1 (by decide +kernel)).trans v2
  have u3 := CU_fr f46.1.1 f46.1.2.1 (by decide +kernel) u2
  have d3 := BI_fr f46.1.1 f46.1.2.1 (by decide +kernel) d2.1
  have j3 : BLc H5 = BLc H0 := d3.2.trans j2
  have c4 := f51.2
  unfold postb_66v at c4
  rw [v3] at c4
  rw [a3] at c4
  have a4 : absC H6 = (ptk (vwC H0) n17 (absC H1)) := c4.2
  have v4 : vwC H6 = vwC H0 := (vwC_fr f51.1.2.1 (by decide +kernel)).trans v3
  have u4 := CU_fr f51.1.1 f51.1.2.1 (by decide +kernel) u3
  have d4 := BI_fr f51.1.1 f51.1.2.1 (by decide +kernel) d3.1
  have j4 : BLc H6 = BLc H0 := d4.2.trans j3
  have c5 := f57.2.1
  unfold postb_78v at c5
  rw [v4] at c5
  rw [a4] at c5
  have a5 : absC H7 = (pTaps (vwC H0) (ptk (vwC H0) n17 (absC H1))) := c5.2
  have v5 : vwC H7 = vwC H0 := (vwC_fr f57.1.2.1 (by decide +kernel)).trans v4
  have u5 := CU_fr f57.1.1 f57.1.2.1 (by decide +kernel) u4
  have d5 := BI_fr f57.1.1 f57.1.2.1 (by decide +kernel) d4.1
  have j5 : BLc H7 = BLc H0 := d5.2.trans j4
  have c6 := f59.2
  unfold postb_66v at c6
  try rw [f58] at c6
  rw [v5] at c6
  rw [a5] at c6
  have a6 : absC H8 = (ptk (vwC H0) 4 (pTaps (vwC H0) (ptk (vwC H0) n17 (absC H1)))) := c6.2
  have v6 : vwC H8 = vwC H0 := (vwC_fr f59.1.2.1 (by decide +kernel)).trans v5
  have u6 := CU_fr f59.1.1 f59.1.2.1 (by decide +kernel) u5
  have d6 := BI_fr f59.1.1 f59.1.2.1 (by decide +kernel) d5.1
  have j6 : BLc H8 = BLc H0 := d6.2.trans j5
  have kq0 : n18 = n13 := f55.trans ((fr1 f51.1.2.1 (by decide +kernel) kc3 0).trans (ow46.2.1))
  have kq1 : n21 = n13 := f64.trans ((fr1 f59.1.2.1 (by decide +kernel) kc5 0).trans ((ow57.2.1 0 (by decide) (by decide)).trans ((fr1 f51.1.2.1 (by decide +kernel) kc3 0).trans (ow46.2.1))))
  have rz0 := f33
  rw [f6] at rz0
  rw [show ((30 : Int)).toNat = 30 from rfl] at rz0
  have tz0 : hV H3 30 2 = hV H1 30 2 := (f28.1.2.1.1 30 2 (by decide +kernel)).trans (f22.1.2.1.1 30 2 (by decide +kernel))
  have rz1 := f50
  rw [f6] at rz1
  rw [show ((30 : Int)).toNat = 30 from rfl] at rz1
  have tz1 : hV H5 30 2 = hV H1 30 2 := (f46.1.2.1.1 30 2 (by decide +kernel)).trans ((f45.1.2.1.1 30 2 (by decide +kernel)).trans ((f28.1.2.1.1 30 2 (by decide +kernel)).trans (f22.1.2.1.1 30 2 (by decide +kernel))))
  have wq35 := f35
  unfold w32 at wq35
  have wq60 := f60
  unfold w32 at wq60
  have wq68 := f68
  unfold w32 at wq68
  have wq69 := f69
  unfold w32 at wq69
  have k2 : hV H1 30 2 = 23 := by omega
  have kt : n17 = 23 := by omega
  refine ⟨CUq_tr gq (CUq_of (c := n10) (CUo_tr (CUo_fr f22.1.1 f22.1.2.1 (by decide +kernel)) (CUo_tr (CUo_fr f28.1.1 f28.1.2.1 (by decide +kernel)) (CUo_tr (CUo_fr f45.1.1 f45.1.2.1 (by decide +kernel)) (CUo_tr ow46.1 (CUo_tr (CUo_fr f51.1.1 f51.1.2.1 (by decide +kernel)) (CUo_tr ow57.1 (CUo_fr f59.1.1 f59.1.2.1 (by decide +kernel)))))))) (k := (n2).toNat) (by omega) ce), ((fRow f59.1.2.1 46 (by decide +kernel)).trans ((fRow f57.1.2.1 46 (by decide +kernel)).trans ((fRow f51.1.2.1 46 (by decide +kernel)).trans ((fRow f46.1.2.1 46 (by decide +kernel)).trans ((fRow f45.1.2.1 46 (by decide +kernel)).trans ((fRow f28.1.2.1 46 (by decide +kernel)).trans (fRow f22.1.2.1 46 (by decide +kernel)))))))).trans g46, ((fRow f59.1.2.1 47 (by decide +kernel)).trans ((fRow f57.1.2.1 47 (by decide +kernel)).trans ((fRow f51.1.2.1 47 (by decide +kernel)).trans ((fRow f46.1.2.1 47 (by decide +kernel)).trans ((fRow f45.1.2.1 47 (by decide +kernel)).trans ((fRow f28.1.2.1 47 (by decide +kernel)).trans (fRow f22.1.2.1 47 (by decide +kernel)))))))).trans g47, fun hf => ?_⟩
  have hzH7 := fzE c5.1 c6.1 a5 a6 (fun n k => ptk_neg n k) hf
  have hzH6 := fzE c4.1 c5.1 a4 a5 (fun n k => pTaps_neg (vwC_ok H0) n k) hzH7.1
  have hzH5 := fzE s3.2.2 c4.1 a3 a4 (fun n k => ptk_neg n k) hzH6.1
  have hzH4 := fzE s2.2.2 s3.2.2 a2 a3 (fun _ _ => rfl) hzH5.1
  have hzH3 := fzE s1.2.2 s2.2.2 a1 a2 (fun _ _ => rfl) hzH4.1
  have hzH2 := fzE s0.2.2 s1.2.2 a0 a1 (fun _ _ => rfl) hzH3.1
  have hzH1 := fzE kz s0.2.2 rfl a0 (fun _ _ => rfl) hzH2.1
  have hk : (vwC H0).1 (absC H1).1 = hV H1 30 2 := by
    have u := (kd_at kz).resolve_left (by have := absC_pos kz hzH1.1; omega)
    rw [vz] at u
    exact u
  have hb : absC H8 = ptk (vwC H0) 4 (pBody (vwC H0) (BLc H0) 23 (ptk (vwC H0) 23 (absC H1))) := by
    rw [pBody_23, ← kt]
    exact a6
  have to := ow57.2.2 hzH7.1
  rw [v4, a4, kt] at to
  have to57_3 := to
  have rp := f42
  rw [f6] at rp
  rw [show ((30 : Int)).toNat = 30 from rfl] at rp
  have p1 : hV H3 30 1 = hV H1 30 1 := (f28.1.2.1.1 30 1 (by decide +kernel)).trans (f22.1.2.1.1 30 1 (by decide +kernel))
  have pl := f45.2
  unfold postb_124x at pl
  have pl := pl s1.2.2.1
  have it := kz.2.2.2.1
  have lp : n16 = (vwC H0).2.2.2 (absC H1).1 := by
    rw [(absC_pos kz hzH1.1).1, ← vz, vwC_place it, lC_at it kz.2.1, pl, if_pos (by have := it.1; have := it.2.1; omega), show hV H3 34 = hV H1 34 from (fRow f28.1.2.1 34 (by decide +kernel)).trans (fRow f22.1.2.1 34 (by decide +kernel))]
    exact congrArg _ (by omega)
  have cu_ : (n10).toNat = cuP (hV H0 30 13).toNat (n2).toNat := by rw [ce, Int.toNat_natCast]
  have w0 : hV H8 (n10).toNat 0 = 3 := ((fr1 f59.1.2.1 (by decide +kernel) kc5 0).trans ((ow57.2.1 0 (by decide) (by decide)).trans ((fr1 f51.1.2.1 (by decide +kernel) kc3 0).trans (ow46.2.1)))).trans (by omega)
  have w1 : hV H8 (n10).toNat 1 = n16 := (fr1 f59.1.2.1 (by decide +kernel) kc5 1).trans ((ow57.2.1 1 (by decide) (by decide)).trans ((fr1 f51.1.2.1 (by decide +kernel) kc3 1).trans (ow46.2.2.1)))
  have w3 := (fr1 f59.1.2.1 (by decide +kernel) kc5 3).trans (to57_3)
  have w4 : hV H8 (n10).toNat 4 = (-1) := (fr1 f59.1.2.1 (by decide +kernel) kc5 4).trans ((ow57.2.1 4 (by decide) (by decide)).trans ((fr1 f51.1.2.1 (by decide +kernel) kc3 4).trans (ow46.2.2.2.2.1)))
  have w5 : hV H8 (n10).toNat 5 = (0) := (fr1 f59.1.2.1 (by decide +kernel) kc5 5).trans ((ow57.2.1 5 (by decide) (by decide)).trans ((fr1 f51.1.2.1 (by decide +kernel) kc3 5).trans (ow46.2.2.2.2.2.1)))
  have w6 : hV H8 (n10).toNat 6 = (-1) := (fr1 f59.1.2.1 (by decide +kernel) kc5 6).trans ((ow57.2.1 6 (by decide) (by decide)).trans ((fr1 f51.1.2.1 (by decide +kernel) kc3 6).trans (ow46.2.2.2.2.2.2.1)))
  have w7 : hV H8 (n10).toNat 7 = (0) := (fr1 f59.1.2.1 (by decide +kernel) kc5 7).trans ((ow57.2.1 7 (by decide) (by decide)).trans ((fr1 f51.1.2.1 (by decide +kernel) kc3 7).trans (ow46.2.2.2.2.2.2.2.1)))
  have re : recC H8 (cuP (hV H0 30 13).toNat (n2).toNat) = cuT (vwC H0) (BLc H0) (absC H1) := by
    rw [← cu_, recC_stem w0 (by decide) (by decide), w1, w3, w4, w5, w6, w7, cuT_x (hk.trans k2) (by decide) (by decide), lp]
    rfl
  have le_ : lsC H8 (hV H0 30 13).toNat (n2).toNat = lsC H1 (hV H0 30 13).toNat (n2).toNat := lsC_eq (fun k hk_ s => (((CUo_tr (CUo_fr f22.1.1 f22.1.2.1 (by decide +kernel)) (CUo_tr (CUo_fr f28.1.1 f28.1.2.1 (by decide +kernel)) (CUo_tr (CUo_fr f45.1.1 f45.1.2.1 (by decide +kernel)) (CUo_tr ow46.1 (CUo_tr (CUo_fr f51.1.1 f51.1.2.1 (by decide +kernel)) (CUo_tr ow57.1 (CUo_fr f59.1.1 f59.1.2.1 (by decide +kernel)))))))) : CUo H1 H8 n10) _ (C45_k ck1.1 cz_ (by omega) (by omega))).2 (by rw [ce]; unfold cuP; omega) s)
  have st := pDr_step (v := vwC H0) (bl := BLc H0) (f := 16 - ((n2).toNat + 1)) (p := absC H1) (by rw [hk, k2]; decide)
  rw [pCue_k (hk.trans k2), ← hb, show 16 - ((n2).toNat + 1) + 1 = 16 - (n2).toNat by omega] at st
  have gl := gl hzH1.1
  rw [show (n20).toNat = (n2).toNat + 1 by omega, lsC_snoc, re, le_, ← st]
  exact gl
def g_72vw_6_14 : vG := ([(10, [25, 4], [], 1), (1, [24, 3, 23], [], 0), (0, [23], [], 1), (41, [21, 22], [], 0), (0, [22], [], 5), (20, [21, 10], [8], 0), (23, [10], [8], 1), (90, [21], [], -2147483648), (91, [21], [], 2147483647), (10, [20, 2], [], 1), (1066, [1, 19], [7, 8], 0), (0, [19], [], 4), (1078, [1, 10], [6, 7], 0), (0, [18], [], 3), (20, [18, 10], [6], 0), (23, [10], [6], 1), (90, [18], [], -2147483648), (91, [18], [], 2147483647), (1066, [1, 17], [5, 6], 0), (20, [17, 1], [5], 2), (23, [1], [5], 4), (90, [17], [], -2147483648), (91, [17], [], 2147483647), (1024, [10, 13, 16], [4, 5], 0), (1124, [16, 14, 15], [3, 4], 0), (90, [16], [], -2147483648), (91, [16], [], 2147483647), (20, [15, 1], [3], 1), (23, [1], [3], 4), (90, [15], [], -2147483648), (91, [15], [], 2147483647), (20, [14, 1], [3], 0), (23, [1], [3], 4), (0, [14], [], 31), (2, [13, 11, 12], [], 0), (0, [12], [], 20), (20, [11, 1], [3], 2), (23, [1], [3], 4), (90, [11], [], -2147483648), (91, [11], [], 2147483647), (51, [10], [], 0), (1074, [10, 1, 9, 2], [2, 3], 0), (20, [9, 1], [2], 13), (23, [1], [2], 4), (90, [9], [], -2147483648), (91, [9], [], 2147483647), (31, [8], [], 0), (1073, [8, 7], [1, 2], 0), (90, [8], [], 0), (91, [8], [], 1), (20, [7, 1], [1], 2), (23, [1], [1], 4), (90, [7], [], -2147483648), (91, [7], [], 2147483647), (30, [6], [], 0), (20, [6, 1], [1], 3), (23, [1], [1], 4), (90, [6], [], -2147483648), (91, [6], [], 2147483647), (45, [4, 5], [], 0), (0, [5], [], 16), (5000, [0, 1, 2, 3, 4], [0, 1], 6), (0, [0], [], 30), (0, [1], [], 30), (90, [2], [], -2147483648), (91, [2], [], 2147483647), (90, [3], [], -2147483648), (91, [3], [], 2147483647), (90, [4], [], -2147483648), (91, [4], [], 2147483647)], (4000, [1, 20, 24, 25], [8], 6))
theorem c_72vw_6_14 {q0 : Nat} : vOkm T0 (eN e_72v L_72vw A_72v mu_72v n_72 B_72 (some q0)) 1 g_72vw_6_14 := vOk_inI fun ρ η f0 f1 f2 f3 f4 f5 f6 f7 f8 f9 f10 f11 f12 f13 f14 f15 f16 f17 f18 f19 f20 f21 f22 f23 f24 f25 f26 f27 f28 f29 f30 f31 f32 f33 f34 f35 f36 f37 f38 f39 f40 f41 f42 f43 f44 f45 f46 f47 f48 f49 f50 f51 f52 f53 f54 f55 f56 f57 f58 f59 f60 f61 f62 f63 f64 f65 f66 f67 f68 f69 => q_72vw_15 (q0 := q0) (n0 := ρ 4) (n1 := ρ 3) (n2 := ρ 2) (n3 := ρ 1) (n4 := ρ 0) (n5 := ρ 5) (n6 := ρ 6) (n7 := ρ 7) (n8 := ρ 8) (n9 := ρ 9) (n10 := ρ 10) (n11 := ρ 11) (n12 := ρ 12) (n13 := ρ 13) (n14 := ρ 14) (n15 := ρ 15) (n16 := ρ 16) (n17 := ρ 17) (n18 := ρ 18) (n19 := ρ 19) (n20 := ρ 20) (n21 := ρ 21) (n22 := ρ 22) (n23 := ρ 23) (n24 := ρ 24) (n25 := ρ 25) (H0 := η 0) (H1 := η 1) (H2 := η 2) (H3 := η 3) (H4 := η 4) (H5 := η 5) (H6 := η 6) (H7 := η 7) (H8 := η 8) f69 f68 f67 f66 f65 f64 f63 f62 f61 f60 f59 f58 f57 f56 f55 f54 f53 f52 f51 f50 f49 f48 f47 f46 f45 f44 f43 f42 f41 f40 f39 f38 f37 f36 f35 f34 f33 f32 f31 f30 f29 f28 f27 f26 f25 f24 f23 f22 f21 f20 f19 f18 f17 f16 f15 f14 f13 f12 f11 f10 f9 f8 f7 f6 f5 f4 f3 f2 f1 f0
theorem q_72vw_16 {q0 : Nat} {n0 n1 n2 n3 n4 n5 n6 n7 n8 n9 n10 n11 n12 n13 n14 n15 n16 n17 n18 n19 n20 n21 n22 n23 n24 n25 n26 n27 : Int} {H0 H1 H2 H3 H4 H5 H6 H7 H8 H9 : gH} (f0 : n0 ≤ 2147483647) (f1 : (-2147483648) ≤ n0) (f2 : n1 ≤ 2147483647) (f3 : (-2147483648) ≤ n1) (f4 : n2 ≤ 2147483647) (f5 : (-2147483648) ≤ n2) (f6 : n3 = 30) (f7 : n4 = 30) (f8 : (hLe T0 H0 H1 ∧ hFr s_72v.2.2.2.2 H0 H1 ∧ hWt T0 H1) ∧ ((Ab_72v_6 n4 n3 n2 n1 n0 H0 H1 ∧ Bb_72_6 n4 n3 n2 n1 n0 H0 H1) ∧ preb_72v n4 H0) ∧ some q0 = some (mub_72v_6 n4 n3 n2 n1 n0 H0 H1)) (f9 : n5 = 16) (f10 : n0 ≤ n5) (f11 : n6 ≤ 2147483647) (f12 : (-2147483648) ≤ n6) (f13 : hK H1 (n3).toNat = 4) (f14 : n6 = hV H1 (n3).toNat 3) (f15 : n6 = 0) (f16 : n7 ≤ 2147483647) (f17 : (-2147483648) ≤ n7) (f18 : hK H1 (n3).toNat = 4) (f19 : n7 = hV H1 (n3).toNat 2) (f20 : n8 ≤ 1) (f21 : 0 ≤ n8) (f22 : (hLe T0 H1 H2 ∧ hFr s_73v.2.2.2.2 H1 H2 ∧ ((0 : Int) = 0 → H2.length = H1.length) ∧ hWt T0 H2) ∧ postb_73v n8 n7 H1 H2) (f23 : n8 ≠ 0) (f24 : n9 ≤ 2147483647) (f25 : (-2147483648) ≤ n9) (f26 : hK H2 (n3).toNat = 4) (f27 : n9 = hV H2 (n3).toNat 13) (f28 : (hLe T0 H2 H3 ∧ hFr s_74v.2.2.2.2 H2 H3 ∧ ((0 : Int) = 0 → H3.length = H2.length) ∧ hWt T0 H3) ∧ (postb_74v n10 n3 n9 n2 H2 H3 ∧ nb_74 n10 n3 n9 n2 H2 H3)) (f29 : 0 ≤ n10) (f30 : n11 ≤ 2147483647) (f31 : (-2147483648) ≤ n11) (f32 : hK H3 (n3).toNat = 4) (f33 : n11 = hV H3 (n3).toNat 2) (f34 : n12 = 20) (f35 : n13 = w32 (n11 - n12)) (f36 : n14 = 31) (f37 : hK H3 (n3).toNat = 4) (f38 : n14 = hV H3 (n3).toNat 0) (f39 : n15 ≤ 2147483647) (f40 : (-2147483648) ≤ n15) (f41 : hK H3 (n3).toNat = 4) (f42 : n15 = hV H3 (n3).toNat 1) (f43 : n16 ≤ 2147483647) (f44 : (-2147483648) ≤ n16) (f45 : (hLe T0 H3 H4 ∧ hFr s_124.2.2.2.2 H3 H4 ∧ ((0 : Int) = 0 → H4.length = H3.length) ∧ hWt T0 H4) ∧ postb_124x n16 n14 n15 H3 H4) (f46 : (hLe T0 H4 H5 ∧ hFr s_24v.2.2.2.2 H4 H5 ∧ ((0 : Int) = 0 → H5.length = H4.length) ∧ hWt T0 H5) ∧ (postb_24v n10 n13 n16 H4 H5 ∧ nb_24 n10 n13 n16 H4 H5)) (f47 : n17 ≤ 2147483647) (f48 : (-2147483648) ≤ n17) (f49 : hK H5 (n3).toNat = 4) (f50 : n17 = hV H5 (n3).toNat 2) (f51 : (hLe T0 H5 H6 ∧ hFr s_66v.2.2.2.2 H5 H6 ∧ ((0 : Int) = 0 → H6.length = H5.length) ∧ hWt T0 H6) ∧ postb_66v n3 n17 H5 H6) (f52 : n18 ≤ 2147483647) (f53 : (-2147483648) ≤ n18) (f54 : hK H6 (n10).toNat = 1) (f55 : n18 = hV H6 (n10).toNat 0) (f56 : n18 = 3) (f57 : (hLe T0 H6 H7 ∧ hFr s_78v.2.2.2.2 H6 H7 ∧ ((0 : Int) = 0 → H7.length = H6.length) ∧ hWt T0 H7) ∧ (postb_78v n3 n10 H6 H7 ∧ nb_78 n3 n10 H6 H7)) (f58 : n19 = 4) (f59 : (hLe T0 H7 H8 ∧ hFr s_66v.2.2.2.2 H7 H8 ∧ ((0 : Int) = 0 → H8.length = H7.length) ∧ hWt T0 H8) ∧ postb_66v n3 n19 H7 H8) (f60 : n20 = w32 (n2 + 1)) (f61 : n21 ≤ 2147483647) (f62 : (-2147483648) ≤ n21) (f63 : hK H8 (n10).toNat = 1) (f64 : n21 = hV H8 (n10).toNat 0) (f65 : n22 = 5) (f66 : n21 = n22) (f67 : n23 = 47) (f68 : hK H8 (n3).toNat = 4) (f69 : n23 = hV H8 (n3).toNat 11) (f70 : n24 ≤ 2147483647) (f71 : (-2147483648) ≤ n24) (f72 : hK H8 (n10).toNat = 1) (f73 : n24 = hV H8 (n10).toNat 2) (f74 : n25 ≤ 2147483647) (f75 : (-2147483648) ≤ n25) (f76 : (hLe T0 H8 H9 ∧ hFr s_199vk740.2.2.2.2 H8 H9 ∧ ((0 : Int) = 0 → H9.length = H8.length) ∧ hWt T0 H9) ∧ postb_199vk740 n25 n23 n24 H8 H9) (f77 : n26 = w32 (n1 + n25)) (f78 : n27 = w32 (n0 + 1)) : Bb_72_6 n4 n3 n20 n26 n27 H0 H9 := by
  unfold Bb_72_6
  intro ck
  have pz := f8.2.1.2
  unfold preb_72v at pz
  have ga := f8.2.1.1.1
  unfold Ab_72v_6 at ga
  have vz : vwC H1 = vwC H0 := vwC_fr f8.1.2.1 (by decide +kernel)
  obtain ⟨kz, bz, blz, b13, cz_, b48, x10, x116, x30, x317, x13, ya, yt⟩ := ga
  have gb := f8.2.1.1.2
  unfold Bb_72_6 at gb
  obtain ⟨gq, g46, g47, gl⟩ := gb ck
  have ck1 := CK_fr f8.1.1 f8.1.2.1 (by decide +kernel) ck
  have y2 := pz.2.1.2.1
  have y3 := pz.2.1.2.2.1
  have r3 := f14
  rw [f6] at r3
  rw [show ((30 : Int)).toNat = 30 from rfl] at r3
  have r2 := f19
  rw [f6] at r2
  rw [show ((30 : Int)).toNat = 30 from rfl] at r2
  have pc := f22.2
  unfold postb_73v at pc
  have cq := f28.2.1
  unfold postb_74v at cq
  have cq2 := cq.2
  have x16 : n2 < 16 := by
    rcases Int.lt_or_le n2 16 with w | w
    · omega
    · have := cq2 w
      omega
  have rb := f27
  rw [f6] at rb
  rw [show ((30 : Int)).toNat = 30 from rfl] at rb
  have t13 : hV H2 30 13 = hV H1 30 13 := f22.1.2.1.1 30 13 (by decide +kernel)
  have cw := f28.2.2
  unfold nb_74 at cw
  have cw := cw (CK_fr f22.1.1 f22.1.2.1 (by decide +kernel) ck1).1 (by omega) (by omega) (by omega)
  have ce : n10 = ((cuP (hV H0 30 13).toNat (n2).toNat : Nat) : Int) := by
    unfold cuP
    omega
  have cz : 0 ≤ n10 := by omega
  have hk1 : hK H1 (n10).toNat = 1 := by
    rw [ce, Int.toNat_natCast]
    exact C45_k ck1.1 cz_ (by omega) (by omega)
  have kc0 : hK H2 (n10).toNat = 1 := kLe f22.1.1 hk1 rfl
  have kc1 : hK H3 (n10).toNat = 1 := kLe f28.1.1 kc0 rfl
  have kc2 : hK H4 (n10).toNat = 1 := kLe f45.1.1 kc1 rfl
  have kc3 : hK H5 (n10).toNat = 1 := kLe f46.1.1 kc2 rfl
  have ow46 := f46.2.2
  unfold nb_24 at ow46
  have ow46 := ow46 kc2 cz
  have kc4 : hK H6 (n10).toNat = 1 := kLe f51.1.1 kc3 rfl
  have kc5 : hK H7 (n10).toNat = 1 := kLe f57.1.1 kc4 rfl
  have ow57 := f57.2.2
  unfold nb_78 at ow57
  have ow57 := ow57 kc4 cz
  try rw [f6] at ow57
  have kc6 : hK H8 (n10).toNat = 1 := kLe f59.1.1 kc5 rfl
  have kc7 : hK H9 (n10).toNat = 1 := kLe f76.1.1 kc6 rfl
  have s0 := PF_fr f22.1.1 f22.1.2.1 (by decide +kernel) kz
  have a0 : absC H2 = (absC H1) := s0.1
  have v0 : vwC H2 = vwC H0 := (vwC_fr f22.1.2.1 (by decide +kernel)).trans vz
  have u0 := CU_fr f22.1.1 f22.1.2.1 (by decide +kernel) cz_
  have d0 := BI_fr f22.1.1 f22.1.2.1 (by decide +kernel) bz
  have j0 : BLc H2 = BLc H0 := d0.2.trans blz
  have s1 := PF_fr f28.1.1 f28.1.2.1 (by decide +kernel) s0.2.2
  have a1 : absC H3 = (absC H1) := s1.1.trans a0
  have v1 : vwC H3 = vwC H0 := (vwC_fr f28.1.2.1 (by decide +kernel)).trans v0
  have u1 := CU_fr f28.1.1 f28.1.2.1 (by decide +kernel) u0
  have d1 := BI_fr f28.1.1 f28.1.2.1 (by decide +kernel) d0.1
  have j1 : BLc H3 = BLc H0 := d1.2.trans j0
  have s2 := PF_fr f45.1.1 f45.1.2.1 (by decide +kernel) s1.2.2
  have a2 : absC H4 = (absC H1) := s2.1.trans a1
  have v2 : vwC H4 = vwC H0 := (vwC_fr f45.1.2.1 (by decide +kernel)).trans v1
  have u2 := CU_fr f45.1.1 f45.1.2.1 (by decide +kernel) u1
  have d2 := BI_fr f45.1.1 f45.1.2.1 (by decide +kernel) d1.1
  have j2 : BLc H4 = BLc H0 := d2.2.trans j1
  have s3 := PF_fr f46.1.1 f46.1.2.1 (by decide +kernel) s2.2.2
  have a3 : absC H5 = (absC H1) := s3.1.trans a2
  have v3 : vwC H5 = vwC H0 := (vwC_fr f46.1.2.1 (by decide +kernel)).trans v2
  have u3 := CU_fr f46.1.1 f46.1.2.1 (by decide +kernel) u2
  have d3 := BI_fr f46.1.1 f46.1.2.1 (by decide +kernel) d2.1
  have j3 : BLc H5 = BLc H0 := d3.2.trans j2
  have c4 := f51.2
  unfold postb_66v at c4
  rw [v3] at c4
  rw [a3] at c4
  have a4 : absC H6 = (ptk (vwC H0) n17 (absC H1)) := c4.2
  have v4 : vwC H6 = vwC H0 := (vwC_fr f51.1.2.1 (by decide +kernel)).trans v3
  have u4 := CU_fr f51.1.1 f51.1.2.1 (by decide +kernel) u3
  have d4 := BI_fr f51.1.1 f51.1.2.1 (by decide +kernel) d3.1
  have j4 : BLc H6 = BLc H0 := d4.2.trans j3
  have c5 := f57.2.1
  unfold postb_78v at c5
  rw [v4] at c5
  rw [a4] at c5
  have a5 : absC H7 = (pTaps (vwC H0) (ptk (vwC H0) n17 (absC H1))) := c5.2
  have v5 : vwC H7 = vwC H0 := (vwC_fr f57.1.2.1 (by decide +kernel)).trans v4
  have u5 := CU_fr f57.1.1 f57.1.2.1 (by decide +kernel) u4
  have d5 := BI_fr f57.1.1 f57.1.2.1 (by decide +kernel) d4.1
  have j5 : BLc H7 = BLc H0 := d5.2.trans j4
  have c6 := f59.2
  unfold postb_66v at c6
  try rw [f58] at c6
  rw [v5] at c6
  rw [a5] at c6
  have a6 : absC H8 = (ptk (vwC H0) 4 (pTaps (vwC H0) (ptk (vwC H0) n17 (absC H1)))) := c6.2
  have v6 : vwC H8 = vwC H0 := (vwC_fr f59.1.2.1 (by decide +kernel)).trans v5
  have u6 := CU_fr f59.1.1 f59.1.2.1 (by decide +kernel) u5
  have d6 := BI_fr f59.1.1 f59.1.2.1 (by decide +kernel) d5.1
  have j6 : BLc H8 = BLc H0 := d6.2.trans j5
  have s7 := PF_fr f76.1.1 f76.1.2.1 (by decide +kernel) c6.1
  have a7 : absC H9 = (ptk (vwC H0) 4 (pTaps (vwC H0) (ptk (vwC H0) n17 (absC H1)))) := s7.1.trans a6
  have v7 : vwC H9 = vwC H0 := (vwC_fr f76.1.2.1 (by decide +kernel)).trans v6
  have u7 := CU_fr f76.1.1 f76.1.2.1 (by decide +kernel) u6
  have d7 := BI_fr f76.1.1 f76.1.2.1 (by decide +kernel) d6.1
  have j7 : BLc H9 = BLc H0 := d7.2.trans j6
  have kq0 : n18 = n13 := f55.trans ((fr1 f51.1.2.1 (by decide +kernel) kc3 0).trans (ow46.2.1))
  have kq1 : n21 = n13 := f64.trans ((fr1 f59.1.2.1 (by decide +kernel) kc5 0).trans ((ow57.2.1 0 (by decide) (by decide)).trans ((fr1 f51.1.2.1 (by decide +kernel) kc3 0).trans (ow46.2.1))))
  have rz0 := f33
  rw [f6] at rz0
  rw [show ((30 : Int)).toNat = 30 from rfl] at rz0
  have tz0 : hV H3 30 2 = hV H1 30 2 := (f28.1.2.1.1 30 2 (by decide +kernel)).trans (f22.1.2.1.1 30 2 (by decide +kernel))
  have rz1 := f50
  rw [f6] at rz1
  rw [show ((30 : Int)).toNat = 30 from rfl] at rz1
  have tz1 : hV H5 30 2 = hV H1 30 2 := (f46.1.2.1.1 30 2 (by decide +kernel)).trans ((f45.1.2.1.1 30 2 (by decide +kernel)).trans ((f28.1.2.1.1 30 2 (by decide +kernel)).trans (f22.1.2.1.1 30 2 (by decide +kernel))))
  have wq35 := f35
  unfold w32 at wq35
  have wq60 := f60
  unfold w32 at wq60
  have wq77 := f77
  unfold w32 at wq77
  have wq78 := f78
  unfold w32 at wq78
  exfalso
  omega
def g_72vw_6_15 : vG := ([(10, [27, 4], [], 1), (1, [26, 3, 25], [], 0), (1199, [25, 23, 24], [8, 9], 0), (90, [25], [], -2147483648), (91, [25], [], 2147483647), (20, [24, 10], [8], 2), (23, [10], [8], 1), (90, [24], [], -2147483648), (91, [24], [], 2147483647), (20, [23, 1], [8], 11), (23, [1], [8], 4), (0, [23], [], 47), (40, [21, 22], [], 0), (0, [22], [], 5), (20, [21, 10], [8], 0), (23, [10], [8], 1), (90, [21], [], -2147483648), (91, [21], [], 2147483647), (10, [20, 2], [], 1), (1066, [1, 19], [7, 8], 0), (0, [19], [], 4), (1078, [1, 10], [6, 7], 0), (0, [18], [], 3), (20, [18, 10], [6], 0), (23, [10], [6], 1), (90, [18], [], -2147483648), (91, [18], [], 2147483647), (1066, [1, 17], [5, 6], 0), (20, [17, 1], [5], 2), (23, [1], [5], 4), (90, [17], [], -2147483648), (91, [17], [], 2147483647), (1024, [10, 13, 16], [4, 5], 0), (1124, [16, 14, 15], [3, 4], 0), (90, [16], [], -2147483648), (91, [16], [], 2147483647), (20, [15, 1], [3], 1), (23, [1], [3], 4), (90, [15], [], -2147483648), (91, [15], [], 2147483647), (20, [14, 1], [3], 0), (23, [1], [3], 4), (0, [14], [], 31), (2, [13, 11, 12], [], 0), (0, [12], [], 20), (20, [11, 1], [3], 2), (23, [1], [3], 4), (90, [11], [], -2147483648), (91, [11], [], 2147483647), (51, [10], [], 0), (1074, [10, 1, 9, 2], [2, 3], 0), (20, [9, 1], [2], 13), (23, [1], [2], 4), (90, [9], [], -2147483648), (91, [9], [], 2147483647), (31, [8], [], 0), (1073, [8, 7], [1, 2], 0), (90, [8], [], 0), (91, [8], [], 1), (20, [7, 1], [1], 2), (23, [1], [1], 4), (90, [7], [], -2147483648), (91, [7], [], 2147483647), (30, [6], [], 0), (20, [6, 1], [1], 3), (23, [1], [1], 4), (90, [6], [], -2147483648), (91, [6], [], 2147483647), (45, [4, 5], [], 0), (0, [5], [], 16), (5000, [0, 1, 2, 3, 4], [0, 1], 6), (0, [0], [], 30), (0, [1], [], 30), (90, [2], [], -2147483648), (91, [2], [], 2147483647), (90, [3], [], -2147483648), (91, [3], [], 2147483647), (90, [4], [], -2147483648), (91, [4], [], 2147483647)], (4000, [1, 20, 26, 27], [9], 6))
theorem c_72vw_6_15 {q0 : Nat} : vOkm T0 (eN e_72v L_72vw A_72v mu_72v n_72 B_72 (some q0)) 1 g_72vw_6_15 := vOk_inI fun ρ η f0 f1 f2 f3 f4 f5 f6 f7 f8 f9 f10 f11 f12 f13 f14 f15 f16 f17 f18 f19 f20 f21 f22 f23 f24 f25 f26 f27 f28 f29 f30 f31 f32 f33 f34 f35 f36 f37 f38 f39 f40 f41 f42 f43 f44 f45 f46 f47 f48 f49 f50 f51 f52 f53 f54 f55 f56 f57 f58 f59 f60 f61 f62 f63 f64 f65 f66 f67 f68 f69 f70 f71 f72 f73 f74 f75 f76 f77 f78 => q_72vw_16 (q0 := q0) (n0 := ρ 4) (n1 := ρ 3) (n2 := ρ 2) (n3 := ρ 1) (n4 := ρ 0) (n5 := ρ 5) (n6 := ρ 6) (n7 := ρ 7) (n8 := ρ 8) (n9 := ρ 9) (n10 := ρ 10) (n11 := ρ 11) (n12 := ρ 12) (n13 := ρ 13) (n14 := ρ 14) (n15 := ρ 15) (n16 := ρ 16) (n17 := ρ 17) (n18 := ρ 18) (n19 := ρ 19) (n20 := ρ 20) (n21 := ρ 21) (n22 := ρ 22) (n23 := ρ 23) (n24 := ρ 24) (n25 := ρ 25) (n26 := ρ 26) (n27 := ρ 27) (H0 := η 0) (H1 := η 1) (H2 := η 2) (H3 := η 3) (H4 := η 4) (H5 := η 5) (H6 := η 6) (H7 := η 7) (H8 := η 8) (H9 := η 9) f78 f77 f76 f75 f74 f73 f72 f71 f70 f69 f68 f67 f66 f65 f64 f63 f62 f61 f60 f59 f58 f57 f56 f55 f54 f53 f52 f51 f50 f49 f48 f47 f46 f45 f44 f43 f42 f41 f40 f39 f38 f37 f36 f35 f34 f33 f32 f31 f30 f29 f28 f27 f26 f25 f24 f23 f22 f21 f20 f19 f18 f17 f16 f15 f14 f13 f12 f11 f10 f9 f8 f7 f6 f5 f4 f3 f2 f1 f0
theorem q_72vw_17 {q0 : Nat} {n0 n1 n2 n3 n4 n5 n6 n7 n8 n9 n10 n11 n12 n13 n14 n15 n16 n17 n18 n19 n20 n21 n22 n23 n24 n25 n26 n27 n28 n29 : Int} {H0 H1 H2 H3 H4 H5 H6 H7 H8 H9 : gH} (f0 : n0 ≤ 2147483647) (f1 : (-2147483648) ≤ n0) (f2 : n1 ≤ 2147483647) (f3 : (-2147483648) ≤ n1) (f4 : n2 ≤ 2147483647) (f5 : (-2147483648) ≤ n2) (f6 : n3 = 30) (f7 : n4 = 30) (f8 : (hLe T0 H0 H1 ∧ hFr s_72v.2.2.2.2 H0 H1 ∧ hWt T0 H1) ∧ ((Ab_72v_6 n4 n3 n2 n1 n0 H0 H1 ∧ Bb_72_6 n4 n3 n2 n1 n0 H0 H1) ∧ preb_72v n4 H0) ∧ some q0 = some (mub_72v_6 n4 n3 n2 n1 n0 H0 H1)) (f9 : n5 = 16) (f10 : n0 ≤ n5) (f11 : n6 ≤ 2147483647) (f12 : (-2147483648) ≤ n6) (f13 : hK H1 (n3).toNat = 4) (f14 : n6 = hV H1 (n3).toNat 3) (f15 : n6 = 0) (f16 : n7 ≤ 2147483647) (f17 : (-2147483648) ≤ n7) (f18 : hK H1 (n3).toNat = 4) (f19 : n7 = hV H1 (n3).toNat 2) (f20 : n8 ≤ 1) (f21 : 0 ≤ n8) (f22 : (hLe T0 H1 H2 ∧ hFr s_73v.2.2.2.2 H1 H2 ∧ ((0 : Int) = 0 → H2.length = H1.length) ∧ hWt T0 H2) ∧ postb_73v n8 n7 H1 H2) (f23 : n8 ≠ 0) (f24 : n9 ≤ 2147483647) (f25 : (-2147483648) ≤ n9) (f26 : hK H2 (n3).toNat = 4) (f27 : n9 = hV H2 (n3).toNat 13) (f28 : (hLe T0 H2 H3 ∧ hFr s_74v.2.2.2.2 H2 H3 ∧ ((0 : Int) = 0 → H3.length = H2.length) ∧ hWt T0 H3) ∧ (postb_74v n10 n3 n9 n2 H2 H3 ∧ nb_74 n10 n3 n9 n2 H2 H3)) (f29 : 0 ≤ n10) (f30 : n11 ≤ 2147483647) (f31 : (-2147483648) ≤ n11) (f32 : hK H3 (n3).toNat = 4) (f33 : n11 = hV H3 (n3).toNat 2) (f34 : n12 = 20) (f35 : n13 = w32 (n11 - n12)) (f36 : n14 = 31) (f37 : hK H3 (n3).toNat = 4) (f38 : n14 = hV H3 (n3).toNat 0) (f39 : n15 ≤ 2147483647) (f40 : (-2147483648) ≤ n15) (f41 : hK H3 (n3).toNat = 4) (f42 : n15 = hV H3 (n3).toNat 1) (f43 : n16 ≤ 2147483647) (f44 : (-2147483648) ≤ n16) (f45 : (hLe T0 H3 H4 ∧ hFr s_124.2.2.2.2 H3 H4 ∧ ((0 : Int) = 0 → H4.length = H3.length) ∧ hWt T0 H4) ∧ postb_124x n16 n14 n15 H3 H4) (f46 : (hLe T0 H4 H5 ∧ hFr s_24v.2.2.2.2 H4 H5 ∧ ((0 : Int) = 0 → H5.length = H4.length) ∧ hWt T0 H5) ∧ (postb_24v n10 n13 n16 H4 H5 ∧ nb_24 n10 n13 n16 H4 H5)) (f47 : n17 ≤ 2147483647) (f48 : (-2147483648) ≤ n17) (f49 : hK H5 (n3).toNat = 4) (f50 : n17 = hV H5 (n3).toNat 2) (f51 : (hLe T0 H5 H6 ∧ hFr s_66v.2.2.2.2 H5 H6 ∧ ((0 : Int) = 0 → H6.length = H5.length) ∧ hWt T0 H6) ∧ postb_66v n3 n17 H5 H6) (f52 : n18 ≤ 2147483647) (f53 : (-2147483648) ≤ n18) (f54 : hK H6 (n10).toNat = 1) (f55 : n18 = hV H6 (n10).toNat 0) (f56 : n18 = 4) (f57 : n19 = 0) (f58 : n20 = 9999) (f59 : n21 ≤ 2147483647) (f60 : (-2147483648) ≤ n21) (f61 : (hLe T0 H6 H7 ∧ hFr s_67v.2.2.2.2 H6 H7 ∧ ((0 : Int) = 0 → H7.length = H6.length) ∧ hWt T0 H7) ∧ (postb_67v n21 n3 n19 n20 H6 H7 ∧ nb_67 n21 n3 n19 n20 H6 H7)) (f62 : hK H7 (n10).toNat = 1) (f63 : n22 = 2) (f64 : hUpd H8 H7 n10 n22 n21) (f65 : n23 = 4) (f66 : (hLe T0 H8 H9 ∧ hFr s_66v.2.2.2.2 H8 H9 ∧ ((0 : Int) = 0 → H9.length = H8.length) ∧ hWt T0 H9) ∧ postb_66v n3 n23 H8 H9) (f67 : n24 = w32 (n2 + 1)) (f68 : n25 ≤ 2147483647) (f69 : (-2147483648) ≤ n25) (f70 : hK H9 (n10).toNat = 1) (f71 : n25 = hV H9 (n10).toNat 0) (f72 : n26 = 5) (f73 : n25 ≠ n26) (f74 : n27 = 1) (f75 : n28 = w32 (n1 + n27)) (f76 : n29 = w32 (n0 + 1)) : Bb_72_6 n4 n3 n24 n28 n29 H0 H9 := by
  unfold Bb_72_6
  intro ck
  have pz := f8.2.1.2
  unfold preb_72v at pz
  have ga := f8.2.1.1.1
  unfold Ab_72v_6 at ga
  have vz : vwC H1 = vwC H0 := vwC_fr f8.1.2.1 (by decide +kernel)
  obtain ⟨kz, bz, blz, b13, cz_, b48, x10, x116, x30, x317, x13, ya, yt⟩ := ga
  have gb := f8.2.1.1.2
  unfold Bb_72_6 at gb
  obtain ⟨gq, g46, g47, gl⟩ := gb ck
  have ck1 := CK_fr f8.1.1 f8.1.2.1 (by decide +kernel) ck
  have y2 := pz.2.1.2.1
  have y3 := pz.2.1.2.2.1
  have r3 := f14
  rw [f6] at r3
  rw [show ((30 : Int)).toNat = 30 from rfl] at r3
  have r2 := f19
  rw [f6] at r2
  rw [show ((30 : Int)).toNat = 30 from rfl] at r2
  have pc := f22.2
  unfold postb_73v at pc
  have cq := f28.2.1
  unfold postb_74v at cq
  have cq2 := cq.2
  have x16 : n2 < 16 := by
    rcases Int.lt_or_le n2 16 with w | w
    · omega
    · have := cq2 w
      omega
  have rb := f27
  rw [f6] at rb
  rw [show ((30 : Int)).toNat = 30 from rfl] at rb
  have t13 : hV H2 30 13 = hV H1 30 13 := f22.1.2.1.1 30 13 (by decide +kernel)
  have cw := f28.2.2
  unfold nb_74 at cw
  have cw := cw (CK_fr f22.1.1 f22.1.2.1 (by decide +kernel) ck1).1 (by omega) (by omega) (by omega)
  have ce : n10 = ((cuP (hV H0 30 13).toNat (n2).toNat : Nat) : Int) := by
    unfold cuP
    omega
  have cz : 0 ≤ n10 := by omega
  have hk1 : hK H1 (n10).toNat = 1 := by
    rw [ce, Int.toNat_natCast]
    exact C45_k ck1.1 cz_ (by omega) (by omega)
  have kc0 : hK H2 (n10).toNat = 1 := kLe f22.1.1 hk1 rfl
  have kc1 : hK H3 (n10).toNat = 1 := kLe f28.1.1 kc0 rfl
  have kc2 : hK H4 (n10).toNat = 1 := kLe f45.1.1 kc1 rfl
  have kc3 : hK H5 (n10).toNat = 1 := kLe f46.1.1 kc2 rfl
  have ow46 := f46.2.2
  unfold nb_24 at ow46
  have ow46 := ow46 kc2 cz
  have kc4 : hK H6 (n10).toNat = 1 := kLe f51.1.1 kc3 rfl
  have kc5 : hK H7 (n10).toNat = 1 := kLe f61.1.1 kc4 rfl
  have kc6 : hK H8 (n10).toNat = 1 := kUp f64 kc5
  have kc7 : hK H9 (n10).toNat = 1 := kLe f66.1.1 kc6 rfl
  have s0 := PF_fr f22.1.1 f22.1.2.1 (by decide +kernel) kz
  have a0 : absC H2 = (absC H1) := s0.1
  have v0 : vwC H2 = vwC H0 := (vwC_fr f22.1.2.1 (by decide +kernel)).trans vz
  have u0 := CU_fr f22.1.1 f22.1.2.1 (by decide +kernel) cz_
  have d0 := BI_fr f22.1.1 f22.1.2.1 (by decide +kernel) bz
  have j0 : BLc H2 = BLc H0 := d0.2.trans blz
  have s1 := PF_fr f28.1.1 f28.1.2.1 (by decide +kernel) s0.2.2
  have a1 : absC H3 = (absC H1) := s1.1.trans a0
  have v1 : vwC H3 = vwC H0 := (vwC_fr f28.1.2.1 (by decide +kernel)).trans v0
  have u1 := CU_fr f28.1.1 f28.1.2.1 (by decide +kernel) u0
  have d1 := BI_fr f28.1.1 f28.1.2.1 (by decide +kernel) d0.1
  have j1 : BLc H3 = BLc H0 := d1.2.trans j0
  have s2 := PF_fr f45.1.1 f45.1.2.1 (by decide +kernel) s1.2.2
  have a2 : absC H4 = (absC H1) := s2.1.trans a1
  have v2 : vwC H4 = vwC H0 := (vwC_fr f45.1.2.1 (by decide +kernel)).trans v1
  have u2 := CU_fr f45.1.1 f45.1.2.1 (by decide +kernel) u1
  have d2 := BI_fr f45.1.1 f45.1.2.1 (by decide +kernel) d1.1
  have j2 : BLc H4 = BLc H0 := d2.2.trans j1
  have s3 := PF_fr f46.1.1 f46.1.2.1 (by decide +kernel) s2.2.2
  have a3 : absC H5 = (absC H1) := s3.1.trans a2
  have v3 : vwC H5 = vwC H0 := (vwC_fr f46.1.2.1 (by decide +kernel)).trans v2
  have u3 := CU_fr f46.1.1 f46.1.2.1 (by decide +kernel) u2
  have d3 := BI_fr f46.1.1 f46.1.2.1 (by decide +kernel) d2.1
  have j3 : BLc H5 = BLc H0 := d3.2.trans j2
  have c4 := f51.2
  unfold postb_66v at c4
  rw [v3] at c4
  rw [a3] at c4
  have a4 : absC H6 = (ptk (vwC H0) n17 (absC H1)) := c4.2
  have v4 : vwC H6 = vwC H0 := (vwC_fr f51.1.2.1 (by decide +kernel)).trans v3
  have u4 := CU_fr f51.1.1 f51.1.2.1 (by decide +kernel) u3
  have d4 := BI_fr f51.1.1 f51.1.2.1 (by decide +kernel) d3.1
  have j4 : BLc H6 = BLc H0 := d4.2.trans j3
  have c5 := f61.2.1
  unfold postb_67v at c5
  try rw [f57] at c5
  try rw [f58] at c5
  rw [v4] at c5
  rw [a4] at c5
  have a5 : absC H7 = (pnm (vwC H0) 0 9999 (ptk (vwC H0) n17 (absC H1))) := c5.2
  have v5 : vwC H7 = vwC H0 := (vwC_fr f61.1.2.1 (by decide +kernel)).trans v4
  have u5 := CU_fr f61.1.1 f61.1.2.1 (by decide +kernel) u4
  have d5 := BI_fr f61.1.1 f61.1.2.1 (by decide +kernel) d4.1
  have j5 : BLc H7 = BLc H0 := d5.2.trans j4
  have uq6 := upCue f64 c5.1 d5.1 kc5
  have s6 := PF_up f64 c5.1 kc5
  have d6 := BI_up f64 c5.1 d5.1 kc5
  have a6 : absC H8 = (pnm (vwC H0) 0 9999 (ptk (vwC H0) n17 (absC H1))) := s6.1.trans a5
  have v6 : vwC H8 = vwC H0 := s6.2.1.trans v5
  have j6 : BLc H8 = BLc H0 := d6.2.trans j5
  have u6 := CU_up f64 u5 (by rw [kc5]; decide)
  have c7 := f66.2
  unfold postb_66v at c7
  try rw [f65] at c7
  rw [v6] at c7
  rw [a6] at c7
  have a7 : absC H9 = (ptk (vwC H0) 4 (pnm (vwC H0) 0 9999 (ptk (vwC H0) n17 (absC H1)))) := c7.2
  have v7 : vwC H9 = vwC H0 := (vwC_fr f66.1.2.1 (by decide +kernel)).trans v6
  have u7 := CU_fr f66.1.1 f66.1.2.1 (by decide +kernel) u6
  have d7 := BI_fr f66.1.1 f66.1.2.1 (by decide +kernel) d6.1
  have j7 : BLc H9 = BLc H0 := d7.2.trans j6
  have kq0 : n18 = n13 := f55.trans ((fr1 f51.1.2.1 (by decide +kernel) kc3 0).trans (ow46.2.1))
  have kq1 : n25 = n13 := f71.trans ((fr1 f66.1.2.1 (by decide +kernel) kc6 0).trans ((uSlot f64 _ 0 (by rw [f63]; decide)).trans ((fr1 f61.1.2.1 (by decide +kernel) kc4 0).trans ((fr1 f51.1.2.1 (by decide +kernel) kc3 0).trans (ow46.2.1)))))
  have rz0 := f33
  rw [f6] at rz0
  rw [show ((30 : Int)).toNat = 30 from rfl] at rz0
  have tz0 : hV H3 30 2 = hV H1 30 2 := (f28.1.2.1.1 30 2 (by decide +kernel)).trans (f22.1.2.1.1 30 2 (by decide +kernel))
  have rz1 := f50
  rw [f6] at rz1
  rw [show ((30 : Int)).toNat = 30 from rfl] at rz1
  have tz1 : hV H5 30 2 = hV H1 30 2 := (f46.1.2.1.1 30 2 (by decide +kernel)).trans ((f45.1.2.1.1 30 2 (by decide +kernel)).trans ((f28.1.2.1.1 30 2 (by decide +kernel)).trans (f22.1.2.1.1 30 2 (by decide +kernel))))
  have wq35 := f35
  unfold w32 at wq35
  have wq67 := f67
  unfold w32 at wq67
  have wq75 := f75
  unfold w32 at wq75
  have wq76 := f76
  unfold w32 at wq76
  have k2 : hV H1 30 2 = 24 := by omega
  have kt : n17 = 24 := by omega
  refine ⟨CUq_tr gq (CUq_of (c := n10) (CUo_tr (CUo_fr f22.1.1 f22.1.2.1 (by decide +kernel)) (CUo_tr (CUo_fr f28.1.1 f28.1.2.1 (by decide +kernel)) (CUo_tr (CUo_fr f45.1.1 f45.1.2.1 (by decide +kernel)) (CUo_tr ow46.1 (CUo_tr (CUo_fr f51.1.1 f51.1.2.1 (by decide +kernel)) (CUo_tr (CUo_fr f61.1.1 f61.1.2.1 (by decide +kernel)) (CUo_tr (CUo_up f64) (CUo_fr f66.1.1 f66.1.2.1 (by decide +kernel))))))))) (k := (n2).toNat) (by omega) ce), ((fRow f66.1.2.1 46 (by decide +kernel)).trans ((uRowNe f64 46 (by omega)).trans ((fRow f61.1.2.1 46 (by decide +kernel)).trans ((fRow f51.1.2.1 46 (by decide +kernel)).trans ((fRow f46.1.2.1 46 (by decide +kernel)).trans ((fRow f45.1.2.1 46 (by decide +kernel)).trans ((fRow f28.1.2.1 46 (by decide +kernel)).trans (fRow f22.1.2.1 46 (by decide +kernel))))))))).trans g46, ((fRow f66.1.2.1 47 (by decide +kernel)).trans ((uRowNe f64 47 (by omega)).trans ((fRow f61.1.2.1 47 (by decide +kernel)).trans ((fRow f51.1.2.1 47 (by decide +kernel)).trans ((fRow f46.1.2.1 47 (by decide +kernel)).trans ((fRow f45.1.2.1 47 (by decide +kernel)).trans ((fRow f28.1.2.1 47 (by decide +kernel)).trans (fRow f22.1.2.1 47 (by decide +kernel))))))))).trans g47, fun hf => ?_⟩
  have hzH8 := fzE s6.2.2 c7.1 a6 a7 (fun n k => ptk_neg n k) hf
  have hzH7 := fzE c5.1 s6.2.2 a5 a6 (fun _ _ => rfl) hzH8.1
  have hzH6 := fzE c4.1 c5.1 a4 a5 (fun n k => pnm_neg n k) hzH7.1
  have hzH5 := fzE s3.2.2 c4.1 a3 a4 (fun n k => ptk_neg n k) hzH6.1
  have hzH4 := fzE s2.2.2 s3.2.2 a2 a3 (fun _ _ => rfl) hzH5.1
  have hzH3 := fzE s1.2.2 s2.2.2 a1 a2 (fun _ _ => rfl) hzH4.1
  have hzH2 := fzE s0.2.2 s1.2.2 a0 a1 (fun _ _ => rfl) hzH3.1
  have hzH1 := fzE kz s0.2.2 rfl a0 (fun _ _ => rfl) hzH2.1
  have hk : (vwC H0).1 (absC H1).1 = hV H1 30 2 := by
    have u := (kd_at kz).resolve_left (by have := absC_pos kz hzH1.1; omega)
    rw [vz] at u
    exact u
  have hb : absC H9 = ptk (vwC H0) 4 (pBody (vwC H0) (BLc H0) 24 (ptk (vwC H0) 24 (absC H1))) := by
    rw [pBody_24, ← kt]
    exact a7
  have tv61 : n21 = tvl (vwC H0) (ptk (vwC H0) 24 (absC H1)) := by
    have w := f61.2.2
    unfold nb_67 at w
    have w := w hzH7.1
    rw [v4, a4, kt] at w
    exact w
  have rp := f42
  rw [f6] at rp
  rw [show ((30 : Int)).toNat = 30 from rfl] at rp
  have p1 : hV H3 30 1 = hV H1 30 1 := (f28.1.2.1.1 30 1 (by decide +kernel)).trans (f22.1.2.1.1 30 1 (by decide +kernel))
  have pl := f45.2
  unfold postb_124x at pl
  have pl := pl s1.2.2.1
  have it := kz.2.2.2.1
  have lp : n16 = (vwC H0).2.2.2 (absC H1).1 := by
    rw [(absC_pos kz hzH1.1).1, ← vz, vwC_place it, lC_at it kz.2.1, pl, if_pos (by have := it.1; have := it.2.1; omega), show hV H3 34 = hV H1 34 from (fRow f28.1.2.1 34 (by decide +kernel)).trans (fRow f22.1.2.1 34 (by decide +kernel))]
    exact congrArg _ (by omega)
  have cu_ : (n10).toNat = cuP (hV H0 30 13).toNat (n2).toNat := by rw [ce, Int.toNat_natCast]
  have w0 : hV H9 (n10).toNat 0 = 4 := ((fr1 f66.1.2.1 (by decide +kernel) kc6 0).trans ((uSlot f64 _ 0 (by rw [f63]; decide)).trans ((fr1 f61.1.2.1 (by decide +kernel) kc4 0).trans ((fr1 f51.1.2.1 (by decide +kernel) kc3 0).trans (ow46.2.1))))).trans (by omega)
  have w1 : hV H9 (n10).toNat 1 = n16 := (fr1 f66.1.2.1 (by decide +kernel) kc6 1).trans ((uSlot f64 _ 1 (by rw [f63]; decide)).trans ((fr1 f61.1.2.1 (by decide +kernel) kc4 1).trans ((fr1 f51.1.2.1 (by decide +kernel) kc3 1).trans (ow46.2.2.1))))
  have w2 := ((fr1 f66.1.2.1 (by decide +kernel) kc6 2).trans (uSame f64 _ 2 (Int.toNat_of_nonneg cz) (by rw [f63]; rfl))).trans tv61
  have w4 : hV H9 (n10).toNat 4 = (-1) := (fr1 f66.1.2.1 (by decide +kernel) kc6 4).trans ((uSlot f64 _ 4 (by rw [f63]; decide)).trans ((fr1 f61.1.2.1 (by decide +kernel) kc4 4).trans ((fr1 f51.1.2.1 (by decide +kernel) kc3 4).trans (ow46.2.2.2.2.1))))
  have w5 : hV H9 (n10).toNat 5 = (0) := (fr1 f66.1.2.1 (by decide +kernel) kc6 5).trans ((uSlot f64 _ 5 (by rw [f63]; decide)).trans ((fr1 f61.1.2.1 (by decide +kernel) kc4 5).trans ((fr1 f51.1.2.1 (by decide +kernel) kc3 5).trans (ow46.2.2.2.2.2.1))))
  have w6 : hV H9 (n10).toNat 6 = (-1) := (fr1 f66.1.2.1 (by decide +kernel) kc6 6).trans ((uSlot f64 _ 6 (by rw [f63]; decide)).trans ((fr1 f61.1.2.1 (by decide +kernel) kc4 6).trans ((fr1 f51.1.2.1 (by decide +kernel) kc3 6).trans (ow46.2.2.2.2.2.2.1))))
  have w7 : hV H9 (n10).toNat 7 = (0) := (fr1 f66.1.2.1 (by decide +kernel) kc6 7).trans ((uSlot f64 _ 7 (by rw [f63]; decide)).trans ((fr1 f61.1.2.1 (by decide +kernel) kc4 7).trans ((fr1 f51.1.2.1 (by decide +kernel) kc3 7).trans (ow46.2.2.2.2.2.2.2.1))))
  have re : recC H9 (cuP (hV H0 30 13).toNat (n2).toNat) = cuT (vwC H0) (BLc H0) (absC H1) := by
    rw [← cu_, recC_num w0 (.inl rfl), w1, w2, w4, w5, w6, w7, cuT_x (hk.trans k2) (by decide) (by decide), lp]
    rfl
  have le_ : lsC H9 (hV H0 30 13).toNat (n2).toNat = lsC H1 (hV H0 30 13).toNat (n2).toNat := lsC_eq (fun k hk_ s => (((CUo_tr (CUo_fr f22.1.1 f22.1.2.1 (by decide +kernel)) (CUo_tr (CUo_fr f28.1.1 f28.1.2.1 (by decide +kernel)) (CUo_tr (CUo_fr f45.1.1 f45.1.2.1 (by decide +kernel)) (CUo_tr ow46.1 (CUo_tr (CUo_fr f51.1.1 f51.1.2.1 (by decide +kernel)) (CUo_tr (CUo_fr f61.1.1 f61.1.2.1 (by decide +kernel)) (CUo_tr (CUo_up f64) (CUo_fr f66.1.1 f66.1.2.1 (by decide +kernel))))))))) : CUo H1 H9 n10) _ (C45_k ck1.1 cz_ (by omega) (by omega))).2 (by rw [ce]; unfold cuP; omega) s)
  have st := pDr_step (v := vwC H0) (bl := BLc H0) (f := 16 - ((n2).toNat + 1)) (p := absC H1) (by rw [hk, k2]; decide)
  rw [pCue_k (hk.trans k2), ← hb, show 16 - ((n2).toNat + 1) + 1 = 16 - (n2).toNat by omega] at st
  have gl := gl hzH1.1
  rw [show (n24).toNat = (n2).toNat + 1 by omega, lsC_snoc, re, le_, ← st]
  exact gl
def g_72vw_6_16 : vG := ([(10, [29, 4], [], 1), (1, [28, 3, 27], [], 0), (0, [27], [], 1), (41, [25, 26], [], 0), (0, [26], [], 5), (20, [25, 10], [9], 0), (23, [10], [9], 1), (90, [25], [], -2147483648), (91, [25], [], 2147483647), (10, [24, 2], [], 1), (1066, [1, 23], [8, 9], 0), (0, [23], [], 4), (80, [10, 22, 21], [8, 7], 0), (0, [22], [], 2), (23, [10], [7], 1), (1067, [21, 1, 19, 20], [6, 7], 0), (90, [21], [], -2147483648), (91, [21], [], 2147483647), (0, [20], [], 9999), (0, [19], [], 0), (0, [18], [], 4), (20, [18, 10], [6], 0), (23, [10], [6], 1), (90, [18], [], -2147483648), (91, [18], [], 2147483647), (1066, [1, 17], [5, 6], 0), (20, [17, 1], [5], 2), (23, [1], [5], 4), (90, [17], [], -2147483648), (91, [17], [], 2147483647), (1024, [10, 13, 16], [4, 5], 0), (1124, [16, 14, 15], [3, 4], 0), (90, [16], [], -2147483648), (91, [16], [], 2147483647), (20, [15, 1], [3], 1), (23, [1], [3], 4), (90, [15], [], -2147483648), (91, [15], [], 2147483647), (20, [14, 1], [3], 0), (23, [1], [3], 4), (0, [14], [], 31), (2, [13, 11, 12], [], 0), (0, [12], [], 20), (20, [11, 1], [3], 2), (23, [1], [3], 4), (90, [11], [], -2147483648), (91, [11], [], 2147483647), (51, [10], [], 0), (1074, [10, 1, 9, 2], [2, 3], 0), (20, [9, 1], [2], 13), (23, [1], [2], 4), (90, [9], [], -2147483648), (91, [9], [], 2147483647), (31, [8], [], 0), (1073, [8, 7], [1, 2], 0), (90, [8], [], 0), (91, [8], [], 1), (20, [7, 1], [1], 2), (23, [1], [1], 4), (90, [7], [], -2147483648), (91, [7], [], 2147483647), (30, [6], [], 0), (20, [6, 1], [1], 3), (23, [1], [1], 4), (90, [6], [], -2147483648), (91, [6], [], 2147483647), (45, [4, 5], [], 0), (0, [5], [], 16), (5000, [0, 1, 2, 3, 4], [0, 1], 6), (0, [0], [], 30), (0, [1], [], 30), (90, [2], [], -2147483648), (91, [2], [], 2147483647), (90, [3], [], -2147483648), (91, [3], [], 2147483647), (90, [4], [], -2147483648), (91, [4], [], 2147483647)], (4000, [1, 24, 28, 29], [9], 6))
theorem c_72vw_6_16 {q0 : Nat} : vOkm T0 (eN e_72v L_72vw A_72v mu_72v n_72 B_72 (some q0)) 1 g_72vw_6_16 := vOk_inI fun ρ η f0 f1 f2 f3 f4 f5 f6 f7 f8 f9 f10 f11 f12 f13 f14 f15 f16 f17 f18 f19 f20 f21 f22 f23 f24 f25 f26 f27 f28 f29 f30 f31 f32 f33 f34 f35 f36 f37 f38 f39 f40 f41 f42 f43 f44 f45 f46 f47 f48 f49 f50 f51 f52 f53 f54 f55 f56 f57 f58 f59 f60 f61 f62 f63 f64 f65 f66 f67 f68 f69 f70 f71 f72 f73 f74 f75 f76 => q_72vw_17 (q0 := q0) (n0 := ρ 4) (n1 := ρ 3) (n2 := ρ 2) (n3 := ρ 1) (n4 := ρ 0) (n5 := ρ 5) (n6 := ρ 6) (n7 := ρ 7) (n8 := ρ 8) (n9 := ρ 9) (n10 := ρ 10) (n11 := ρ 11) (n12 := ρ 12) (n13 := ρ 13) (n14 := ρ 14) (n15 := ρ 15) (n16 := ρ 16) (n17 := ρ 17) (n18 := ρ 18) (n19 := ρ 19) (n20 := ρ 20) (n21 := ρ 21) (n22 := ρ 22) (n23 := ρ 23) (n24 := ρ 24) (n25 := ρ 25) (n26 := ρ 26) (n27 := ρ 27) (n28 := ρ 28) (n29 := ρ 29) (H0 := η 0) (H1 := η 1) (H2 := η 2) (H3 := η 3) (H4 := η 4) (H5 := η 5) (H6 := η 6) (H7 := η 7) (H8 := η 8) (H9 := η 9) f76 f75 f74 f73 f72 f71 f70 f69 f68 f67 f66 f65 f64 f63 f62 f61 f60 f59 f58 f57 f56 f55 f54 f53 f52 f51 f50 f49 f48 f47 f46 f45 f44 f43 f42 f41 f40 f39 f38 f37 f36 f35 f34 f33 f32 f31 f30 f29 f28 f27 f26 f25 f24 f23 f22 f21 f20 f19 f18 f17 f16 f15 f14 f13 f12 f11 f10 f9 f8 f7 f6 f5 f4 f3 f2 f1 f0
theorem q_72vw_18 {q0 : Nat} {n0 n1 n2 n3 n4 n5 n6 n7 n8 n9 n10 n11 n12 n13 n14 n15 n16 n17 n18 n19 n20 n21 n22 n23 n24 n25 n26 n27 n28 n29 n30 n31 : Int} {H0 H1 H2 H3 H4 H5 H6 H7 H8 H9 H10 : gH} (f0 : n0 ≤ 2147483647) (f1 : (-2147483648) ≤ n0) (f2 : n1 ≤ 2147483647) (f3 : (-2147483648) ≤ n1) (f4 : n2 ≤ 2147483647) (f5 : (-2147483648) ≤ n2) (f6 : n3 = 30) (f7 : n4 = 30) (f8 : (hLe T0 H0 H1 ∧ hFr s_72v.2.2.2.2 H0 H1 ∧ hWt T0 H1) ∧ ((Ab_72v_6 n4 n3 n2 n1 n0 H0 H1 ∧ Bb_72_6 n4 n3 n2 n1 n0 H0 H1) ∧ preb_72v n4 H0) ∧ some q0 = some (mub_72v_6 n4 n3 n2 n1 n0 H0 H1)) (f9 : n5 = 16) (f10 : n0 ≤ n5) (f11 : n6 ≤ 2147483647) (f12 : (-2147483648) ≤ n6) (f13 : hK H1 (n3).toNat = 4) (f14 : n6 = hV H1 (n3).toNat 3) (f15 : n6 = 0) (f16 : n7 ≤ 2147483647) (f17 : (-2147483648) ≤ n7) (f18 : hK H1 (n3).toNat = 4) (f19 : n7 = hV H1 (n3).toNat 2) (f20 : n8 ≤ 1) (f21 : 0 ≤ n8) (f22 : (hLe T0 H1 H2 ∧ hFr s_73v.2.2.2.2 H1 H2 ∧ ((0 : Int) = 0 → H2.length = H1.length) ∧ hWt T0 H2) ∧ postb_73v n8 n7 H1 H2) (f23 : n8 ≠ 0) (f24 : n9 ≤ 2147483647) (f25 : (-2147483648) ≤ n9) (f26 : hK H2 (n3).toNat = 4) (f27 : n9 = hV H2 (n3).toNat 13) (f28 : (hLe T0 H2 H3 ∧ hFr s_74v.2.2.2.2 H2 H3 ∧ ((0 : Int) = 0 → H3.length = H2.length) ∧ hWt T0 H3) ∧ (postb_74v n10 n3 n9 n2 H2 H3 ∧ nb_74 n10 n3 n9 n2 H2 H3)) (f29 : 0 ≤ n10) (f30 : n11 ≤ 2147483647) (f31 : (-2147483648) ≤ n11) (f32 : hK H3 (n3).toNat = 4) (f33 : n11 = hV H3 (n3).toNat 2) (f34 : n12 = 20) (f35 : n13 = w32 (n11 - n12)) (f36 : n14 = 31) (f37 : hK H3 (n3).toNat = 4) (f38 : n14 = hV H3 (n3).toNat 0) (f39 : n15 ≤ 2147483647) (f40 : (-2147483648) ≤ n15) (f41 : hK H3 (n3).toNat = 4) (f42 : n15 = hV H3 (n3).toNat 1) (f43 : n16 ≤ 2147483647) (f44 : (-2147483648) ≤ n16) (f45 : (hLe T0 H3 H4 ∧ hFr s_124.2.2.2.2 H3 H4 ∧ ((0 : Int) = 0 → H4.length = H3.length) ∧ hWt T0 H4) ∧ postb_124x n16 n14 n15 H3 H4) (f46 : (hLe T0 H4 H5 ∧ hFr s_24v.2.2.2.2 H4 H5 ∧ ((0 : Int) = 0 → H5.length = H4.length) ∧ hWt T0 H5) ∧ (postb_24v n10 n13 n16 H4 H5 ∧ nb_24 n10 n13 n16 H4 H5)) (f47 : n17 ≤ 2147483647) (f48 : (-2147483648) ≤ n17) (f49 : hK H5 (n3).toNat = 4) (f50 : n17 = hV H5 (n3).toNat 2) (f51 : (hLe T0 H5 H6 ∧ hFr s_66v.2.2.2.2 H5 H6 ∧ ((0 : Int) = 0 → H6.length = H5.length) ∧ hWt T0 H6) ∧ postb_66v n3 n17 H5 H6) (f52 : n18 ≤ 2147483647) (f53 : (-2147483648) ≤ n18) (f54 : hK H6 (n10).toNat = 1) (f55 : n18 = hV H6 (n10).toNat 0) (f56 : n18 = 4) (f57 : n19 = 0) (f58 : n20 = 9999) (f59 : n21 ≤ 2147483647) (f60 : (-2147483648) ≤ n21) (f61 : (hLe T0 H6 H7 ∧ hFr s_67v.2.2.2.2 H6 H7 ∧ ((0 : Int) = 0 → H7.length = H6.length) ∧ hWt T0 H7) ∧ (postb_67v n21 n3 n19 n20 H6 H7 ∧ nb_67 n21 n3 n19 n20 H6 H7)) (f62 : hK H7 (n10).toNat = 1) (f63 : n22 = 2) (f64 : hUpd H8 H7 n10 n22 n21) (f65 : n23 = 4) (f66 : (hLe T0 H8 H9 ∧ hFr s_66v.2.2.2.2 H8 H9 ∧ ((0 : Int) = 0 → H9.length = H8.length) ∧ hWt T0 H9) ∧ postb_66v n3 n23 H8 H9) (f67 : n24 = w32 (n2 + 1)) (f68 : n25 ≤ 2147483647) (f69 : (-2147483648) ≤ n25) (f70 : hK H9 (n10).toNat = 1) (f71 : n25 = hV H9 (n10).toNat 0) (f72 : n26 = 5) (f73 : n25 = n26) (f74 : n27 = 47) (f75 : hK H9 (n3).toNat = 4) (f76 : n27 = hV H9 (n3).toNat 11) (f77 : n28 ≤ 2147483647) (f78 : (-2147483648) ≤ n28) (f79 : hK H9 (n10).toNat = 1) (f80 : n28 = hV H9 (n10).toNat 2) (f81 : n29 ≤ 2147483647) (f82 : (-2147483648) ≤ n29) (f83 : (hLe T0 H9 H10 ∧ hFr s_199vk740.2.2.2.2 H9 H10 ∧ ((0 : Int) = 0 → H10.length = H9.length) ∧ hWt T0 H10) ∧ postb_199vk740 n29 n27 n28 H9 H10) (f84 : n30 = w32 (n1 + n29)) (f85 : n31 = w32 (n0 + 1)) : Bb_72_6 n4 n3 n24 n30 n31 H0 H10 := by
  unfold Bb_72_6
  intro ck
  have pz := f8.2.1.2
  unfold preb_72v at pz
  have ga := f8.2.1.1.1
  unfold Ab_72v_6 at ga
  have vz : vwC H1 = vwC H0 := vwC_fr f8.1.2.1 (by decide +kernel)
  obtain ⟨kz, bz, blz, b13, cz_, b48, x10, x116, x30, x317, x13, ya, yt⟩ := ga
  have gb := f8.2.1.1.2
  unfold Bb_72_6 at gb
  obtain ⟨gq, g46, g47, gl⟩ := gb ck
  have ck1 := CK_fr f8.1.1 f8.1.2.1 (by decide +kernel) ck
  have y2 := pz.2.1.2.1
  have y3 := pz.2.1.2.2.1
  have r3 := f14
  rw [f6] at r3
  rw [show ((30 : Int)).toNat = 30 from rfl] at r3
  have r2 := f19
  rw [f6] at r2
  rw [show ((30 : Int)).toNat = 30 from rfl] at r2
  have pc := f22.2
  unfold postb_73v at pc
  have cq := f28.2.1
  unfold postb_74v at cq
  have cq2 := cq.2
  have x16 : n2 < 16 := by
    rcases Int.lt_or_le n2 16 with w | w
    · omega
    · have := cq2 w
      omega
  have rb := f27
  rw [f6] at rb
  rw [show ((30 : Int)).toNat = 30 from rfl] at rb
  have t13 : hV H2 30 13 = hV H1 30 13 := f22.1.2.1.1 30 13 (by decide +kernel)
  have cw := f28.2.2
  unfold nb_74 at cw
  have cw := cw (CK_fr f22.1.1 f22.1.2.1 (by decide +kernel) ck1).1 (by omega) (by omega) (by omega)
  have ce : n10 = ((cuP (hV H0 30 13).toNat (n2).toNat : Nat) : Int) := by
    unfold cuP
    omega
  have cz : 0 ≤ n10 := by omega
  have hk1 : hK H1 (n10).toNat = 1 := by
    rw [ce, Int.toNat_natCast]
    exact C45_k ck1.1 cz_ (by omega) (by omega)
  have kc0 : hK H2 (n10).toNat = 1 := kLe f22.1.1 hk1 rfl
  have kc1 : hK H3 (n10).toNat = 1 := kLe f28.1.1 kc0 rfl
  have kc2 : hK H4 (n10).toNat = 1 := kLe f45.1.1 kc1 rfl
  have kc3 : hK H5 (n10).toNat = 1 := kLe f46.1.1 kc2 rfl
  have ow46 := f46.2.2
  unfold nb_24 at ow46
  have ow46 := ow46 kc2 cz
  have kc4 : hK H6 (n10).toNat = 1 := kLe f51.1.1 kc3 rfl
  have kc5 : hK H7 (n10).toNat = 1 := kLe f61.1.1 kc4 rfl
  have kc6 : hK H8 (n10).toNat = 1 := kUp f64 kc5
  have kc7 : hK H9 (n10).toNat = 1 := kLe f66.1.1 kc6 rfl
  have kc8 : hK H10 (n10).toNat = 1 := kLe f83.1.1 kc7 rfl
  have s0 := PF_fr f22.1.1 f22.1.2.1 (by decide +kernel) kz
  have a0 : absC H2 = (absC H1) := s0.1
  have v0 : vwC H2 = vwC H0 := (vwC_fr f22.1.2.1 (by decide +kernel)).trans vz
  have u0 := CU_fr f22.1.1 f22.1.2.1 (by decide +kernel) cz_
  have d0 := BI_fr f22.1.1 f22.1.2.1 (by decide +kernel) bz
  have j0 : BLc H2 = BLc H0 := d0.2.trans blz
  have s1 := PF_fr f28.1.1 f28.1.2.1 (by decide +kernel) s0.2.2
  have a1 : absC H3 = (absC H1) := s1.1.trans a0
  have v1 : vwC H3 = vwC H0 := (vwC_fr f28.1.2.1 (by decide +kernel)).trans v0
  have u1 := CU_fr f28.1.1 f28.1.2.1 (by decide +kernel) u0
  have d1 := BI_fr f28.1.1 f28.1.2.1 (by decide +kernel) d0.1
  have j1 : BLc H3 = BLc H0 := d1.2.trans j0
  have s2 := PF_fr f45.1.1 f45.1.2.1 (by decide +kernel) s1.2.2
  have a2 : absC H4 = (absC H1) := s2.1.trans a1
  have v2 : vwC H4 = vwC H0 := (vwC_fr f45.1.2.1 (by decide +kernel)).trans v1
  have u2 := CU_fr f45.1.1 f45.1.2.1 (by decide +kernel) u1
  have d2 := BI_fr f45.1.1 f45.1.2.1 (by decide +kernel) d1.1
  have j2 : BLc H4 = BLc H0 := d2.2.trans j1
  have s3 := PF_fr f46.1.1 f46.1.2.1 (by decide +kernel) s2.2.2
  have a3 : absC H5 = (absC H1) := s3.1.trans a2
  have v3 : vwC H5 = vwC H0 := (vwC_fr f46.1.2.1 (by decide +kernel)).trans v2
  have u3 := CU_fr f46.1.1 f46.1.2.1 (by decide +kernel) u2
  have d3 := BI_fr f46.1.1 f46.1.2.1 (by decide +kernel) d2.1
  have j3 : BLc H5 = BLc H0 := d3.2.trans j2
  have c4 := f51.2
  unfold postb_66v at c4
  rw [v3] at c4
  rw [a3] at c4
  have a4 : absC H6 = (ptk (vwC H0) n17 (absC H1)) := c4.2
  have v4 : vwC H6 = vwC H0 := (vwC_fr f51.1.2.1 (by decide +kernel)).trans v3
  have u4 := CU_fr f51.1.1 f51.1.2.1 (by decide +kernel) u3
  have d4 := BI_fr f51.1.1 f51.1.2.1 (by decide +kernel) d3.1
  have j4 : BLc H6 = BLc H0 := d4.2.trans j3
  have c5 := f61.2.1
  unfold postb_67v at c5
  try rw [f57] at c5
  try rw [f58] at c5
  rw [v4] at c5
  rw [a4] at c5
  have a5 : absC H7 = (pnm (vwC H0) 0 9999 (ptk (vwC H0) n17 (absC H1))) := c5.2
  have v5 : vwC H7 = vwC H0 := (vwC_fr f61.1.2.1 (by decide +kernel)).trans v4
  have u5 := CU_fr f61.1.1 f61.1.2.1 (by decide +kernel) u4
  have d5 := BI_fr f61.1.1 f61.1.2.1 (by decide +kernel) d4.1
  have j5 : BLc H7 = BLc H0 := d5.2.trans j4
  have uq6 := upCue f64 c5.1 d5.1 kc5
  have s6 := PF_up f64 c5.1 kc5
  have d6 := BI_up f64 c5.1 d5.1 kc5
  have a6 : absC H8 = (pnm (vwC H0) 0 9999 (ptk (vwC H0) n17 (absC H1))) := s6.1.trans a5
  have v6 : vwC H8 = vwC H0 := s6.2.1.trans v5
  have j6 : BLc H8 = BLc H0 := d6.2.trans j5
  have u6 := CU_up f64 u5 (by rw [kc5]; decide)
  have c7 := f66.2
  unfold postb_66v at c7
  try rw [f65] at c7
  rw [v6] at c7
  rw [a6] at c7
  have a7 : absC H9 = (ptk (vwC H0) 4 (pnm (vwC H0) 0 9999 (ptk (vwC H0) n17 (absC H1)))) := c7.2
  have v7 : vwC H9 = vwC H0 := (vwC_fr f66.1.2.1 (by decide +kernel)).trans v6
  have u7 := CU_fr f66.1.1 f66.1.2.1 (by decide +kernel) u6
  have d7 := BI_fr f66.1.1 f66.1.2.1 (by decide +kernel) d6.1
  have j7 : BLc H9 = BLc H0 := d7.2.trans j6
  have s8 := PF_fr f83.1.1 f83.1.2.1 (by decide +kernel) c7.1
  have a8 : absC H10 = (ptk (vwC H0) 4 (pnm (vwC H0) 0 9999 (ptk (vwC H0) n17 (absC H1)))) := s8.1.trans a7
  have v8 : vwC H10 = vwC H0 := (vwC_fr f83.1.2.1 (by decide +kernel)).trans v7
  have u8 := CU_fr f83.1.1 f83.1.2.1 (by decide +kernel) u7
  have d8 := BI_fr f83.1.1 f83.1.2.1 (by decide +kernel) d7.1
  have j8 : BLc H10 = BLc H0 := d8.2.trans j7
  have kq0 : n18 = n13 := f55.trans ((fr1 f51.1.2.1 (by decide +kernel) kc3 0).trans (ow46.2.1))
  have kq1 : n25 = n13 := f71.trans ((fr1 f66.1.2.1 (by decide +kernel) kc6 0).trans ((uSlot f64 _ 0 (by rw [f63]; decide)).trans ((fr1 f61.1.2.1 (by decide +kernel) kc4 0).trans ((fr1 f51.1.2.1 (by decide +kernel) kc3 0).trans (ow46.2.1)))))
  have rz0 := f33
  rw [f6] at rz0
  rw [show ((30 : Int)).toNat = 30 from rfl] at rz0
  have tz0 : hV H3 30 2 = hV H1 30 2 := (f28.1.2.1.1 30 2 (by decide +kernel)).trans (f22.1.2.1.1 30 2 (by decide +kernel))
  have rz1 := f50
  rw [f6] at rz1
  rw [show ((30 : Int)).toNat = 30 from rfl] at rz1
  have tz1 : hV H5 30 2 = hV H1 30 2 := (f46.1.2.1.1 30 2 (by decide +kernel)).trans ((f45.1.2.1.1 30 2 (by decide +kernel)).trans ((f28.1.2.1.1 30 2 (by decide +kernel)).trans (f22.1.2.1.1 30 2 (by decide +kernel))))
  have wq35 := f35
  unfold w32 at wq35
  have wq67 := f67
  unfold w32 at wq67
  have wq84 := f84
  unfold w32 at wq84
  have wq85 := f85
  unfold w32 at wq85
  exfalso
  omega
def g_72vw_6_17 : vG := ([(10, [31, 4], [], 1), (1, [30, 3, 29], [], 0), (1199, [29, 27, 28], [9, 10], 0), (90, [29], [], -2147483648), (91, [29], [], 2147483647), (20, [28, 10], [9], 2), (23, [10], [9], 1), (90, [28], [], -2147483648), (91, [28], [], 2147483647), (20, [27, 1], [9], 11), (23, [1], [9], 4), (0, [27], [], 47), (40, [25, 26], [], 0), (0, [26], [], 5), (20, [25, 10], [9], 0), (23, [10], [9], 1), (90, [25], [], -2147483648), (91, [25], [], 2147483647), (10, [24, 2], [], 1), (1066, [1, 23], [8, 9], 0), (0, [23], [], 4), (80, [10, 22, 21], [8, 7], 0), (0, [22], [], 2), (23, [10], [7], 1), (1067, [21, 1, 19, 20], [6, 7], 0), (90, [21], [], -2147483648), (91, [21], [], 2147483647), (0, [20], [], 9999), (0, [19], [], 0), (0, [18], [], 4), (20, [18, 10], [6], 0), (23, [10], [6], 1), (90, [18], [], -2147483648), (91, [18], [], 2147483647), (1066, [1, 17], [5, 6], 0), (20, [17, 1], [5], 2), (23, [1], [5], 4), (90, [17], [], -2147483648), (91, [17], [], 2147483647), (1024, [10, 13, 16], [4, 5], 0), (1124, [16, 14, 15], [3, 4], 0), (90, [16], [], -2147483648), (91, [16], [], 2147483647), (20, [15, 1], [3], 1), (23, [1], [3], 4), (90, [15], [], -2147483648), (91, [15], [], 2147483647), (20, [14, 1], [3], 0), (23, [1], [3], 4), (0, [14], [], 31), (2, [13, 11, 12], [], 0), (0, [12], [], 20), (20, [11, 1], [3], 2), (23, [1], [3], 4), (90, [11], [], -2147483648), (91, [11], [], 2147483647), (51, [10], [], 0), (1074, [10, 1, 9, 2], [2, 3], 0), (20, [9, 1], [2], 13), (23, [1], [2], 4), (90, [9], [], -2147483648), (91, [9], [], 2147483647), (31, [8], [], 0), (1073, [8, 7], [1, 2], 0), (90, [8], [], 0), (91, [8], [], 1), (20, [7, 1], [1], 2), (23, [1], [1], 4), (90, [7], [], -2147483648), (91, [7], [], 2147483647), (30, [6], [], 0), (20, [6, 1], [1], 3), (23, [1], [1], 4), (90, [6], [], -2147483648), (91, [6], [], 2147483647), (45, [4, 5], [], 0), (0, [5], [], 16), (5000, [0, 1, 2, 3, 4], [0, 1], 6), (0, [0], [], 30), (0, [1], [], 30), (90, [2], [], -2147483648), (91, [2], [], 2147483647), (90, [3], [], -2147483648), (91, [3], [], 2147483647), (90, [4], [], -2147483648), (91, [4], [], 2147483647)], (4000, [1, 24, 30, 31], [10], 6))
theorem c_72vw_6_17 {q0 : Nat} : vOkm T0 (eN e_72v L_72vw A_72v mu_72v n_72 B_72 (some q0)) 1 g_72vw_6_17 := vOk_inI fun ρ η f0 f1 f2 f3 f4 f5 f6 f7 f8 f9 f10 f11 f12 f13 f14 f15 f16 f17 f18 f19 f20 f21 f22 f23 f24 f25 f26 f27 f28 f29 f30 f31 f32 f33 f34 f35 f36 f37 f38 f39 f40 f41 f42 f43 f44 f45 f46 f47 f48 f49 f50 f51 f52 f53 f54 f55 f56 f57 f58 f59 f60 f61 f62 f63 f64 f65 f66 f67 f68 f69 f70 f71 f72 f73 f74 f75 f76 f77 f78 f79 f80 f81 f82 f83 f84 f85 => q_72vw_18 (q0 := q0) (n0 := ρ 4) (n1 := ρ 3) (n2 := ρ 2) (n3 := ρ 1) (n4 := ρ 0) (n5 := ρ 5) (n6 := ρ 6) (n7 := ρ 7) (n8 := ρ 8) (n9 := ρ 9) (n10 := ρ 10) (n11 := ρ 11) (n12 := ρ 12) (n13 := ρ 13) (n14 := ρ 14) (n15 := ρ 15) (n16 := ρ 16) (n17 := ρ 17) (n18 := ρ 18) (n19 := ρ 19) (n20 := ρ 20) (n21 := ρ 21) (n22 := ρ 22) (n23 := ρ 23) (n24 := ρ 24) (n25 := ρ 25) (n26 := ρ 26) (n27 := ρ 27) (n28 := ρ 28) (n29 := ρ 29) (n30 := ρ 30) (n31 := ρ 31) (H0 := η 0) (H1 := η 1) (H2 := η 2) (H3 := η 3) (H4 := η 4) (H5 := η 5) (H6 := η 6) (H7 := η 7) (H8 := η 8) (H9 := η 9) (H10 := η 10) f85 f84 f83 f82 f81 f80 f79 f78 f77 f76 f75 f74 f73 f72 f71 f70 f69 f68 f67 f66 f65 f64 f63 f62 f61 f60 f59 f58 f57 f56 f55 f54 f53 f52 f51 f50 f49 f48 f47 f46 f45 f44 f43 f42 f41 f40 f39 f38 f37 f36 f35 f34 f33 f32 f31 f30 f29 f28 f27 f26 f25 f24 f23 f22 f21 f20 f19 f18 f17 f16 f15 f14 f13 f12 f11 f10 f9 f8 f7 f6 f5 f4 f3 f2 f1 f0
def p_72vw_6 : List vG := [g_72vw_6_0,
  g_72vw_6_1,
  g_72vw_6_2,
  g_72vw_6_3,
  g_72vw_6_4,
  g_72vw_6_5,
  g_72vw_6_6,
  g_72vw_6_7,
  g_72vw_6_8,
  g_72vw_6_9,
  g_72vw_6_10,
  g_72vw_6_11,
  g_72vw_6_12,
  g_72vw_6_13,
  g_72vw_6_14,
  g_72vw_6_15,
  g_72vw_6_16,
  g_72vw_6_17]
theorem r_72vw_6 : vCovBO (eRc e_72v L_72v cs_72v 2000 (6, [(0, (3, 4, 30, 0)), (1, (0, -2147483648, 2147483647, 0)), (2, (0, -2147483648, 2147483647, 0)), (3, (0, -2147483648, 2147483647, 0))])) p_72vw_6 = true := by decide +kernel
theorem m_72vw (d : Nat) : eC e_72vw (d + 6) := eC_ref (e := e_72v) (L := L_72v) (L' := L_72vw) (cs := cs_72v) (n := 2000) (d := d + 5) (A := A_72v) (μ := mu_72v) (tp := false) (p0 := p_72v_s) (p1 := p_72vw_s) (N := n_72) (B := B_72) rfl ⟨m_24vw (d + 4), ⟨m_64v (d + 4), ⟨m_66v (d + 3), ⟨m_67vw (d + 2), ⟨m_73v (d + 4), ⟨m_74vw (d + 4), ⟨m_75vw d, ⟨m_76vw d, ⟨m_77vw (d + 1), ⟨m_78vw d, ⟨m_80vw d, ⟨m_124x (d + 3), ⟨m_199vk740 (d + 4), ⟨m_201vk740 (d + 4), trivial⟩⟩⟩⟩⟩⟩⟩⟩⟩⟩⟩⟩⟩⟩ rfl (.inl rfl) (by decide +kernel) (fun z => nomatch z) r_72v_s (allC c_72v_s_0 allN) (allC (.inl ⟨p_72v_6, r_72v_6, fun q0 => (allC c_72v_6_0 (allC c_72v_6_1 (allC c_72v_6_2 (allC c_72v_6_3 (allC c_72v_6_4 (allC c_72v_6_5 (allC c_72v_6_6 (allC c_72v_6_7 (allC c_72v_6_8 (allC c_72v_6_9 (allC c_72v_6_10 (allC c_72v_6_11 (allC c_72v_6_12 (allC c_72v_6_13 (allC c_72v_6_14 (allC c_72v_6_15 (allC c_72v_6_16 (allC c_72v_6_17 (allC c_72v_6_18 (allC c_72v_6_19 (allC c_72v_6_20 (allC c_72v_6_21 (allC c_72v_6_22 (allC c_72v_6_23 (allC c_72v_6_24 (allC c_72v_6_25 (allC c_72v_6_26 (allC c_72v_6_27 (allC c_72v_6_28 (allC c_72v_6_29 (allC c_72v_6_30 (allC c_72v_6_31 (allC c_72v_6_32 (allC c_72v_6_33 (allC c_72v_6_34 (allC c_72v_6_35 allN))))))))))))))))))))))))))))))))))))⟩) allN) (sub1 (sub0 (sub0 (sub1 (sub0 (sub1 (sub1 (sub1 (sub1 (sub1 (sub1 ⟨⟨rfl, rfl, rfl, fun _ _ _ _ => trivial⟩, (sub0 (sub0 trivial))⟩))))))))))) r_72vw_s (allC c_72vw_s_0 allN) (allC ⟨p_72vw_6, r_72vw_6, fun q0 => (allC c_72vw_6_0 (allC c_72vw_6_1 (allC c_72vw_6_2 (allC c_72vw_6_3 (allC c_72vw_6_4 (allC c_72vw_6_5 (allC c_72vw_6_6 (allC c_72vw_6_7 (allC c_72vw_6_8 (allC c_72vw_6_9 (allC c_72vw_6_10 (allC c_72vw_6_11 (allC c_72vw_6_12 (allC c_72vw_6_13 (allC c_72vw_6_14 (allC c_72vw_6_15 (allC c_72vw_6_16 (allC c_72vw_6_17 allN))))))))))))))))))⟩ allN)
