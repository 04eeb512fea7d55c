/- Reader.readCues ()V -/
noncomputable def s_72v : vM := ([(3, 4, 30, 0)], (9, 0, 0, 0), 1, 0, [(1, 0), (1, 1), (1, 2), (1, 3), (1, 4), (1, 5), (1, 6), (1, 7), (1, 8), (1, 9), (1, 10), (1, 11), (1, 12), (1, 13), (1, 14), (1, 15), (1, 16), (1, 18), (4, 1), (4, 2), (4, 3), (4, 4), (4, 5), (4, 6), (740, 0), (796, 0)])
def preb_72v (a0 : Int) (h : gH) : Prop := KI h ∧ BI h ∧ CU h
def pre_72v : List Int → gH → Prop := fun xs h => match xs with
  | [a0] => preb_72v a0 h
  | _ => False
def postb_72v (a0 : Int) (h0 h : gH) : Prop := KI h ∧ BI h ∧ BLc h = BLc h0 ∧ hV h 30 13 = hV h0 30 13 ∧ CU h ∧ hV h 48 = hV h0 48 ∧ absC h = pCues (vwC h0) (BLc h0) 16 (absC h0) ∧ (hV h 30 3 = 0 → 0 ≤ hV h 47 (hV h0 30 13).toNat ∧ hV h 47 (hV h0 30 13).toNat ≤ gB ((hV h0 30 13).toNat + 1) ∧ pcap (hV h 47 (hV h0 30 13).toNat) = pTot (vwC h0) (BLc h0) 16 (absC h0) 0)
def post_72v : List Int → gH → gH → Prop := fun xs h0 h => match xs with
  | [a0] => postb_72v a0 h0 h
  | _ => True
noncomputable def e_72v : vE := (72, s_72v, pre_72v, post_72v)
noncomputable def L_72v : List vE := [e_24v, e_64v, e_66v, e_67v, e_73v, e_74v, e_75v, e_76v, e_77v, e_78v, e_80v, e_124, e_199vk740, e_201vk740]
def cs_72v : List vC := [(6, [(0, (3, 4, 30, 0)), (1, (0, -2147483648, 2147483647, 0)), (2, (0, -2147483648, 2147483647, 0)), (3, (0, -2147483648, 2147483647, 0))])]
def Ab_72v_6 (a0 x0 x1 x2 x3 : Int) (h0 h : gH) : Prop := KI h ∧ BI h ∧ BLc h = BLc h0 ∧ hV h 30 13 = hV h0 30 13 ∧ CU h ∧ hV h 48 = hV h0 48 ∧ 0 ≤ x1 ∧ x1 ≤ 16 ∧ 0 ≤ x3 ∧ x3 ≤ 17 ∧ (hV h 30 3 = 0 → x1 = x3) ∧ pCues (vwC h0) (BLc h0) (16 - (x1).toNat) (absC h) = pCues (vwC h0) (BLc h0) 16 (absC h0) ∧ (hV h 30 3 = 0 → 0 ≤ x2 ∧ x2 ≤ x1 * gB (hV h0 30 13).toNat ∧ pTot (vwC h0) (BLc h0) (16 - (x1).toNat) (absC h) (pcap x2) = pTot (vwC h0) (BLc h0) 16 (absC h0) 0)
def mub_72v_6 (a0 x0 x1 x2 x3 : Int) (h0 h : gH) : Nat := (17 - x3).toNat
def A_72v : Int → List Int → gH → gH → Prop := fun c xs h0 h => match c.toNat with
  | 6 => (match xs with
    | [a0, x0, x1, x2, x3] => Ab_72v_6 a0 x0 x1 x2 x3 h0 h
    | _ => False)
  | _ => True
def mu_72v : Int → List Int → gH → gH → Nat := fun c xs h0 h => match c.toNat with
  | 6 => (match xs with
    | [a0, x0, x1, x2, x3] => mub_72v_6 a0 x0 x1 x2 x3 h0 h
    | _ => 0)
  | _ => 0
theorem q_72v_0 {n0 n1 n2 n3 : Int} {H0 : gH} (f0 : n0 = 30) (f1 : hWt T0 H0 ∧ preb_72v n0 H0) (f2 : n1 = 0) (f3 : n2 = 0) (f4 : n3 = 0) : Ab_72v_6 n0 n0 n1 n2 n3 H0 H0 ∧ ∀ q, none = some q → mub_72v_6 n0 n0 n1 n2 n3 H0 H0 < q := by
  have pz := f1.2
  unfold preb_72v at pz
  unfold Ab_72v_6
  refine ⟨⟨pz.1, pz.2.1, rfl, rfl, pz.2.2, rfl, by omega, by omega, by omega, by omega, fun _ => by omega, ?_, fun _ => ⟨by omega, ?_, ?_⟩⟩, fun q hq => nomatch hq⟩
  · rw [show (n1).toNat = 0 by omega]
  · rw [show n2 = 0 by omega, show n1 = 0 by omega, Int.zero_mul]
    exact Int.le_refl _
  · rw [show (n1).toNat = 0 by omega, show n2 = 0 by omega]
    rfl
theorem c_72v_s_0 : vOkm T0 (eP e_72v L_72v A_72v mu_72v none) 1 ([(0, [3], [], 0), (0, [2], [], 0), (0, [1], [], 0), (6000, [0], [0], 0), (0, [0], [], 30)], (4000, [0, 1, 2, 3], [0], 6)) := vOk_in fun ρ η h => by
  obtain ⟨f0, f1, f2, f3, f4, _⟩ := h
  exact q_72v_0 (n0 := ρ 0) (n1 := ρ 1) (n2 := ρ 2) (n3 := ρ 3) (H0 := η 0) f4 f3 f2 f1 f0
def p_72v_s : List vG := [([(0, [3], [], 0), (0, [2], [], 0), (0, [1], [], 0), (6000, [0], [0], 0), (0, [0], [], 30)], (4000, [0, 1, 2, 3], [0], 6))]
theorem r_72v_s : vCovO false (eR0 e_72v L_72v cs_72v 2000) p_72v_s = true := by decide +kernel
theorem q_72v_1 {q0 : Nat} {n0 n1 n2 n3 n4 n5 n6 n7 n8 n9 : Int} {H0 H1 H2 H3 : gH} (f0 : n0 ≤ 2147483647) (f1 : (-2147483648) ≤ n0) (f2 : n1 ≤ 2147483647) (f3 : (-2147483648) ≤ n1) (f4 : n2 ≤ 2147483647) (f5 : (-2147483648) ≤ n2) (f6 : n3 = 30) (f7 : n4 = 30) (f8 : (hLe T0 H0 H1 ∧ hFr s_72v.2.2.2.2 H0 H1 ∧ hWt T0 H1) ∧ (Ab_72v_6 n4 n3 n2 n1 n0 H0 H1 ∧ preb_72v n4 H0) ∧ some q0 = some (mub_72v_6 n4 n3 n2 n1 n0 H0 H1)) (f9 : n5 = 16) (f10 : n5 < n0) (f11 : n6 = 46) (f12 : n6 = hV H1 (n3).toNat 10) (f13 : n7 ≤ 2147483647) (f14 : (-2147483648) ≤ n7) (f15 : n7 = hV H1 (n3).toNat 13) (f16 : (hLe T0 H1 H2 ∧ hFr s_201vk740.2.2.2.2 H1 H2 ∧ ((0 : Int) = 0 → H2.length = H1.length) ∧ hWt T0 H2) ∧ postb_201vk740 n6 n7 n2 H1 H2) (f17 : n8 = 47) (f18 : n8 = hV H2 (n3).toNat 11) (f19 : n9 ≤ 2147483647) (f20 : (-2147483648) ≤ n9) (f21 : n9 = hV H2 (n3).toNat 13) (f22 : (hLe T0 H2 H3 ∧ hFr s_201vk740.2.2.2.2 H2 H3 ∧ ((0 : Int) = 0 → H3.length = H2.length) ∧ hWt T0 H3) ∧ postb_201vk740 n8 n9 n1 H2 H3) : postb_72v n4 H0 H3 := by
  have pz := f8.2.1.2
  unfold preb_72v at pz
  have ga := f8.2.1.1
  unfold Ab_72v_6 at ga
  have vz : vwC H1 = vwC H0 := vwC_fr f8.1.2.1 (by decide +kernel)
  obtain ⟨kz, bz, blz, b13, cz, b48, x10, x116, x30, x317, x13, ya, yt⟩ := ga
  have s0 := PF_fr f16.1.1 f16.1.2.1 (by decide +kernel) kz
  have a0 : absC H2 = (absC H1) := s0.1
  have v0 : vwC H2 = vwC H0 := (vwC_fr f16.1.2.1 (by decide +kernel)).trans vz
  have u0 := CU_fr f16.1.1 f16.1.2.1 (by decide +kernel) cz
  have pp0 := f16.2
  unfold postb_201vk740 at pp0
  rw [f11] at pp0
  have d0 := BI_put46 f16.1.1 f16.1.2.1 (by decide +kernel) bz pp0
  have j0 : BLc H2 = BLc H0 := d0.2.1.trans blz
  have s1 := PF_fr f22.1.1 f22.1.2.1 (by decide +kernel) s0.2.2
  have a1 : absC H3 = (absC H1) := s1.1.trans a0
  have v1 : vwC H3 = vwC H0 := (vwC_fr f22.1.2.1 (by decide +kernel)).trans v0
  have u1 := CU_fr f22.1.1 f22.1.2.1 (by decide +kernel) u0
  have pp1 := f22.2
  unfold postb_201vk740 at pp1
  rw [f17] at pp1
  have rp1 := f21
  rw [f6] at rp1
  rw [show ((30 : Int)).toNat = 30 from rfl] at rp1
  rw [rp1] at pp1
  have d1 := BI_put47 f22.1.1 f22.1.2.1 (by decide +kernel) d0.1 pp1
  have j1 : BLc H3 = BLc H0 := d1.2.1.trans j0
  unfold postb_72v
  have t13 : hV H3 30 13 = hV H1 30 13 := (d1.2.2.1).trans (d0.2.2.1)
  have t48 : hV H3 48 = hV H1 48 := (d1.2.2.2.1).trans (d0.2.2.2.1)
  have p13 : hV H2 30 13 = hV H1 30 13 := d0.2.2.1
  have s47 := d1.2.2.2.2
  rw [p13, b13] at s47
  have ae : absC H3 = absC H1 := a1
  have fin : ∀ f : Nat, pCues (vwC H0) (BLc H0) f (absC H1) = absC H1 ∧ ∀ t : Int, pTot (vwC H0) (BLc H0) f (absC H1) t = t := by
    intro f
    have q : (absC H1).1 < 0 := absC_neg kz (fun w => by have := x13 w; omega)
    exact ⟨pCues_neg (vwC_ok H0) q, fun t => pTot_neg (vwC_ok H0) q⟩
  have t3 : hV H3 30 3 = hV H1 30 3 := (f22.1.2.1.1 30 3 (by decide +kernel)).trans (f16.1.2.1.1 30 3 (by decide +kernel))
  refine ⟨s1.2.2, d1.1, j1, t13.trans b13, u1, t48.trans b48, ?_, fun hf => ?_⟩
  · rw [ae, ← ya, (fin _).1]
  · obtain ⟨w1, w2, w3⟩ := yt (t3.symm.trans hf)
    rw [(fin _).2] at w3
    rw [s47]
    have bb := gB_pos (hV H0 30 13).toNat
    have b16 : n2 * gB (hV H0 30 13).toNat ≤ 16 * gB (hV H0 30 13).toNat := Int.mul_le_mul_of_nonneg_right x116 (by omega)
    refine ⟨w1, ?_, w3⟩
    show n1 ≤ 16 * gB (hV H0 30 13).toNat
    omega
theorem c_72v_6_0 {q0 : Nat} : vOkm T0 (eP e_72v L_72v A_72v mu_72v (some q0)) 1 ([(1201, [8, 9, 3], [2, 3], 0), (20, [9, 1], [2], 13), (90, [9], [], -2147483648), (91, [9], [], 2147483647), (20, [8, 1], [2], 11), (0, [8], [], 47), (1201, [6, 7, 2], [1, 2], 0), (20, [7, 1], [1], 13), (90, [7], [], -2147483648), (91, [7], [], 2147483647), (20, [6, 1], [1], 10), (0, [6], [], 46), (44, [4, 5], [], 0), (0, [5], [], 16), (5000, [0, 1, 2, 3, 4], [0, 1], 6), (0, [0], [], 30), (0, [1], [], 30), (90, [2], [], -2147483648), (91, [2], [], 2147483647), (90, [3], [], -2147483648), (91, [3], [], 2147483647), (90, [4], [], -2147483648), (91, [4], [], 2147483647)], (3000, [], [3], 248)) := vOk_in fun ρ η h => by
  obtain ⟨f0, f1, f2, f3, f4, f5, f6, f7, f8, f9, f10, f11, f12, f13, f14, f15, f16, f17, f18, f19, f20, f21, f22, _⟩ := h
  exact q_72v_1 (q0 := q0) (n0 := ρ 4) (n1 := ρ 3) (n2 := ρ 2) (n3 := ρ 1) (n4 := ρ 0) (n5 := ρ 5) (n6 := ρ 6) (n7 := ρ 7) (n8 := ρ 8) (n9 := ρ 9) (H0 := η 0) (H1 := η 1) (H2 := η 2) (H3 := η 3) f22 f21 f20 f19 f18 f17 f16 f15 f14 f13 f12 f11 f10 f9 f8 f7 f6 f5 f4 f3 f2 f1 f0
theorem q_72v_2 {q0 : Nat} {n0 n1 n2 n3 n4 n5 n6 n7 n8 n9 n10 : Int} {H0 H1 H2 H3 : gH} (f0 : n0 ≤ 2147483647) (f1 : (-2147483648) ≤ n0) (f2 : n1 ≤ 2147483647) (f3 : (-2147483648) ≤ n1) (f4 : n2 ≤ 2147483647) (f5 : (-2147483648) ≤ n2) (f6 : n3 = 30) (f7 : n4 = 30) (f8 : (hLe T0 H0 H1 ∧ hFr s_72v.2.2.2.2 H0 H1 ∧ hWt T0 H1) ∧ (Ab_72v_6 n4 n3 n2 n1 n0 H0 H1 ∧ preb_72v n4 H0) ∧ some q0 = some (mub_72v_6 n4 n3 n2 n1 n0 H0 H1)) (f9 : n5 = 16) (f10 : n0 ≤ n5) (f11 : n6 ≤ 2147483647) (f12 : (-2147483648) ≤ n6) (f13 : n6 = hV H1 (n3).toNat 3) (f14 : n6 ≠ 0) (f15 : n7 = 46) (f16 : n7 = hV H1 (n3).toNat 10) (f17 : n8 ≤ 2147483647) (f18 : (-2147483648) ≤ n8) (f19 : n8 = hV H1 (n3).toNat 13) (f20 : (hLe T0 H1 H2 ∧ hFr s_201vk740.2.2.2.2 H1 H2 ∧ ((0 : Int) = 0 → H2.length = H1.length) ∧ hWt T0 H2) ∧ postb_201vk740 n7 n8 n2 H1 H2) (f21 : n9 = 47) (f22 : n9 = hV H2 (n3).toNat 11) (f23 : n10 ≤ 2147483647) (f24 : (-2147483648) ≤ n10) (f25 : n10 = hV H2 (n3).toNat 13) (f26 : (hLe T0 H2 H3 ∧ hFr s_201vk740.2.2.2.2 H2 H3 ∧ ((0 : Int) = 0 → H3.length = H2.length) ∧ hWt T0 H3) ∧ postb_201vk740 n9 n10 n1 H2 H3) : postb_72v n4 H0 H3 := by
  have pz := f8.2.1.2
  unfold preb_72v at pz
  have ga := f8.2.1.1
  unfold Ab_72v_6 at ga
  have vz : vwC H1 = vwC H0 := vwC_fr f8.1.2.1 (by decide +kernel)
  obtain ⟨kz, bz, blz, b13, cz, b48, x10, x116, x30, x317, x13, ya, yt⟩ := ga
  have r3 := f13
  rw [f6] at r3
  rw [show ((30 : Int)).toNat = 30 from rfl] at r3
  have s0 := PF_fr f20.1.1 f20.1.2.1 (by decide +kernel) kz
  have a0 : absC H2 = (absC H1) := s0.1
  have v0 : vwC H2 = vwC H0 := (vwC_fr f20.1.2.1 (by decide +kernel)).trans vz
  have u0 := CU_fr f20.1.1 f20.1.2.1 (by decide +kernel) cz
  have pp0 := f20.2
  unfold postb_201vk740 at pp0
  rw [f15] at pp0
  have d0 := BI_put46 f20.1.1 f20.1.2.1 (by decide +kernel) bz pp0
  have j0 : BLc H2 = BLc H0 := d0.2.1.trans blz
  have s1 := PF_fr f26.1.1 f26.1.2.1 (by decide +kernel) s0.2.2
  have a1 : absC H3 = (absC H1) := s1.1.trans a0
  have v1 : vwC H3 = vwC H0 := (vwC_fr f26.1.2.1 (by decide +kernel)).trans v0
  have u1 := CU_fr f26.1.1 f26.1.2.1 (by decide +kernel) u0
  have pp1 := f26.2
  unfold postb_201vk740 at pp1
  rw [f21] at pp1
  have rp1 := f25
  rw [f6] at rp1
  rw [show ((30 : Int)).toNat = 30 from rfl] at rp1
  rw [rp1] at pp1
  have d1 := BI_put47 f26.1.1 f26.1.2.1 (by decide +kernel) d0.1 pp1
  have j1 : BLc H3 = BLc H0 := d1.2.1.trans j0
  unfold postb_72v
  have t13 : hV H3 30 13 = hV H1 30 13 := (d1.2.2.1).trans (d0.2.2.1)
  have t48 : hV H3 48 = hV H1 48 := (d1.2.2.2.1).trans (d0.2.2.2.1)
  have p13 : hV H2 30 13 = hV H1 30 13 := d0.2.2.1
  have s47 := d1.2.2.2.2
  rw [p13, b13] at s47
  have ae : absC H3 = absC H1 := a1
  have fin : ∀ f : Nat, pCues (vwC H0) (BLc H0) f (absC H1) = absC H1 ∧ ∀ t : Int, pTot (vwC H0) (BLc H0) f (absC H1) t = t := by
    intro f
    have q := absC_neg kz (by omega)
    exact ⟨pCues_neg (vwC_ok H0) q, fun t => pTot_neg (vwC_ok H0) q⟩
  have t3 : hV H3 30 3 = hV H1 30 3 := (f26.1.2.1.1 30 3 (by decide +kernel)).trans (f20.1.2.1.1 30 3 (by decide +kernel))
  refine ⟨s1.2.2, d1.1, j1, t13.trans b13, u1, t48.trans b48, ?_, fun hf => ?_⟩
  · rw [ae, ← ya, (fin _).1]
  · obtain ⟨w1, w2, w3⟩ := yt (t3.symm.trans hf)
    rw [(fin _).2] at w3
    rw [s47]
    have bb := gB_pos (hV H0 30 13).toNat
    have b16 : n2 * gB (hV H0 30 13).toNat ≤ 16 * gB (hV H0 30 13).toNat := Int.mul_le_mul_of_nonneg_right x116 (by omega)
    refine ⟨w1, ?_, w3⟩
    show n1 ≤ 16 * gB (hV H0 30 13).toNat
    omega
theorem c_72v_6_1 {q0 : Nat} : vOkm T0 (eP e_72v L_72v A_72v mu_72v (some q0)) 1 ([(1201, [9, 10, 3], [2, 3], 0), (20, [10, 1], [2], 13), (90, [10], [], -2147483648), (91, [10], [], 2147483647), (20, [9, 1], [2], 11), (0, [9], [], 47), (1201, [7, 8, 2], [1, 2], 0), (20, [8, 1], [1], 13), (90, [8], [], -2147483648), (91, [8], [], 2147483647), (20, [7, 1], [1], 10), (0, [7], [], 46), (31, [6], [], 0), (20, [6, 1], [1], 3), (90, [6], [], -2147483648), (91, [6], [], 2147483647), (45, [4, 5], [], 0), (0, [5], [], 16), (5000, [0, 1, 2, 3, 4], [0, 1], 6), (0, [0], [], 30), (0, [1], [], 30), (90, [2], [], -2147483648), (91, [2], [], 2147483647), (90, [3], [], -2147483648), (91, [3], [], 2147483647), (90, [4], [], -2147483648), (91, [4], [], 2147483647)], (3000, [], [3], 248)) := vOk_in fun ρ η h => by
  obtain ⟨f0, f1, f2, f3, f4, f5, f6, f7, f8, f9, f10, f11, f12, f13, f14, f15, f16, f17, f18, f19, f20, f21, f22, f23, f24, f25, f26, _⟩ := h
  exact q_72v_2 (q0 := q0) (n0 := ρ 4) (n1 := ρ 3) (n2 := ρ 2) (n3 := ρ 1) (n4 := ρ 0) (n5 := ρ 5) (n6 := ρ 6) (n7 := ρ 7) (n8 := ρ 8) (n9 := ρ 9) (n10 := ρ 10) (H0 := η 0) (H1 := η 1) (H2 := η 2) (H3 := η 3) f26 f25 f24 f23 f22 f21 f20 f19 f18 f17 f16 f15 f14 f13 f12 f11 f10 f9 f8 f7 f6 f5 f4 f3 f2 f1 f0
theorem q_72v_3 {q0 : Nat} {n0 n1 n2 n3 n4 n5 n6 n7 n8 n9 n10 n11 n12 : Int} {H0 H1 H2 H3 H4 : gH} (f0 : n0 ≤ 2147483647) (f1 : (-2147483648) ≤ n0) (f2 : n1 ≤ 2147483647) (f3 : (-2147483648) ≤ n1) (f4 : n2 ≤ 2147483647) (f5 : (-2147483648) ≤ n2) (f6 : n3 = 30) (f7 : n4 = 30) (f8 : (hLe T0 H0 H1 ∧ hFr s_72v.2.2.2.2 H0 H1 ∧ hWt T0 H1) ∧ (Ab_72v_6 n4 n3 n2 n1 n0 H0 H1 ∧ preb_72v n4 H0) ∧ some q0 = some (mub_72v_6 n4 n3 n2 n1 n0 H0 H1)) (f9 : n5 = 16) (f10 : n0 ≤ n5) (f11 : n6 ≤ 2147483647) (f12 : (-2147483648) ≤ n6) (f13 : n6 = hV H1 (n3).toNat 3) (f14 : n6 = 0) (f15 : n7 ≤ 2147483647) (f16 : (-2147483648) ≤ n7) (f17 : n7 = hV H1 (n3).toNat 2) (f18 : n8 ≤ 1) (f19 : 0 ≤ n8) (f20 : (hLe T0 H1 H2 ∧ hFr s_73v.2.2.2.2 H1 H2 ∧ ((0 : Int) = 0 → H2.length = H1.length) ∧ hWt T0 H2) ∧ postb_73v n8 n7 H1 H2) (f21 : n8 = 0) (f22 : n9 = 46) (f23 : n9 = hV H2 (n3).toNat 10) (f24 : n10 ≤ 2147483647) (f25 : (-2147483648) ≤ n10) (f26 : n10 = hV H2 (n3).toNat 13) (f27 : (hLe T0 H2 H3 ∧ hFr s_201vk740.2.2.2.2 H2 H3 ∧ ((0 : Int) = 0 → H3.length = H2.length) ∧ hWt T0 H3) ∧ postb_201vk740 n9 n10 n2 H2 H3) (f28 : n11 = 47) (f29 : n11 = hV H3 (n3).toNat 11) (f30 : n12 ≤ 2147483647) (f31 : (-2147483648) ≤ n12) (f32 : n12 = hV H3 (n3).toNat 13) (f33 : (hLe T0 H3 H4 ∧ hFr s_201vk740.2.2.2.2 H3 H4 ∧ ((0 : Int) = 0 → H4.length = H3.length) ∧ hWt T0 H4) ∧ postb_201vk740 n11 n12 n1 H3 H4) : postb_72v n4 H0 H4 := by
  have pz := f8.2.1.2
  unfold preb_72v at pz
  have ga := f8.2.1.1
  unfold Ab_72v_6 at ga
  have vz : vwC H1 = vwC H0 := vwC_fr f8.1.2.1 (by decide +kernel)
  obtain ⟨kz, bz, blz, b13, cz, b48, x10, x116, x30, x317, x13, ya, yt⟩ := ga
  have r3 := f13
  rw [f6] at r3
  rw [show ((30 : Int)).toNat = 30 from rfl] at r3
  have r2 := f17
  rw [f6] at r2
  rw [show ((30 : Int)).toNat = 30 from rfl] at r2
  have pc := f20.2
  unfold postb_73v at pc
  have s0 := PF_fr f20.1.1 f20.1.2.1 (by decide +kernel) kz
  have a0 : absC H2 = (absC H1) := s0.1
  have v0 : vwC H2 = vwC H0 := (vwC_fr f20.1.2.1 (by decide +kernel)).trans vz
  have u0 := CU_fr f20.1.1 f20.1.2.1 (by decide +kernel) cz
  have d0 := BI_fr f20.1.1 f20.1.2.1 (by decide +kernel) bz
  have j0 : BLc H2 = BLc H0 := d0.2.trans blz
  have s1 := PF_fr f27.1.1 f27.1.2.1 (by decide +kernel) s0.2.2
  have a1 : absC H3 = (absC H1) := s1.1.trans a0
  have v1 : vwC H3 = vwC H0 := (vwC_fr f27.1.2.1 (by decide +kernel)).trans v0
  have u1 := CU_fr f27.1.1 f27.1.2.1 (by decide +kernel) u0
  have pp1 := f27.2
  unfold postb_201vk740 at pp1
  rw [f22] at pp1
  have d1 := BI_put46 f27.1.1 f27.1.2.1 (by decide +kernel) d0.1 pp1
  have j1 : BLc H3 = BLc H0 := d1.2.1.trans j0
  have s2 := PF_fr f33.1.1 f33.1.2.1 (by decide +kernel) s1.2.2
  have a2 : absC H4 = (absC H1) := s2.1.trans a1
  have v2 : vwC H4 = vwC H0 := (vwC_fr f33.1.2.1 (by decide +kernel)).trans v1
  have u2 := CU_fr f33.1.1 f33.1.2.1 (by decide +kernel) u1
  have pp2 := f33.2
  unfold postb_201vk740 at pp2
  rw [f28] at pp2
  have rp2 := f32
  rw [f6] at rp2
  rw [show ((30 : Int)).toNat = 30 from rfl] at rp2
  rw [rp2] at pp2
  have d2 := BI_put47 f33.1.1 f33.1.2.1 (by decide +kernel) d1.1 pp2
  have j2 : BLc H4 = BLc H0 := d2.2.1.trans j1
  unfold postb_72v
  have t13 : hV H4 30 13 = hV H1 30 13 := (d2.2.2.1).trans ((d1.2.2.1).trans (f20.1.2.1.1 30 13 (by decide +kernel)))
  have t48 : hV H4 48 = hV H1 48 := (d2.2.2.2.1).trans ((d1.2.2.2.1).trans (fRow f20.1.2.1 48 (by decide +kernel)))
  have p13 : hV H3 30 13 = hV H1 30 13 := (d1.2.2.1).trans (f20.1.2.1.1 30 13 (by decide +kernel))
  have s47 := d2.2.2.2.2
  rw [p13, b13] at s47
  have ae : absC H4 = absC H1 := a2
  have fin : ∀ f : Nat, pCues (vwC H0) (BLc H0) f (absC H1) = absC H1 ∧ ∀ t : Int, pTot (vwC H0) (BLc H0) f (absC H1) t = t := by
    intro f
    have kd := kd_at kz
    rw [vz] at kd
    rcases kd with q | q
    · exact ⟨pCues_neg (vwC_ok H0) q, fun t => pTot_neg (vwC_ok H0) q⟩
    · exact ⟨pCues_stop (by rw [q]; omega), fun t => pTot_stop (by rw [q]; omega)⟩
  have t3 : hV H4 30 3 = hV H1 30 3 := (f33.1.2.1.1 30 3 (by decide +kernel)).trans ((f27.1.2.1.1 30 3 (by decide +kernel)).trans (f20.1.2.1.1 30 3 (by decide +kernel)))
  refine ⟨s2.2.2, d2.1, j2, t13.trans b13, u2, t48.trans b48, ?_, fun hf => ?_⟩
  · rw [ae, ← ya, (fin _).1]
  · obtain ⟨w1, w2, w3⟩ := yt (t3.symm.trans hf)
    rw [(fin _).2] at w3
    rw [s47]
    have bb := gB_pos (hV H0 30 13).toNat
    have b16 : n2 * gB (hV H0 30 13).toNat ≤ 16 * gB (hV H0 30 13).toNat := Int.mul_le_mul_of_nonneg_right x116 (by omega)
    refine ⟨w1, ?_, w3⟩
    show n1 ≤ 16 * gB (hV H0 30 13).toNat
    omega
theorem c_72v_6_2 {q0 : Nat} : vOkm T0 (eP e_72v L_72v A_72v mu_72v (some q0)) 1 ([(1201, [11, 12, 3], [3, 4], 0), (20, [12, 1], [3], 13), (90, [12], [], -2147483648), (91, [12], [], 2147483647), (20, [11, 1], [3], 11), (0, [11], [], 47), (1201, [9, 10, 2], [2, 3], 0), (20, [10, 1], [2], 13), (90, [10], [], -2147483648), (91, [10], [], 2147483647), (20, [9, 1], [2], 10), (0, [9], [], 46), (30, [8], [], 0), (1073, [8, 7], [1, 2], 0), (90, [8], [], 0), (91, [8], [], 1), (20, [7, 1], [1], 2), (90, [7], [], -2147483648), (91, [7], [], 2147483647), (30, [6], [], 0), (20, [6, 1], [1], 3), (90, [6], [], -2147483648), (91, [6], [], 2147483647), (45, [4, 5], [], 0), (0, [5], [], 16), (5000, [0, 1, 2, 3, 4], [0, 1], 6), (0, [0], [], 30), (0, [1], [], 30), (90, [2], [], -2147483648), (91, [2], [], 2147483647), (90, [3], [], -2147483648), (91, [3], [], 2147483647), (90, [4], [], -2147483648), (91, [4], [], 2147483647)], (3000, [], [4], 248)) := vOk_in fun ρ η h => by
  obtain ⟨f0, f1, f2, f3, f4, f5, f6, f7, f8, f9, f10, f11, f12, f13, f14, f15, f16, f17, f18, f19, f20, f21, f22, f23, f24, f25, f26, f27, f28, f29, f30, f31, f32, f33, _⟩ := h
  exact q_72v_3 (q0 := q0) (n0 := ρ 4) (n1 := ρ 3) (n2 := ρ 2) (n3 := ρ 1) (n4 := ρ 0) (n5 := ρ 5) (n6 := ρ 6) (n7 := ρ 7) (n8 := ρ 8) (n9 := ρ 9) (n10 := ρ 10) (n11 := ρ 11) (n12 := ρ 12) (H0 := η 0) (H1 := η 1) (H2 := η 2) (H3 := η 3) (H4 := η 4) f33 f32 f31 f30 f29 f28 f27 f26 f25 f24 f23 f22 f21 f20 f19 f18 f17 f16 f15 f14 f13 f12 f11 f10 f9 f8 f7 f6 f5 f4 f3 f2 f1 f0
theorem q_72v_4 {q0 : Nat} {n0 n1 n2 n3 n4 n5 n6 n7 n8 n9 : Int} {H0 H1 H2 : gH} (f0 : n0 ≤ 2147483647) (f1 : (-2147483648) ≤ n0) (f2 : n1 ≤ 2147483647) (f3 : (-2147483648) ≤ n1) (f4 : n2 ≤ 2147483647) (f5 : (-2147483648) ≤ n2) (f6 : n3 = 30) (f7 : n4 = 30) (f8 : (hLe T0 H0 H1 ∧ hFr s_72v.2.2.2.2 H0 H1 ∧ hWt T0 H1) ∧ (Ab_72v_6 n4 n3 n2 n1 n0 H0 H1 ∧ preb_72v n4 H0) ∧ some q0 = some (mub_72v_6 n4 n3 n2 n1 n0 H0 H1)) (f9 : n5 = 16) (f10 : n0 ≤ n5) (f11 : n6 ≤ 2147483647) (f12 : (-2147483648) ≤ n6) (f13 : n6 = hV H1 (n3).toNat 3) (f14 : n6 = 0) (f15 : n7 ≤ 2147483647) (f16 : (-2147483648) ≤ n7) (f17 : n7 = hV H1 (n3).toNat 2) (f18 : n8 ≤ 1) (f19 : 0 ≤ n8) (f20 : (hLe T0 H1 H2 ∧ hFr s_73v.2.2.2.2 H1 H2 ∧ ((0 : Int) = 0 → H2.length = H1.length) ∧ hWt T0 H2) ∧ postb_73v n8 n7 H1 H2) (f21 : n8 ≠ 0) (f22 : n9 ≤ 2147483647) (f23 : (-2147483648) ≤ n9) (f24 : n9 = hV H2 (n3).toNat 13) : preb_74v n3 n9 n2 H2 := by
  have pz := f8.2.1.2
  unfold preb_72v at pz
  have ga := f8.2.1.1
  unfold Ab_72v_6 at ga
  have vz : vwC H1 = vwC H0 := vwC_fr f8.1.2.1 (by decide +kernel)
  obtain ⟨kz, bz, blz, b13, cz, b48, x10, x116, x30, x317, x13, ya, yt⟩ := ga
  have r3 := f13
  rw [f6] at r3
  rw [show ((30 : Int)).toNat = 30 from rfl] at r3
  have r2 := f17
  rw [f6] at r2
  rw [show ((30 : Int)).toNat = 30 from rfl] at r2
  have pc := f20.2
  unfold postb_73v at pc
  have s0 := PF_fr f20.1.1 f20.1.2.1 (by decide +kernel) kz
  have a0 : absC H2 = (absC H1) := s0.1
  have v0 : vwC H2 = vwC H0 := (vwC_fr f20.1.2.1 (by decide +kernel)).trans vz
  have u0 := CU_fr f20.1.1 f20.1.2.1 (by decide +kernel) cz
  have d0 := BI_fr f20.1.1 f20.1.2.1 (by decide +kernel) bz
  have j0 : BLc H2 = BLc H0 := d0.2.trans blz
  have y2 := pz.2.1.2.1
  have y3 := pz.2.1.2.2.1
  have rb := f24
  rw [f6] at rb
  rw [show ((30 : Int)).toNat = 30 from rfl] at rb
  have t13 : hV H2 30 13 = hV H1 30 13 := f20.1.2.1.1 30 13 (by decide +kernel)
  unfold preb_74v
  exact ⟨u0, by omega, by omega, by omega, by omega⟩
theorem c_72v_6_3 {q0 : Nat} : vOkm T0 (eP e_72v L_72v A_72v mu_72v (some q0)) 1 ([(20, [9, 1], [2], 13), (90, [9], [], -2147483648), (91, [9], [], 2147483647), (31, [8], [], 0), (1073, [8, 7], [1, 2], 0), (90, [8], [], 0), (91, [8], [], 1), (20, [7, 1], [1], 2), (90, [7], [], -2147483648), (91, [7], [], 2147483647), (30, [6], [], 0), (20, [6, 1], [1], 3), (90, [6], [], -2147483648), (91, [6], [], 2147483647), (45, [4, 5], [], 0), (0, [5], [], 16), (5000, [0, 1, 2, 3, 4], [0, 1], 6), (0, [0], [], 30), (0, [1], [], 30), (90, [2], [], -2147483648), (91, [2], [], 2147483647), (90, [3], [], -2147483648), (91, [3], [], 2147483647), (90, [4], [], -2147483648), (91, [4], [], 2147483647)], (2074, [1, 9, 2], [2], 0)) := vOk_in fun ρ η h => by
  obtain ⟨f0, f1, f2, f3, f4, f5, f6, f7, f8, f9, f10, f11, f12, f13, f14, f15, f16, f17, f18, f19, f20, f21, f22, f23, f24, _⟩ := h
  exact q_72v_4 (q0 := q0) (n0 := ρ 4) (n1 := ρ 3) (n2 := ρ 2) (n3 := ρ 1) (n4 := ρ 0) (n5 := ρ 5) (n6 := ρ 6) (n7 := ρ 7) (n8 := ρ 8) (n9 := ρ 9) (H0 := η 0) (H1 := η 1) (H2 := η 2) f24 f23 f22 f21 f20 f19 f18 f17 f16 f15 f14 f13 f12 f11 f10 f9 f8 f7 f6 f5 f4 f3 f2 f1 f0
theorem q_72v_5 {q0 : Nat} {n0 n1 n2 n3 n4 n5 n6 n7 n8 n9 n10 n11 : Int} {H0 H1 H2 H3 : gH} (f0 : n0 ≤ 2147483647) (f1 : (-2147483648) ≤ n0) (f2 : n1 ≤ 2147483647) (f3 : (-2147483648) ≤ n1) (f4 : n2 ≤ 2147483647) (f5 : (-2147483648) ≤ n2) (f6 : n3 = 30) (f7 : n4 = 30) (f8 : (hLe T0 H0 H1 ∧ hFr s_72v.2.2.2.2 H0 H1 ∧ hWt T0 H1) ∧ (Ab_72v_6 n4 n3 n2 n1 n0 H0 H1 ∧ preb_72v n4 H0) ∧ some q0 = some (mub_72v_6 n4 n3 n2 n1 n0 H0 H1)) (f9 : n5 = 16) (f10 : n0 ≤ n5) (f11 : n6 ≤ 2147483647) (f12 : (-2147483648) ≤ n6) (f13 : n6 = hV H1 (n3).toNat 3) (f14 : n6 = 0) (f15 : n7 ≤ 2147483647) (f16 : (-2147483648) ≤ n7) (f17 : n7 = hV H1 (n3).toNat 2) (f18 : n8 ≤ 1) (f19 : 0 ≤ n8) (f20 : (hLe T0 H1 H2 ∧ hFr s_73v.2.2.2.2 H1 H2 ∧ ((0 : Int) = 0 → H2.length = H1.length) ∧ hWt T0 H2) ∧ postb_73v n8 n7 H1 H2) (f21 : n8 ≠ 0) (f22 : n9 ≤ 2147483647) (f23 : (-2147483648) ≤ n9) (f24 : n9 = hV H2 (n3).toNat 13) (f25 : (hLe T0 H2 H3 ∧ hFr s_74v.2.2.2.2 H2 H3 ∧ ((0 : Int) = 0 → H3.length = H2.length) ∧ hWt T0 H3) ∧ postb_74v n10 n3 n9 n2 H2 H3) (f26 : n10 = -1) (f27 : n11 = 2) : preb_64v n3 n11 H3 := by
  have pz := f8.2.1.2
  unfold preb_72v at pz
  have ga := f8.2.1.1
  unfold Ab_72v_6 at ga
  have vz : vwC H1 = vwC H0 := vwC_fr f8.1.2.1 (by decide +kernel)
  obtain ⟨kz, bz, blz, b13, cz, b48, x10, x116, x30, x317, x13, ya, yt⟩ := ga
  have r3 := f13
  rw [f6] at r3
  rw [show ((30 : Int)).toNat = 30 from rfl] at r3
  have r2 := f17
  rw [f6] at r2
  rw [show ((30 : Int)).toNat = 30 from rfl] at r2
  have pc := f20.2
  unfold postb_73v at pc
  have cq := f25.2
  unfold postb_74v at cq
  have cq2 := cq.2
  have s0 := PF_fr f20.1.1 f20.1.2.1 (by decide +kernel) kz
  have a0 : absC H2 = (absC H1) := s0.1
  have v0 : vwC H2 = vwC H0 := (vwC_fr f20.1.2.1 (by decide +kernel)).trans vz
  have u0 := CU_fr f20.1.1 f20.1.2.1 (by decide +kernel) cz
  have d0 := BI_fr f20.1.1 f20.1.2.1 (by decide +kernel) bz
  have j0 : BLc H2 = BLc H0 := d0.2.trans blz
  have s1 := PF_fr f25.1.1 f25.1.2.1 (by decide +kernel) s0.2.2
  have a1 : absC H3 = (absC H1) := s1.1.trans a0
  have v1 : vwC H3 = vwC H0 := (vwC_fr f25.1.2.1 (by decide +kernel)).trans v0
  have u1 := CU_fr f25.1.1 f25.1.2.1 (by decide +kernel) u0
  have d1 := BI_fr f25.1.1 f25.1.2.1 (by decide +kernel) d0.1
  have j1 : BLc H3 = BLc H0 := d1.2.trans j0
  unfold preb_64v
  exact ⟨s1.2.2, by omega⟩
theorem c_72v_6_4 {q0 : Nat} : vOkm T0 (eP e_72v L_72v A_72v mu_72v (some q0)) 1 ([(0, [11], [], 2), (50, [10], [], 0), (1074, [10, 1, 9, 2], [2, 3], 0), (20, [9, 1], [2], 13), (90, [9], [], -2147483648), (91, [9], [], 2147483647), (31, [8], [], 0), (1073, [8, 7], [1, 2], 0), (90, [8], [], 0), (91, [8], [], 1), (20, [7, 1], [1], 2), (90, [7], [], -2147483648), (91, [7], [], 2147483647), (30, [6], [], 0), (20, [6, 1], [1], 3), (90, [6], [], -2147483648), (91, [6], [], 2147483647), (45, [4, 5], [], 0), (0, [5], [], 16), (5000, [0, 1, 2, 3, 4], [0, 1], 6), (0, [0], [], 30), (0, [1], [], 30), (90, [2], [], -2147483648), (91, [2], [], 2147483647), (90, [3], [], -2147483648), (91, [3], [], 2147483647), (90, [4], [], -2147483648), (91, [4], [], 2147483647)], (2064, [1, 11], [3], 0)) := vOk_in fun ρ η h => by
  obtain ⟨f0, f1, f2, f3, f4, f5, f6, f7, f8, f9, f10, f11, f12, f13, f14, f15, f16, f17, f18, f19, f20, f21, f22, f23, f24, f25, f26, f27, _⟩ := h
  exact q_72v_5 (q0 := q0) (n0 := ρ 4) (n1 := ρ 3) (n2 := ρ 2) (n3 := ρ 1) (n4 := ρ 0) (n5 := ρ 5) (n6 := ρ 6) (n7 := ρ 7) (n8 := ρ 8) (n9 := ρ 9) (n10 := ρ 10) (n11 := ρ 11) (H0 := η 0) (H1 := η 1) (H2 := η 2) (H3 := η 3) f27 f26 f25 f24 f23 f22 f21 f20 f19 f18 f17 f16 f15 f14 f13 f12 f11 f10 f9 f8 f7 f6 f5 f4 f3 f2 f1 f0
theorem q_72v_6 {q0 : Nat} {n0 n1 n2 n3 n4 n5 n6 n7 n8 n9 n10 n11 n12 : Int} {H0 H1 H2 H3 H4 : gH} (f0 : n0 ≤ 2147483647) (f1 : (-2147483648) ≤ n0) (f2 : n1 ≤ 2147483647) (f3 : (-2147483648) ≤ n1) (f4 : n2 ≤ 2147483647) (f5 : (-2147483648) ≤ n2) (f6 : n3 = 30) (f7 : n4 = 30) (f8 : (hLe T0 H0 H1 ∧ hFr s_72v.2.2.2.2 H0 H1 ∧ hWt T0 H1) ∧ (Ab_72v_6 n4 n3 n2 n1 n0 H0 H1 ∧ preb_72v n4 H0) ∧ some q0 = some (mub_72v_6 n4 n3 n2 n1 n0 H0 H1)) (f9 : n5 = 16) (f10 : n0 ≤ n5) (f11 : n6 ≤ 2147483647) (f12 : (-2147483648) ≤ n6) (f13 : n6 = hV H1 (n3).toNat 3) (f14 : n6 = 0) (f15 : n7 ≤ 2147483647) (f16 : (-2147483648) ≤ n7) (f17 : n7 = hV H1 (n3).toNat 2) (f18 : n8 ≤ 1) (f19 : 0 ≤ n8) (f20 : (hLe T0 H1 H2 ∧ hFr s_73v.2.2.2.2 H1 H2 ∧ ((0 : Int) = 0 → H2.length = H1.length) ∧ hWt T0 H2) ∧ postb_73v n8 n7 H1 H2) (f21 : n8 ≠ 0) (f22 : n9 ≤ 2147483647) (f23 : (-2147483648) ≤ n9) (f24 : n9 = hV H2 (n3).toNat 13) (f25 : (hLe T0 H2 H3 ∧ hFr s_74v.2.2.2.2 H2 H3 ∧ ((0 : Int) = 0 → H3.length = H2.length) ∧ hWt T0 H3) ∧ postb_74v n10 n3 n9 n2 H2 H3) (f26 : n10 = -1) (f27 : n11 = 2) (f28 : (hLe T0 H3 H4 ∧ hFr s_64v.2.2.2.2 H3 H4 ∧ ((0 : Int) = 0 → H4.length = H3.length) ∧ hWt T0 H4) ∧ postb_64v n3 n11 H3 H4) (f29 : n12 = w32 (n0 + 1)) : Ab_72v_6 n4 n3 n2 n1 n12 H0 H4 ∧ ∀ q, some q0 = some q → mub_72v_6 n4 n3 n2 n1 n12 H0 H4 < q := by
  have pz := f8.2.1.2
  unfold preb_72v at pz
  have ga := f8.2.1.1
  unfold Ab_72v_6 at ga
  have vz : vwC H1 = vwC H0 := vwC_fr f8.1.2.1 (by decide +kernel)
  obtain ⟨kz, bz, blz, b13, cz, b48, x10, x116, x30, x317, x13, ya, yt⟩ := ga
  have r3 := f13
  rw [f6] at r3
  rw [show ((30 : Int)).toNat = 30 from rfl] at r3
  have r2 := f17
  rw [f6] at r2
  rw [show ((30 : Int)).toNat = 30 from rfl] at r2
  have pc := f20.2
  unfold postb_73v at pc
  have cq := f25.2
  unfold postb_74v at cq
  have cq2 := cq.2
  have s0 := PF_fr f20.1.1 f20.1.2.1 (by decide +kernel) kz
  have a0 : absC H2 = (absC H1) := s0.1
  have v0 : vwC H2 = vwC H0 := (vwC_fr f20.1.2.1 (by decide +kernel)).trans vz
  have u0 := CU_fr f20.1.1 f20.1.2.1 (by decide +kernel) cz
  have d0 := BI_fr f20.1.1 f20.1.2.1 (by decide +kernel) bz
  have j0 : BLc H2 = BLc H0 := d0.2.trans blz
  have s1 := PF_fr f25.1.1 f25.1.2.1 (by decide +kernel) s0.2.2
  have a1 : absC H3 = (absC H1) := s1.1.trans a0
  have v1 : vwC H3 = vwC H0 := (vwC_fr f25.1.2.1 (by decide +kernel)).trans v0
  have u1 := CU_fr f25.1.1 f25.1.2.1 (by decide +kernel) u0
  have d1 := BI_fr f25.1.1 f25.1.2.1 (by decide +kernel) d0.1
  have j1 : BLc H3 = BLc H0 := d1.2.trans j0
  have c2 := f28.2
  unfold postb_64v at c2
  try rw [f27] at c2
  rw [v1] at c2
  rw [a1] at c2
  have a2 : absC H4 = (pfail (vwC H0) 2 (absC H1)) := c2.2
  have v2 : vwC H4 = vwC H0 := (vwC_fr f28.1.2.1 (by decide +kernel)).trans v1
  have u2 := CU_fr f28.1.1 f28.1.2.1 (by decide +kernel) u1
  have d2 := BI_fr f28.1.1 f28.1.2.1 (by decide +kernel) d1.1
  have j2 : BLc H4 = BLc H0 := d2.2.trans j1
  have y2 := pz.2.1.2.1
  have y3 := pz.2.1.2.2.1
  have wq29 := f29
  unfold w32 at wq29
  have g5 := Option.some.inj f8.2.2
  unfold mub_72v_6 at g5
  unfold Ab_72v_6 mub_72v_6
  have t13 : hV H4 30 13 = hV H1 30 13 := (f28.1.2.1.1 30 13 (by decide +kernel)).trans ((f25.1.2.1.1 30 13 (by decide +kernel)).trans (f20.1.2.1.1 30 13 (by decide +kernel)))
  have t48 : hV H4 48 = hV H1 48 := (fRow f28.1.2.1 48 (by decide +kernel)).trans ((fRow f25.1.2.1 48 (by decide +kernel)).trans (fRow f20.1.2.1 48 (by decide +kernel)))
  have hk : (vwC H0).1 (absC H1).1 = hV H1 30 2 := by
    have u := (kd_at kz).resolve_left (by have := absC_pos kz (by omega); omega)
    rw [vz] at u
    exact u
  have hn : (absC H4).1 < 0 := by
    rw [a2]
    exact pfail_lt pz.1 (by decide)
  have ff := fault_of c2.1 hn
  have x16 : n2 = 16 := by
    rcases Int.lt_or_le n2 16 with w | w
    · have := cq.1 w
      omega
    · omega
  refine ⟨⟨c2.1, d2.1, j2, t13.trans b13, u2, t48.trans b48, by omega, by omega, by omega, by omega, fun w => absurd w ff, ?_, fun w => absurd w ff⟩, fun q hq => ?_⟩
  · rw [← ya, show (n2).toNat = 16 by omega]
    (try rw [show (n2).toNat = 16 by omega])
    rw [a2]
    rw [Nat.sub_self, pCues_full (p := absC H1) (by rw [hk]; omega)]
    exact pCues_neg (vwC_ok H0) (pfail_lt pz.1 (f := 2) (by decide))
  · have g6 := Option.some.inj hq
    subst g6
    first
    | omega
    | lia
theorem c_72v_6_5 {q0 : Nat} : vOkm T0 (eP e_72v L_72v A_72v mu_72v (some q0)) 1 ([(10, [12, 4], [], 1), (1064, [1, 11], [3, 4], 0), (0, [11], [], 2), (50, [10], [], 0), (1074, [10, 1, 9, 2], [2, 3], 0), (20, [9, 1], [2], 13), (90, [9], [], -2147483648), (91, [9], [], 2147483647), (31, [8], [], 0), (1073, [8, 7], [1, 2], 0), (90, [8], [], 0), (91, [8], [], 1), (20, [7, 1], [1], 2), (90, [7], [], -2147483648), (91, [7], [], 2147483647), (30, [6], [], 0), (20, [6, 1], [1], 3), (90, [6], [], -2147483648), (91, [6], [], 2147483647), (45, [4, 5], [], 0), (0, [5], [], 16), (5000, [0, 1, 2, 3, 4], [0, 1], 6), (0, [0], [], 30), (0, [1], [], 30), (90, [2], [], -2147483648), (91, [2], [], 2147483647), (90, [3], [], -2147483648), (91, [3], [], 2147483647), (90, [4], [], -2147483648), (91, [4], [], 2147483647)], (4000, [1, 2, 3, 12], [4], 6)) := vOk_in fun ρ η h => by
  obtain ⟨f0, f1, f2, f3, f4, f5, f6, f7, f8, f9, f10, f11, f12, f13, f14, f15, f16, f17, f18, f19, f20, f21, f22, f23, f24, f25, f26, f27, f28, f29, _⟩ := h
  exact q_72v_6 (q0 := q0) (n0 := ρ 4) (n1 := ρ 3) (n2 := ρ 2) (n3 := ρ 1) (n4 := ρ 0) (n5 := ρ 5) (n6 := ρ 6) (n7 := ρ 7) (n8 := ρ 8) (n9 := ρ 9) (n10 := ρ 10) (n11 := ρ 11) (n12 := ρ 12) (H0 := η 0) (H1 := η 1) (H2 := η 2) (H3 := η 3) (H4 := η 4) f29 f28 f27 f26 f25 f24 f23 f22 f21 f20 f19 f18 f17 f16 f15 f14 f13 f12 f11 f10 f9 f8 f7 f6 f5 f4 f3 f2 f1 f0
theorem q_72v_7 {q0 : Nat} {n0 n1 n2 n3 n4 n5 n6 n7 n8 n9 n10 n11 n12 n13 n14 n15 n16 : Int} {H0 H1 H2 H3 H4 : gH} (f0 : n0 ≤ 2147483647) (f1 : (-2147483648) ≤ n0) (f2 : n1 ≤ 2147483647) (f3 : (-2147483648) ≤ n1) (f4 : n2 ≤ 2147483647) (f5 : (-2147483648) ≤ n2) (f6 : n3 = 30) (f7 : n4 = 30) (f8 : (hLe T0 H0 H1 ∧ hFr s_72v.2.2.2.2 H0 H1 ∧ hWt T0 H1) ∧ (Ab_72v_6 n4 n3 n2 n1 n0 H0 H1 ∧ preb_72v n4 H0) ∧ some q0 = some (mub_72v_6 n4 n3 n2 n1 n0 H0 H1)) (f9 : n5 = 16) (f10 : n0 ≤ n5) (f11 : n6 ≤ 2147483647) (f12 : (-2147483648) ≤ n6) (f13 : n6 = hV H1 (n3).toNat 3) (f14 : n6 = 0) (f15 : n7 ≤ 2147483647) (f16 : (-2147483648) ≤ n7) (f17 : n7 = hV H1 (n3).toNat 2) (f18 : n8 ≤ 1) (f19 : 0 ≤ n8) (f20 : (hLe T0 H1 H2 ∧ hFr s_73v.2.2.2.2 H1 H2 ∧ ((0 : Int) = 0 → H2.length = H1.length) ∧ hWt T0 H2) ∧ postb_73v n8 n7 H1 H2) (f21 : n8 ≠ 0) (f22 : n9 ≤ 2147483647) (f23 : (-2147483648) ≤ n9) (f24 : n9 = hV H2 (n3).toNat 13) (f25 : (hLe T0 H2 H3 ∧ hFr s_74v.2.2.2.2 H2 H3 ∧ ((0 : Int) = 0 → H3.length = H2.length) ∧ hWt T0 H3) ∧ postb_74v n10 n3 n9 n2 H2 H3) (f26 : 0 ≤ n10) (f27 : n11 ≤ 2147483647) (f28 : (-2147483648) ≤ n11) (f29 : n11 = hV H3 (n3).toNat 2) (f30 : n12 = 20) (f31 : n13 = w32 (n11 - n12)) (f32 : n14 = 31) (f33 : n14 = hV H3 (n3).toNat 0) (f34 : n15 ≤ 2147483647) (f35 : (-2147483648) ≤ n15) (f36 : n15 = hV H3 (n3).toNat 1) (f37 : n16 ≤ 2147483647) (f38 : (-2147483648) ≤ n16) (f39 : (hLe T0 H3 H4 ∧ hFr s_124.2.2.2.2 H3 H4 ∧ ((0 : Int) = 0 → H4.length = H3.length) ∧ hWt T0 H4) ∧ True) : preb_24v n10 n13 n16 H4 := by
  have pz := f8.2.1.2
  unfold preb_72v at pz
  have ga := f8.2.1.1
  unfold Ab_72v_6 at ga
  have vz : vwC H1 = vwC H0 := vwC_fr f8.1.2.1 (by decide +kernel)
  obtain ⟨kz, bz, blz, b13, cz, b48, x10, x116, x30, x317, x13, ya, yt⟩ := ga
  have r3 := f13
  rw [f6] at r3
  rw [show ((30 : Int)).toNat = 30 from rfl] at r3
  have r2 := f17
  rw [f6] at r2
  rw [show ((30 : Int)).toNat = 30 from rfl] at r2
  have pc := f20.2
  unfold postb_73v at pc
  have cq := f25.2
  unfold postb_74v at cq
  have cq2 := cq.2
  have ck_0 := (cq.1 (by omega)).2
  have ck_1 : hK H4 (n10).toNat = 1 := kLe f39.1.1 ck_0 rfl
  have s0 := PF_fr f20.1.1 f20.1.2.1 (by decide +kernel) kz
  have a0 : absC H2 = (absC H1) := s0.1
  have v0 : vwC H2 = vwC H0 := (vwC_fr f20.1.2.1 (by decide +kernel)).trans vz
  have u0 := CU_fr f20.1.1 f20.1.2.1 (by decide +kernel) cz
  have d0 := BI_fr f20.1.1 f20.1.2.1 (by decide +kernel) bz
  have j0 : BLc H2 = BLc H0 := d0.2.trans blz
  have s1 := PF_fr f25.1.1 f25.1.2.1 (by decide +kernel) s0.2.2
  have a1 : absC H3 = (absC H1) := s1.1.trans a0
  have v1 : vwC H3 = vwC H0 := (vwC_fr f25.1.2.1 (by decide +kernel)).trans v0
  have u1 := CU_fr f25.1.1 f25.1.2.1 (by decide +kernel) u0
  have d1 := BI_fr f25.1.1 f25.1.2.1 (by decide +kernel) d0.1
  have j1 : BLc H3 = BLc H0 := d1.2.trans j0
  have s2 := PF_fr f39.1.1 f39.1.2.1 (by decide +kernel) s1.2.2
  have a2 : absC H4 = (absC H1) := s2.1.trans a1
  have v2 : vwC H4 = vwC H0 := (vwC_fr f39.1.2.1 (by decide +kernel)).trans v1
  have u2 := CU_fr f39.1.1 f39.1.2.1 (by decide +kernel) u1
  have d2 := BI_fr f39.1.1 f39.1.2.1 (by decide +kernel) d1.1
  have j2 : BLc H4 = BLc H0 := d2.2.trans j1
  unfold preb_24v
  exact ⟨ck_1, by omega⟩
theorem c_72v_6_6 {q0 : Nat} : vOkm T0 (eP e_72v L_72v A_72v mu_72v (some q0)) 1 ([(1124, [16, 14, 15], [3, 4], 0), (90, [16], [], -2147483648), (91, [16], [], 2147483647), (20, [15, 1], [3], 1), (90, [15], [], -2147483648), (91, [15], [], 2147483647), (20, [14, 1], [3], 0), (0, [14], [], 31), (2, [13, 11, 12], [], 0), (0, [12], [], 20), (20, [11, 1], [3], 2), (90, [11], [], -2147483648), (91, [11], [], 2147483647), (51, [10], [], 0), (1074, [10, 1, 9, 2], [2, 3], 0), (20, [9, 1], [2], 13), (90, [9], [], -2147483648), (91, [9], [], 2147483647), (31, [8], [], 0), (1073, [8, 7], [1, 2], 0), (90, [8], [], 0), (91, [8], [], 1), (20, [7, 1], [1], 2), (90, [7], [], -2147483648), (91, [7], [], 2147483647), (30, [6], [], 0), (20, [6, 1], [1], 3), (90, [6], [], -2147483648), (91, [6], [], 2147483647), (45, [4, 5], [], 0), (0, [5], [], 16), (5000, [0, 1, 2, 3, 4], [0, 1], 6), (0, [0], [], 30), (0, [1], [], 30), (90, [2], [], -2147483648), (91, [2], [], 2147483647), (90, [3], [], -2147483648), (91, [3], [], 2147483647), (90, [4], [], -2147483648), (91, [4], [], 2147483647)], (2024, [10, 13, 16], [4], 0)) := vOk_in fun ρ η h => by
  obtain ⟨f0, f1, f2, f3, f4, f5, f6, f7, f8, f9, f10, f11, f12, f13, f14, f15, f16, f17, f18, f19, f20, f21, f22, f23, f24, f25, f26, f27, f28, f29, f30, f31, f32, f33, f34, f35, f36, f37, f38, f39, _⟩ := h
  exact q_72v_7 (q0 := q0) (n0 := ρ 4) (n1 := ρ 3) (n2 := ρ 2) (n3 := ρ 1) (n4 := ρ 0) (n5 := ρ 5) (n6 := ρ 6) (n7 := ρ 7) (n8 := ρ 8) (n9 := ρ 9) (n10 := ρ 10) (n11 := ρ 11) (n12 := ρ 12) (n13 := ρ 13) (n14 := ρ 14) (n15 := ρ 15) (n16 := ρ 16) (H0 := η 0) (H1 := η 1) (H2 := η 2) (H3 := η 3) (H4 := η 4) f39 f38 f37 f36 f35 f34 f33 f32 f31 f30 f29 f28 f27 f26 f25 f24 f23 f22 f21 f20 f19 f18 f17 f16 f15 f14 f13 f12 f11 f10 f9 f8 f7 f6 f5 f4 f3 f2 f1 f0
theorem q_72v_8 {q0 : Nat} {n0 n1 n2 n3 n4 n5 n6 n7 n8 n9 n10 n11 n12 n13 n14 n15 n16 n17 : Int} {H0 H1 H2 H3 H4 H5 : gH} (f0 : n0 ≤ 2147483647) (f1 : (-2147483648) ≤ n0) (f2 : n1 ≤ 2147483647) (f3 : (-2147483648) ≤ n1) (f4 : n2 ≤ 2147483647) (f5 : (-2147483648) ≤ n2) (f6 : n3 = 30) (f7 : n4 = 30) (f8 : (hLe T0 H0 H1 ∧ hFr s_72v.2.2.2.2 H0 H1 ∧ hWt T0 H1) ∧ (Ab_72v_6 n4 n3 n2 n1 n0 H0 H1 ∧ preb_72v n4 H0) ∧ some q0 = some (mub_72v_6 n4 n3 n2 n1 n0 H0 H1)) (f9 : n5 = 16) (f10 : n0 ≤ n5) (f11 : n6 ≤ 2147483647) (f12 : (-2147483648) ≤ n6) (f13 : n6 = hV H1 (n3).toNat 3) (f14 : n6 = 0) (f15 : n7 ≤ 2147483647) (f16 : (-2147483648) ≤ n7) (f17 : n7 = hV H1 (n3).toNat 2) (f18 : n8 ≤ 1) (f19 : 0 ≤ n8) (f20 : (hLe T0 H1 H2 ∧ hFr s_73v.2.2.2.2 H1 H2 ∧ ((0 : Int) = 0 → H2.length = H1.length) ∧ hWt T0 H2) ∧ postb_73v n8 n7 H1 H2) (f21 : n8 ≠ 0) (f22 : n9 ≤ 2147483647) (f23 : (-2147483648) ≤ n9) (f24 : n9 = hV H2 (n3).toNat 13) (f25 : (hLe T0 H2 H3 ∧ hFr s_74v.2.2.2.2 H2 H3 ∧ ((0 : Int) = 0 → H3.length = H2.length) ∧ hWt T0 H3) ∧ postb_74v n10 n3 n9 n2 H2 H3) (f26 : 0 ≤ n10) (f27 : n11 ≤ 2147483647) (f28 : (-2147483648) ≤ n11) (f29 : n11 = hV H3 (n3).toNat 2) (f30 : n12 = 20) (f31 : n13 = w32 (n11 - n12)) (f32 : n14 = 31) (f33 : n14 = hV H3 (n3).toNat 0) (f34 : n15 ≤ 2147483647) (f35 : (-2147483648) ≤ n15) (f36 : n15 = hV H3 (n3).toNat 1) (f37 : n16 ≤ 2147483647) (f38 : (-2147483648) ≤ n16) (f39 : (hLe T0 H3 H4 ∧ hFr s_124.2.2.2.2 H3 H4 ∧ ((0 : Int) = 0 → H4.length = H3.length) ∧ hWt T0 H4) ∧ True) (f40 : (hLe T0 H4 H5 ∧ hFr s_24v.2.2.2.2 H4 H5 ∧ ((0 : Int) = 0 → H5.length = H4.length) ∧ hWt T0 H5) ∧ postb_24v n10 n13 n16 H4 H5) (f41 : n17 ≤ 2147483647) (f42 : (-2147483648) ≤ n17) (f43 : n17 = hV H5 (n3).toNat 2) : preb_66v n3 n17 H5 := by
  have pz := f8.2.1.2
  unfold preb_72v at pz
  have ga := f8.2.1.1
  unfold Ab_72v_6 at ga
  have vz : vwC H1 = vwC H0 := vwC_fr f8.1.2.1 (by decide +kernel)
  obtain ⟨kz, bz, blz, b13, cz, b48, x10, x116, x30, x317, x13, ya, yt⟩ := ga
  have r3 := f13
  rw [f6] at r3
  rw [show ((30 : Int)).toNat = 30 from rfl] at r3
  have r2 := f17
  rw [f6] at r2
  rw [show ((30 : Int)).toNat = 30 from rfl] at r2
  have pc := f20.2
  unfold postb_73v at pc
  have cq := f25.2
  unfold postb_74v at cq
  have cq2 := cq.2
  have ck_0 := (cq.1 (by omega)).2
  have ck_1 : hK H4 (n10).toNat = 1 := kLe f39.1.1 ck_0 rfl
  have ck_2 : hK H5 (n10).toNat = 1 := kLe f40.1.1 ck_1 rfl
  have s0 := PF_fr f20.1.1 f20.1.2.1 (by decide +kernel) kz
  have a0 : absC H2 = (absC H1) := s0.1
  have v0 : vwC H2 = vwC H0 := (vwC_fr f20.1.2.1 (by decide +kernel)).trans vz
  have u0 := CU_fr f20.1.1 f20.1.2.1 (by decide +kernel) cz
  have d0 := BI_fr f20.1.1 f20.1.2.1 (by decide +kernel) bz
  have j0 : BLc H2 = BLc H0 := d0.2.trans blz
  have s1 := PF_fr f25.1.1 f25.1.2.1 (by decide +kernel) s0.2.2
  have a1 : absC H3 = (absC H1) := s1.1.trans a0
  have v1 : vwC H3 = vwC H0 := (vwC_fr f25.1.2.1 (by decide +kernel)).trans v0
  have u1 := CU_fr f25.1.1 f25.1.2.1 (by decide +kernel) u0
  have d1 := BI_fr f25.1.1 f25.1.2.1 (by decide +kernel) d0.1
  have j1 : BLc H3 = BLc H0 := d1.2.trans j0
  have s2 := PF_fr f39.1.1 f39.1.2.1 (by decide +kernel) s1.2.2
  have a2 : absC H4 = (absC H1) := s2.1.trans a1
  have v2 : vwC H4 = vwC H0 := (vwC_fr f39.1.2.1 (by decide +kernel)).trans v1
  have u2 := CU_fr f39.1.1 f39.1.2.1 (by decide +kernel) u1
  have d2 := BI_fr f39.1.1 f39.1.2.1 (by decide +kernel) d1.1
  have j2 : BLc H4 = BLc H0 := d2.2.trans j1
  have s3 := PF_fr f40.1.1 f40.1.2.1 (by decide +kernel) s2.2.2
  have a3 : absC H5 = (absC H1) := s3.1.trans a2
  have v3 : vwC H5 = vwC H0 := (vwC_fr f40.1.2.1 (by decide +kernel)).trans v2
  have u3 := CU_fr f40.1.1 f40.1.2.1 (by decide +kernel) u2
  have d3 := BI_fr f40.1.1 f40.1.2.1 (by decide +kernel) d2.1
  have j3 : BLc H5 = BLc H0 := d3.2.trans j2
  have rt := f43
  rw [f6] at rt
  rw [show ((30 : Int)).toNat = 30 from rfl] at rt
  have t2 : hV H5 30 2 = hV H1 30 2 := (f40.1.2.1.1 30 2 (by decide +kernel)).trans ((f39.1.2.1.1 30 2 (by decide +kernel)).trans ((f25.1.2.1.1 30 2 (by decide +kernel)).trans (f20.1.2.1.1 30 2 (by decide +kernel))))
  unfold preb_66v
  exact ⟨s3.2.2, .inl (by omega)⟩
theorem c_72v_6_7 {q0 : Nat} : vOkm T0 (eP e_72v L_72v A_72v mu_72v (some q0)) 1 ([(20, [17, 1], [5], 2), (90, [17], [], -2147483648), (91, [17], [], 2147483647), (1024, [10, 13, 16], [4, 5], 0), (1124, [16, 14, 15], [3, 4], 0), (90, [16], [], -2147483648), (91, [16], [], 2147483647), (20, [15, 1], [3], 1), (90, [15], [], -2147483648), (91, [15], [], 2147483647), (20, [14, 1], [3], 0), (0, [14], [], 31), (2, [13, 11, 12], [], 0), (0, [12], [], 20), (20, [11, 1], [3], 2), (90, [11], [], -2147483648), (91, [11], [], 2147483647), (51, [10], [], 0), (1074, [10, 1, 9, 2], [2, 3], 0), (20, [9, 1], [2], 13), (90, [9], [], -2147483648), (91, [9], [], 2147483647), (31, [8], [], 0), (1073, [8, 7], [1, 2], 0), (90, [8], [], 0), (91, [8], [], 1), (20, [7, 1], [1], 2), (90, [7], [], -2147483648), (91, [7], [], 2147483647), (30, [6], [], 0), (20, [6, 1], [1], 3), (90, [6], [], -2147483648), (91, [6], [], 2147483647), (45, [4, 5], [], 0), (0, [5], [], 16), (5000, [0, 1, 2, 3, 4], [0, 1], 6), (0, [0], [], 30), (0, [1], [], 30), (90, [2], [], -2147483648), (91, [2], [], 2147483647), (90, [3], [], -2147483648), (91, [3], [], 2147483647), (90, [4], [], -2147483648), (91, [4], [], 2147483647)], (2066, [1, 17], [5], 0)) := vOk_in fun ρ η h => by
  obtain ⟨f0, f1, f2, f3, f4, f5, f6, f7, f8, f9, f10, f11, f12, f13, f14, f15, f16, f17, f18, f19, f20, f21, f22, f23, f24, f25, f26, f27, f28, f29, f30, f31, f32, f33, f34, f35, f36, f37, f38, f39, f40, f41, f42, f43, _⟩ := h
  exact q_72v_8 (q0 := q0) (n0 := ρ 4) (n1 := ρ 3) (n2 := ρ 2) (n3 := ρ 1) (n4 := ρ 0) (n5 := ρ 5) (n6 := ρ 6) (n7 := ρ 7) (n8 := ρ 8) (n9 := ρ 9) (n10 := ρ 10) (n11 := ρ 11) (n12 := ρ 12) (n13 := ρ 13) (n14 := ρ 14) (n15 := ρ 15) (n16 := ρ 16) (n17 := ρ 17) (H0 := η 0) (H1 := η 1) (H2 := η 2) (H3 := η 3) (H4 := η 4) (H5 := η 5) f43 f42 f41 f40 f39 f38 f37 f36 f35 f34 f33 f32 f31 f30 f29 f28 f27 f26 f25 f24 f23 f22 f21 f20 f19 f18 f17 f16 f15 f14 f13 f12 f11 f10 f9 f8 f7 f6 f5 f4 f3 f2 f1 f0
theorem q_72v_9 {q0 : Nat} {n0 n1 n2 n3 n4 n5 n6 n7 n8 n9 n10 n11 n12 n13 n14 n15 n16 n17 n18 : Int} {H0 H1 H2 H3 H4 H5 H6 : gH} (f0 : n0 ≤ 2147483647) (f1 : (-2147483648) ≤ n0) (f2 : n1 ≤ 2147483647) (f3 : (-2147483648) ≤ n1) (f4 : n2 ≤ 2147483647) (f5 : (-2147483648) ≤ n2) (f6 : n3 = 30) (f7 : n4 = 30) (f8 : (hLe T0 H0 H1 ∧ hFr s_72v.2.2.2.2 H0 H1 ∧ hWt T0 H1) ∧ (Ab_72v_6 n4 n3 n2 n1 n0 H0 H1 ∧ preb_72v n4 H0) ∧ some q0 = some (mub_72v_6 n4 n3 n2 n1 n0 H0 H1)) (f9 : n5 = 16) (f10 : n0 ≤ n5) (f11 : n6 ≤ 2147483647) (f12 : (-2147483648) ≤ n6) (f13 : n6 = hV H1 (n3).toNat 3) (f14 : n6 = 0) (f15 : n7 ≤ 2147483647) (f16 : (-2147483648) ≤ n7) (f17 : n7 = hV H1 (n3).toNat 2) (f18 : n8 ≤ 1) (f19 : 0 ≤ n8) (f20 : (hLe T0 H1 H2 ∧ hFr s_73v.2.2.2.2 H1 H2 ∧ ((0 : Int) = 0 → H2.length = H1.length) ∧ hWt T0 H2) ∧ postb_73v n8 n7 H1 H2) (f21 : n8 ≠ 0) (f22 : n9 ≤ 2147483647) (f23 : (-2147483648) ≤ n9) (f24 : n9 = hV H2 (n3).toNat 13) (f25 : (hLe T0 H2 H3 ∧ hFr s_74v.2.2.2.2 H2 H3 ∧ ((0 : Int) = 0 → H3.length = H2.length) ∧ hWt T0 H3) ∧ postb_74v n10 n3 n9 n2 H2 H3) (f26 : 0 ≤ n10) (f27 : n11 ≤ 2147483647) (f28 : (-2147483648) ≤ n11) (f29 : n11 = hV H3 (n3).toNat 2) (f30 : n12 = 20) (f31 : n13 = w32 (n11 - n12)) (f32 : n14 = 31) (f33 : n14 = hV H3 (n3).toNat 0) (f34 : n15 ≤ 2147483647) (f35 : (-2147483648) ≤ n15) (f36 : n15 = hV H3 (n3).toNat 1) (f37 : n16 ≤ 2147483647) (f38 : (-2147483648) ≤ n16) (f39 : (hLe T0 H3 H4 ∧ hFr s_124.2.2.2.2 H3 H4 ∧ ((0 : Int) = 0 → H4.length = H3.length) ∧ hWt T0 H4) ∧ True) (f40 : (hLe T0 H4 H5 ∧ hFr s_24v.2.2.2.2 H4 H5 ∧ ((0 : Int) = 0 → H5.length = H4.length) ∧ hWt T0 H5) ∧ postb_24v n10 n13 n16 H4 H5) (f41 : n17 ≤ 2147483647) (f42 : (-2147483648) ≤ n17) (f43 : n17 = hV H5 (n3).toNat 2) (f44 : (hLe T0 H5 H6 ∧ hFr s_66v.2.2.2.2 H5 H6 ∧ ((0 : Int) = 0 → H6.length = H5.length) ∧ hWt T0 H6) ∧ postb_66v n3 n17 H5 H6) (f45 : n18 ≤ 2147483647) (f46 : (-2147483648) ≤ n18) (f47 : hK H6 (n10).toNat = 1) (f48 : n18 = hV H6 (n10).toNat 0) (f49 : n18 < 0) : preb_80v n3 n10 H6 := by
  have pz := f8.2.1.2
  unfold preb_72v at pz
  have ga := f8.2.1.1
  unfold Ab_72v_6 at ga
  have vz : vwC H1 = vwC H0 := vwC_fr f8.1.2.1 (by decide +kernel)
  obtain ⟨kz, bz, blz, b13, cz, b48, x10, x116, x30, x317, x13, ya, yt⟩ := ga
  have r3 := f13
  rw [f6] at r3
  rw [show ((30 : Int)).toNat = 30 from rfl] at r3
  have r2 := f17
  rw [f6] at r2
  rw [show ((30 : Int)).toNat = 30 from rfl] at r2
  have pc := f20.2
  unfold postb_73v at pc
  have cq := f25.2
  unfold postb_74v at cq
  have cq2 := cq.2
  have ck_0 := (cq.1 (by omega)).2
  have ck_1 : hK H4 (n10).toNat = 1 := kLe f39.1.1 ck_0 rfl
  have ck_2 : hK H5 (n10).toNat = 1 := kLe f40.1.1 ck_1 rfl
  have ck_3 : hK H6 (n10).toNat = 1 := kLe f44.1.1 ck_2 rfl
  have s0 := PF_fr f20.1.1 f20.1.2.1 (by decide +kernel) kz
  have a0 : absC H2 = (absC H1) := s0.1
  have v0 : vwC H2 = vwC H0 := (vwC_fr f20.1.2.1 (by decide +kernel)).trans vz
  have u0 := CU_fr f20.1.1 f20.1.2.1 (by decide +kernel) cz
  have d0 := BI_fr f20.1.1 f20.1.2.1 (by decide +kernel) bz
  have j0 : BLc H2 = BLc H0 := d0.2.trans blz
  have s1 := PF_fr f25.1.1 f25.1.2.1 (by decide +kernel) s0.2.2
  have a1 : absC H3 = (absC H1) := s1.1.trans a0
  have v1 : vwC H3 = vwC H0 := (vwC_fr f25.1.2.1 (by decide +kernel)).trans v0
  have u1 := CU_fr f25.1.1 f25.1.2.1 (by decide +kernel) u0
  have d1 := BI_fr f25.1.1 f25.1.2.1 (by decide +kernel) d0.1
  have j1 : BLc H3 = BLc H0 := d1.2.trans j0
  have s2 := PF_fr f39.1.1 f39.1.2.1 (by decide +kernel) s1.2.2
  have a2 : absC H4 = (absC H1) := s2.1.trans a1
  have v2 : vwC H4 = vwC H0 := (vwC_fr f39.1.2.1 (by decide +kernel)).trans v1
  have u2 := CU_fr f39.1.1 f39.1.2.1 (by decide +kernel) u1
  have d2 := BI_fr f39.1.1 f39.1.2.1 (by decide +kernel) d1.1
  have j2 : BLc H4 = BLc H0 := d2.2.trans j1
  have s3 := PF_fr f40.1.1 f40.1.2.1 (by decide +kernel) s2.2.2
  have a3 : absC H5 = (absC H1) := s3.1.trans a2
  have v3 : vwC H5 = vwC H0 := (vwC_fr f40.1.2.1 (by decide +kernel)).trans v2
  have u3 := CU_fr f40.1.1 f40.1.2.1 (by decide +kernel) u2
  have d3 := BI_fr f40.1.1 f40.1.2.1 (by decide +kernel) d2.1
  have j3 : BLc H5 = BLc H0 := d3.2.trans j2
  have c4 := f44.2
  unfold postb_66v at c4
  rw [v3] at c4
  rw [a3] at c4
  have a4 : absC H6 = (ptk (vwC H0) n17 (absC H1)) := c4.2
  have v4 : vwC H6 = vwC H0 := (vwC_fr f44.1.2.1 (by decide +kernel)).trans v3
  have u4 := CU_fr f44.1.1 f44.1.2.1 (by decide +kernel) u3
  have d4 := BI_fr f44.1.1 f44.1.2.1 (by decide +kernel) d3.1
  have j4 : BLc H6 = BLc H0 := d4.2.trans j3
  have pr := f40.2
  unfold postb_24v at pr
  have kd0 : hK H6 (n10).toNat = 1 := kLe f44.1.1 ck_2 rfl
  have t18 : hV H6 (n10).toNat 18 = hV H5 (n10).toNat 18 := f44.1.2.1.2.2 _ 1 ck_2 rfl 18 (by decide +kernel)
  unfold preb_80v
  exact ⟨c4.1, d4.1, kd0, by omega⟩
theorem c_72v_6_8 {q0 : Nat} : vOkm T0 (eP e_72v L_72v A_72v mu_72v (some q0)) 1 ([(66, [18], [], 0), (20, [18, 10], [6], 0), (23, [10], [6], 1), (90, [18], [], -2147483648), (91, [18], [], 2147483647), (1066, [1, 17], [5, 6], 0), (20, [17, 1], [5], 2), (90, [17], [], -2147483648), (91, [17], [], 2147483647), (1024, [10, 13, 16], [4, 5], 0), (1124, [16, 14, 15], [3, 4], 0), (90, [16], [], -2147483648), (91, [16], [], 2147483647), (20, [15, 1], [3], 1), (90, [15], [], -2147483648), (91, [15], [], 2147483647), (20, [14, 1], [3], 0), (0, [14], [], 31), (2, [13, 11, 12], [], 0), (0, [12], [], 20), (20, [11, 1], [3], 2), (90, [11], [], -2147483648), (91, [11], [], 2147483647), (51, [10], [], 0), (1074, [10, 1, 9, 2], [2, 3], 0), (20, [9, 1], [2], 13), (90, [9], [], -2147483648), (91, [9], [], 2147483647), (31, [8], [], 0), (1073, [8, 7], [1, 2], 0), (90, [8], [], 0), (91, [8], [], 1), (20, [7, 1], [1], 2), (90, [7], [], -2147483648), (91, [7], [], 2147483647), (30, [6], [], 0), (20, [6, 1], [1], 3), (90, [6], [], -2147483648), (91, [6], [], 2147483647), (45, [4, 5], [], 0), (0, [5], [], 16), (5000, [0, 1, 2, 3, 4], [0, 1], 6), (0, [0], [], 30), (0, [1], [], 30), (90, [2], [], -2147483648), (91, [2], [], 2147483647), (90, [3], [], -2147483648), (91, [3], [], 2147483647), (90, [4], [], -2147483648), (91, [4], [], 2147483647)], (2080, [1, 10], [6], 0)) := vOk_in fun ρ η h => by
  obtain ⟨f0, f1, f2, f3, f4, f5, f6, f7, f8, f9, f10, f11, f12, f13, f14, f15, f16, f17, f18, f19, f20, f21, f22, f23, f24, f25, f26, f27, f28, f29, f30, f31, f32, f33, f34, f35, f36, f37, f38, f39, f40, f41, f42, f43, f44, f45, f46, f47, f48, f49, _⟩ := h
  exact q_72v_9 (q0 := q0) (n0 := ρ 4) (n1 := ρ 3) (n2 := ρ 2) (n3 := ρ 1) (n4 := ρ 0) (n5 := ρ 5) (n6 := ρ 6) (n7 := ρ 7) (n8 := ρ 8) (n9 := ρ 9) (n10 := ρ 10) (n11 := ρ 11) (n12 := ρ 12) (n13 := ρ 13) (n14 := ρ 14) (n15 := ρ 15) (n16 := ρ 16) (n17 := ρ 17) (n18 := ρ 18) (H0 := η 0) (H1 := η 1) (H2 := η 2) (H3 := η 3) (H4 := η 4) (H5 := η 5) (H6 := η 6) f49 f48 f47 f46 f45 f44 f43 f42 f41 f40 f39 f38 f37 f36 f35 f34 f33 f32 f31 f30 f29 f28 f27 f26 f25 f24 f23 f22 f21 f20 f19 f18 f17 f16 f15 f14 f13 f12 f11 f10 f9 f8 f7 f6 f5 f4 f3 f2 f1 f0
theorem q_72v_10 {q0 : Nat} {n0 n1 n2 n3 n4 n5 n6 n7 n8 n9 n10 n11 n12 n13 n14 n15 n16 n17 n18 n19 : Int} {H0 H1 H2 H3 H4 H5 H6 H7 : gH} (f0 : n0 ≤ 2147483647) (f1 : (-2147483648) ≤ n0) (f2 : n1 ≤ 2147483647) (f3 : (-2147483648) ≤ n1) (f4 : n2 ≤ 2147483647) (f5 : (-2147483648) ≤ n2) (f6 : n3 = 30) (f7 : n4 = 30) (f8 : (hLe T0 H0 H1 ∧ hFr s_72v.2.2.2.2 H0 H1 ∧ hWt T0 H1) ∧ (Ab_72v_6 n4 n3 n2 n1 n0 H0 H1 ∧ preb_72v n4 H0) ∧ some q0 = some (mub_72v_6 n4 n3 n2 n1 n0 H0 H1)) (f9 : n5 = 16) (f10 : n0 ≤ n5) (f11 : n6 ≤ 2147483647) (f12 : (-2147483648) ≤ n6) (f13 : n6 = hV H1 (n3).toNat 3) (f14 : n6 = 0) (f15 : n7 ≤ 2147483647) (f16 : (-2147483648) ≤ n7) (f17 : n7 = hV H1 (n3).toNat 2) (f18 : n8 ≤ 1) (f19 : 0 ≤ n8) (f20 : (hLe T0 H1 H2 ∧ hFr s_73v.2.2.2.2 H1 H2 ∧ ((0 : Int) = 0 → H2.length = H1.length) ∧ hWt T0 H2) ∧ postb_73v n8 n7 H1 H2) (f21 : n8 ≠ 0) (f22 : n9 ≤ 2147483647) (f23 : (-2147483648) ≤ n9) (f24 : n9 = hV H2 (n3).toNat 13) (f25 : (hLe T0 H2 H3 ∧ hFr s_74v.2.2.2.2 H2 H3 ∧ ((0 : Int) = 0 → H3.length = H2.length) ∧ hWt T0 H3) ∧ postb_74v n10 n3 n9 n2 H2 H3) (f26 : 0 ≤ n10) (f27 : n11 ≤ 2147483647) (f28 : (-2147483648) ≤ n11) (f29 : n11 = hV H3 (n3).toNat 2) (f30 : n12 = 20) (f31 : n13 = w32 (n11 - n12)) (f32 : n14 = 31) (f33 : n14 = hV H3 (n3).toNat 0) (f34 : n15 ≤ 2147483647) (f35 : (-2147483648) ≤ n15) (f36 : n15 = hV H3 (n3).toNat 1) (f37 : n16 ≤ 2147483647) (f38 : (-2147483648) ≤ n16) (f39 : (hLe T0 H3 H4 ∧ hFr s_124.2.2.2.2 H3 H4 ∧ ((0 : Int) = 0 → H4.length = H3.length) ∧ hWt T0 H4) ∧ True) (f40 : (hLe T0 H4 H5 ∧ hFr s_24v.2.2.2.2 H4 H5 ∧ ((0 : Int) = 0 → H5.length = H4.length) ∧ hWt T0 H5) ∧ postb_24v n10 n13 n16 H4 H5) (f41 : n17 ≤ 2147483647) (f42 : (-2147483648) ≤ n17) (f43 : n17 = hV H5 (n3).toNat 2) (f44 : (hLe T0 H5 H6 ∧ hFr s_66v.2.2.2.2 H5 H6 ∧ ((0 : Int) = 0 → H6.length = H5.length) ∧ hWt T0 H6) ∧ postb_66v n3 n17 H5 H6) (f45 : n18 ≤ 2147483647) (f46 : (-2147483648) ≤ n18) (f47 : hK H6 (n10).toNat = 1) (f48 : n18 = hV H6 (n10).toNat 0) (f49 : n18 < 0) (f50 : (hLe T0 H6 H7 ∧ hFr s_80v.2.2.2.2 H6 H7 ∧ ((0 : Int) = 0 → H7.length = H6.length) ∧ hWt T0 H7) ∧ postb_80v n3 n10 H6 H7) (f51 : n19 = 4) : preb_66v n3 n19 H7 := by
  have pz := f8.2.1.2
  unfold preb_72v at pz
  have ga := f8.2.1.1
  unfold Ab_72v_6 at ga
  have vz : vwC H1 = vwC H0 := vwC_fr f8.1.2.1 (by decide +kernel)
  obtain ⟨kz, bz, blz, b13, cz, b48, x10, x116, x30, x317, x13, ya, yt⟩ := ga
  have r3 := f13
  rw [f6] at r3
  rw [show ((30 : Int)).toNat = 30 from rfl] at r3
  have r2 := f17
  rw [f6] at r2
  rw [show ((30 : Int)).toNat = 30 from rfl] at r2
  have pc := f20.2
  unfold postb_73v at pc
  have cq := f25.2
  unfold postb_74v at cq
  have cq2 := cq.2
  have ck_0 := (cq.1 (by omega)).2
  have ck_1 : hK H4 (n10).toNat = 1 := kLe f39.1.1 ck_0 rfl
  have ck_2 : hK H5 (n10).toNat = 1 := kLe f40.1.1 ck_1 rfl
  have ck_3 : hK H6 (n10).toNat = 1 := kLe f44.1.1 ck_2 rfl
  have ck_4 : hK H7 (n10).toNat = 1 := kLe f50.1.1 ck_3 rfl
  have s0 := PF_fr f20.1.1 f20.1.2.1 (by decide +kernel) kz
  have a0 : absC H2 = (absC H1) := s0.1
  have v0 : vwC H2 = vwC H0 := (vwC_fr f20.1.2.1 (by decide +kernel)).trans vz
  have u0 := CU_fr f20.1.1 f20.1.2.1 (by decide +kernel) cz
  have d0 := BI_fr f20.1.1 f20.1.2.1 (by decide +kernel) bz
  have j0 : BLc H2 = BLc H0 := d0.2.trans blz
  have s1 := PF_fr f25.1.1 f25.1.2.1 (by decide +kernel) s0.2.2
  have a1 : absC H3 = (absC H1) := s1.1.trans a0
  have v1 : vwC H3 = vwC H0 := (vwC_fr f25.1.2.1 (by decide +kernel)).trans v0
  have u1 := CU_fr f25.1.1 f25.1.2.1 (by decide +kernel) u0
  have d1 := BI_fr f25.1.1 f25.1.2.1 (by decide +kernel) d0.1
  have j1 : BLc H3 = BLc H0 := d1.2.trans j0
  have s2 := PF_fr f39.1.1 f39.1.2.1 (by decide +kernel) s1.2.2
  have a2 : absC H4 = (absC H1) := s2.1.trans a1
  have v2 : vwC H4 = vwC H0 := (vwC_fr f39.1.2.1 (by decide +kernel)).trans v1
  have u2 := CU_fr f39.1.1 f39.1.2.1 (by decide +kernel) u1
  have d2 := BI_fr f39.1.1 f39.1.2.1 (by decide +kernel) d1.1
  have j2 : BLc H4 = BLc H0 := d2.2.trans j1
  have s3 := PF_fr f40.1.1 f40.1.2.1 (by decide +kernel) s2.2.2
  have a3 : absC H5 = (absC H1) := s3.1.trans a2
  have v3 : vwC H5 = vwC H0 := (vwC_fr f40.1.2.1 (by decide +kernel)).trans v2
  have u3 := CU_fr f40.1.1 f40.1.2.1 (by decide +kernel) u2
  have d3 := BI_fr f40.1.1 f40.1.2.1 (by decide +kernel) d2.1
  have j3 : BLc H5 = BLc H0 := d3.2.trans j2
  have c4 := f44.2
  unfold postb_66v at c4
  rw [v3] at c4
  rw [a3] at c4
  have a4 : absC H6 = (ptk (vwC H0) n17 (absC H1)) := c4.2
  have v4 : vwC H6 = vwC H0 := (vwC_fr f44.1.2.1 (by decide +kernel)).trans v3
  have u4 := CU_fr f44.1.1 f44.1.2.1 (by decide +kernel) u3
  have d4 := BI_fr f44.1.1 f44.1.2.1 (by decide +kernel) d3.1
  have j4 : BLc H6 = BLc H0 := d4.2.trans j3
  have c5 := f50.2
  unfold postb_80v at c5
  rw [v4] at c5
  rw [a4] at c5
  rw [j4] at c5
  have a5 : absC H7 = (pUse (vwC H0) (BLc H0) (ptk (vwC H0) n17 (absC H1))) := c5.2.1
  have v5 : vwC H7 = vwC H0 := (vwC_fr f50.1.2.1 (by decide +kernel)).trans v4
  have u5 := CU_fr f50.1.1 f50.1.2.1 (by decide +kernel) u4
  have j5 : BLc H7 = BLc H0 := c5.2.2.2.1
  unfold preb_66v
  exact ⟨c5.1, .inl (by omega)⟩
theorem c_72v_6_9 {q0 : Nat} : vOkm T0 (eP e_72v L_72v A_72v mu_72v (some q0)) 1 ([(0, [19], [], 4), (1080, [1, 10], [6, 7], 0), (66, [18], [], 0), (20, [18, 10], [6], 0), (23, [10], [6], 1), (90, [18], [], -2147483648), (91, [18], [], 2147483647), (1066, [1, 17], [5, 6], 0), (20, [17, 1], [5], 2), (90, [17], [], -2147483648), (91, [17], [], 2147483647), (1024, [10, 13, 16], [4, 5], 0), (1124, [16, 14, 15], [3, 4], 0), (90, [16], [], -2147483648), (91, [16], [], 2147483647), (20, [15, 1], [3], 1), (90, [15], [], -2147483648), (91, [15], [], 2147483647), (20, [14, 1], [3], 0), (0, [14], [], 31), (2, [13, 11, 12], [], 0), (0, [12], [], 20), (20, [11, 1], [3], 2), (90, [11], [], -2147483648), (91, [11], [], 2147483647), (51, [10], [], 0), (1074, [10, 1, 9, 2], [2, 3], 0), (20, [9, 1], [2], 13), (90, [9], [], -2147483648), (91, [9], [], 2147483647), (31, [8], [], 0), (1073, [8, 7], [1, 2], 0), (90, [8], [], 0), (91, [8], [], 1), (20, [7, 1], [1], 2), (90, [7], [], -2147483648), (91, [7], [], 2147483647), (30, [6], [], 0), (20, [6, 1], [1], 3), (90, [6], [], -2147483648), (91, [6], [], 2147483647), (45, [4, 5], [], 0), (0, [5], [], 16), (5000, [0, 1, 2, 3, 4], [0, 1], 6), (0, [0], [], 30), (0, [1], [], 30), (90, [2], [], -2147483648), (91, [2], [], 2147483647), (90, [3], [], -2147483648), (91, [3], [], 2147483647), (90, [4], [], -2147483648), (91, [4], [], 2147483647)], (2066, [1, 19], [7], 0)) := vOk_in fun ρ η h => by
  obtain ⟨f0, f1, f2, f3, f4, f5, f6, f7, f8, f9, f10, f11, f12, f13, f14, f15, f16, f17, f18, f19, f20, f21, f22, f23, f24, f25, f26, f27, f28, f29, f30, f31, f32, f33, f34, f35, f36, f37, f38, f39, f40, f41, f42, f43, f44, f45, f46, f47, f48, f49, f50, f51, _⟩ := h
  exact q_72v_10 (q0 := q0) (n0 := ρ 4) (n1 := ρ 3) (n2 := ρ 2) (n3 := ρ 1) (n4 := ρ 0) (n5 := ρ 5) (n6 := ρ 6) (n7 := ρ 7) (n8 := ρ 8) (n9 := ρ 9) (n10 := ρ 10) (n11 := ρ 11) (n12 := ρ 12) (n13 := ρ 13) (n14 := ρ 14) (n15 := ρ 15) (n16 := ρ 16) (n17 := ρ 17) (n18 := ρ 18) (n19 := ρ 19) (H0 := η 0) (H1 := η 1) (H2 := η 2) (H3 := η 3) (H4 := η 4) (H5 := η 5) (H6 := η 6) (H7 := η 7) f51 f50 f49 f48 f47 f46 f45 f44 f43 f42 f41 f40 f39 f38 f37 f36 f35 f34 f33 f32 f31 f30 f29 f28 f27 f26 f25 f24 f23 f22 f21 f20 f19 f18 f17 f16 f15 f14 f13 f12 f11 f10 f9 f8 f7 f6 f5 f4 f3 f2 f1 f0
theorem q_72v_11 {q0 : Nat} {n0 n1 n2 n3 n4 n5 n6 n7 n8 n9 n10 n11 n12 n13 n14 n15 n16 n17 n18 n19 n20 n21 n22 n23 n24 n25 : Int} {H0 H1 H2 H3 H4 H5 H6 H7 H8 : gH} (f0 : n0 ≤ 2147483647) (f1 : (-2147483648) ≤ n0) (f2 : n1 ≤ 2147483647) (f3 : (-2147483648) ≤ n1) (f4 : n2 ≤ 2147483647) (f5 : (-2147483648) ≤ n2) (f6 : n3 = 30) (f7 : n4 = 30) (f8 : (hLe T0 H0 H1 ∧ hFr s_72v.2.2.2.2 H0 H1 ∧ hWt T0 H1) ∧ (Ab_72v_6 n4 n3 n2 n1 n0 H0 H1 ∧ preb_72v n4 H0) ∧ some q0 = some (mub_72v_6 n4 n3 n2 n1 n0 H0 H1)) (f9 : n5 = 16) (f10 : n0 ≤ n5) (f11 : n6 ≤ 2147483647) (f12 : (-2147483648) ≤ n6) (f13 : n6 = hV H1 (n3).toNat 3) (f14 : n6 = 0) (f15 : n7 ≤ 2147483647) (f16 : (-2147483648) ≤ n7) (f17 : n7 = hV H1 (n3).toNat 2) (f18 : n8 ≤ 1) (f19 : 0 ≤ n8) (f20 : (hLe T0 H1 H2 ∧ hFr s_73v.2.2.2.2 H1 H2 ∧ ((0 : Int) = 0 → H2.length = H1.length) ∧ hWt T0 H2) ∧ postb_73v n8 n7 H1 H2) (f21 : n8 ≠ 0) (f22 : n9 ≤ 2147483647) (f23 : (-2147483648) ≤ n9) (f24 : n9 = hV H2 (n3).toNat 13) (f25 : (hLe T0 H2 H3 ∧ hFr s_74v.2.2.2.2 H2 H3 ∧ ((0 : Int) = 0 → H3.length = H2.length) ∧ hWt T0 H3) ∧ postb_74v n10 n3 n9 n2 H2 H3) (f26 : 0 ≤ n10) (f27 : n11 ≤ 2147483647) (f28 : (-2147483648) ≤ n11) (f29 : n11 = hV H3 (n3).toNat 2) (f30 : n12 = 20) (f31 : n13 = w32 (n11 - n12)) (f32 : n14 = 31) (f33 : n14 = hV H3 (n3).toNat 0) (f34 : n15 ≤ 2147483647) (f35 : (-2147483648) ≤ n15) (f36 : n15 = hV H3 (n3).toNat 1) (f37 : n16 ≤ 2147483647) (f38 : (-2147483648) ≤ n16) (f39 : (hLe T0 H3 H4 ∧ hFr s_124.2.2.2.2 H3 H4 ∧ ((0 : Int) = 0 → H4.length = H3.length) ∧ hWt T0 H4) ∧ True) (f40 : (hLe T0 H4 H5 ∧ hFr s_24v.2.2.2.2 H4 H5 ∧ ((0 : Int) = 0 → H5.length = H4.length) ∧ hWt T0 H5) ∧ postb_24v n10 n13 n16 H4 H5) (f41 : n17 ≤ 2147483647) (f42 : (-2147483648) ≤ n17) (f43 : n17 = hV H5 (n3).toNat 2) (f44 : (hLe T0 H5 H6 ∧ hFr s_66v.2.2.2.2 H5 H6 ∧ ((0 : Int) = 0 → H6.length = H5.length) ∧ hWt T0 H6) ∧ postb_66v n3 n17 H5 H6) (f45 : n18 ≤ 2147483647) (f46 : (-2147483648) ≤ n18) (f47 : hK H6 (n10).toNat = 1) (f48 : n18 = hV H6 (n10).toNat 0) (f49 : n18 < 0) (f50 : (hLe T0 H6 H7 ∧ hFr s_80v.2.2.2.2 H6 H7 ∧ ((0 : Int) = 0 → H7.length = H6.length) ∧ hWt T0 H7) ∧ postb_80v n3 n10 H6 H7) (f51 : n19 = 4) (f52 : (hLe T0 H7 H8 ∧ hFr s_66v.2.2.2.2 H7 H8 ∧ ((0 : Int) = 0 → H8.length = H7.length) ∧ hWt T0 H8) ∧ postb_66v n3 n19 H7 H8) (f53 : n20 = w32 (n2 + 1)) (f54 : n21 ≤ 2147483647) (f55 : (-2147483648) ≤ n21) (f56 : hK H8 (n10).toNat = 1) (f57 : n21 = hV H8 (n10).toNat 0) (f58 : n22 = 5) (f59 : n21 ≠ n22) (f60 : n23 = 1) (f61 : n24 = w32 (n1 + n23)) (f62 : n25 = w32 (n0 + 1)) : Ab_72v_6 n4 n3 n20 n24 n25 H0 H8 ∧ ∀ q, some q0 = some q → mub_72v_6 n4 n3 n20 n24 n25 H0 H8 < q := by
  have pz := f8.2.1.2
  unfold preb_72v at pz
  have ga := f8.2.1.1
  unfold Ab_72v_6 at ga
  have vz : vwC H1 = vwC H0 := vwC_fr f8.1.2.1 (by decide +kernel)
  obtain ⟨kz, bz, blz, b13, cz, b48, x10, x116, x30, x317, x13, ya, yt⟩ := ga
  have r3 := f13
  rw [f6] at r3
  rw [show ((30 : Int)).toNat = 30 from rfl] at r3
  have r2 := f17
  rw [f6] at r2
  rw [show ((30 : Int)).toNat = 30 from rfl] at r2
  have pc := f20.2
  unfold postb_73v at pc
  have cq := f25.2
  unfold postb_74v at cq
  have cq2 := cq.2
  have ck_0 := (cq.1 (by omega)).2
  have ck_1 : hK H4 (n10).toNat = 1 := kLe f39.1.1 ck_0 rfl
  have ck_2 : hK H5 (n10).toNat = 1 := kLe f40.1.1 ck_1 rfl
  have ck_3 : hK H6 (n10).toNat = 1 := kLe f44.1.1 ck_2 rfl
  have ck_4 : hK H7 (n10).toNat = 1 := kLe f50.1.1 ck_3 rfl
  have ck_5 : hK H8 (n10).toNat = 1 := kLe f52.1.1 ck_4 rfl
  have s0 := PF_fr f20.1.1 f20.1.2.1 (by decide +kernel) kz
  have a0 : absC H2 = (absC H1) := s0.1
  have v0 : vwC H2 = vwC H0 := (vwC_fr f20.1.2.1 (by decide +kernel)).trans vz
  have u0 := CU_fr f20.1.1 f20.1.2.1 (by decide +kernel) cz
  have d0 := BI_fr f20.1.1 f20.1.2.1 (by decide +kernel) bz
  have j0 : BLc H2 = BLc H0 := d0.2.trans blz
  have s1 := PF_fr f25.1.1 f25.1.2.1 (by decide +kernel) s0.2.2
  have a1 : absC H3 = (absC H1) := s1.1.trans a0
  have v1 : vwC H3 = vwC H0 := (vwC_fr f25.1.2.1 (by decide +kernel)).trans v0
  have u1 := CU_fr f25.1.1 f25.1.2.1 (by decide +kernel) u0
  have d1 := BI_fr f25.1.1 f25.1.2.1 (by decide +kernel) d0.1
  have j1 : BLc H3 = BLc H0 := d1.2.trans j0
  have s2 := PF_fr f39.1.1 f39.1.2.1 (by decide +kernel) s1.2.2
  have a2 : absC H4 = (absC H1) := s2.1.trans a1
  have v2 : vwC H4 = vwC H0 := (vwC_fr f39.1.2.1 (by decide +kernel)).trans v1
  have u2 := CU_fr f39.1.1 f39.1.2.1 (by decide +kernel) u1
  have d2 := BI_fr f39.1.1 f39.1.2.1 (by decide +kernel) d1.1
  have j2 : BLc H4 = BLc H0 := d2.2.trans j1
  have s3 := PF_fr f40.1.1 f40.1.2.1 (by decide +kernel) s2.2.2
  have a3 : absC H5 = (absC H1) := s3.1.trans a2
  have v3 : vwC H5 = vwC H0 := (vwC_fr f40.1.2.1 (by decide +kernel)).trans v2
  have u3 := CU_fr f40.1.1 f40.1.2.1 (by decide +kernel) u2
  have d3 := BI_fr f40.1.1 f40.1.2.1 (by decide +kernel) d2.1
  have j3 : BLc H5 = BLc H0 := d3.2.trans j2
  have c4 := f44.2
  unfold postb_66v at c4
  rw [v3] at c4
  rw [a3] at c4
  have a4 : absC H6 = (ptk (vwC H0) n17 (absC H1)) := c4.2
  have v4 : vwC H6 = vwC H0 := (vwC_fr f44.1.2.1 (by decide +kernel)).trans v3
  have u4 := CU_fr f44.1.1 f44.1.2.1 (by decide +kernel) u3
  have d4 := BI_fr f44.1.1 f44.1.2.1 (by decide +kernel) d3.1
  have j4 : BLc H6 = BLc H0 := d4.2.trans j3
  have c5 := f50.2
  unfold postb_80v at c5
  rw [v4] at c5
  rw [a4] at c5
  rw [j4] at c5
  have a5 : absC H7 = (pUse (vwC H0) (BLc H0) (ptk (vwC H0) n17 (absC H1))) := c5.2.1
  have v5 : vwC H7 = vwC H0 := (vwC_fr f50.1.2.1 (by decide +kernel)).trans v4
  have u5 := CU_fr f50.1.1 f50.1.2.1 (by decide +kernel) u4
  have j5 : BLc H7 = BLc H0 := c5.2.2.2.1
  have c6 := f52.2
  unfold postb_66v at c6
  try rw [f51] at c6
  rw [v5] at c6
  rw [a5] at c6
  have a6 : absC H8 = (ptk (vwC H0) 4 (pUse (vwC H0) (BLc H0) (ptk (vwC H0) n17 (absC H1)))) := c6.2
  have v6 : vwC H8 = vwC H0 := (vwC_fr f52.1.2.1 (by decide +kernel)).trans v5
  have u6 := CU_fr f52.1.1 f52.1.2.1 (by decide +kernel) u5
  have d6 := BI_fr f52.1.1 f52.1.2.1 (by decide +kernel) c5.2.2.1
  have j6 : BLc H8 = BLc H0 := d6.2.trans j5
  have y2 := pz.2.1.2.1
  have y3 := pz.2.1.2.2.1
  have wq31 := f31
  unfold w32 at wq31
  have wq53 := f53
  unfold w32 at wq53
  have wq61 := f61
  unfold w32 at wq61
  have wq62 := f62
  unfold w32 at wq62
  have g5 := Option.some.inj f8.2.2
  unfold mub_72v_6 at g5
  unfold Ab_72v_6 mub_72v_6
  have t13 : hV H8 30 13 = hV H1 30 13 := (f52.1.2.1.1 30 13 (by decide +kernel)).trans ((f50.1.2.1.1 30 13 (by decide +kernel)).trans ((f44.1.2.1.1 30 13 (by decide +kernel)).trans ((f40.1.2.1.1 30 13 (by decide +kernel)).trans ((f39.1.2.1.1 30 13 (by decide +kernel)).trans ((f25.1.2.1.1 30 13 (by decide +kernel)).trans (f20.1.2.1.1 30 13 (by decide +kernel)))))))
  have t48 : hV H8 48 = hV H1 48 := (fRow f52.1.2.1 48 (by decide +kernel)).trans ((fRow f50.1.2.1 48 (by decide +kernel)).trans ((fRow f44.1.2.1 48 (by decide +kernel)).trans ((fRow f40.1.2.1 48 (by decide +kernel)).trans ((fRow f39.1.2.1 48 (by decide +kernel)).trans ((fRow f25.1.2.1 48 (by decide +kernel)).trans (fRow f20.1.2.1 48 (by decide +kernel)))))))
  have hk : (vwC H0).1 (absC H1).1 = hV H1 30 2 := by
    have u := (kd_at kz).resolve_left (by have := absC_pos kz (by omega); omega)
    rw [vz] at u
    exact u
  have pr := f40.2
  unfold postb_24v at pr
  have ka0_0 : hK H6 (n10).toNat = 1 := kLe f44.1.1 ck_2 rfl
  have kq0 : n18 = hV H5 (n10).toNat 0 := f48.trans (f44.1.2.1.2.2 _ 1 ck_2 rfl 0 (by decide +kernel))
  have ka1_0 : hK H6 (n10).toNat = 1 := kLe f44.1.1 ck_2 rfl
  have ka1_1 : hK H7 (n10).toNat = 1 := kLe f50.1.1 ka1_0 rfl
  have ka1_2 : hK H8 (n10).toNat = 1 := kLe f52.1.1 ka1_1 rfl
  have kq1 : n21 = hV H5 (n10).toNat 0 := f57.trans ((f52.1.2.1.2.2 _ 1 ka1_1 rfl 0 (by decide +kernel)).trans ((f50.1.2.1.2.2 _ 1 ka1_0 rfl 0 (by decide +kernel)).trans (f44.1.2.1.2.2 _ 1 ck_2 rfl 0 (by decide +kernel))))
  have rz0 := f29
  rw [f6] at rz0
  rw [show ((30 : Int)).toNat = 30 from rfl] at rz0
  have tz0 : hV H3 30 2 = hV H1 30 2 := (f25.1.2.1.1 30 2 (by decide +kernel)).trans (f20.1.2.1.1 30 2 (by decide +kernel))
  have rz1 := f43
  rw [f6] at rz1
  rw [show ((30 : Int)).toNat = 30 from rfl] at rz1
  have tz1 : hV H5 30 2 = hV H1 30 2 := (f40.1.2.1.1 30 2 (by decide +kernel)).trans ((f39.1.2.1.1 30 2 (by decide +kernel)).trans ((f25.1.2.1.1 30 2 (by decide +kernel)).trans (f20.1.2.1.1 30 2 (by decide +kernel))))
  have pr1 := pr.1
  exfalso
  omega
theorem c_72v_6_10 {q0 : Nat} : vOkm T0 (eP e_72v L_72v A_72v mu_72v (some q0)) 1 ([(10, [25, 4], [], 1), (1, [24, 3, 23], [], 0), (0, [23], [], 1), (41, [21, 22], [], 0), (0, [22], [], 5), (20, [21, 10], [8], 0), (23, [10], [8], 1), (90, [21], [], -2147483648), (91, [21], [], 2147483647), (10, [20, 2], [], 1), (1066, [1, 19], [7, 8], 0), (0, [19], [], 4), (1080, [1, 10], [6, 7], 0), (66, [18], [], 0), (20, [18, 10], [6], 0), (23, [10], [6], 1), (90, [18], [], -2147483648), (91, [18], [], 2147483647), (1066, [1, 17], [5, 6], 0), (20, [17, 1], [5], 2), (90, [17], [], -2147483648), (91, [17], [], 2147483647), (1024, [10, 13, 16], [4, 5], 0), (1124, [16, 14, 15], [3, 4], 0), (90, [16], [], -2147483648), (91, [16], [], 2147483647), (20, [15, 1], [3], 1), (90, [15], [], -2147483648), (91, [15], [], 2147483647), (20, [14, 1], [3], 0), (0, [14], [], 31), (2, [13, 11, 12], [], 0), (0, [12], [], 20), (20, [11, 1], [3], 2), (90, [11], [], -2147483648), (91, [11], [], 2147483647), (51, [10], [], 0), (1074, [10, 1, 9, 2], [2, 3], 0), (20, [9, 1], [2], 13), (90, [9], [], -2147483648), (91, [9], [], 2147483647), (31, [8], [], 0), (1073, [8, 7], [1, 2], 0), (90, [8], [], 0), (91, [8], [], 1), (20, [7, 1], [1], 2), (90, [7], [], -2147483648), (91, [7], [], 2147483647), (30, [6], [], 0), (20, [6, 1], [1], 3), (90, [6], [], -2147483648), (91, [6], [], 2147483647), (45, [4, 5], [], 0), (0, [5], [], 16), (5000, [0, 1, 2, 3, 4], [0, 1], 6), (0, [0], [], 30), (0, [1], [], 30), (90, [2], [], -2147483648), (91, [2], [], 2147483647), (90, [3], [], -2147483648), (91, [3], [], 2147483647), (90, [4], [], -2147483648), (91, [4], [], 2147483647)], (4000, [1, 20, 24, 25], [8], 6)) := vOk_in fun ρ η h => by
  obtain ⟨f0, f1, f2, f3, f4, f5, f6, f7, f8, f9, f10, f11, f12, f13, f14, f15, f16, f17, f18, f19, f20, f21, f22, f23, f24, f25, f26, f27, f28, f29, f30, f31, f32, f33, f34, f35, f36, f37, f38, f39, f40, f41, f42, f43, f44, f45, f46, f47, f48, f49, f50, f51, f52, f53, f54, f55, f56, f57, f58, f59, f60, f61, f62, _⟩ := h
  exact q_72v_11 (q0 := q0) (n0 := ρ 4) (n1 := ρ 3) (n2 := ρ 2) (n3 := ρ 1) (n4 := ρ 0) (n5 := ρ 5) (n6 := ρ 6) (n7 := ρ 7) (n8 := ρ 8) (n9 := ρ 9) (n10 := ρ 10) (n11 := ρ 11) (n12 := ρ 12) (n13 := ρ 13) (n14 := ρ 14) (n15 := ρ 15) (n16 := ρ 16) (n17 := ρ 17) (n18 := ρ 18) (n19 := ρ 19) (n20 := ρ 20) (n21 := ρ 21) (n22 := ρ 22) (n23 := ρ 23) (n24 := ρ 24) (n25 := ρ 25) (H0 := η 0) (H1 := η 1) (H2 := η 2) (H3 := η 3) (H4 := η 4) (H5 := η 5) (H6 := η 6) (H7 := η 7) (H8 := η 8) f62 f61 f60 f59 f58 f57 f56 f55 f54 f53 f52 f51 f50 f49 f48 f47 f46 f45 f44 f43 f42 f41 f40 f39 f38 f37 f36 f35 f34 f33 f32 f31 f30 f29 f28 f27 f26 f25 f24 f23 f22 f21 f20 f19 f18 f17 f16 f15 f14 f13 f12 f11 f10 f9 f8 f7 f6 f5 f4 f3 f2 f1 f0
theorem q_72v_12 {q0 : Nat} {n0 n1 n2 n3 n4 n5 n6 n7 n8 n9 n10 n11 n12 n13 n14 n15 n16 n17 n18 n19 n20 n21 n22 n23 n24 n25 n26 n27 : Int} {H0 H1 H2 H3 H4 H5 H6 H7 H8 H9 : gH} (f0 : n0 ≤ 2147483647) (f1 : (-2147483648) ≤ n0) (f2 : n1 ≤ 2147483647) (f3 : (-2147483648) ≤ n1) (f4 : n2 ≤ 2147483647) (f5 : (-2147483648) ≤ n2) (f6 : n3 = 30) (f7 : n4 = 30) (f8 : (hLe T0 H0 H1 ∧ hFr s_72v.2.2.2.2 H0 H1 ∧ hWt T0 H1) ∧ (Ab_72v_6 n4 n3 n2 n1 n0 H0 H1 ∧ preb_72v n4 H0) ∧ some q0 = some (mub_72v_6 n4 n3 n2 n1 n0 H0 H1)) (f9 : n5 = 16) (f10 : n0 ≤ n5) (f11 : n6 ≤ 2147483647) (f12 : (-2147483648) ≤ n6) (f13 : n6 = hV H1 (n3).toNat 3) (f14 : n6 = 0) (f15 : n7 ≤ 2147483647) (f16 : (-2147483648) ≤ n7) (f17 : n7 = hV H1 (n3).toNat 2) (f18 : n8 ≤ 1) (f19 : 0 ≤ n8) (f20 : (hLe T0 H1 H2 ∧ hFr s_73v.2.2.2.2 H1 H2 ∧ ((0 : Int) = 0 → H2.length = H1.length) ∧ hWt T0 H2) ∧ postb_73v n8 n7 H1 H2) (f21 : n8 ≠ 0) (f22 : n9 ≤ 2147483647) (f23 : (-2147483648) ≤ n9) (f24 : n9 = hV H2 (n3).toNat 13) (f25 : (hLe T0 H2 H3 ∧ hFr s_74v.2.2.2.2 H2 H3 ∧ ((0 : Int) = 0 → H3.length = H2.length) ∧ hWt T0 H3) ∧ postb_74v n10 n3 n9 n2 H2 H3) (f26 : 0 ≤ n10) (f27 : n11 ≤ 2147483647) (f28 : (-2147483648) ≤ n11) (f29 : n11 = hV H3 (n3).toNat 2) (f30 : n12 = 20) (f31 : n13 = w32 (n11 - n12)) (f32 : n14 = 31) (f33 : n14 = hV H3 (n3).toNat 0) (f34 : n15 ≤ 2147483647) (f35 : (-2147483648) ≤ n15) (f36 : n15 = hV H3 (n3).toNat 1) (f37 : n16 ≤ 2147483647) (f38 : (-2147483648) ≤ n16) (f39 : (hLe T0 H3 H4 ∧ hFr s_124.2.2.2.2 H3 H4 ∧ ((0 : Int) = 0 → H4.length = H3.length) ∧ hWt T0 H4) ∧ True) (f40 : (hLe T0 H4 H5 ∧ hFr s_24v.2.2.2.2 H4 H5 ∧ ((0 : Int) = 0 → H5.length = H4.length) ∧ hWt T0 H5) ∧ postb_24v n10 n13 n16 H4 H5) (f41 : n17 ≤ 2147483647) (f42 : (-2147483648) ≤ n17) (f43 : n17 = hV H5 (n3).toNat 2) (f44 : (hLe T0 H5 H6 ∧ hFr s_66v.2.2.2.2 H5 H6 ∧ ((0 : Int) = 0 → H6.length = H5.length) ∧ hWt T0 H6) ∧ postb_66v n3 n17 H5 H6) (f45 : n18 ≤ 2147483647) (f46 : (-2147483648) ≤ n18) (f47 : hK H6 (n10).toNat = 1) (f48 : n18 = hV H6 (n10).toNat 0) (f49 : n18 < 0) (f50 : (hLe T0 H6 H7 ∧ hFr s_80v.2.2.2.2 H6 H7 ∧ ((0 : Int) = 0 → H7.length = H6.length) ∧ hWt T0 H7) ∧ postb_80v n3 n10 H6 H7) (f51 : n19 = 4) (f52 : (hLe T0 H7 H8 ∧ hFr s_66v.2.2.2.2 H7 H8 ∧ ((0 : Int) = 0 → H8.length = H7.length) ∧ hWt T0 H8) ∧ postb_66v n3 n19 H7 H8) (f53 : n20 = w32 (n2 + 1)) (f54 : n21 ≤ 2147483647) (f55 : (-2147483648) ≤ n21) (f56 : hK H8 (n10).toNat = 1) (f57 : n21 = hV H8 (n10).toNat 0) (f58 : n22 = 5) (f59 : n21 = n22) (f60 : n23 = 47) (f61 : n23 = hV H8 (n3).toNat 11) (f62 : n24 ≤ 2147483647) (f63 : (-2147483648) ≤ n24) (f64 : hK H8 (n10).toNat = 1) (f65 : n24 = hV H8 (n10).toNat 2) (f66 : n25 ≤ 2147483647) (f67 : (-2147483648) ≤ n25) (f68 : (hLe T0 H8 H9 ∧ hFr s_199vk740.2.2.2.2 H8 H9 ∧ ((0 : Int) = 0 → H9.length = H8.length) ∧ hWt T0 H9) ∧ postb_199vk740 n25 n23 n24 H8 H9) (f69 : n26 = w32 (n1 + n25)) (f70 : n27 = w32 (n0 + 1)) : Ab_72v_6 n4 n3 n20 n26 n27 H0 H9 ∧ ∀ q, some q0 = some q → mub_72v_6 n4 n3 n20 n26 n27 H0 H9 < q := by
  have pz := f8.2.1.2
  unfold preb_72v at pz
  have ga := f8.2.1.1
  unfold Ab_72v_6 at ga
  have vz : vwC H1 = vwC H0 := vwC_fr f8.1.2.1 (by decide +kernel)
  obtain ⟨kz, bz, blz, b13, cz, b48, x10, x116, x30, x317, x13, ya, yt⟩ := ga
  have r3 := f13
  rw [f6] at r3
  rw [show ((30 : Int)).toNat = 30 from rfl] at r3
  have r2 := f17
  rw [f6] at r2
  rw [show ((30 : Int)).toNat = 30 from rfl] at r2
  have pc := f20.2
  unfold postb_73v at pc
  have cq := f25.2
  unfold postb_74v at cq
  have cq2 := cq.2
  have ck_0 := (cq.1 (by omega)).2
  have ck_1 : hK H4 (n10).toNat = 1 := kLe f39.1.1 ck_0 rfl
  have ck_2 : hK H5 (n10).toNat = 1 := kLe f40.1.1 ck_1 rfl
  have ck_3 : hK H6 (n10).toNat = 1 := kLe f44.1.1 ck_2 rfl
  have ck_4 : hK H7 (n10).toNat = 1 := kLe f50.1.1 ck_3 rfl
  have ck_5 : hK H8 (n10).toNat = 1 := kLe f52.1.1 ck_4 rfl
  have ck_6 : hK H9 (n10).toNat = 1 := kLe f68.1.1 ck_5 rfl
  have s0 := PF_fr f20.1.1 f20.1.2.1 (by decide +kernel) kz
  have a0 : absC H2 = (absC H1) := s0.1
  have v0 : vwC H2 = vwC H0 := (vwC_fr f20.1.2.1 (by decide +kernel)).trans vz
  have u0 := CU_fr f20.1.1 f20.1.2.1 (by decide +kernel) cz
  have d0 := BI_fr f20.1.1 f20.1.2.1 (by decide +kernel) bz
  have j0 : BLc H2 = BLc H0 := d0.2.trans blz
  have s1 := PF_fr f25.1.1 f25.1.2.1 (by decide +kernel) s0.2.2
  have a1 : absC H3 = (absC H1) := s1.1.trans a0
  have v1 : vwC H3 = vwC H0 := (vwC_fr f25.1.2.1 (by decide +kernel)).trans v0
  have u1 := CU_fr f25.1.1 f25.1.2.1 (by decide +kernel) u0
  have d1 := BI_fr f25.1.1 f25.1.2.1 (by decide +kernel) d0.1
  have j1 : BLc H3 = BLc H0 := d1.2.trans j0
  have s2 := PF_fr f39.1.1 f39.1.2.1 (by decide +kernel) s1.2.2
  have a2 : absC H4 = (absC H1) := s2.1.trans a1
  have v2 : vwC H4 = vwC H0 := (vwC_fr f39.1.2.1 (by decide +kernel)).trans v1
  have u2 := CU_fr f39.1.1 f39.1.2.1 (by decide +kernel) u1
  have d2 := BI_fr f39.1.1 f39.1.2.1 (by decide +kernel) d1.1
  have j2 : BLc H4 = BLc H0 := d2.2.trans j1
  have s3 := PF_fr f40.1.1 f40.1.2.1 (by decide +kernel) s2.2.2
  have a3 : absC H5 = (absC H1) := s3.1.trans a2
  have v3 : vwC H5 = vwC H0 := (vwC_fr f40.1.2.1 (by decide +kernel)).trans v2
  have u3 := CU_fr f40.1.1 f40.1.2.1 (by decide +kernel) u2
  have d3 := BI_fr f40.1.1 f40.1.2.1 (by decide +kernel) d2.1
  have j3 : BLc H5 = BLc H0 := d3.2.trans j2
  have c4 := f44.2
  unfold postb_66v at c4
  rw [v3] at c4
  rw [a3] at c4
  have a4 : absC H6 = (ptk (vwC H0) n17 (absC H1)) := c4.2
  have v4 : vwC H6 = vwC H0 := (vwC_fr f44.1.2.1 (by decide +kernel)).trans v3
  have u4 := CU_fr f44.1.1 f44.1.2.1 (by decide +kernel) u3
  have d4 := BI_fr f44.1.1 f44.1.2.1 (by decide +kernel) d3.1
  have j4 : BLc H6 = BLc H0 := d4.2.trans j3
  have c5 := f50.2
  unfold postb_80v at c5
  rw [v4] at c5
  rw [a4] at c5
  rw [j4] at c5
  have a5 : absC H7 = (pUse (vwC H0) (BLc H0) (ptk (vwC H0) n17 (absC H1))) := c5.2.1
  have v5 : vwC H7 = vwC H0 := (vwC_fr f50.1.2.1 (by decide +kernel)).trans v4
  have u5 := CU_fr f50.1.1 f50.1.2.1 (by decide +kernel) u4
  have j5 : BLc H7 = BLc H0 := c5.2.2.2.1
  have c6 := f52.2
  unfold postb_66v at c6
  try rw [f51] at c6
  rw [v5] at c6
  rw [a5] at c6
  have a6 : absC H8 = (ptk (vwC H0) 4 (pUse (vwC H0) (BLc H0) (ptk (vwC H0) n17 (absC H1)))) := c6.2
  have v6 : vwC H8 = vwC H0 := (vwC_fr f52.1.2.1 (by decide +kernel)).trans v5
  have u6 := CU_fr f52.1.1 f52.1.2.1 (by decide +kernel) u5
  have d6 := BI_fr f52.1.1 f52.1.2.1 (by decide +kernel) c5.2.2.1
  have j6 : BLc H8 = BLc H0 := d6.2.trans j5
  have s7 := PF_fr f68.1.1 f68.1.2.1 (by decide +kernel) c6.1
  have a7 : absC H9 = (ptk (vwC H0) 4 (pUse (vwC H0) (BLc H0) (ptk (vwC H0) n17 (absC H1)))) := s7.1.trans a6
  have v7 : vwC H9 = vwC H0 := (vwC_fr f68.1.2.1 (by decide +kernel)).trans v6
  have u7 := CU_fr f68.1.1 f68.1.2.1 (by decide +kernel) u6
  have d7 := BI_fr f68.1.1 f68.1.2.1 (by decide +kernel) d6.1
  have j7 : BLc H9 = BLc H0 := d7.2.trans j6
  have y2 := pz.2.1.2.1
  have y3 := pz.2.1.2.2.1
  have wq31 := f31
  unfold w32 at wq31
  have wq53 := f53
  unfold w32 at wq53
  have wq69 := f69
  unfold w32 at wq69
  have wq70 := f70
  unfold w32 at wq70
  have g5 := Option.some.inj f8.2.2
  unfold mub_72v_6 at g5
  unfold Ab_72v_6 mub_72v_6
  have t13 : hV H9 30 13 = hV H1 30 13 := (f68.1.2.1.1 30 13 (by decide +kernel)).trans ((f52.1.2.1.1 30 13 (by decide +kernel)).trans ((f50.1.2.1.1 30 13 (by decide +kernel)).trans ((f44.1.2.1.1 30 13 (by decide +kernel)).trans ((f40.1.2.1.1 30 13 (by decide +kernel)).trans ((f39.1.2.1.1 30 13 (by decide +kernel)).trans ((f25.1.2.1.1 30 13 (by decide +kernel)).trans (f20.1.2.1.1 30 13 (by decide +kernel))))))))
  have t48 : hV H9 48 = hV H1 48 := (fRow f68.1.2.1 48 (by decide +kernel)).trans ((fRow f52.1.2.1 48 (by decide +kernel)).trans ((fRow f50.1.2.1 48 (by decide +kernel)).trans ((fRow f44.1.2.1 48 (by decide +kernel)).trans ((fRow f40.1.2.1 48 (by decide +kernel)).trans ((fRow f39.1.2.1 48 (by decide +kernel)).trans ((fRow f25.1.2.1 48 (by decide +kernel)).trans (fRow f20.1.2.1 48 (by decide +kernel))))))))
  have hk : (vwC H0).1 (absC H1).1 = hV H1 30 2 := by
    have u := (kd_at kz).resolve_left (by have := absC_pos kz (by omega); omega)
    rw [vz] at u
    exact u
  have pr := f40.2
  unfold postb_24v at pr
  have ka0_0 : hK H6 (n10).toNat = 1 := kLe f44.1.1 ck_2 rfl
  have kq0 : n18 = hV H5 (n10).toNat 0 := f48.trans (f44.1.2.1.2.2 _ 1 ck_2 rfl 0 (by decide +kernel))
  have ka1_0 : hK H6 (n10).toNat = 1 := kLe f44.1.1 ck_2 rfl
  have ka1_1 : hK H7 (n10).toNat = 1 := kLe f50.1.1 ka1_0 rfl
  have ka1_2 : hK H8 (n10).toNat = 1 := kLe f52.1.1 ka1_1 rfl
  have kq1 : n21 = hV H5 (n10).toNat 0 := f57.trans ((f52.1.2.1.2.2 _ 1 ka1_1 rfl 0 (by decide +kernel)).trans ((f50.1.2.1.2.2 _ 1 ka1_0 rfl 0 (by decide +kernel)).trans (f44.1.2.1.2.2 _ 1 ck_2 rfl 0 (by decide +kernel))))
  have rz0 := f29
  rw [f6] at rz0
  rw [show ((30 : Int)).toNat = 30 from rfl] at rz0
  have tz0 : hV H3 30 2 = hV H1 30 2 := (f25.1.2.1.1 30 2 (by decide +kernel)).trans (f20.1.2.1.1 30 2 (by decide +kernel))
  have rz1 := f43
  rw [f6] at rz1
  rw [show ((30 : Int)).toNat = 30 from rfl] at rz1
  have tz1 : hV H5 30 2 = hV H1 30 2 := (f40.1.2.1.1 30 2 (by decide +kernel)).trans ((f39.1.2.1.1 30 2 (by decide +kernel)).trans ((f25.1.2.1.1 30 2 (by decide +kernel)).trans (f20.1.2.1.1 30 2 (by decide +kernel))))
  have pr1 := pr.1
  exfalso
  omega
theorem c_72v_6_11 {q0 : Nat} : vOkm T0 (eP e_72v L_72v A_72v mu_72v (some q0)) 1 ([(10, [27, 4], [], 1), (1, [26, 3, 25], [], 0), (1199, [25, 23, 24], [8, 9], 0), (90, [25], [], -2147483648), (91, [25], [], 2147483647), (20, [24, 10], [8], 2), (23, [10], [8], 1), (90, [24], [], -2147483648), (91, [24], [], 2147483647), (20, [23, 1], [8], 11), (0, [23], [], 47), (40, [21, 22], [], 0), (0, [22], [], 5), (20, [21, 10], [8], 0), (23, [10], [8], 1), (90, [21], [], -2147483648), (91, [21], [], 2147483647), (10, [20, 2], [], 1), (1066, [1, 19], [7, 8], 0), (0, [19], [], 4), (1080, [1, 10], [6, 7], 0), (66, [18], [], 0), (20, [18, 10], [6], 0), (23, [10], [6], 1), (90, [18], [], -2147483648), (91, [18], [], 2147483647), (1066, [1, 17], [5, 6], 0), (20, [17, 1], [5], 2), (90, [17], [], -2147483648), (91, [17], [], 2147483647), (1024, [10, 13, 16], [4, 5], 0), (1124, [16, 14, 15], [3, 4], 0), (90, [16], [], -2147483648), (91, [16], [], 2147483647), (20, [15, 1], [3], 1), (90, [15], [], -2147483648), (91, [15], [], 2147483647), (20, [14, 1], [3], 0), (0, [14], [], 31), (2, [13, 11, 12], [], 0), (0, [12], [], 20), (20, [11, 1], [3], 2), (90, [11], [], -2147483648), (91, [11], [], 2147483647), (51, [10], [], 0), (1074, [10, 1, 9, 2], [2, 3], 0), (20, [9, 1], [2], 13), (90, [9], [], -2147483648), (91, [9], [], 2147483647), (31, [8], [], 0), (1073, [8, 7], [1, 2], 0), (90, [8], [], 0), (91, [8], [], 1), (20, [7, 1], [1], 2), (90, [7], [], -2147483648), (91, [7], [], 2147483647), (30, [6], [], 0), (20, [6, 1], [1], 3), (90, [6], [], -2147483648), (91, [6], [], 2147483647), (45, [4, 5], [], 0), (0, [5], [], 16), (5000, [0, 1, 2, 3, 4], [0, 1], 6), (0, [0], [], 30), (0, [1], [], 30), (90, [2], [], -2147483648), (91, [2], [], 2147483647), (90, [3], [], -2147483648), (91, [3], [], 2147483647), (90, [4], [], -2147483648), (91, [4], [], 2147483647)], (4000, [1, 20, 26, 27], [9], 6)) := vOk_in fun ρ η h => by
  obtain ⟨f0, f1, f2, f3, f4, f5, f6, f7, f8, f9, f10, f11, f12, f13, f14, f15, f16, f17, f18, f19, f20, f21, f22, f23, f24, f25, f26, f27, f28, f29, f30, f31, f32, f33, f34, f35, f36, f37, f38, f39, f40, f41, f42, f43, f44, f45, f46, f47, f48, f49, f50, f51, f52, f53, f54, f55, f56, f57, f58, f59, f60, f61, f62, f63, f64, f65, f66, f67, f68, f69, f70, _⟩ := h
  exact q_72v_12 (q0 := q0) (n0 := ρ 4) (n1 := ρ 3) (n2 := ρ 2) (n3 := ρ 1) (n4 := ρ 0) (n5 := ρ 5) (n6 := ρ 6) (n7 := ρ 7) (n8 := ρ 8) (n9 := ρ 9) (n10 := ρ 10) (n11 := ρ 11) (n12 := ρ 12) (n13 := ρ 13) (n14 := ρ 14) (n15 := ρ 15) (n16 := ρ 16) (n17 := ρ 17) (n18 := ρ 18) (n19 := ρ 19) (n20 := ρ 20) (n21 := ρ 21) (n22 := ρ 22) (n23 := ρ 23) (n24 := ρ 24) (n25 := ρ 25) (n26 := ρ 26) (n27 := ρ 27) (H0 := η 0) (H1 := η 1) (H2 := η 2) (H3 := η 3) (H4 := η 4) (H5 := η 5) (H6 := η 6) (H7 := η 7) (H8 := η 8) (H9 := η 9) f70 f69 f68 f67 f66 f65 f64 f63 f62 f61 f60 f59 f58 f57 f56 f55 f54 f53 f52 f51 f50 f49 f48 f47 f46 f45 f44 f43 f42 f41 f40 f39 f38 f37 f36 f35 f34 f33 f32 f31 f30 f29 f28 f27 f26 f25 f24 f23 f22 f21 f20 f19 f18 f17 f16 f15 f14 f13 f12 f11 f10 f9 f8 f7 f6 f5 f4 f3 f2 f1 f0
theorem q_72v_13 {q0 : Nat} {n0 n1 n2 n3 n4 n5 n6 n7 n8 n9 n10 n11 n12 n13 n14 n15 n16 n17 n18 : Int} {H0 H1 H2 H3 H4 H5 H6 : gH} (f0 : n0 ≤ 2147483647) (f1 : (-2147483648) ≤ n0) (f2 : n1 ≤ 2147483647) (f3 : (-2147483648) ≤ n1) (f4 : n2 ≤ 2147483647) (f5 : (-2147483648) ≤ n2) (f6 : n3 = 30) (f7 : n4 = 30) (f8 : (hLe T0 H0 H1 ∧ hFr s_72v.2.2.2.2 H0 H1 ∧ hWt T0 H1) ∧ (Ab_72v_6 n4 n3 n2 n1 n0 H0 H1 ∧ preb_72v n4 H0) ∧ some q0 = some (mub_72v_6 n4 n3 n2 n1 n0 H0 H1)) (f9 : n5 = 16) (f10 : n0 ≤ n5) (f11 : n6 ≤ 2147483647) (f12 : (-2147483648) ≤ n6) (f13 : n6 = hV H1 (n3).toNat 3) (f14 : n6 = 0) (f15 : n7 ≤ 2147483647) (f16 : (-2147483648) ≤ n7) (f17 : n7 = hV H1 (n3).toNat 2) (f18 : n8 ≤ 1) (f19 : 0 ≤ n8) (f20 : (hLe T0 H1 H2 ∧ hFr s_73v.2.2.2.2 H1 H2 ∧ ((0 : Int) = 0 → H2.length = H1.length) ∧ hWt T0 H2) ∧ postb_73v n8 n7 H1 H2) (f21 : n8 ≠ 0) (f22 : n9 ≤ 2147483647) (f23 : (-2147483648) ≤ n9) (f24 : n9 = hV H2 (n3).toNat 13) (f25 : (hLe T0 H2 H3 ∧ hFr s_74v.2.2.2.2 H2 H3 ∧ ((0 : Int) = 0 → H3.length = H2.length) ∧ hWt T0 H3) ∧ postb_74v n10 n3 n9 n2 H2 H3) (f26 : 0 ≤ n10) (f27 : n11 ≤ 2147483647) (f28 : (-2147483648) ≤ n11) (f29 : n11 = hV H3 (n3).toNat 2) (f30 : n12 = 20) (f31 : n13 = w32 (n11 - n12)) (f32 : n14 = 31) (f33 : n14 = hV H3 (n3).toNat 0) (f34 : n15 ≤ 2147483647) (f35 : (-2147483648) ≤ n15) (f36 : n15 = hV H3 (n3).toNat 1) (f37 : n16 ≤ 2147483647) (f38 : (-2147483648) ≤ n16) (f39 : (hLe T0 H3 H4 ∧ hFr s_124.2.2.2.2 H3 H4 ∧ ((0 : Int) = 0 → H4.length = H3.length) ∧ hWt T0 H4) ∧ True) (f40 : (hLe T0 H4 H5 ∧ hFr s_24v.2.2.2.2 H4 H5 ∧ ((0 : Int) = 0 → H5.length = H4.length) ∧ hWt T0 H5) ∧ postb_24v n10 n13 n16 H4 H5) (f41 : n17 ≤ 2147483647) (f42 : (-2147483648) ≤ n17) (f43 : n17 = hV H5 (n3).toNat 2) (f44 : (hLe T0 H5 H6 ∧ hFr s_66v.2.2.2.2 H5 H6 ∧ ((0 : Int) = 0 → H6.length = H5.length) ∧ hWt T0 H6) ∧ postb_66v n3 n17 H5 H6) (f45 : n18 ≤ 2147483647) (f46 : (-2147483648) ≤ n18) (f47 : hK H6 (n10).toNat = 1) (f48 : n18 = hV H6 (n10).toNat 0) (f49 : 4 < n18) : preb_80v n3 n10 H6 := by
  have pz := f8.2.1.2
  unfold preb_72v at pz
  have ga := f8.2.1.1
  unfold Ab_72v_6 at ga
  have vz : vwC H1 = vwC H0 := vwC_fr f8.1.2.1 (by decide +kernel)
  obtain ⟨kz, bz, blz, b13, cz, b48, x10, x116, x30, x317, x13, ya, yt⟩ := ga
  have r3 := f13
  rw [f6] at r3
  rw [show ((30 : Int)).toNat = 30 from rfl] at r3
  have r2 := f17
  rw [f6] at r2
  rw [show ((30 : Int)).toNat = 30 from rfl] at r2
  have pc := f20.2
  unfold postb_73v at pc
  have cq := f25.2
  unfold postb_74v at cq
  have cq2 := cq.2
  have ck_0 := (cq.1 (by omega)).2
  have ck_1 : hK H4 (n10).toNat = 1 := kLe f39.1.1 ck_0 rfl
  have ck_2 : hK H5 (n10).toNat = 1 := kLe f40.1.1 ck_1 rfl
  have ck_3 : hK H6 (n10).toNat = 1 := kLe f44.1.1 ck_2 rfl
  have s0 := PF_fr f20.1.1 f20.1.2.1 (by decide +kernel) kz
  have a0 : absC H2 = (absC H1) := s0.1
  have v0 : vwC H2 = vwC H0 := (vwC_fr f20.1.2.1 (by decide +kernel)).trans vz
  have u0 := CU_fr f20.1.1 f20.1.2.1 (by decide +kernel) cz
  have d0 := BI_fr f20.1.1 f20.1.2.1 (by decide +kernel) bz
  have j0 : BLc H2 = BLc H0 := d0.2.trans blz
  have s1 := PF_fr f25.1.1 f25.1.2.1 (by decide +kernel) s0.2.2
  have a1 : absC H3 = (absC H1) := s1.1.trans a0
  have v1 : vwC H3 = vwC H0 := (vwC_fr f25.1.2.1 (by decide +kernel)).trans v0
  have u1 := CU_fr f25.1.1 f25.1.2.1 (by decide +kernel) u0
  have d1 := BI_fr f25.1.1 f25.1.2.1 (by decide +kernel) d0.1
  have j1 : BLc H3 = BLc H0 := d1.2.trans j0
  have s2 := PF_fr f39.1.1 f39.1.2.1 (by decide +kernel) s1.2.2
  have a2 : absC H4 = (absC H1) := s2.1.trans a1
  have v2 : vwC H4 = vwC H0 := (vwC_fr f39.1.2.1 (by decide +kernel)).trans v1
  have u2 := CU_fr f39.1.1 f39.1.2.1 (by decide +kernel) u1
  have d2 := BI_fr f39.1.1 f39.1.2.1 (by decide +kernel) d1.1
  have j2 : BLc H4 = BLc H0 := d2.2.trans j1
  have s3 := PF_fr f40.1.1 f40.1.2.1 (by decide +kernel) s2.2.2
  have a3 : absC H5 = (absC H1) := s3.1.trans a2
  have v3 : vwC H5 = vwC H0 := (vwC_fr f40.1.2.1 (by decide +kernel)).trans v2
  have u3 := CU_fr f40.1.1 f40.1.2.1 (by decide +kernel) u2
  have d3 := BI_fr f40.1.1 f40.1.2.1 (by decide +kernel) d2.1
  have j3 : BLc H5 = BLc H0 := d3.2.trans j2
  have c4 := f44.2
  unfold postb_66v at c4
  rw [v3] at c4
  rw [a3] at c4
  have a4 : absC H6 = (ptk (vwC H0) n17 (absC H1)) := c4.2
  have v4 : vwC H6 = vwC H0 := (vwC_fr f44.1.2.1 (by decide +kernel)).trans v3
  have u4 := CU_fr f44.1.1 f44.1.2.1 (by decide +kernel) u3
  have d4 := BI_fr f44.1.1 f44.1.2.1 (by decide +kernel) d3.1
  have j4 : BLc H6 = BLc H0 := d4.2.trans j3
  have pr := f40.2
  unfold postb_24v at pr
  have kd0 : hK H6 (n10).toNat = 1 := kLe f44.1.1 ck_2 rfl
  have t18 : hV H6 (n10).toNat 18 = hV H5 (n10).toNat 18 := f44.1.2.1.2.2 _ 1 ck_2 rfl 18 (by decide +kernel)
  unfold preb_80v
  exact ⟨c4.1, d4.1, kd0, by omega⟩
theorem c_72v_6_12 {q0 : Nat} : vOkm T0 (eP e_72v L_72v A_72v mu_72v (some q0)) 1 ([(67, [18], [], 4), (20, [18, 10], [6], 0), (23, [10], [6], 1), (90, [18], [], -2147483648), (91, [18], [], 2147483647), (1066, [1, 17], [5, 6], 0), (20, [17, 1], [5], 2), (90, [17], [], -2147483648), (91, [17], [], 2147483647), (1024, [10, 13, 16], [4, 5], 0), (1124, [16, 14, 15], [3, 4], 0), (90, [16], [], -2147483648), (91, [16], [], 2147483647), (20, [15, 1], [3], 1), (90, [15], [], -2147483648), (91, [15], [], 2147483647), (20, [14, 1], [3], 0), (0, [14], [], 31), (2, [13, 11, 12], [], 0), (0, [12], [], 20), (20, [11, 1], [3], 2), (90, [11], [], -2147483648), (91, [11], [], 2147483647), (51, [10], [], 0), (1074, [10, 1, 9, 2], [2, 3], 0), (20, [9, 1], [2], 13), (90, [9], [], -2147483648), (91, [9], [], 2147483647), (31, [8], [], 0), (1073, [8, 7], [1, 2], 0), (90, [8], [], 0), (91, [8], [], 1), (20, [7, 1], [1], 2), (90, [7], [], -2147483648), (91, [7], [], 2147483647), (30, [6], [], 0), (20, [6, 1], [1], 3), (90, [6], [], -2147483648), (91, [6], [], 2147483647), (45, [4, 5], [], 0), (0, [5], [], 16), (5000, [0, 1, 2, 3, 4], [0, 1], 6), (0, [0], [], 30), (0, [1], [], 30), (90, [2], [], -2147483648), (91, [2], [], 2147483647), (90, [3], [], -2147483648), (91, [3], [], 2147483647), (90, [4], [], -2147483648), (91, [4], [], 2147483647)], (2080, [1, 10], [6], 0)) := vOk_in fun ρ η h => by
  obtain ⟨f0, f1, f2, f3, f4, f5, f6, f7, f8, f9, f10, f11, f12, f13, f14, f15, f16, f17, f18, f19, f20, f21, f22, f23, f24, f25, f26, f27, f28, f29, f30, f31, f32, f33, f34, f35, f36, f37, f38, f39, f40, f41, f42, f43, f44, f45, f46, f47, f48, f49, _⟩ := h
  exact q_72v_13 (q0 := q0) (n0 := ρ 4) (n1 := ρ 3) (n2 := ρ 2) (n3 := ρ 1) (n4 := ρ 0) (n5 := ρ 5) (n6 := ρ 6) (n7 := ρ 7) (n8 := ρ 8) (n9 := ρ 9) (n10 := ρ 10) (n11 := ρ 11) (n12 := ρ 12) (n13 := ρ 13) (n14 := ρ 14) (n15 := ρ 15) (n16 := ρ 16) (n17 := ρ 17) (n18 := ρ 18) (H0 := η 0) (H1 := η 1) (H2 := η 2) (H3 := η 3) (H4 := η 4) (H5 := η 5) (H6 := η 6) f49 f48 f47 f46 f45 f44 f43 f42 f41 f40 f39 f38 f37 f36 f35 f34 f33 f32 f31 f30 f29 f28 f27 f26 f25 f24 f23 f22 f21 f20 f19 f18 f17 f16 f15 f14 f13 f12 f11 f10 f9 f8 f7 f6 f5 f4 f3 f2 f1 f0
theorem q_72v_14 {q0 : Nat} {n0 n1 n2 n3 n4 n5 n6 n7 n8 n9 n10 n11 n12 n13 n14 n15 n16 n17 n18 n19 : Int} {H0 H1 H2 H3 H4 H5 H6 H7 : gH} (f0 : n0 ≤ 2147483647) (f1 : (-2147483648) ≤ n0) (f2 : n1 ≤ 2147483647) (f3 : (-2147483648) ≤ n1) (f4 : n2 ≤ 2147483647) (f5 : (-2147483648) ≤ n2) (f6 : n3 = 30) (f7 : n4 = 30) (f8 : (hLe T0 H0 H1 ∧ hFr s_72v.2.2.2.2 H0 H1 ∧ hWt T0 H1) ∧ (Ab_72v_6 n4 n3 n2 n1 n0 H0 H1 ∧ preb_72v n4 H0) ∧ some q0 = some (mub_72v_6 n4 n3 n2 n1 n0 H0 H1)) (f9 : n5 = 16) (f10 : n0 ≤ n5) (f11 : n6 ≤ 2147483647) (f12 : (-2147483648) ≤ n6) (f13 : n6 = hV H1 (n3).toNat 3) (f14 : n6 = 0) (f15 : n7 ≤ 2147483647) (f16 : (-2147483648) ≤ n7) (f17 : n7 = hV H1 (n3).toNat 2) (f18 : n8 ≤ 1) (f19 : 0 ≤ n8) (f20 : (hLe T0 H1 H2 ∧ hFr s_73v.2.2.2.2 H1 H2 ∧ ((0 : Int) = 0 → H2.length = H1.length) ∧ hWt T0 H2) ∧ postb_73v n8 n7 H1 H2) (f21 : n8 ≠ 0) (f22 : n9 ≤ 2147483647) (f23 : (-2147483648) ≤ n9) (f24 : n9 = hV H2 (n3).toNat 13) (f25 : (hLe T0 H2 H3 ∧ hFr s_74v.2.2.2.2 H2 H3 ∧ ((0 : Int) = 0 → H3.length = H2.length) ∧ hWt T0 H3) ∧ postb_74v n10 n3 n9 n2 H2 H3) (f26 : 0 ≤ n10) (f27 : n11 ≤ 2147483647) (f28 : (-2147483648) ≤ n11) (f29 : n11 = hV H3 (n3).toNat 2) (f30 : n12 = 20) (f31 : n13 = w32 (n11 - n12)) (f32 : n14 = 31) (f33 : n14 = hV H3 (n3).toNat 0) (f34 : n15 ≤ 2147483647) (f35 : (-2147483648) ≤ n15) (f36 : n15 = hV H3 (n3).toNat 1) (f37 : n16 ≤ 2147483647) (f38 : (-2147483648) ≤ n16) (f39 : (hLe T0 H3 H4 ∧ hFr s_124.2.2.2.2 H3 H4 ∧ ((0 : Int) = 0 → H4.length = H3.length) ∧ hWt T0 H4) ∧ True) (f40 : (hLe T0 H4 H5 ∧ hFr s_24v.2.2.2.2 H4 H5 ∧ ((0 : Int) = 0 → H5.length = H4.length) ∧ hWt T0 H5) ∧ postb_24v n10 n13 n16 H4 H5) (f41 : n17 ≤ 2147483647) (f42 : (-2147483648) ≤ n17) (f43 : n17 = hV H5 (n3).toNat 2) (f44 : (hLe T0 H5 H6 ∧ hFr s_66v.2.2.2.2 H5 H6 ∧ ((0 : Int) = 0 → H6.length = H5.length) ∧ hWt T0 H6) ∧ postb_66v n3 n17 H5 H6) (f45 : n18 ≤ 2147483647) (f46 : (-2147483648) ≤ n18) (f47 : hK H6 (n10).toNat = 1) (f48 : n18 = hV H6 (n10).toNat 0) (f49 : 4 < n18) (f50 : (hLe T0 H6 H7 ∧ hFr s_80v.2.2.2.2 H6 H7 ∧ ((0 : Int) = 0 → H7.length = H6.length) ∧ hWt T0 H7) ∧ postb_80v n3 n10 H6 H7) (f51 : n19 = 4) : preb_66v n3 n19 H7 := by
  have pz := f8.2.1.2
  unfold preb_72v at pz
  have ga := f8.2.1.1
  unfold Ab_72v_6 at ga
  have vz : vwC H1 = vwC H0 := vwC_fr f8.1.2.1 (by decide +kernel)
  obtain ⟨kz, bz, blz, b13, cz, b48, x10, x116, x30, x317, x13, ya, yt⟩ := ga
  have r3 := f13
  rw [f6] at r3
  rw [show ((30 : Int)).toNat = 30 from rfl] at r3
  have r2 := f17
  rw [f6] at r2
  rw [show ((30 : Int)).toNat = 30 from rfl] at r2
  have pc := f20.2
  unfold postb_73v at pc
  have cq := f25.2
  unfold postb_74v at cq
  have cq2 := cq.2
  have ck_0 := (cq.1 (by omega)).2
  have ck_1 : hK H4 (n10).toNat = 1 := kLe f39.1.1 ck_0 rfl
  have ck_2 : hK H5 (n10).toNat = 1 := kLe f40.1.1 ck_1 rfl
  have ck_3 : hK H6 (n10).toNat = 1 := kLe f44.1.1 ck_2 rfl
  have ck_4 : hK H7 (n10).toNat = 1 := kLe f50.1.1 ck_3 rfl
  have s0 := PF_fr f20.1.1 f20.1.2.1 (by decide +kernel) kz
  have a0 : absC H2 = (absC H1) := s0.1
  have v0 : vwC H2 = vwC H0 := (vwC_fr f20.1.2.1 (by decide +kernel)).trans vz
  have u0 := CU_fr f20.1.1 f20.1.2.1 (by decide +kernel) cz
  have d0 := BI_fr f20.1.1 f20.1.2.1 (by decide +kernel) bz
  have j0 : BLc H2 = BLc H0 := d0.2.trans blz
  have s1 := PF_fr f25.1.1 f25.1.2.1 (by decide +kernel) s0.2.2
  have a1 : absC H3 = (absC H1) := s1.1.trans a0
  have v1 : vwC H3 = vwC H0 := (vwC_fr f25.1.2.1 (by decide +kernel)).trans v0
  have u1 := CU_fr f25.1.1 f25.1.2.1 (by decide +kernel) u0
  have d1 := BI_fr f25.1.1 f25.1.2.1 (by decide +kernel) d0.1
  have j1 : BLc H3 = BLc H0 := d1.2.trans j0
  have s2 := PF_fr f39.1.1 f39.1.2.1 (by decide +kernel) s1.2.2
  have a2 : absC H4 = (absC H1) := s2.1.trans a1
  have v2 : vwC H4 = vwC H0 := (vwC_fr f39.1.2.1 (by decide +kernel)).trans v1
  have u2 := CU_fr f39.1.1 f39.1.2.1 (by decide +kernel) u1
  have d2 := BI_fr f39.1.1 f39.1.2.1 (by decide +kernel) d1.1
  have j2 : BLc H4 = BLc H0 := d2.2.trans j1
  have s3 := PF_fr f40.1.1 f40.1.2.1 (by decide +kernel) s2.2.2
  have a3 : absC H5 = (absC H1) := s3.1.trans a2
  have v3 : vwC H5 = vwC H0 := (vwC_fr f40.1.2.1 (by decide +kernel)).trans v2
  have u3 := CU_fr f40.1.1 f40.1.2.1 (by decide +kernel) u2
  have d3 := BI_fr f40.1.1 f40.1.2.1 (by decide +kernel) d2.1
  have j3 : BLc H5 = BLc H0 := d3.2.trans j2
  have c4 := f44.2
  unfold postb_66v at c4
  rw [v3] at c4
  rw [a3] at c4
  have a4 : absC H6 = (ptk (vwC H0) n17 (absC H1)) := c4.2
  have v4 : vwC H6 = vwC H0 := (vwC_fr f44.1.2.1 (by decide +kernel)).trans v3
  have u4 := CU_fr f44.1.1 f44.1.2.1 (by decide +kernel) u3
  have d4 := BI_fr f44.1.1 f44.1.2.1 (by decide +kernel) d3.1
  have j4 : BLc H6 = BLc H0 := d4.2.trans j3
  have c5 := f50.2
  unfold postb_80v at c5
  rw [v4] at c5
  rw [a4] at c5
  rw [j4] at c5
  have a5 : absC H7 = (pUse (vwC H0) (BLc H0) (ptk (vwC H0) n17 (absC H1))) := c5.2.1
  have v5 : vwC H7 = vwC H0 := (vwC_fr f50.1.2.1 (by decide +kernel)).trans v4
  have u5 := CU_fr f50.1.1 f50.1.2.1 (by decide +kernel) u4
  have j5 : BLc H7 = BLc H0 := c5.2.2.2.1
  unfold preb_66v
  exact ⟨c5.1, .inl (by omega)⟩
theorem c_72v_6_13 {q0 : Nat} : vOkm T0 (eP e_72v L_72v A_72v mu_72v (some q0)) 1 ([(0, [19], [], 4), (1080, [1, 10], [6, 7], 0), (67, [18], [], 4), (20, [18, 10], [6], 0), (23, [10], [6], 1), (90, [18], [], -2147483648), (91, [18], [], 2147483647), (1066, [1, 17], [5, 6], 0), (20, [17, 1], [5], 2), (90, [17], [], -2147483648), (91, [17], [], 2147483647), (1024, [10, 13, 16], [4, 5], 0), (1124, [16, 14, 15], [3, 4], 0), (90, [16], [], -2147483648), (91, [16], [], 2147483647), (20, [15, 1], [3], 1), (90, [15], [], -2147483648), (91, [15], [], 2147483647), (20, [14, 1], [3], 0), (0, [14], [], 31), (2, [13, 11, 12], [], 0), (0, [12], [], 20), (20, [11, 1], [3], 2), (90, [11], [], -2147483648), (91, [11], [], 2147483647), (51, [10], [], 0), (1074, [10, 1, 9, 2], [2, 3], 0), (20, [9, 1], [2], 13), (90, [9], [], -2147483648), (91, [9], [], 2147483647), (31, [8], [], 0), (1073, [8, 7], [1, 2], 0), (90, [8], [], 0), (91, [8], [], 1), (20, [7, 1], [1], 2), (90, [7], [], -2147483648), (91, [7], [], 2147483647), (30, [6], [], 0), (20, [6, 1], [1], 3), (90, [6], [], -2147483648), (91, [6], [], 2147483647), (45, [4, 5], [], 0), (0, [5], [], 16), (5000, [0, 1, 2, 3, 4], [0, 1], 6), (0, [0], [], 30), (0, [1], [], 30), (90, [2], [], -2147483648), (91, [2], [], 2147483647), (90, [3], [], -2147483648), (91, [3], [], 2147483647), (90, [4], [], -2147483648), (91, [4], [], 2147483647)], (2066, [1, 19], [7], 0)) := vOk_in fun ρ η h => by
  obtain ⟨f0, f1, f2, f3, f4, f5, f6, f7, f8, f9, f10, f11, f12, f13, f14, f15, f16, f17, f18, f19, f20, f21, f22, f23, f24, f25, f26, f27, f28, f29, f30, f31, f32, f33, f34, f35, f36, f37, f38, f39, f40, f41, f42, f43, f44, f45, f46, f47, f48, f49, f50, f51, _⟩ := h
  exact q_72v_14 (q0 := q0) (n0 := ρ 4) (n1 := ρ 3) (n2 := ρ 2) (n3 := ρ 1) (n4 := ρ 0) (n5 := ρ 5) (n6 := ρ 6) (n7 := ρ 7) (n8 := ρ 8) (n9 := ρ 9) (n10 := ρ 10) (n11 := ρ 11) (n12 := ρ 12) (n13 := ρ 13) (n14 := ρ 14) (n15 := ρ 15) (n16 := ρ 16) (n17 := ρ 17) (n18 := ρ 18) (n19 := ρ 19) (H0 := η 0) (H1 := η 1) (H2 := η 2) (H3 := η 3) (H4 := η 4) (H5 := η 5) (H6 := η 6) (H7 := η 7) f51 f50 f49 f48 f47 f46 f45 f44 f43 f42 f41 f40 f39 f38 f37 f36 f35 f34 f33 f32 f31 f30 f29 f28 f27 f26 f25 f24 f23 f22 f21 f20 f19 f18 f17 f16 f15 f14 f13 f12 f11 f10 f9 f8 f7 f6 f5 f4 f3 f2 f1 f0
theorem q_72v_15 {q0 : Nat} {n0 n1 n2 n3 n4 n5 n6 n7 n8 n9 n10 n11 n12 n13 n14 n15 n16 n17 n18 n19 n20 n21 n22 n23 n24 n25 : Int} {H0 H1 H2 H3 H4 H5 H6 H7 H8 : gH} (f0 : n0 ≤ 2147483647) (f1 : (-2147483648) ≤ n0) (f2 : n1 ≤ 2147483647) (f3 : (-2147483648) ≤ n1) (f4 : n2 ≤ 2147483647) (f5 : (-2147483648) ≤ n2) (f6 : n3 = 30) (f7 : n4 = 30) (f8 : (hLe T0 H0 H1 ∧ hFr s_72v.2.2.2.2 H0 H1 ∧ hWt T0 H1) ∧ (Ab_72v_6 n4 n3 n2 n1 n0 H0 H1 ∧ preb_72v n4 H0) ∧ some q0 = some (mub_72v_6 n4 n3 n2 n1 n0 H0 H1)) (f9 : n5 = 16) (f10 : n0 ≤ n5) (f11 : n6 ≤ 2147483647) (f12 : (-2147483648) ≤ n6) (f13 : n6 = hV H1 (n3).toNat 3) (f14 : n6 = 0) (f15 : n7 ≤ 2147483647) (f16 : (-2147483648) ≤ n7) (f17 : n7 = hV H1 (n3).toNat 2) (f18 : n8 ≤ 1) (f19 : 0 ≤ n8) (f20 : (hLe T0 H1 H2 ∧ hFr s_73v.2.2.2.2 H1 H2 ∧ ((0 : Int) = 0 → H2.length = H1.length) ∧ hWt T0 H2) ∧ postb_73v n8 n7 H1 H2) (f21 : n8 ≠ 0) (f22 : n9 ≤ 2147483647) (f23 : (-2147483648) ≤ n9) (f24 : n9 = hV H2 (n3).toNat 13) (f25 : (hLe T0 H2 H3 ∧ hFr s_74v.2.2.2.2 H2 H3 ∧ ((0 : Int) = 0 → H3.length = H2.length) ∧ hWt T0 H3) ∧ postb_74v n10 n3 n9 n2 H2 H3) (f26 : 0 ≤ n10) (f27 : n11 ≤ 2147483647) (f28 : (-2147483648) ≤ n11) (f29 : n11 = hV H3 (n3).toNat 2) (f30 : n12 = 20) (f31 : n13 = w32 (n11 - n12)) (f32 : n14 = 31) (f33 : n14 = hV H3 (n3).toNat 0) (f34 : n15 ≤ 2147483647) (f35 : (-2147483648) ≤ n15) (f36 : n15 = hV H3 (n3).toNat 1) (f37 : n16 ≤ 2147483647) (f38 : (-2147483648) ≤ n16) (f39 : (hLe T0 H3 H4 ∧ hFr s_124.2.2.2.2 H3 H4 ∧ ((0 : Int) = 0 → H4.length = H3.length) ∧ hWt T0 H4) ∧ True) (f40 : (hLe T0 H4 H5 ∧ hFr s_24v.2.2.2.2 H4 H5 ∧ ((0 : Int) = 0 → H5.length = H4.length) ∧ hWt T0 H5) ∧ postb_24v n10 n13 n16 H4 H5) (f41 : n17 ≤ 2147483647) (f42 : (-2147483648) ≤ n17) (f43 : n17 = hV H5 (n3).toNat 2) (f44 : (hLe T0 H5 H6 ∧ hFr s_66v.2.2.2.2 H5 H6 ∧ ((0 : Int) = 0 → H6.length = H5.length) ∧ hWt T0 H6) ∧ postb_66v n3 n17 H5 H6) (f45 : n18 ≤ 2147483647) (f46 : (-2147483648) ≤ n18) (f47 : hK H6 (n10).toNat = 1) (f48 : n18 = hV H6 (n10).toNat 0) (f49 : 4 < n18) (f50 : (hLe T0 H6 H7 ∧ hFr s_80v.2.2.2.2 H6 H7 ∧ ((0 : Int) = 0 → H7.length = H6.length) ∧ hWt T0 H7) ∧ postb_80v n3 n10 H6 H7) (f51 : n19 = 4) (f52 : (hLe T0 H7 H8 ∧ hFr s_66v.2.2.2.2 H7 H8 ∧ ((0 : Int) = 0 → H8.length = H7.length) ∧ hWt T0 H8) ∧ postb_66v n3 n19 H7 H8) (f53 : n20 = w32 (n2 + 1)) (f54 : n21 ≤ 2147483647) (f55 : (-2147483648) ≤ n21) (f56 : hK H8 (n10).toNat = 1) (f57 : n21 = hV H8 (n10).toNat 0) (f58 : n22 = 5) (f59 : n21 ≠ n22) (f60 : n23 = 1) (f61 : n24 = w32 (n1 + n23)) (f62 : n25 = w32 (n0 + 1)) : Ab_72v_6 n4 n3 n20 n24 n25 H0 H8 ∧ ∀ q, some q0 = some q → mub_72v_6 n4 n3 n20 n24 n25 H0 H8 < q := by
  have pz := f8.2.1.2
  unfold preb_72v at pz
  have ga := f8.2.1.1
  unfold Ab_72v_6 at ga
  have vz : vwC H1 = vwC H0 := vwC_fr f8.1.2.1 (by decide +kernel)
  obtain ⟨kz, bz, blz, b13, cz, b48, x10, x116, x30, x317, x13, ya, yt⟩ := ga
  have r3 := f13
  rw [f6] at r3
  rw [show ((30 : Int)).toNat = 30 from rfl] at r3
  have r2 := f17
  rw [f6] at r2
  rw [show ((30 : Int)).toNat = 30 from rfl] at r2
  have pc := f20.2
  unfold postb_73v at pc
  have cq := f25.2
  unfold postb_74v at cq
  have cq2 := cq.2
  have ck_0 := (cq.1 (by omega)).2
  have ck_1 : hK H4 (n10).toNat = 1 := kLe f39.1.1 ck_0 rfl
  have ck_2 : hK H5 (n10).toNat = 1 := kLe f40.1.1 ck_1 rfl
  have ck_3 : hK H6 (n10).toNat = 1 := kLe f44.1.1 ck_2 rfl
  have ck_4 : hK H7 (n10).toNat = 1 := kLe f50.1.1 ck_3 rfl
  have ck_5 : hK H8 (n10).toNat = 1 := kLe f52.1.1 ck_4 rfl
  have s0 := PF_fr f20.1.1 f20.1.2.1 (by decide +kernel) kz
  have a0 : absC H2 = (absC H1) := s0.1
  have v0 : vwC H2 = vwC H0 := (vwC_fr f20.1.2.1 (by decide +kernel)).trans vz
  have u0 := CU_fr f20.1.1 f20.1.2.1 (by decide +kernel) cz
  have d0 := BI_fr f20.1.1 f20.1.2.1 (by decide +kernel) bz
  have j0 : BLc H2 = BLc H0 := d0.2.trans blz
  have s1 := PF_fr f25.1.1 f25.1.2.1 (by decide +kernel) s0.2.2
  have a1 : absC H3 = (absC H1) := s1.1.trans a0
  have v1 : vwC H3 = vwC H0 := (vwC_fr f25.1.2.1 (by decide +kernel)).trans v0
  have u1 := CU_fr f25.1.1 f25.1.2.1 (by decide +kernel) u0
  have d1 := BI_fr f25.1.1 f25.1.2.1 (by decide +kernel) d0.1
  have j1 : BLc H3 = BLc H0 := d1.2.trans j0
  have s2 := PF_fr f39.1.1 f39.1.2.1 (by decide +kernel) s1.2.2
  have a2 : absC H4 = (absC H1) := s2.1.trans a1
  have v2 : vwC H4 = vwC H0 := (vwC_fr f39.1.2.1 (by decide +kernel)).trans v1
  have u2 := CU_fr f39.1.1 f39.1.2.1 (by decide +kernel) u1
  have d2 := BI_fr f39.1.1 f39.1.2.1 (by decide +kernel) d1.1
  have j2 : BLc H4 = BLc H0 := d2.2.trans j1
  have s3 := PF_fr f40.1.1 f40.1.2.1 (by decide +kernel) s2.2.2
  have a3 : absC H5 = (absC H1) := s3.1.trans a2
  have v3 : vwC H5 = vwC H0 := (vwC_fr f40.1.2.1 (by decide +kernel)).trans v2
  have u3 := CU_fr f40.1.1 f40.1.2.1 (by decide +kernel) u2
  have d3 := BI_fr f40.1.1 f40.1.2.1 (by decide +kernel) d2.1
  have j3 : BLc H5 = BLc H0 := d3.2.trans j2
  have c4 := f44.2
  unfold postb_66v at c4
  rw [v3] at c4
  rw [a3] at c4
  have a4 : absC H6 = (ptk (vwC H0) n17 (absC H1)) := c4.2
  have v4 : vwC H6 = vwC H0 := (vwC_fr f44.1.2.1 (by decide +kernel)).trans v3
  have u4 := CU_fr f44.1.1 f44.1.2.1 (by decide +kernel) u3
  have d4 := BI_fr f44.1.1 f44.1.2.1 (by decide +kernel) d3.1
  have j4 : BLc H6 = BLc H0 := d4.2.trans j3
  have c5 := f50.2
  unfold postb_80v at c5
  rw [v4] at c5
  rw [a4] at c5
  rw [j4] at c5
  have a5 : absC H7 = (pUse (vwC H0) (BLc H0) (ptk (vwC H0) n17 (absC H1))) := c5.2.1
  have v5 : vwC H7 = vwC H0 := (vwC_fr f50.1.2.1 (by decide +kernel)).trans v4
  have u5 := CU_fr f50.1.1 f50.1.2.1 (by decide +kernel) u4
  have j5 : BLc H7 = BLc H0 := c5.2.2.2.1
  have c6 := f52.2
  unfold postb_66v at c6
  try rw [f51] at c6
  rw [v5] at c6
  rw [a5] at c6
  have a6 : absC H8 = (ptk (vwC H0) 4 (pUse (vwC H0) (BLc H0) (ptk (vwC H0) n17 (absC H1)))) := c6.2
  have v6 : vwC H8 = vwC H0 := (vwC_fr f52.1.2.1 (by decide +kernel)).trans v5
  have u6 := CU_fr f52.1.1 f52.1.2.1 (by decide +kernel) u5
  have d6 := BI_fr f52.1.1 f52.1.2.1 (by decide +kernel) c5.2.2.1
  have j6 : BLc H8 = BLc H0 := d6.2.trans j5
  have y2 := pz.2.1.2.1
  have y3 := pz.2.1.2.2.1
  have wq31 := f31
  unfold w32 at wq31
  have wq53 := f53
  unfold w32 at wq53
  have wq61 := f61
  unfold w32 at wq61
  have wq62 := f62
  unfold w32 at wq62
  have g5 := Option.some.inj f8.2.2
  unfold mub_72v_6 at g5
  unfold Ab_72v_6 mub_72v_6
  have t13 : hV H8 30 13 = hV H1 30 13 := (f52.1.2.1.1 30 13 (by decide +kernel)).trans ((f50.1.2.1.1 30 13 (by decide +kernel)).trans ((f44.1.2.1.1 30 13 (by decide +kernel)).trans ((f40.1.2.1.1 30 13 (by decide +kernel)).trans ((f39.1.2.1.1 30 13 (by decide +kernel)).trans ((f25.1.2.1.1 30 13 (by decide +kernel)).trans (f20.1.2.1.1 30 13 (by decide +kernel)))))))
  have t48 : hV H8 48 = hV H1 48 := (fRow f52.1.2.1 48 (by decide +kernel)).trans ((fRow f50.1.2.1 48 (by decide +kernel)).trans ((fRow f44.1.2.1 48 (by decide +kernel)).trans ((fRow f40.1.2.1 48 (by decide +kernel)).trans ((fRow f39.1.2.1 48 (by decide +kernel)).trans ((fRow f25.1.2.1 48 (by decide +kernel)).trans (fRow f20.1.2.1 48 (by decide +kernel)))))))
  have hk : (vwC H0).1 (absC H1).1 = hV H1 30 2 := by
    have u := (kd_at kz).resolve_left (by have := absC_pos kz (by omega); omega)
    rw [vz] at u
    exact u
  have pr := f40.2
  unfold postb_24v at pr
  have ka0_0 : hK H6 (n10).toNat = 1 := kLe f44.1.1 ck_2 rfl
  have kq0 : n18 = hV H5 (n10).toNat 0 := f48.trans (f44.1.2.1.2.2 _ 1 ck_2 rfl 0 (by decide +kernel))
  have ka1_0 : hK H6 (n10).toNat = 1 := kLe f44.1.1 ck_2 rfl
  have ka1_1 : hK H7 (n10).toNat = 1 := kLe f50.1.1 ka1_0 rfl
  have ka1_2 : hK H8 (n10).toNat = 1 := kLe f52.1.1 ka1_1 rfl
  have kq1 : n21 = hV H5 (n10).toNat 0 := f57.trans ((f52.1.2.1.2.2 _ 1 ka1_1 rfl 0 (by decide +kernel)).trans ((f50.1.2.1.2.2 _ 1 ka1_0 rfl 0 (by decide +kernel)).trans (f44.1.2.1.2.2 _ 1 ck_2 rfl 0 (by decide +kernel))))
  have rz0 := f29
  rw [f6] at rz0
  rw [show ((30 : Int)).toNat = 30 from rfl] at rz0
  have tz0 : hV H3 30 2 = hV H1 30 2 := (f25.1.2.1.1 30 2 (by decide +kernel)).trans (f20.1.2.1.1 30 2 (by decide +kernel))
  have rz1 := f43
  rw [f6] at rz1
  rw [show ((30 : Int)).toNat = 30 from rfl] at rz1
  have tz1 : hV H5 30 2 = hV H1 30 2 := (f40.1.2.1.1 30 2 (by decide +kernel)).trans ((f39.1.2.1.1 30 2 (by decide +kernel)).trans ((f25.1.2.1.1 30 2 (by decide +kernel)).trans (f20.1.2.1.1 30 2 (by decide +kernel))))
  have pr1 := pr.1
  exfalso
  omega
theorem c_72v_6_14 {q0 : Nat} : vOkm T0 (eP e_72v L_72v A_72v mu_72v (some q0)) 1 ([(10, [25, 4], [], 1), (1, [24, 3, 23], [], 0), (0, [23], [], 1), (41, [21, 22], [], 0), (0, [22], [], 5), (20, [21, 10], [8], 0), (23, [10], [8], 1), (90, [21], [], -2147483648), (91, [21], [], 2147483647), (10, [20, 2], [], 1), (1066, [1, 19], [7, 8], 0), (0, [19], [], 4), (1080, [1, 10], [6, 7], 0), (67, [18], [], 4), (20, [18, 10], [6], 0), (23, [10], [6], 1), (90, [18], [], -2147483648), (91, [18], [], 2147483647), (1066, [1, 17], [5, 6], 0), (20, [17, 1], [5], 2), (90, [17], [], -2147483648), (91, [17], [], 2147483647), (1024, [10, 13, 16], [4, 5], 0), (1124, [16, 14, 15], [3, 4], 0), (90, [16], [], -2147483648), (91, [16], [], 2147483647), (20, [15, 1], [3], 1), (90, [15], [], -2147483648), (91, [15], [], 2147483647), (20, [14, 1], [3], 0), (0, [14], [], 31), (2, [13, 11, 12], [], 0), (0, [12], [], 20), (20, [11, 1], [3], 2), (90, [11], [], -2147483648), (91, [11], [], 2147483647), (51, [10], [], 0), (1074, [10, 1, 9, 2], [2, 3], 0), (20, [9, 1], [2], 13), (90, [9], [], -2147483648), (91, [9], [], 2147483647), (31, [8], [], 0), (1073, [8, 7], [1, 2], 0), (90, [8], [], 0), (91, [8], [], 1), (20, [7, 1], [1], 2), (90, [7], [], -2147483648), (91, [7], [], 2147483647), (30, [6], [], 0), (20, [6, 1], [1], 3), (90, [6], [], -2147483648), (91, [6], [], 2147483647), (45, [4, 5], [], 0), (0, [5], [], 16), (5000, [0, 1, 2, 3, 4], [0, 1], 6), (0, [0], [], 30), (0, [1], [], 30), (90, [2], [], -2147483648), (91, [2], [], 2147483647), (90, [3], [], -2147483648), (91, [3], [], 2147483647), (90, [4], [], -2147483648), (91, [4], [], 2147483647)], (4000, [1, 20, 24, 25], [8], 6)) := vOk_in fun ρ η h => by
  obtain ⟨f0, f1, f2, f3, f4, f5, f6, f7, f8, f9, f10, f11, f12, f13, f14, f15, f16, f17, f18, f19, f20, f21, f22, f23, f24, f25, f26, f27, f28, f29, f30, f31, f32, f33, f34, f35, f36, f37, f38, f39, f40, f41, f42, f43, f44, f45, f46, f47, f48, f49, f50, f51, f52, f53, f54, f55, f56, f57, f58, f59, f60, f61, f62, _⟩ := h
  exact q_72v_15 (q0 := q0) (n0 := ρ 4) (n1 := ρ 3) (n2 := ρ 2) (n3 := ρ 1) (n4 := ρ 0) (n5 := ρ 5) (n6 := ρ 6) (n7 := ρ 7) (n8 := ρ 8) (n9 := ρ 9) (n10 := ρ 10) (n11 := ρ 11) (n12 := ρ 12) (n13 := ρ 13) (n14 := ρ 14) (n15 := ρ 15) (n16 := ρ 16) (n17 := ρ 17) (n18 := ρ 18) (n19 := ρ 19) (n20 := ρ 20) (n21 := ρ 21) (n22 := ρ 22) (n23 := ρ 23) (n24 := ρ 24) (n25 := ρ 25) (H0 := η 0) (H1 := η 1) (H2 := η 2) (H3 := η 3) (H4 := η 4) (H5 := η 5) (H6 := η 6) (H7 := η 7) (H8 := η 8) f62 f61 f60 f59 f58 f57 f56 f55 f54 f53 f52 f51 f50 f49 f48 f47 f46 f45 f44 f43 f42 f41 f40 f39 f38 f37 f36 f35 f34 f33 f32 f31 f30 f29 f28 f27 f26 f25 f24 f23 f22 f21 f20 f19 f18 f17 f16 f15 f14 f13 f12 f11 f10 f9 f8 f7 f6 f5 f4 f3 f2 f1 f0
theorem q_72v_16 {q0 : Nat} {n0 n1 n2 n3 n4 n5 n6 n7 n8 n9 n10 n11 n12 n13 n14 n15 n16 n17 n18 n19 n20 n21 n22 n23 n24 n25 n26 n27 : Int} {H0 H1 H2 H3 H4 H5 H6 H7 H8 H9 : gH} (f0 : n0 ≤ 2147483647) (f1 : (-2147483648) ≤ n0) (f2 : n1 ≤ 2147483647) (f3 : (-2147483648) ≤ n1) (f4 : n2 ≤ 2147483647) (f5 : (-2147483648) ≤ n2) (f6 : n3 = 30) (f7 : n4 = 30) (f8 : (hLe T0 H0 H1 ∧ hFr s_72v.2.2.2.2 H0 H1 ∧ hWt T0 H1) ∧ (Ab_72v_6 n4 n3 n2 n1 n0 H0 H1 ∧ preb_72v n4 H0) ∧ some q0 = some (mub_72v_6 n4 n3 n2 n1 n0 H0 H1)) (f9 : n5 = 16) (f10 : n0 ≤ n5) (f11 : n6 ≤ 2147483647) (f12 : (-2147483648) ≤ n6) (f13 : n6 = hV H1 (n3).toNat 3) (f14 : n6 = 0) (f15 : n7 ≤ 2147483647) (f16 : (-2147483648) ≤ n7) (f17 : n7 = hV H1 (n3).toNat 2) (f18 : n8 ≤ 1) (f19 : 0 ≤ n8) (f20 : (hLe T0 H1 H2 ∧ hFr s_73v.2.2.2.2 H1 H2 ∧ ((0 : Int) = 0 → H2.length = H1.length) ∧ hWt T0 H2) ∧ postb_73v n8 n7 H1 H2) (f21 : n8 ≠ 0) (f22 : n9 ≤ 2147483647) (f23 : (-2147483648) ≤ n9) (f24 : n9 = hV H2 (n3).toNat 13) (f25 : (hLe T0 H2 H3 ∧ hFr s_74v.2.2.2.2 H2 H3 ∧ ((0 : Int) = 0 → H3.length = H2.length) ∧ hWt T0 H3) ∧ postb_74v n10 n3 n9 n2 H2 H3) (f26 : 0 ≤ n10) (f27 : n11 ≤ 2147483647) (f28 : (-2147483648) ≤ n11) (f29 : n11 = hV H3 (n3).toNat 2) (f30 : n12 = 20) (f31 : n13 = w32 (n11 - n12)) (f32 : n14 = 31) (f33 : n14 = hV H3 (n3).toNat 0) (f34 : n15 ≤ 2147483647) (f35 : (-2147483648) ≤ n15) (f36 : n15 = hV H3 (n3).toNat 1) (f37 : n16 ≤ 2147483647) (f38 : (-2147483648) ≤ n16) (f39 : (hLe T0 H3 H4 ∧ hFr s_124.2.2.2.2 H3 H4 ∧ ((0 : Int) = 0 → H4.length = H3.length) ∧ hWt T0 H4) ∧ True) (f40 : (hLe T0 H4 H5 ∧ hFr s_24v.2.2.2.2 H4 H5 ∧ ((0 : Int) = 0 → H5.length = H4.length) ∧ hWt T0 H5) ∧ postb_24v n10 n13 n16 H4 H5) (f41 : n17 ≤ 2147483647) (f42 : (-2147483648) ≤ n17) (f43 : n17 = hV H5 (n3).toNat 2) (f44 : (hLe T0 H5 H6 ∧ hFr s_66v.2.2.2.2 H5 H6 ∧ ((0 : Int) = 0 → H6.length = H5.length) ∧ hWt T0 H6) ∧ postb_66v n3 n17 H5 H6) (f45 : n18 ≤ 2147483647) (f46 : (-2147483648) ≤ n18) (f47 : hK H6 (n10).toNat = 1) (f48 : n18 = hV H6 (n10).toNat 0) (f49 : 4 < n18) (f50 : (hLe T0 H6 H7 ∧ hFr s_80v.2.2.2.2 H6 H7 ∧ ((0 : Int) = 0 → H7.length = H6.length) ∧ hWt T0 H7) ∧ postb_80v n3 n10 H6 H7) (f51 : n19 = 4) (f52 : (hLe T0 H7 H8 ∧ hFr s_66v.2.2.2.2 H7 H8 ∧ ((0 : Int) = 0 → H8.length = H7.length) ∧ hWt T0 H8) ∧ postb_66v n3 n19 H7 H8) (f53 : n20 = w32 (n2 + 1)) (f54 : n21 ≤ 2147483647) (f55 : (-2147483648) ≤ n21) (f56 : hK H8 (n10).toNat = 1) (f57 : n21 = hV H8 (n10).toNat 0) (f58 : n22 = 5) (f59 : n21 = n22) (f60 : n23 = 47) (f61 : n23 = hV H8 (n3).toNat 11) (f62 : n24 ≤ 2147483647) (f63 : (-2147483648) ≤ n24) (f64 : hK H8 (n10).toNat = 1) (f65 : n24 = hV H8 (n10).toNat 2) (f66 : n25 ≤ 2147483647) (f67 : (-2147483648) ≤ n25) (f68 : (hLe T0 H8 H9 ∧ hFr s_199vk740.2.2.2.2 H8 H9 ∧ ((0 : Int) = 0 → H9.length = H8.length) ∧ hWt T0 H9) ∧ postb_199vk740 n25 n23 n24 H8 H9) (f69 : n26 = w32 (n1 + n25)) (f70 : n27 = w32 (n0 + 1)) : Ab_72v_6 n4 n3 n20 n26 n27 H0 H9 ∧ ∀ q, some q0 = some q → mub_72v_6 n4 n3 n20 n26 n27 H0 H9 < q := by
  have pz := f8.2.1.2
  unfold preb_72v at pz
  have ga := f8.2.1.1
  unfold Ab_72v_6 at ga
  have vz : vwC H1 = vwC H0 := vwC_fr f8.1.2.1 (by decide +kernel)
  obtain ⟨kz, bz, blz, b13, cz, b48, x10, x116, x30, x317, x13, ya, yt⟩ := ga
  have r3 := f13
  rw [f6] at r3
  rw [show ((30 : Int)).toNat = 30 from rfl] at r3
  have r2 := f17
  rw [f6] at r2
  rw [show ((30 : Int)).toNat = 30 from rfl] at r2
  have pc := f20.2
  unfold postb_73v at pc
  have cq := f25.2
  unfold postb_74v at cq
  have cq2 := cq.2
  have ck_0 := (cq.1 (by omega)).2
  have ck_1 : hK H4 (n10).toNat = 1 := kLe f39.1.1 ck_0 rfl
  have ck_2 : hK H5 (n10).toNat = 1 := kLe f40.1.1 ck_1 rfl
  have ck_3 : hK H6 (n10).toNat = 1 := kLe f44.1.1 ck_2 rfl
  have ck_4 : hK H7 (n10).toNat = 1 := kLe f50.1.1 ck_3 rfl
  have ck_5 : hK H8 (n10).toNat = 1 := kLe f52.1.1 ck_4 rfl
  have ck_6 : hK H9 (n10).toNat = 1 := kLe f68.1.1 ck_5 rfl
  have s0 := PF_fr f20.1.1 f20.1.2.1 (by decide +kernel) kz
  have a0 : absC H2 = (absC H1) := s0.1
  have v0 : vwC H2 = vwC H0 := (vwC_fr f20.1.2.1 (by decide +kernel)).trans vz
  have u0 := CU_fr f20.1.1 f20.1.2.1 (by decide +kernel) cz
  have d0 := BI_fr f20.1.1 f20.1.2.1 (by decide +kernel) bz
  have j0 : BLc H2 = BLc H0 := d0.2.trans blz
  have s1 := PF_fr f25.1.1 f25.1.2.1 (by decide +kernel) s0.2.2
  have a1 : absC H3 = (absC H1) := s1.1.trans a0
  have v1 : vwC H3 = vwC H0 := (vwC_fr f25.1.2.1 (by decide +kernel)).trans v0
  have u1 := CU_fr f25.1.1 f25.1.2.1 (by decide +kernel) u0
  have d1 := BI_fr f25.1.1 f25.1.2.1 (by decide +kernel) d0.1
  have j1 : BLc H3 = BLc H0 := d1.2.trans j0
  have s2 := PF_fr f39.1.1 f39.1.2.1 (by decide +kernel) s1.2.2
  have a2 : absC H4 = (absC H1) := s2.1.trans a1
  have v2 : vwC H4 = vwC H0 := (vwC_fr f39.1.2.1 (by decide +kernel)).trans v1
  have u2 := CU_fr f39.1.1 f39.1.2.1 (by decide +kernel) u1
  have d2 := BI_fr f39.1.1 f39.1.2.1 (by decide +kernel) d1.1
  have j2 : BLc H4 = BLc H0 := d2.2.trans j1
  have s3 := PF_fr f40.1.1 f40.1.2.1 (by decide +kernel) s2.2.2
  have a3 : absC H5 = (absC H1) := s3.1.trans a2
  have v3 : vwC H5 = vwC H0 := (vwC_fr f40.1.2.1 (by decide +kernel)).trans v2
  have u3 := CU_fr f40.1.1 f40.1.2.1 (by decide +kernel) u2
  have d3 := BI_fr f40.1.1 f40.1.2.1 (by decide +kernel) d2.1
  have j3 : BLc H5 = BLc H0 := d3.2.trans j2
  have c4 := f44.2
  unfold postb_66v at c4
  rw [v3] at c4
  rw [a3] at c4
  have a4 : absC H6 = (ptk (vwC H0) n17 (absC H1)) := c4.2
  have v4 : vwC H6 = vwC H0 := (vwC_fr f44.1.2.1 (by decide +kernel)).trans v3
  have u4 := CU_fr f44.1.1 f44.1.2.1 (by decide +kernel) u3
  have d4 := BI_fr f44.1.1 f44.1.2.1 (by decide +kernel) d3.1
  have j4 : BLc H6 = BLc H0 := d4.2.trans j3
  have c5 := f50.2
  unfold postb_80v at c5
  rw [v4] at c5
  rw [a4] at c5
  rw [j4] at c5
  have a5 : absC H7 = (pUse (vwC H0) (BLc H0) (ptk (vwC H0) n17 (absC H1))) := c5.2.1
  have v5 : vwC H7 = vwC H0 := (vwC_fr f50.1.2.1 (by decide +kernel)).trans v4
  have u5 := CU_fr f50.1.1 f50.1.2.1 (by decide +kernel) u4
  have j5 : BLc H7 = BLc H0 := c5.2.2.2.1
  have c6 := f52.2
  unfold postb_66v at c6
  try rw [f51] at c6
  rw [v5] at c6
  rw [a5] at c6
  have a6 : absC H8 = (ptk (vwC H0) 4 (pUse (vwC H0) (BLc H0) (ptk (vwC H0) n17 (absC H1)))) := c6.2
  have v6 : vwC H8 = vwC H0 := (vwC_fr f52.1.2.1 (by decide +kernel)).trans v5
  have u6 := CU_fr f52.1.1 f52.1.2.1 (by decide +kernel) u5
  have d6 := BI_fr f52.1.1 f52.1.2.1 (by decide +kernel) c5.2.2.1
  have j6 : BLc H8 = BLc H0 := d6.2.trans j5
  have s7 := PF_fr f68.1.1 f68.1.2.1 (by decide +kernel) c6.1
  have a7 : absC H9 = (ptk (vwC H0) 4 (pUse (vwC H0) (BLc H0) (ptk (vwC H0) n17 (absC H1)))) := s7.1.trans a6
  have v7 : vwC H9 = vwC H0 := (vwC_fr f68.1.2.1 (by decide +kernel)).trans v6
  have u7 := CU_fr f68.1.1 f68.1.2.1 (by decide +kernel) u6
  have d7 := BI_fr f68.1.1 f68.1.2.1 (by decide +kernel) d6.1
  have j7 : BLc H9 = BLc H0 := d7.2.trans j6
  have y2 := pz.2.1.2.1
  have y3 := pz.2.1.2.2.1
  have wq31 := f31
  unfold w32 at wq31
  have wq53 := f53
  unfold w32 at wq53
  have wq69 := f69
  unfold w32 at wq69
  have wq70 := f70
  unfold w32 at wq70
  have g5 := Option.some.inj f8.2.2
  unfold mub_72v_6 at g5
  unfold Ab_72v_6 mub_72v_6
  have t13 : hV H9 30 13 = hV H1 30 13 := (f68.1.2.1.1 30 13 (by decide +kernel)).trans ((f52.1.2.1.1 30 13 (by decide +kernel)).trans ((f50.1.2.1.1 30 13 (by decide +kernel)).trans ((f44.1.2.1.1 30 13 (by decide +kernel)).trans ((f40.1.2.1.1 30 13 (by decide +kernel)).trans ((f39.1.2.1.1 30 13 (by decide +kernel)).trans ((f25.1.2.1.1 30 13 (by decide +kernel)).trans (f20.1.2.1.1 30 13 (by decide +kernel))))))))
  have t48 : hV H9 48 = hV H1 48 := (fRow f68.1.2.1 48 (by decide +kernel)).trans ((fRow f52.1.2.1 48 (by decide +kernel)).trans ((fRow f50.1.2.1 48 (by decide +kernel)).trans ((fRow f44.1.2.1 48 (by decide +kernel)).trans ((fRow f40.1.2.1 48 (by decide +kernel)).trans ((fRow f39.1.2.1 48 (by decide +kernel)).trans ((fRow f25.1.2.1 48 (by decide +kernel)).trans (fRow f20.1.2.1 48 (by decide +kernel))))))))
  have hk : (vwC H0).1 (absC H1).1 = hV H1 30 2 := by
    have u := (kd_at kz).resolve_left (by have := absC_pos kz (by omega); omega)
    rw [vz] at u
    exact u
  have pr := f40.2
  unfold postb_24v at pr
  have ka0_0 : hK H6 (n10).toNat = 1 := kLe f44.1.1 ck_2 rfl
  have kq0 : n18 = hV H5 (n10).toNat 0 := f48.trans (f44.1.2.1.2.2 _ 1 ck_2 rfl 0 (by decide +kernel))
  have ka1_0 : hK H6 (n10).toNat = 1 := kLe f44.1.1 ck_2 rfl
  have ka1_1 : hK H7 (n10).toNat = 1 := kLe f50.1.1 ka1_0 rfl
  have ka1_2 : hK H8 (n10).toNat = 1 := kLe f52.1.1 ka1_1 rfl
  have kq1 : n21 = hV H5 (n10).toNat 0 := f57.trans ((f52.1.2.1.2.2 _ 1 ka1_1 rfl 0 (by decide +kernel)).trans ((f50.1.2.1.2.2 _ 1 ka1_0 rfl 0 (by decide +kernel)).trans (f44.1.2.1.2.2 _ 1 ck_2 rfl 0 (by decide +kernel))))
  have rz0 := f29
  rw [f6] at rz0
  rw [show ((30 : Int)).toNat = 30 from rfl] at rz0
  have tz0 : hV H3 30 2 = hV H1 30 2 := (f25.1.2.1.1 30 2 (by decide +kernel)).trans (f20.1.2.1.1 30 2 (by decide +kernel))
  have rz1 := f43
  rw [f6] at rz1
  rw [show ((30 : Int)).toNat = 30 from rfl] at rz1
  have tz1 : hV H5 30 2 = hV H1 30 2 := (f40.1.2.1.1 30 2 (by decide +kernel)).trans ((f39.1.2.1.1 30 2 (by decide +kernel)).trans ((f25.1.2.1.1 30 2 (by decide +kernel)).trans (f20.1.2.1.1 30 2 (by decide +kernel))))
  have pr1 := pr.1
  have k2 : hV H1 30 2 = 25 := by omega
  have kt : n17 = 25 := by omega
  have hb : absC H9 = ptk (vwC H0) 4 (pBody (vwC H0) (BLc H0) 25 (ptk (vwC H0) 25 (absC H1))) := by
    rw [pBody_25, ← kt]
    exact a7
  have st := cues_st (bl := BLc H0) pz.1.2.1 (hk.trans k2) (by decide) (by decide) (c := (n2).toNat) (by omega) hb
  have tot : hV H9 30 3 = 0 → ∃ d : Int, n26 = n1 + d ∧ 0 ≤ d ∧ d ≤ gB (hV H0 30 13).toNat ∧ pcap (pcap n1 + pcz (vwC H0) (BLc H0) (absC H1)) = pcap (n1 + d) := fun hf => by
    obtain ⟨w1, w2, w3⟩ := yt (by omega)
    have bb := gB_pos (hV H0 30 13).toNat
    have b16 : n2 * gB (hV H0 30 13).toNat ≤ 16 * gB (hV H0 30 13).toNat := Int.mul_le_mul_of_nonneg_right x116 (by omega)
    have b7 : gB (hV H0 30 13).toNat ≤ gB 6 := gB_mono (by omega)
    have b8 : gB 6 = 16777216 := by decide
    have qf := absC_pos s7.2.2 hf
    have q1 := (absC_pos s7.2.2 hf).2
    rw [hb, pBody_25] at q1
    have q2 : 0 ≤ (pUse (vwC H0) (BLc H0) (ptk (vwC H0) 25 (absC H1))).1 := by
      have w := (ptk_mono (c := 4) pz.1.2.1 q1).1
      exact w
    have fu : hV H7 30 3 = 0 := fault_no c5.1 (by rw [a5]; rw [kt]; exact q2)
    have un := c5.2.2.2.2 fu
    have q3 := pUse_tok pz.1.2.1 q2
    rw [pcz_use pz.1.2.1 rfl (hk.trans k2) q3]
    have kv0 : hK H8 (n10).toNat = 1 := kLe f52.1.1 ck_4 rfl
    have en : n24 = hV H7 (n10).toNat 2 := f65.trans (f52.1.2.1.2.2 _ 1 ck_4 rfl 2 (by decide +kernel))
    rw [← en] at un
    first | rw [kt] at un | skip
    have qa := f68.2
    unfold postb_199vk740 atQ at qa
    rw [f60] at qa
    have e47 : hV H8 47 = hV H1 47 := (fRow f52.1.2.1 47 (by decide +kernel)).trans ((fRow f50.1.2.1 47 (by decide +kernel)).trans ((fRow f44.1.2.1 47 (by decide +kernel)).trans ((fRow f40.1.2.1 47 (by decide +kernel)).trans ((fRow f39.1.2.1 47 (by decide +kernel)).trans ((fRow f25.1.2.1 47 (by decide +kernel)).trans (fRow f20.1.2.1 47 (by decide +kernel)))))))
    unfold UNb at un
    rw [j4] at un
    have u13 : hV H6 30 13 = hV H0 30 13 := ((f44.1.2.1.1 30 13 (by decide +kernel)).trans ((f40.1.2.1.1 30 13 (by decide +kernel)).trans ((f39.1.2.1.1 30 13 (by decide +kernel)).trans ((f25.1.2.1.1 30 13 (by decide +kernel)).trans (f20.1.2.1.1 30 13 (by decide +kernel)))))).trans b13
    have u47 : hV H6 47 = hV H1 47 := (fRow f44.1.2.1 47 (by decide +kernel)).trans ((fRow f40.1.2.1 47 (by decide +kernel)).trans ((fRow f39.1.2.1 47 (by decide +kernel)).trans ((fRow f25.1.2.1 47 (by decide +kernel)).trans (fRow f20.1.2.1 47 (by decide +kernel)))))
    rw [u13, u47] at un
    rcases un with ⟨un1, un2⟩ | ⟨un1, un2, un3, un4, un5⟩
    · rw [if_neg (by omega)] at qa
      refine ⟨0, by omega, by omega, by omega, ?_⟩
      rw [if_pos un2]
      exact (pcap_zero w1).trans (by rw [Int.add_zero])
    · have n7 : hN H8 47 = 7 := d6.1.1.2.2.2
      rw [if_pos ⟨by decide, by omega, by show _ < (hN H8 47 : Int); rw [n7]; omega⟩, show ((47 : Int)).toNat = 47 from rfl, e47] at qa
      have tb := (bz.2.2.2 (n24).toNat (by omega)).2
      have mb : gB ((n24).toNat + 1) ≤ gB (hV H0 30 13).toNat := gB_mono (by omega)
      refine ⟨n25, by omega, by omega, by omega, ?_⟩
      rw [if_neg un5, un4, ← qa]
      exact pcap_add w1 (by omega)
  refine ⟨⟨s7.2.2, d7.1, j7, t13.trans b13, u7, t48.trans b48, by omega, by omega, by omega, by omega, fun w => by have := x13 (by omega); omega, ?_, fun w => ?_⟩, fun q hq => ?_⟩
  · rw [← ya, st, show (n2).toNat + 1 = (n20).toNat by omega]
  · obtain ⟨d, d1, d2, d3, d4⟩ := tot w
    obtain ⟨w1, w2, w3⟩ := yt (by omega)
    have ts := tot_st pz.1.2.1 (hk.trans k2) (by decide) (by decide) (c := (n2).toNat) (by omega) hb d4
    rw [show (n2).toNat + 1 = (n20).toNat by omega, w3] at ts
    refine ⟨by omega, ?_, ?_⟩
    · rw [d1, show n20 = n2 + 1 by omega, Int.add_mul, Int.one_mul]
      omega
    · rw [d1]
      exact ts.symm
  · have g6 := Option.some.inj hq
    subst g6
    first
    | omega
    | lia
theorem c_72v_6_15 {q0 : Nat} : vOkm T0 (eP e_72v L_72v A_72v mu_72v (some q0)) 1 ([(10, [27, 4], [], 1), (1, [26, 3, 25], [], 0), (1199, [25, 23, 24], [8, 9], 0), (90, [25], [], -2147483648), (91, [25], [], 2147483647), (20, [24, 10], [8], 2), (23, [10], [8], 1), (90, [24], [], -2147483648), (91, [24], [], 2147483647), (20, [23, 1], [8], 11), (0, [23], [], 47), (40, [21, 22], [], 0), (0, [22], [], 5), (20, [21, 10], [8], 0), (23, [10], [8], 1), (90, [21], [], -2147483648), (91, [21], [], 2147483647), (10, [20, 2], [], 1), (1066, [1, 19], [7, 8], 0), (0, [19], [], 4), (1080, [1, 10], [6, 7], 0), (67, [18], [], 4), (20, [18, 10], [6], 0), (23, [10], [6], 1), (90, [18], [], -2147483648), (91, [18], [], 2147483647), (1066, [1, 17], [5, 6], 0), (20, [17, 1], [5], 2), (90, [17], [], -2147483648), (91, [17], [], 2147483647), (1024, [10, 13, 16], [4, 5], 0), (1124, [16, 14, 15], [3, 4], 0), (90, [16], [], -2147483648), (91, [16], [], 2147483647), (20, [15, 1], [3], 1), (90, [15], [], -2147483648), (91, [15], [], 2147483647), (20, [14, 1], [3], 0), (0, [14], [], 31), (2, [13, 11, 12], [], 0), (0, [12], [], 20), (20, [11, 1], [3], 2), (90, [11], [], -2147483648), (91, [11], [], 2147483647), (51, [10], [], 0), (1074, [10, 1, 9, 2], [2, 3], 0), (20, [9, 1], [2], 13), (90, [9], [], -2147483648), (91, [9], [], 2147483647), (31, [8], [], 0), (1073, [8, 7], [1, 2], 0), (90, [8], [], 0), (91, [8], [], 1), (20, [7, 1], [1], 2), (90, [7], [], -2147483648), (91, [7], [], 2147483647), (30, [6], [], 0), (20, [6, 1], [1], 3), (90, [6], [], -2147483648), (91, [6], [], 2147483647), (45, [4, 5], [], 0), (0, [5], [], 16), (5000, [0, 1, 2, 3, 4], [0, 1], 6), (0, [0], [], 30), (0, [1], [], 30), (90, [2], [], -2147483648), (91, [2], [], 2147483647), (90, [3], [], -2147483648), (91, [3], [], 2147483647), (90, [4], [], -2147483648), (91, [4], [], 2147483647)], (4000, [1, 20, 26, 27], [9], 6)) := vOk_in fun ρ η h => by
  obtain ⟨f0, f1, f2, f3, f4, f5, f6, f7, f8, f9, f10, f11, f12, f13, f14, f15, f16, f17, f18, f19, f20, f21, f22, f23, f24, f25, f26, f27, f28, f29, f30, f31, f32, f33, f34, f35, f36, f37, f38, f39, f40, f41, f42, f43, f44, f45, f46, f47, f48, f49, f50, f51, f52, f53, f54, f55, f56, f57, f58, f59, f60, f61, f62, f63, f64, f65, f66, f67, f68, f69, f70, _⟩ := h
  exact q_72v_16 (q0 := q0) (n0 := ρ 4) (n1 := ρ 3) (n2 := ρ 2) (n3 := ρ 1) (n4 := ρ 0) (n5 := ρ 5) (n6 := ρ 6) (n7 := ρ 7) (n8 := ρ 8) (n9 := ρ 9) (n10 := ρ 10) (n11 := ρ 11) (n12 := ρ 12) (n13 := ρ 13) (n14 := ρ 14) (n15 := ρ 15) (n16 := ρ 16) (n17 := ρ 17) (n18 := ρ 18) (n19 := ρ 19) (n20 := ρ 20) (n21 := ρ 21) (n22 := ρ 22) (n23 := ρ 23) (n24 := ρ 24) (n25 := ρ 25) (n26 := ρ 26) (n27 := ρ 27) (H0 := η 0) (H1 := η 1) (H2 := η 2) (H3 := η 3) (H4 := η 4) (H5 := η 5) (H6 := η 6) (H7 := η 7) (H8 := η 8) (H9 := η 9) f70 f69 f68 f67 f66 f65 f64 f63 f62 f61 f60 f59 f58 f57 f56 f55 f54 f53 f52 f51 f50 f49 f48 f47 f46 f45 f44 f43 f42 f41 f40 f39 f38 f37 f36 f35 f34 f33 f32 f31 f30 f29 f28 f27 f26 f25 f24 f23 f22 f21 f20 f19 f18 f17 f16 f15 f14 f13 f12 f11 f10 f9 f8 f7 f6 f5 f4 f3 f2 f1 f0
theorem q_72v_17 {q0 : Nat} {n0 n1 n2 n3 n4 n5 n6 n7 n8 n9 n10 n11 n12 n13 n14 n15 n16 n17 n18 : Int} {H0 H1 H2 H3 H4 H5 H6 : gH} (f0 : n0 ≤ 2147483647) (f1 : (-2147483648) ≤ n0) (f2 : n1 ≤ 2147483647) (f3 : (-2147483648) ≤ n1) (f4 : n2 ≤ 2147483647) (f5 : (-2147483648) ≤ n2) (f6 : n3 = 30) (f7 : n4 = 30) (f8 : (hLe T0 H0 H1 ∧ hFr s_72v.2.2.2.2 H0 H1 ∧ hWt T0 H1) ∧ (Ab_72v_6 n4 n3 n2 n1 n0 H0 H1 ∧ preb_72v n4 H0) ∧ some q0 = some (mub_72v_6 n4 n3 n2 n1 n0 H0 H1)) (f9 : n5 = 16) (f10 : n0 ≤ n5) (f11 : n6 ≤ 2147483647) (f12 : (-2147483648) ≤ n6) (f13 : n6 = hV H1 (n3).toNat 3) (f14 : n6 = 0) (f15 : n7 ≤ 2147483647) (f16 : (-2147483648) ≤ n7) (f17 : n7 = hV H1 (n3).toNat 2) (f18 : n8 ≤ 1) (f19 : 0 ≤ n8) (f20 : (hLe T0 H1 H2 ∧ hFr s_73v.2.2.2.2 H1 H2 ∧ ((0 : Int) = 0 → H2.length = H1.length) ∧ hWt T0 H2) ∧ postb_73v n8 n7 H1 H2) (f21 : n8 ≠ 0) (f22 : n9 ≤ 2147483647) (f23 : (-2147483648) ≤ n9) (f24 : n9 = hV H2 (n3).toNat 13) (f25 : (hLe T0 H2 H3 ∧ hFr s_74v.2.2.2.2 H2 H3 ∧ ((0 : Int) = 0 → H3.length = H2.length) ∧ hWt T0 H3) ∧ postb_74v n10 n3 n9 n2 H2 H3) (f26 : 0 ≤ n10) (f27 : n11 ≤ 2147483647) (f28 : (-2147483648) ≤ n11) (f29 : n11 = hV H3 (n3).toNat 2) (f30 : n12 = 20) (f31 : n13 = w32 (n11 - n12)) (f32 : n14 = 31) (f33 : n14 = hV H3 (n3).toNat 0) (f34 : n15 ≤ 2147483647) (f35 : (-2147483648) ≤ n15) (f36 : n15 = hV H3 (n3).toNat 1) (f37 : n16 ≤ 2147483647) (f38 : (-2147483648) ≤ n16) (f39 : (hLe T0 H3 H4 ∧ hFr s_124.2.2.2.2 H3 H4 ∧ ((0 : Int) = 0 → H4.length = H3.length) ∧ hWt T0 H4) ∧ True) (f40 : (hLe T0 H4 H5 ∧ hFr s_24v.2.2.2.2 H4 H5 ∧ ((0 : Int) = 0 → H5.length = H4.length) ∧ hWt T0 H5) ∧ postb_24v n10 n13 n16 H4 H5) (f41 : n17 ≤ 2147483647) (f42 : (-2147483648) ≤ n17) (f43 : n17 = hV H5 (n3).toNat 2) (f44 : (hLe T0 H5 H6 ∧ hFr s_66v.2.2.2.2 H5 H6 ∧ ((0 : Int) = 0 → H6.length = H5.length) ∧ hWt T0 H6) ∧ postb_66v n3 n17 H5 H6) (f45 : n18 ≤ 2147483647) (f46 : (-2147483648) ≤ n18) (f47 : hK H6 (n10).toNat = 1) (f48 : n18 = hV H6 (n10).toNat 0) (f49 : n18 = 0) : preb_75v n3 n10 H6 := by
  have pz := f8.2.1.2
  unfold preb_72v at pz
  have ga := f8.2.1.1
  unfold Ab_72v_6 at ga
  have vz : vwC H1 = vwC H0 := vwC_fr f8.1.2.1 (by decide +kernel)
  obtain ⟨kz, bz, blz, b13, cz, b48, x10, x116, x30, x317, x13, ya, yt⟩ := ga
  have r3 := f13
  rw [f6] at r3
  rw [show ((30 : Int)).toNat = 30 from rfl] at r3
  have r2 := f17
  rw [f6] at r2
  rw [show ((30 : Int)).toNat = 30 from rfl] at r2
  have pc := f20.2
  unfold postb_73v at pc
  have cq := f25.2
  unfold postb_74v at cq
  have cq2 := cq.2
  have ck_0 := (cq.1 (by omega)).2
  have ck_1 : hK H4 (n10).toNat = 1 := kLe f39.1.1 ck_0 rfl
  have ck_2 : hK H5 (n10).toNat = 1 := kLe f40.1.1 ck_1 rfl
  have ck_3 : hK H6 (n10).toNat = 1 := kLe f44.1.1 ck_2 rfl
  have s0 := PF_fr f20.1.1 f20.1.2.1 (by decide +kernel) kz
  have a0 : absC H2 = (absC H1) := s0.1
  have v0 : vwC H2 = vwC H0 := (vwC_fr f20.1.2.1 (by decide +kernel)).trans vz
  have u0 := CU_fr f20.1.1 f20.1.2.1 (by decide +kernel) cz
  have d0 := BI_fr f20.1.1 f20.1.2.1 (by decide +kernel) bz
  have j0 : BLc H2 = BLc H0 := d0.2.trans blz
  have s1 := PF_fr f25.1.1 f25.1.2.1 (by decide +kernel) s0.2.2
  have a1 : absC H3 = (absC H1) := s1.1.trans a0
  have v1 : vwC H3 = vwC H0 := (vwC_fr f25.1.2.1 (by decide +kernel)).trans v0
  have u1 := CU_fr f25.1.1 f25.1.2.1 (by decide +kernel) u0
  have d1 := BI_fr f25.1.1 f25.1.2.1 (by decide +kernel) d0.1
  have j1 : BLc H3 = BLc H0 := d1.2.trans j0
  have s2 := PF_fr f39.1.1 f39.1.2.1 (by decide +kernel) s1.2.2
  have a2 : absC H4 = (absC H1) := s2.1.trans a1
  have v2 : vwC H4 = vwC H0 := (vwC_fr f39.1.2.1 (by decide +kernel)).trans v1
  have u2 := CU_fr f39.1.1 f39.1.2.1 (by decide +kernel) u1
  have d2 := BI_fr f39.1.1 f39.1.2.1 (by decide +kernel) d1.1
  have j2 : BLc H4 = BLc H0 := d2.2.trans j1
  have s3 := PF_fr f40.1.1 f40.1.2.1 (by decide +kernel) s2.2.2
  have a3 : absC H5 = (absC H1) := s3.1.trans a2
  have v3 : vwC H5 = vwC H0 := (vwC_fr f40.1.2.1 (by decide +kernel)).trans v2
  have u3 := CU_fr f40.1.1 f40.1.2.1 (by decide +kernel) u2
  have d3 := BI_fr f40.1.1 f40.1.2.1 (by decide +kernel) d2.1
  have j3 : BLc H5 = BLc H0 := d3.2.trans j2
  have c4 := f44.2
  unfold postb_66v at c4
  rw [v3] at c4
  rw [a3] at c4
  have a4 : absC H6 = (ptk (vwC H0) n17 (absC H1)) := c4.2
  have v4 : vwC H6 = vwC H0 := (vwC_fr f44.1.2.1 (by decide +kernel)).trans v3
  have u4 := CU_fr f44.1.1 f44.1.2.1 (by decide +kernel) u3
  have d4 := BI_fr f44.1.1 f44.1.2.1 (by decide +kernel) d3.1
  have j4 : BLc H6 = BLc H0 := d4.2.trans j3
  have pr := f40.2
  unfold postb_24v at pr
  unfold preb_75v
  exact c4.1
theorem c_72v_6_16 {q0 : Nat} : vOkm T0 (eP e_72v L_72v A_72v mu_72v (some q0)) 1 ([(0, [18], [], 0), (20, [18, 10], [6], 0), (23, [10], [6], 1), (90, [18], [], -2147483648), (91, [18], [], 2147483647), (1066, [1, 17], [5, 6], 0), (20, [17, 1], [5], 2), (90, [17], [], -2147483648), (91, [17], [], 2147483647), (1024, [10, 13, 16], [4, 5], 0), (1124, [16, 14, 15], [3, 4], 0), (90, [16], [], -2147483648), (91, [16], [], 2147483647), (20, [15, 1], [3], 1), (90, [15], [], -2147483648), (91, [15], [], 2147483647), (20, [14, 1], [3], 0), (0, [14], [], 31), (2, [13, 11, 12], [], 0), (0, [12], [], 20), (20, [11, 1], [3], 2), (90, [11], [], -2147483648), (91, [11], [], 2147483647), (51, [10], [], 0), (1074, [10, 1, 9, 2], [2, 3], 0), (20, [9, 1], [2], 13), (90, [9], [], -2147483648), (91, [9], [], 2147483647), (31, [8], [], 0), (1073, [8, 7], [1, 2], 0), (90, [8], [], 0), (91, [8], [], 1), (20, [7, 1], [1], 2), (90, [7], [], -2147483648), (91, [7], [], 2147483647), (30, [6], [], 0), (20, [6, 1], [1], 3), (90, [6], [], -2147483648), (91, [6], [], 2147483647), (45, [4, 5], [], 0), (0, [5], [], 16), (5000, [0, 1, 2, 3, 4], [0, 1], 6), (0, [0], [], 30), (0, [1], [], 30), (90, [2], [], -2147483648), (91, [2], [], 2147483647), (90, [3], [], -2147483648), (91, [3], [], 2147483647), (90, [4], [], -2147483648), (91, [4], [], 2147483647)], (2075, [1, 10], [6], 0)) := vOk_in fun ρ η h => by
  obtain ⟨f0, f1, f2, f3, f4, f5, f6, f7, f8, f9, f10, f11, f12, f13, f14, f15, f16, f17, f18, f19, f20, f21, f22, f23, f24, f25, f26, f27, f28, f29, f30, f31, f32, f33, f34, f35, f36, f37, f38, f39, f40, f41, f42, f43, f44, f45, f46, f47, f48, f49, _⟩ := h
  exact q_72v_17 (q0 := q0) (n0 := ρ 4) (n1 := ρ 3) (n2 := ρ 2) (n3 := ρ 1) (n4 := ρ 0) (n5 := ρ 5) (n6 := ρ 6) (n7 := ρ 7) (n8 := ρ 8) (n9 := ρ 9) (n10 := ρ 10) (n11 := ρ 11) (n12 := ρ 12) (n13 := ρ 13) (n14 := ρ 14) (n15 := ρ 15) (n16 := ρ 16) (n17 := ρ 17) (n18 := ρ 18) (H0 := η 0) (H1 := η 1) (H2 := η 2) (H3 := η 3) (H4 := η 4) (H5 := η 5) (H6 := η 6) f49 f48 f47 f46 f45 f44 f43 f42 f41 f40 f39 f38 f37 f36 f35 f34 f33 f32 f31 f30 f29 f28 f27 f26 f25 f24 f23 f22 f21 f20 f19 f18 f17 f16 f15 f14 f13 f12 f11 f10 f9 f8 f7 f6 f5 f4 f3 f2 f1 f0
theorem q_72v_18 {q0 : Nat} {n0 n1 n2 n3 n4 n5 n6 n7 n8 n9 n10 n11 n12 n13 n14 n15 n16 n17 n18 n19 : Int} {H0 H1 H2 H3 H4 H5 H6 H7 : gH} (f0 : n0 ≤ 2147483647) (f1 : (-2147483648) ≤ n0) (f2 : n1 ≤ 2147483647) (f3 : (-2147483648) ≤ n1) (f4 : n2 ≤ 2147483647) (f5 : (-2147483648) ≤ n2) (f6 : n3 = 30) (f7 : n4 = 30) (f8 : (hLe T0 H0 H1 ∧ hFr s_72v.2.2.2.2 H0 H1 ∧ hWt T0 H1) ∧ (Ab_72v_6 n4 n3 n2 n1 n0 H0 H1 ∧ preb_72v n4 H0) ∧ some q0 = some (mub_72v_6 n4 n3 n2 n1 n0 H0 H1)) (f9 : n5 = 16) (f10 : n0 ≤ n5) (f11 : n6 ≤ 2147483647) (f12 : (-2147483648) ≤ n6) (f13 : n6 = hV H1 (n3).toNat 3) (f14 : n6 = 0) (f15 : n7 ≤ 2147483647) (f16 : (-2147483648) ≤ n7) (f17 : n7 = hV H1 (n3).toNat 2) (f18 : n8 ≤ 1) (f19 : 0 ≤ n8) (f20 : (hLe T0 H1 H2 ∧ hFr s_73v.2.2.2.2 H1 H2 ∧ ((0 : Int) = 0 → H2.length = H1.length) ∧ hWt T0 H2) ∧ postb_73v n8 n7 H1 H2) (f21 : n8 ≠ 0) (f22 : n9 ≤ 2147483647) (f23 : (-2147483648) ≤ n9) (f24 : n9 = hV H2 (n3).toNat 13) (f25 : (hLe T0 H2 H3 ∧ hFr s_74v.2.2.2.2 H2 H3 ∧ ((0 : Int) = 0 → H3.length = H2.length) ∧ hWt T0 H3) ∧ postb_74v n10 n3 n9 n2 H2 H3) (f26 : 0 ≤ n10) (f27 : n11 ≤ 2147483647) (f28 : (-2147483648) ≤ n11) (f29 : n11 = hV H3 (n3).toNat 2) (f30 : n12 = 20) (f31 : n13 = w32 (n11 - n12)) (f32 : n14 = 31) (f33 : n14 = hV H3 (n3).toNat 0) (f34 : n15 ≤ 2147483647) (f35 : (-2147483648) ≤ n15) (f36 : n15 = hV H3 (n3).toNat 1) (f37 : n16 ≤ 2147483647) (f38 : (-2147483648) ≤ n16) (f39 : (hLe T0 H3 H4 ∧ hFr s_124.2.2.2.2 H3 H4 ∧ ((0 : Int) = 0 → H4.length = H3.length) ∧ hWt T0 H4) ∧ True) (f40 : (hLe T0 H4 H5 ∧ hFr s_24v.2.2.2.2 H4 H5 ∧ ((0 : Int) = 0 → H5.length = H4.length) ∧ hWt T0 H5) ∧ postb_24v n10 n13 n16 H4 H5) (f41 : n17 ≤ 2147483647) (f42 : (-2147483648) ≤ n17) (f43 : n17 = hV H5 (n3).toNat 2) (f44 : (hLe T0 H5 H6 ∧ hFr s_66v.2.2.2.2 H5 H6 ∧ ((0 : Int) = 0 → H6.length = H5.length) ∧ hWt T0 H6) ∧ postb_66v n3 n17 H5 H6) (f45 : n18 ≤ 2147483647) (f46 : (-2147483648) ≤ n18) (f47 : hK H6 (n10).toNat = 1) (f48 : n18 = hV H6 (n10).toNat 0) (f49 : n18 = 0) (f50 : (hLe T0 H6 H7 ∧ hFr s_75v.2.2.2.2 H6 H7 ∧ ((0 : Int) = 0 → H7.length = H6.length) ∧ hWt T0 H7) ∧ postb_75v n3 n10 H6 H7) (f51 : n19 = 4) : preb_66v n3 n19 H7 := by
  have pz := f8.2.1.2
  unfold preb_72v at pz
  have ga := f8.2.1.1
  unfold Ab_72v_6 at ga
  have vz : vwC H1 = vwC H0 := vwC_fr f8.1.2.1 (by decide +kernel)
  obtain ⟨kz, bz, blz, b13, cz, b48, x10, x116, x30, x317, x13, ya, yt⟩ := ga
  have r3 := f13
  rw [f6] at r3
  rw [show ((30 : Int)).toNat = 30 from rfl] at r3
  have r2 := f17
  rw [f6] at r2
  rw [show ((30 : Int)).toNat = 30 from rfl] at r2
  have pc := f20.2
  unfold postb_73v at pc
  have cq := f25.2
  unfold postb_74v at cq
  have cq2 := cq.2
  have ck_0 := (cq.1 (by omega)).2
  have ck_1 : hK H4 (n10).toNat = 1 := kLe f39.1.1 ck_0 rfl
  have ck_2 : hK H5 (n10).toNat = 1 := kLe f40.1.1 ck_1 rfl
  have ck_3 : hK H6 (n10).toNat = 1 := kLe f44.1.1 ck_2 rfl
  have ck_4 : hK H7 (n10).toNat = 1 := kLe f50.1.1 ck_3 rfl
  have s0 := PF_fr f20.1.1 f20.1.2.1 (by decide +kernel) kz
  have a0 : absC H2 = (absC H1) := s0.1
  have v0 : vwC H2 = vwC H0 := (vwC_fr f20.1.2.1 (by decide +kernel)).trans vz
  have u0 := CU_fr f20.1.1 f20.1.2.1 (by decide +kernel) cz
  have d0 := BI_fr f20.1.1 f20.1.2.1 (by decide +kernel) bz
  have j0 : BLc H2 = BLc H0 := d0.2.trans blz
  have s1 := PF_fr f25.1.1 f25.1.2.1 (by decide +kernel) s0.2.2
  have a1 : absC H3 = (absC H1) := s1.1.trans a0
  have v1 : vwC H3 = vwC H0 := (vwC_fr f25.1.2.1 (by decide +kernel)).trans v0
  have u1 := CU_fr f25.1.1 f25.1.2.1 (by decide +kernel) u0
  have d1 := BI_fr f25.1.1 f25.1.2.1 (by decide +kernel) d0.1
  have j1 : BLc H3 = BLc H0 := d1.2.trans j0
  have s2 := PF_fr f39.1.1 f39.1.2.1 (by decide +kernel) s1.2.2
  have a2 : absC H4 = (absC H1) := s2.1.trans a1
  have v2 : vwC H4 = vwC H0 := (vwC_fr f39.1.2.1 (by decide +kernel)).trans v1
  have u2 := CU_fr f39.1.1 f39.1.2.1 (by decide +kernel) u1
  have d2 := BI_fr f39.1.1 f39.1.2.1 (by decide +kernel) d1.1
  have j2 : BLc H4 = BLc H0 := d2.2.trans j1
  have s3 := PF_fr f40.1.1 f40.1.2.1 (by decide +kernel) s2.2.2
  have a3 : absC H5 = (absC H1) := s3.1.trans a2
  have v3 : vwC H5 = vwC H0 := (vwC_fr f40.1.2.1 (by decide +kernel)).trans v2
  have u3 := CU_fr f40.1.1 f40.1.2.1 (by decide +kernel) u2
  have d3 := BI_fr f40.1.1 f40.1.2.1 (by decide +kernel) d2.1
  have j3 : BLc H5 = BLc H0 := d3.2.trans j2
  have c4 := f44.2
  unfold postb_66v at c4
  rw [v3] at c4
  rw [a3] at c4
  have a4 : absC H6 = (ptk (vwC H0) n17 (absC H1)) := c4.2
  have v4 : vwC H6 = vwC H0 := (vwC_fr f44.1.2.1 (by decide +kernel)).trans v3
  have u4 := CU_fr f44.1.1 f44.1.2.1 (by decide +kernel) u3
  have d4 := BI_fr f44.1.1 f44.1.2.1 (by decide +kernel) d3.1
  have j4 : BLc H6 = BLc H0 := d4.2.trans j3
  have c5 := f50.2
  unfold postb_75v at c5
  rw [v4] at c5
  rw [a4] at c5
  have a5 : absC H7 = (pLay (vwC H0) (ptk (vwC H0) n17 (absC H1))) := c5.2
  have v5 : vwC H7 = vwC H0 := (vwC_fr f50.1.2.1 (by decide +kernel)).trans v4
  have u5 := CU_fr f50.1.1 f50.1.2.1 (by decide +kernel) u4
  have d5 := BI_fr f50.1.1 f50.1.2.1 (by decide +kernel) d4.1
  have j5 : BLc H7 = BLc H0 := d5.2.trans j4
  unfold preb_66v
  exact ⟨c5.1, .inl (by omega)⟩
theorem c_72v_6_17 {q0 : Nat} : vOkm T0 (eP e_72v L_72v A_72v mu_72v (some q0)) 1 ([(0, [19], [], 4), (1075, [1, 10], [6, 7], 0), (0, [18], [], 0), (20, [18, 10], [6], 0), (23, [10], [6], 1), (90, [18], [], -2147483648), (91, [18], [], 2147483647), (1066, [1, 17], [5, 6], 0), (20, [17, 1], [5], 2), (90, [17], [], -2147483648), (91, [17], [], 2147483647), (1024, [10, 13, 16], [4, 5], 0), (1124, [16, 14, 15], [3, 4], 0), (90, [16], [], -2147483648), (91, [16], [], 2147483647), (20, [15, 1], [3], 1), (90, [15], [], -2147483648), (91, [15], [], 2147483647), (20, [14, 1], [3], 0), (0, [14], [], 31), (2, [13, 11, 12], [], 0), (0, [12], [], 20), (20, [11, 1], [3], 2), (90, [11], [], -2147483648), (91, [11], [], 2147483647), (51, [10], [], 0), (1074, [10, 1, 9, 2], [2, 3], 0), (20, [9, 1], [2], 13), (90, [9], [], -2147483648), (91, [9], [], 2147483647), (31, [8], [], 0), (1073, [8, 7], [1, 2], 0), (90, [8], [], 0), (91, [8], [], 1), (20, [7, 1], [1], 2), (90, [7], [], -2147483648), (91, [7], [], 2147483647), (30, [6], [], 0), (20, [6, 1], [1], 3), (90, [6], [], -2147483648), (91, [6], [], 2147483647), (45, [4, 5], [], 0), (0, [5], [], 16), (5000, [0, 1, 2, 3, 4], [0, 1], 6), (0, [0], [], 30), (0, [1], [], 30), (90, [2], [], -2147483648), (91, [2], [], 2147483647), (90, [3], [], -2147483648), (91, [3], [], 2147483647), (90, [4], [], -2147483648), (91, [4], [], 2147483647)], (2066, [1, 19], [7], 0)) := vOk_in fun ρ η h => by
  obtain ⟨f0, f1, f2, f3, f4, f5, f6, f7, f8, f9, f10, f11, f12, f13, f14, f15, f16, f17, f18, f19, f20, f21, f22, f23, f24, f25, f26, f27, f28, f29, f30, f31, f32, f33, f34, f35, f36, f37, f38, f39, f40, f41, f42, f43, f44, f45, f46, f47, f48, f49, f50, f51, _⟩ := h
  exact q_72v_18 (q0 := q0) (n0 := ρ 4) (n1 := ρ 3) (n2 := ρ 2) (n3 := ρ 1) (n4 := ρ 0) (n5 := ρ 5) (n6 := ρ 6) (n7 := ρ 7) (n8 := ρ 8) (n9 := ρ 9) (n10 := ρ 10) (n11 := ρ 11) (n12 := ρ 12) (n13 := ρ 13) (n14 := ρ 14) (n15 := ρ 15) (n16 := ρ 16) (n17 := ρ 17) (n18 := ρ 18) (n19 := ρ 19) (H0 := η 0) (H1 := η 1) (H2 := η 2) (H3 := η 3) (H4 := η 4) (H5 := η 5) (H6 := η 6) (H7 := η 7) f51 f50 f49 f48 f47 f46 f45 f44 f43 f42 f41 f40 f39 f38 f37 f36 f35 f34 f33 f32 f31 f30 f29 f28 f27 f26 f25 f24 f23 f22 f21 f20 f19 f18 f17 f16 f15 f14 f13 f12 f11 f10 f9 f8 f7 f6 f5 f4 f3 f2 f1 f0
theorem q_72v_19 {q0 : Nat} {n0 n1 n2 n3 n4 n5 n6 n7 n8 n9 n10 n11 n12 n13 n14 n15 n16 n17 n18 n19 n20 n21 n22 n23 n24 n25 : Int} {H0 H1 H2 H3 H4 H5 H6 H7 H8 : gH} (f0 : n0 ≤ 2147483647) (f1 : (-2147483648) ≤ n0) (f2 : n1 ≤ 2147483647) (f3 : (-2147483648) ≤ n1) (f4 : n2 ≤ 2147483647) (f5 : (-2147483648) ≤ n2) (f6 : n3 = 30) (f7 : n4 = 30) (f8 : (hLe T0 H0 H1 ∧ hFr s_72v.2.2.2.2 H0 H1 ∧ hWt T0 H1) ∧ (Ab_72v_6 n4 n3 n2 n1 n0 H0 H1 ∧ preb_72v n4 H0) ∧ some q0 = some (mub_72v_6 n4 n3 n2 n1 n0 H0 H1)) (f9 : n5 = 16) (f10 : n0 ≤ n5) (f11 : n6 ≤ 2147483647) (f12 : (-2147483648) ≤ n6) (f13 : n6 = hV H1 (n3).toNat 3) (f14 : n6 = 0) (f15 : n7 ≤ 2147483647) (f16 : (-2147483648) ≤ n7) (f17 : n7 = hV H1 (n3).toNat 2) (f18 : n8 ≤ 1) (f19 : 0 ≤ n8) (f20 : (hLe T0 H1 H2 ∧ hFr s_73v.2.2.2.2 H1 H2 ∧ ((0 : Int) = 0 → H2.length = H1.length) ∧ hWt T0 H2) ∧ postb_73v n8 n7 H1 H2) (f21 : n8 ≠ 0) (f22 : n9 ≤ 2147483647) (f23 : (-2147483648) ≤ n9) (f24 : n9 = hV H2 (n3).toNat 13) (f25 : (hLe T0 H2 H3 ∧ hFr s_74v.2.2.2.2 H2 H3 ∧ ((0 : Int) = 0 → H3.length = H2.length) ∧ hWt T0 H3) ∧ postb_74v n10 n3 n9 n2 H2 H3) (f26 : 0 ≤ n10) (f27 : n11 ≤ 2147483647) (f28 : (-2147483648) ≤ n11) (f29 : n11 = hV H3 (n3).toNat 2) (f30 : n12 = 20) (f31 : n13 = w32 (n11 - n12)) (f32 : n14 = 31) (f33 : n14 = hV H3 (n3).toNat 0) (f34 : n15 ≤ 2147483647) (f35 : (-2147483648) ≤ n15) (f36 : n15 = hV H3 (n3).toNat 1) (f37 : n16 ≤ 2147483647) (f38 : (-2147483648) ≤ n16) (f39 : (hLe T0 H3 H4 ∧ hFr s_124.2.2.2.2 H3 H4 ∧ ((0 : Int) = 0 → H4.length = H3.length) ∧ hWt T0 H4) ∧ True) (f40 : (hLe T0 H4 H5 ∧ hFr s_24v.2.2.2.2 H4 H5 ∧ ((0 : Int) = 0 → H5.length = H4.length) ∧ hWt T0 H5) ∧ postb_24v n10 n13 n16 H4 H5) (f41 : n17 ≤ 2147483647) (f42 : (-2147483648) ≤ n17) (f43 : n17 = hV H5 (n3).toNat 2) (f44 : (hLe T0 H5 H6 ∧ hFr s_66v.2.2.2.2 H5 H6 ∧ ((0 : Int) = 0 → H6.length = H5.length) ∧ hWt T0 H6) ∧ postb_66v n3 n17 H5 H6) (f45 : n18 ≤ 2147483647) (f46 : (-2147483648) ≤ n18) (f47 : hK H6 (n10).toNat = 1) (f48 : n18 = hV H6 (n10).toNat 0) (f49 : n18 = 0) (f50 : (hLe T0 H6 H7 ∧ hFr s_75v.2.2.2.2 H6 H7 ∧ ((0 : Int) = 0 → H7.length = H6.length) ∧ hWt T0 H7) ∧ postb_75v n3 n10 H6 H7) (f51 : n19 = 4) (f52 : (hLe T0 H7 H8 ∧ hFr s_66v.2.2.2.2 H7 H8 ∧ ((0 : Int) = 0 → H8.length = H7.length) ∧ hWt T0 H8) ∧ postb_66v n3 n19 H7 H8) (f53 : n20 = w32 (n2 + 1)) (f54 : n21 ≤ 2147483647) (f55 : (-2147483648) ≤ n21) (f56 : hK H8 (n10).toNat = 1) (f57 : n21 = hV H8 (n10).toNat 0) (f58 : n22 = 5) (f59 : n21 ≠ n22) (f60 : n23 = 1) (f61 : n24 = w32 (n1 + n23)) (f62 : n25 = w32 (n0 + 1)) : Ab_72v_6 n4 n3 n20 n24 n25 H0 H8 ∧ ∀ q, some q0 = some q → mub_72v_6 n4 n3 n20 n24 n25 H0 H8 < q := by
  have pz := f8.2.1.2
  unfold preb_72v at pz
  have ga := f8.2.1.1
  unfold Ab_72v_6 at ga
  have vz : vwC H1 = vwC H0 := vwC_fr f8.1.2.1 (by decide +kernel)
  obtain ⟨kz, bz, blz, b13, cz, b48, x10, x116, x30, x317, x13, ya, yt⟩ := ga
  have r3 := f13
  rw [f6] at r3
  rw [show ((30 : Int)).toNat = 30 from rfl] at r3
  have r2 := f17
  rw [f6] at r2
  rw [show ((30 : Int)).toNat = 30 from rfl] at r2
  have pc := f20.2
  unfold postb_73v at pc
  have cq := f25.2
  unfold postb_74v at cq
  have cq2 := cq.2
  have ck_0 := (cq.1 (by omega)).2
  have ck_1 : hK H4 (n10).toNat = 1 := kLe f39.1.1 ck_0 rfl
  have ck_2 : hK H5 (n10).toNat = 1 := kLe f40.1.1 ck_1 rfl
  have ck_3 : hK H6 (n10).toNat = 1 := kLe f44.1.1 ck_2 rfl
  have ck_4 : hK H7 (n10).toNat = 1 := kLe f50.1.1 ck_3 rfl
  have ck_5 : hK H8 (n10).toNat = 1 := kLe f52.1.1 ck_4 rfl
  have s0 := PF_fr f20.1.1 f20.1.2.1 (by decide +kernel) kz
  have a0 : absC H2 = (absC H1) := s0.1
  have v0 : vwC H2 = vwC H0 := (vwC_fr f20.1.2.1 (by decide +kernel)).trans vz
  have u0 := CU_fr f20.1.1 f20.1.2.1 (by decide +kernel) cz
  have d0 := BI_fr f20.1.1 f20.1.2.1 (by decide +kernel) bz
  have j0 : BLc H2 = BLc H0 := d0.2.trans blz
  have s1 := PF_fr f25.1.1 f25.1.2.1 (by decide +kernel) s0.2.2
  have a1 : absC H3 = (absC H1) := s1.1.trans a0
  have v1 : vwC H3 = vwC H0 := (vwC_fr f25.1.2.1 (by decide +kernel)).trans v0
  have u1 := CU_fr f25.1.1 f25.1.2.1 (by decide +kernel) u0
  have d1 := BI_fr f25.1.1 f25.1.2.1 (by decide +kernel) d0.1
  have j1 : BLc H3 = BLc H0 := d1.2.trans j0
  have s2 := PF_fr f39.1.1 f39.1.2.1 (by decide +kernel) s1.2.2
  have a2 : absC H4 = (absC H1) := s2.1.trans a1
  have v2 : vwC H4 = vwC H0 := (vwC_fr f39.1.2.1 (by decide +kernel)).trans v1
  have u2 := CU_fr f39.1.1 f39.1.2.1 (by decide +kernel) u1
  have d2 := BI_fr f39.1.1 f39.1.2.1 (by decide +kernel) d1.1
  have j2 : BLc H4 = BLc H0 := d2.2.trans j1
  have s3 := PF_fr f40.1.1 f40.1.2.1 (by decide +kernel) s2.2.2
  have a3 : absC H5 = (absC H1) := s3.1.trans a2
  have v3 : vwC H5 = vwC H0 := (vwC_fr f40.1.2.1 (by decide +kernel)).trans v2
  have u3 := CU_fr f40.1.1 f40.1.2.1 (by decide +kernel) u2
  have d3 := BI_fr f40.1.1 f40.1.2.1 (by decide +kernel) d2.1
  have j3 : BLc H5 = BLc H0 := d3.2.trans j2
  have c4 := f44.2
  unfold postb_66v at c4
  rw [v3] at c4
  rw [a3] at c4
  have a4 : absC H6 = (ptk (vwC H0) n17 (absC H1)) := c4.2
  have v4 : vwC H6 = vwC H0 := (vwC_fr f44.1.2.1 (by decide +kernel)).trans v3
  have u4 := CU_fr f44.1.1 f44.1.2.1 (by decide +kernel) u3
  have d4 := BI_fr f44.1.1 f44.1.2.1 (by decide +kernel) d3.1
  have j4 : BLc H6 = BLc H0 := d4.2.trans j3
  have c5 := f50.2
  unfold postb_75v at c5
  rw [v4] at c5
  rw [a4] at c5
  have a5 : absC H7 = (pLay (vwC H0) (ptk (vwC H0) n17 (absC H1))) := c5.2
  have v5 : vwC H7 = vwC H0 := (vwC_fr f50.1.2.1 (by decide +kernel)).trans v4
  have u5 := CU_fr f50.1.1 f50.1.2.1 (by decide +kernel) u4
  have d5 := BI_fr f50.1.1 f50.1.2.1 (by decide +kernel) d4.1
  have j5 : BLc H7 = BLc H0 := d5.2.trans j4
  have c6 := f52.2
  unfold postb_66v at c6
  try rw [f51] at c6
  rw [v5] at c6
  rw [a5] at c6
  have a6 : absC H8 = (ptk (vwC H0) 4 (pLay (vwC H0) (ptk (vwC H0) n17 (absC H1)))) := c6.2
  have v6 : vwC H8 = vwC H0 := (vwC_fr f52.1.2.1 (by decide +kernel)).trans v5
  have u6 := CU_fr f52.1.1 f52.1.2.1 (by decide +kernel) u5
  have d6 := BI_fr f52.1.1 f52.1.2.1 (by decide +kernel) d5.1
  have j6 : BLc H8 = BLc H0 := d6.2.trans j5
  have y2 := pz.2.1.2.1
  have y3 := pz.2.1.2.2.1
  have wq31 := f31
  unfold w32 at wq31
  have wq53 := f53
  unfold w32 at wq53
  have wq61 := f61
  unfold w32 at wq61
  have wq62 := f62
  unfold w32 at wq62
  have g5 := Option.some.inj f8.2.2
  unfold mub_72v_6 at g5
  unfold Ab_72v_6 mub_72v_6
  have t13 : hV H8 30 13 = hV H1 30 13 := (f52.1.2.1.1 30 13 (by decide +kernel)).trans ((f50.1.2.1.1 30 13 (by decide +kernel)).trans ((f44.1.2.1.1 30 13 (by decide +kernel)).trans ((f40.1.2.1.1 30 13 (by decide +kernel)).trans ((f39.1.2.1.1 30 13 (by decide +kernel)).trans ((f25.1.2.1.1 30 13 (by decide +kernel)).trans (f20.1.2.1.1 30 13 (by decide +kernel)))))))
  have t48 : hV H8 48 = hV H1 48 := (fRow f52.1.2.1 48 (by decide +kernel)).trans ((fRow f50.1.2.1 48 (by decide +kernel)).trans ((fRow f44.1.2.1 48 (by decide +kernel)).trans ((fRow f40.1.2.1 48 (by decide +kernel)).trans ((fRow f39.1.2.1 48 (by decide +kernel)).trans ((fRow f25.1.2.1 48 (by decide +kernel)).trans (fRow f20.1.2.1 48 (by decide +kernel)))))))
  have hk : (vwC H0).1 (absC H1).1 = hV H1 30 2 := by
    have u := (kd_at kz).resolve_left (by have := absC_pos kz (by omega); omega)
    rw [vz] at u
    exact u
  have pr := f40.2
  unfold postb_24v at pr
  have ka0_0 : hK H6 (n10).toNat = 1 := kLe f44.1.1 ck_2 rfl
  have kq0 : n18 = hV H5 (n10).toNat 0 := f48.trans (f44.1.2.1.2.2 _ 1 ck_2 rfl 0 (by decide +kernel))
  have ka1_0 : hK H6 (n10).toNat = 1 := kLe f44.1.1 ck_2 rfl
  have ka1_1 : hK H7 (n10).toNat = 1 := kLe f50.1.1 ka1_0 rfl
  have ka1_2 : hK H8 (n10).toNat = 1 := kLe f52.1.1 ka1_1 rfl
  have kq1 : n21 = hV H5 (n10).toNat 0 := f57.trans ((f52.1.2.1.2.2 _ 1 ka1_1 rfl 0 (by decide +kernel)).trans ((f50.1.2.1.2.2 _ 1 ka1_0 rfl 0 (by decide +kernel)).trans (f44.1.2.1.2.2 _ 1 ck_2 rfl 0 (by decide +kernel))))
  have rz0 := f29
  rw [f6] at rz0
  rw [show ((30 : Int)).toNat = 30 from rfl] at rz0
  have tz0 : hV H3 30 2 = hV H1 30 2 := (f25.1.2.1.1 30 2 (by decide +kernel)).trans (f20.1.2.1.1 30 2 (by decide +kernel))
  have rz1 := f43
  rw [f6] at rz1
  rw [show ((30 : Int)).toNat = 30 from rfl] at rz1
  have tz1 : hV H5 30 2 = hV H1 30 2 := (f40.1.2.1.1 30 2 (by decide +kernel)).trans ((f39.1.2.1.1 30 2 (by decide +kernel)).trans ((f25.1.2.1.1 30 2 (by decide +kernel)).trans (f20.1.2.1.1 30 2 (by decide +kernel))))
  have pr1 := pr.1
  have k2 : hV H1 30 2 = 20 := by omega
  have kt : n17 = 20 := by omega
  have hb : absC H8 = ptk (vwC H0) 4 (pBody (vwC H0) (BLc H0) 20 (ptk (vwC H0) 20 (absC H1))) := by
    rw [pBody_20, ← kt]
    exact a6
  have st := cues_st (bl := BLc H0) pz.1.2.1 (hk.trans k2) (by decide) (by decide) (c := (n2).toNat) (by omega) hb
  have tot : hV H8 30 3 = 0 → ∃ d : Int, n24 = n1 + d ∧ 0 ≤ d ∧ d ≤ gB (hV H0 30 13).toNat ∧ pcap (pcap n1 + pcz (vwC H0) (BLc H0) (absC H1)) = pcap (n1 + d) := fun hf => by
    obtain ⟨w1, w2, w3⟩ := yt (by omega)
    have bb := gB_pos (hV H0 30 13).toNat
    have b16 : n2 * gB (hV H0 30 13).toNat ≤ 16 * gB (hV H0 30 13).toNat := Int.mul_le_mul_of_nonneg_right x116 (by omega)
    have b7 : gB (hV H0 30 13).toNat ≤ gB 6 := gB_mono (by omega)
    have b8 : gB 6 = 16777216 := by decide
    refine ⟨1, by omega, by omega, by omega, ?_⟩
    rw [pcz_1 (by rw [hk]; omega)]
    exact pcap_one w1
  refine ⟨⟨c6.1, d6.1, j6, t13.trans b13, u6, t48.trans b48, by omega, by omega, by omega, by omega, fun w => by have := x13 (by omega); omega, ?_, fun w => ?_⟩, fun q hq => ?_⟩
  · rw [← ya, st, show (n2).toNat + 1 = (n20).toNat by omega]
  · obtain ⟨d, d1, d2, d3, d4⟩ := tot w
    obtain ⟨w1, w2, w3⟩ := yt (by omega)
    have ts := tot_st pz.1.2.1 (hk.trans k2) (by decide) (by decide) (c := (n2).toNat) (by omega) hb d4
    rw [show (n2).toNat + 1 = (n20).toNat by omega, w3] at ts
    refine ⟨by omega, ?_, ?_⟩
    · rw [d1, show n20 = n2 + 1 by omega, Int.add_mul, Int.one_mul]
      omega
    · rw [d1]
      exact ts.symm
  · have g6 := Option.some.inj hq
    subst g6
    first
    | omega
    | lia
theorem c_72v_6_18 {q0 : Nat} : vOkm T0 (eP e_72v L_72v A_72v mu_72v (some q0)) 1 ([(10, [25, 4], [], 1), (1, [24, 3, 23], [], 0), (0, [23], [], 1), (41, [21, 22], [], 0), (0, [22], [], 5), (20, [21, 10], [8], 0), (23, [10], [8], 1), (90, [21], [], -2147483648), (91, [21], [], 2147483647), (10, [20, 2], [], 1), (1066, [1, 19], [7, 8], 0), (0, [19], [], 4), (1075, [1, 10], [6, 7], 0), (0, [18], [], 0), (20, [18, 10], [6], 0), (23, [10], [6], 1), (90, [18], [], -2147483648), (91, [18], [], 2147483647), (1066, [1, 17], [5, 6], 0), (20, [17, 1], [5], 2), (90, [17], [], -2147483648), (91, [17], [], 2147483647), (1024, [10, 13, 16], [4, 5], 0), (1124, [16, 14, 15], [3, 4], 0), (90, [16], [], -2147483648), (91, [16], [], 2147483647), (20, [15, 1], [3], 1), (90, [15], [], -2147483648), (91, [15], [], 2147483647), (20, [14, 1], [3], 0), (0, [14], [], 31), (2, [13, 11, 12], [], 0), (0, [12], [], 20), (20, [11, 1], [3], 2), (90, [11], [], -2147483648), (91, [11], [], 2147483647), (51, [10], [], 0), (1074, [10, 1, 9, 2], [2, 3], 0), (20, [9, 1], [2], 13), (90, [9], [], -2147483648), (91, [9], [], 2147483647), (31, [8], [], 0), (1073, [8, 7], [1, 2], 0), (90, [8], [], 0), (91, [8], [], 1), (20, [7, 1], [1], 2), (90, [7], [], -2147483648), (91, [7], [], 2147483647), (30, [6], [], 0), (20, [6, 1], [1], 3), (90, [6], [], -2147483648), (91, [6], [], 2147483647), (45, [4, 5], [], 0), (0, [5], [], 16), (5000, [0, 1, 2, 3, 4], [0, 1], 6), (0, [0], [], 30), (0, [1], [], 30), (90, [2], [], -2147483648), (91, [2], [], 2147483647), (90, [3], [], -2147483648), (91, [3], [], 2147483647), (90, [4], [], -2147483648), (91, [4], [], 2147483647)], (4000, [1, 20, 24, 25], [8], 6)) := vOk_in fun ρ η h => by
  obtain ⟨f0, f1, f2, f3, f4, f5, f6, f7, f8, f9, f10, f11, f12, f13, f14, f15, f16, f17, f18, f19, f20, f21, f22, f23, f24, f25, f26, f27, f28, f29, f30, f31, f32, f33, f34, f35, f36, f37, f38, f39, f40, f41, f42, f43, f44, f45, f46, f47, f48, f49, f50, f51, f52, f53, f54, f55, f56, f57, f58, f59, f60, f61, f62, _⟩ := h
  exact q_72v_19 (q0 := q0) (n0 := ρ 4) (n1 := ρ 3) (n2 := ρ 2) (n3 := ρ 1) (n4 := ρ 0) (n5 := ρ 5) (n6 := ρ 6) (n7 := ρ 7) (n8 := ρ 8) (n9 := ρ 9) (n10 := ρ 10) (n11 := ρ 11) (n12 := ρ 12) (n13 := ρ 13) (n14 := ρ 14) (n15 := ρ 15) (n16 := ρ 16) (n17 := ρ 17) (n18 := ρ 18) (n19 := ρ 19) (n20 := ρ 20) (n21 := ρ 21) (n22 := ρ 22) (n23 := ρ 23) (n24 := ρ 24) (n25 := ρ 25) (H0 := η 0) (H1 := η 1) (H2 := η 2) (H3 := η 3) (H4 := η 4) (H5 := η 5) (H6 := η 6) (H7 := η 7) (H8 := η 8) f62 f61 f60 f59 f58 f57 f56 f55 f54 f53 f52 f51 f50 f49 f48 f47 f46 f45 f44 f43 f42 f41 f40 f39 f38 f37 f36 f35 f34 f33 f32 f31 f30 f29 f28 f27 f26 f25 f24 f23 f22 f21 f20 f19 f18 f17 f16 f15 f14 f13 f12 f11 f10 f9 f8 f7 f6 f5 f4 f3 f2 f1 f0
theorem q_72v_20 {q0 : Nat} {n0 n1 n2 n3 n4 n5 n6 n7 n8 n9 n10 n11 n12 n13 n14 n15 n16 n17 n18 n19 n20 n21 n22 n23 n24 n25 n26 n27 : Int} {H0 H1 H2 H3 H4 H5 H6 H7 H8 H9 : gH} (f0 : n0 ≤ 2147483647) (f1 : (-2147483648) ≤ n0) (f2 : n1 ≤ 2147483647) (f3 : (-2147483648) ≤ n1) (f4 : n2 ≤ 2147483647) (f5 : (-2147483648) ≤ n2) (f6 : n3 = 30) (f7 : n4 = 30) (f8 : (hLe T0 H0 H1 ∧ hFr s_72v.2.2.2.2 H0 H1 ∧ hWt T0 H1) ∧ (Ab_72v_6 n4 n3 n2 n1 n0 H0 H1 ∧ preb_72v n4 H0) ∧ some q0 = some (mub_72v_6 n4 n3 n2 n1 n0 H0 H1)) (f9 : n5 = 16) (f10 : n0 ≤ n5) (f11 : n6 ≤ 2147483647) (f12 : (-2147483648) ≤ n6) (f13 : n6 = hV H1 (n3).toNat 3) (f14 : n6 = 0) (f15 : n7 ≤ 2147483647) (f16 : (-2147483648) ≤ n7) (f17 : n7 = hV H1 (n3).toNat 2) (f18 : n8 ≤ 1) (f19 : 0 ≤ n8) (f20 : (hLe T0 H1 H2 ∧ hFr s_73v.2.2.2.2 H1 H2 ∧ ((0 : Int) = 0 → H2.length = H1.length) ∧ hWt T0 H2) ∧ postb_73v n8 n7 H1 H2) (f21 : n8 ≠ 0) (f22 : n9 ≤ 2147483647) (f23 : (-2147483648) ≤ n9) (f24 : n9 = hV H2 (n3).toNat 13) (f25 : (hLe T0 H2 H3 ∧ hFr s_74v.2.2.2.2 H2 H3 ∧ ((0 : Int) = 0 → H3.length = H2.length) ∧ hWt T0 H3) ∧ postb_74v n10 n3 n9 n2 H2 H3) (f26 : 0 ≤ n10) (f27 : n11 ≤ 2147483647) (f28 : (-2147483648) ≤ n11) (f29 : n11 = hV H3 (n3).toNat 2) (f30 : n12 = 20) (f31 : n13 = w32 (n11 - n12)) (f32 : n14 = 31) (f33 : n14 = hV H3 (n3).toNat 0) (f34 : n15 ≤ 2147483647) (f35 : (-2147483648) ≤ n15) (f36 : n15 = hV H3 (n3).toNat 1) (f37 : n16 ≤ 2147483647) (f38 : (-2147483648) ≤ n16) (f39 : (hLe T0 H3 H4 ∧ hFr s_124.2.2.2.2 H3 H4 ∧ ((0 : Int) = 0 → H4.length = H3.length) ∧ hWt T0 H4) ∧ True) (f40 : (hLe T0 H4 H5 ∧ hFr s_24v.2.2.2.2 H4 H5 ∧ ((0 : Int) = 0 → H5.length = H4.length) ∧ hWt T0 H5) ∧ postb_24v n10 n13 n16 H4 H5) (f41 : n17 ≤ 2147483647) (f42 : (-2147483648) ≤ n17) (f43 : n17 = hV H5 (n3).toNat 2) (f44 : (hLe T0 H5 H6 ∧ hFr s_66v.2.2.2.2 H5 H6 ∧ ((0 : Int) = 0 → H6.length = H5.length) ∧ hWt T0 H6) ∧ postb_66v n3 n17 H5 H6) (f45 : n18 ≤ 2147483647) (f46 : (-2147483648) ≤ n18) (f47 : hK H6 (n10).toNat = 1) (f48 : n18 = hV H6 (n10).toNat 0) (f49 : n18 = 0) (f50 : (hLe T0 H6 H7 ∧ hFr s_75v.2.2.2.2 H6 H7 ∧ ((0 : Int) = 0 → H7.length = H6.length) ∧ hWt T0 H7) ∧ postb_75v n3 n10 H6 H7) (f51 : n19 = 4) (f52 : (hLe T0 H7 H8 ∧ hFr s_66v.2.2.2.2 H7 H8 ∧ ((0 : Int) = 0 → H8.length = H7.length) ∧ hWt T0 H8) ∧ postb_66v n3 n19 H7 H8) (f53 : n20 = w32 (n2 + 1)) (f54 : n21 ≤ 2147483647) (f55 : (-2147483648) ≤ n21) (f56 : hK H8 (n10).toNat = 1) (f57 : n21 = hV H8 (n10).toNat 0) (f58 : n22 = 5) (f59 : n21 = n22) (f60 : n23 = 47) (f61 : n23 = hV H8 (n3).toNat 11) (f62 : n24 ≤ 2147483647) (f63 : (-2147483648) ≤ n24) (f64 : hK H8 (n10).toNat = 1) (f65 : n24 = hV H8 (n10).toNat 2) (f66 : n25 ≤ 2147483647) (f67 : (-2147483648) ≤ n25) (f68 : (hLe T0 H8 H9 ∧ hFr s_199vk740.2.2.2.2 H8 H9 ∧ ((0 : Int) = 0 → H9.length = H8.length) ∧ hWt T0 H9) ∧ postb_199vk740 n25 n23 n24 H8 H9) (f69 : n26 = w32 (n1 + n25)) (f70 : n27 = w32 (n0 + 1)) : Ab_72v_6 n4 n3 n20 n26 n27 H0 H9 ∧ ∀ q, some q0 = some q → mub_72v_6 n4 n3 n20 n26 n27 H0 H9 < q := by
  have pz := f8.2.1.2
  unfold preb_72v at pz
  have ga := f8.2.1.1
  unfold Ab_72v_6 at ga
  have vz : vwC H1 = vwC H0 := vwC_fr f8.1.2.1 (by decide +kernel)
  obtain ⟨kz, bz, blz, b13, cz, b48, x10, x116, x30, x317, x13, ya, yt⟩ := ga
  have r3 := f13
  rw [f6] at r3
  rw [show ((30 : Int)).toNat = 30 from rfl] at r3
  have r2 := f17
  rw [f6] at r2
  rw [show ((30 : Int)).toNat = 30 from rfl] at r2
  have pc := f20.2
  unfold postb_73v at pc
  have cq := f25.2
  unfold postb_74v at cq
  have cq2 := cq.2
  have ck_0 := (cq.1 (by omega)).2
  have ck_1 : hK H4 (n10).toNat = 1 := kLe f39.1.1 ck_0 rfl
  have ck_2 : hK H5 (n10).toNat = 1 := kLe f40.1.1 ck_1 rfl
  have ck_3 : hK H6 (n10).toNat = 1 := kLe f44.1.1 ck_2 rfl
  have ck_4 : hK H7 (n10).toNat = 1 := kLe f50.1.1 ck_3 rfl
  have ck_5 : hK H8 (n10).toNat = 1 := kLe f52.1.1 ck_4 rfl
  have ck_6 : hK H9 (n10).toNat = 1 := kLe f68.1.1 ck_5 rfl
  have s0 := PF_fr f20.1.1 f20.1.2.1 (by decide +kernel) kz
  have a0 : absC H2 = (absC H1) := s0.1
  have v0 : vwC H2 = vwC H0 := (vwC_fr f20.1.2.1 (by decide +kernel)).trans vz
  have u0 := CU_fr f20.1.1 f20.1.2.1 (by decide +kernel) cz
  have d0 := BI_fr f20.1.1 f20.1.2.1 (by decide +kernel) bz
  have j0 : BLc H2 = BLc H0 := d0.2.trans blz
  have s1 := PF_fr f25.1.1 f25.1.2.1 (by decide +kernel) s0.2.2
  have a1 : absC H3 = (absC H1) := s1.1.trans a0
  have v1 : vwC H3 = vwC H0 := (vwC_fr f25.1.2.1 (by decide +kernel)).trans v0
  have u1 := CU_fr f25.1.1 f25.1.2.1 (by decide +kernel) u0
  have d1 := BI_fr f25.1.1 f25.1.2.1 (by decide +kernel) d0.1
  have j1 : BLc H3 = BLc H0 := d1.2.trans j0
  have s2 := PF_fr f39.1.1 f39.1.2.1 (by decide +kernel) s1.2.2
  have a2 : absC H4 = (absC H1) := s2.1.trans a1
  have v2 : vwC H4 = vwC H0 := (vwC_fr f39.1.2.1 (by decide +kernel)).trans v1
  have u2 := CU_fr f39.1.1 f39.1.2.1 (by decide +kernel) u1
  have d2 := BI_fr f39.1.1 f39.1.2.1 (by decide +kernel) d1.1
  have j2 : BLc H4 = BLc H0 := d2.2.trans j1
  have s3 := PF_fr f40.1.1 f40.1.2.1 (by decide +kernel) s2.2.2
  have a3 : absC H5 = (absC H1) := s3.1.trans a2
  have v3 : vwC H5 = vwC H0 := (vwC_fr f40.1.2.1 (by decide +kernel)).trans v2
  have u3 := CU_fr f40.1.1 f40.1.2.1 (by decide +kernel) u2
  have d3 := BI_fr f40.1.1 f40.1.2.1 (by decide +kernel) d2.1
  have j3 : BLc H5 = BLc H0 := d3.2.trans j2
  have c4 := f44.2
  unfold postb_66v at c4
  rw [v3] at c4
  rw [a3] at c4
  have a4 : absC H6 = (ptk (vwC H0) n17 (absC H1)) := c4.2
  have v4 : vwC H6 = vwC H0 := (vwC_fr f44.1.2.1 (by decide +kernel)).trans v3
  have u4 := CU_fr f44.1.1 f44.1.2.1 (by decide +kernel) u3
  have d4 := BI_fr f44.1.1 f44.1.2.1 (by decide +kernel) d3.1
  have j4 : BLc H6 = BLc H0 := d4.2.trans j3
  have c5 := f50.2
  unfold postb_75v at c5
  rw [v4] at c5
  rw [a4] at c5
  have a5 : absC H7 = (pLay (vwC H0) (ptk (vwC H0) n17 (absC H1))) := c5.2
  have v5 : vwC H7 = vwC H0 := (vwC_fr f50.1.2.1 (by decide +kernel)).trans v4
  have u5 := CU_fr f50.1.1 f50.1.2.1 (by decide +kernel) u4
  have d5 := BI_fr f50.1.1 f50.1.2.1 (by decide +kernel) d4.1
  have j5 : BLc H7 = BLc H0 := d5.2.trans j4
  have c6 := f52.2
  unfold postb_66v at c6
  try rw [f51] at c6
  rw [v5] at c6
  rw [a5] at c6
  have a6 : absC H8 = (ptk (vwC H0) 4 (pLay (vwC H0) (ptk (vwC H0) n17 (absC H1)))) := c6.2
  have v6 : vwC H8 = vwC H0 := (vwC_fr f52.1.2.1 (by decide +kernel)).trans v5
  have u6 := CU_fr f52.1.1 f52.1.2.1 (by decide +kernel) u5
  have d6 := BI_fr f52.1.1 f52.1.2.1 (by decide +kernel) d5.1
  have j6 : BLc H8 = BLc H0 := d6.2.trans j5
  have s7 := PF_fr f68.1.1 f68.1.2.1 (by decide +kernel) c6.1
  have a7 : absC H9 = (ptk (vwC H0) 4 (pLay (vwC H0) (ptk (vwC H0) n17 (absC H1)))) := s7.1.trans a6
  have v7 : vwC H9 = vwC H0 := (vwC_fr f68.1.2.1 (by decide +kernel)).trans v6
  have u7 := CU_fr f68.1.1 f68.1.2.1 (by decide +kernel) u6
  have d7 := BI_fr f68.1.1 f68.1.2.1 (by decide +kernel) d6.1
  have j7 : BLc H9 = BLc H0 := d7.2.trans j6
  have y2 := pz.2.1.2.1
  have y3 := pz.2.1.2.2.1
  have wq31 := f31
  unfold w32 at wq31
  have wq53 := f53
  unfold w32 at wq53
  have wq69 := f69
  unfold w32 at wq69
  have wq70 := f70
  unfold w32 at wq70
  have g5 := Option.some.inj f8.2.2
  unfold mub_72v_6 at g5
  unfold Ab_72v_6 mub_72v_6
  have t13 : hV H9 30 13 = hV H1 30 13 := (f68.1.2.1.1 30 13 (by decide +kernel)).trans ((f52.1.2.1.1 30 13 (by decide +kernel)).trans ((f50.1.2.1.1 30 13 (by decide +kernel)).trans ((f44.1.2.1.1 30 13 (by decide +kernel)).trans ((f40.1.2.1.1 30 13 (by decide +kernel)).trans ((f39.1.2.1.1 30 13 (by decide +kernel)).trans ((f25.1.2.1.1 30 13 (by decide +kernel)).trans (f20.1.2.1.1 30 13 (by decide +kernel))))))))
  have t48 : hV H9 48 = hV H1 48 := (fRow f68.1.2.1 48 (by decide +kernel)).trans ((fRow f52.1.2.1 48 (by decide +kernel)).trans ((fRow f50.1.2.1 48 (by decide +kernel)).trans ((fRow f44.1.2.1 48 (by decide +kernel)).trans ((fRow f40.1.2.1 48 (by decide +kernel)).trans ((fRow f39.1.2.1 48 (by decide +kernel)).trans ((fRow f25.1.2.1 48 (by decide +kernel)).trans (fRow f20.1.2.1 48 (by decide +kernel))))))))
  have hk : (vwC H0).1 (absC H1).1 = hV H1 30 2 := by
    have u := (kd_at kz).resolve_left (by have := absC_pos kz (by omega); omega)
    rw [vz] at u
    exact u
  have pr := f40.2
  unfold postb_24v at pr
  have ka0_0 : hK H6 (n10).toNat = 1 := kLe f44.1.1 ck_2 rfl
  have kq0 : n18 = hV H5 (n10).toNat 0 := f48.trans (f44.1.2.1.2.2 _ 1 ck_2 rfl 0 (by decide +kernel))
  have ka1_0 : hK H6 (n10).toNat = 1 := kLe f44.1.1 ck_2 rfl
  have ka1_1 : hK H7 (n10).toNat = 1 := kLe f50.1.1 ka1_0 rfl
  have ka1_2 : hK H8 (n10).toNat = 1 := kLe f52.1.1 ka1_1 rfl
  have kq1 : n21 = hV H5 (n10).toNat 0 := f57.trans ((f52.1.2.1.2.2 _ 1 ka1_1 rfl 0 (by decide +kernel)).trans ((f50.1.2.1.2.2 _ 1 ka1_0 rfl 0 (by decide +kernel)).trans (f44.1.2.1.2.2 _ 1 ck_2 rfl 0 (by decide +kernel))))
  have rz0 := f29
  rw [f6] at rz0
  rw [show ((30 : Int)).toNat = 30 from rfl] at rz0
  have tz0 : hV H3 30 2 = hV H1 30 2 := (f25.1.2.1.1 30 2 (by decide +kernel)).trans (f20.1.2.1.1 30 2 (by decide +kernel))
  have rz1 := f43
  rw [f6] at rz1
  rw [show ((30 : Int)).toNat = 30 from rfl] at rz1
  have tz1 : hV H5 30 2 = hV H1 30 2 := (f40.1.2.1.1 30 2 (by decide +kernel)).trans ((f39.1.2.1.1 30 2 (by decide +kernel)).trans ((f25.1.2.1.1 30 2 (by decide +kernel)).trans (f20.1.2.1.1 30 2 (by decide +kernel))))
  have pr1 := pr.1
  exfalso
  omega
theorem c_72v_6_19 {q0 : Nat} : vOkm T0 (eP e_72v L_72v A_72v mu_72v (some q0)) 1 ([(10, [27, 4], [], 1), (1, [26, 3, 25], [], 0), (1199, [25, 23, 24], [8, 9], 0), (90, [25], [], -2147483648), (91, [25], [], 2147483647), (20, [24, 10], [8], 2), (23, [10], [8], 1), (90, [24], [], -2147483648), (91, [24], [], 2147483647), (20, [23, 1], [8], 11), (0, [23], [], 47), (40, [21, 22], [], 0), (0, [22], [], 5), (20, [21, 10], [8], 0), (23, [10], [8], 1), (90, [21], [], -2147483648), (91, [21], [], 2147483647), (10, [20, 2], [], 1), (1066, [1, 19], [7, 8], 0), (0, [19], [], 4), (1075, [1, 10], [6, 7], 0), (0, [18], [], 0), (20, [18, 10], [6], 0), (23, [10], [6], 1), (90, [18], [], -2147483648), (91, [18], [], 2147483647), (1066, [1, 17], [5, 6], 0), (20, [17, 1], [5], 2), (90, [17], [], -2147483648), (91, [17], [], 2147483647), (1024, [10, 13, 16], [4, 5], 0), (1124, [16, 14, 15], [3, 4], 0), (90, [16], [], -2147483648), (91, [16], [], 2147483647), (20, [15, 1], [3], 1), (90, [15], [], -2147483648), (91, [15], [], 2147483647), (20, [14, 1], [3], 0), (0, [14], [], 31), (2, [13, 11, 12], [], 0), (0, [12], [], 20), (20, [11, 1], [3], 2), (90, [11], [], -2147483648), (91, [11], [], 2147483647), (51, [10], [], 0), (1074, [10, 1, 9, 2], [2, 3], 0), (20, [9, 1], [2], 13), (90, [9], [], -2147483648), (91, [9], [], 2147483647), (31, [8], [], 0), (1073, [8, 7], [1, 2], 0), (90, [8], [], 0), (91, [8], [], 1), (20, [7, 1], [1], 2), (90, [7], [], -2147483648), (91, [7], [], 2147483647), (30, [6], [], 0), (20, [6, 1], [1], 3), (90, [6], [], -2147483648), (91, [6], [], 2147483647), (45, [4, 5], [], 0), (0, [5], [], 16), (5000, [0, 1, 2, 3, 4], [0, 1], 6), (0, [0], [], 30), (0, [1], [], 30), (90, [2], [], -2147483648), (91, [2], [], 2147483647), (90, [3], [], -2147483648), (91, [3], [], 2147483647), (90, [4], [], -2147483648), (91, [4], [], 2147483647)], (4000, [1, 20, 26, 27], [9], 6)) := vOk_in fun ρ η h => by
  obtain ⟨f0, f1, f2, f3, f4, f5, f6, f7, f8, f9, f10, f11, f12, f13, f14, f15, f16, f17, f18, f19, f20, f21, f22, f23, f24, f25, f26, f27, f28, f29, f30, f31, f32, f33, f34, f35, f36, f37, f38, f39, f40, f41, f42, f43, f44, f45, f46, f47, f48, f49, f50, f51, f52, f53, f54, f55, f56, f57, f58, f59, f60, f61, f62, f63, f64, f65, f66, f67, f68, f69, f70, _⟩ := h
  exact q_72v_20 (q0 := q0) (n0 := ρ 4) (n1 := ρ 3) (n2 := ρ 2) (n3 := ρ 1) (n4 := ρ 0) (n5 := ρ 5) (n6 := ρ 6) (n7 := ρ 7) (n8 := ρ 8) (n9 := ρ 9) (n10 := ρ 10) (n11 := ρ 11) (n12 := ρ 12) (n13 := ρ 13) (n14 := ρ 14) (n15 := ρ 15) (n16 := ρ 16) (n17 := ρ 17) (n18 := ρ 18) (n19 := ρ 19) (n20 := ρ 20) (n21 := ρ 21) (n22 := ρ 22) (n23 := ρ 23) (n24 := ρ 24) (n25 := ρ 25) (n26 := ρ 26) (n27 := ρ 27) (H0 := η 0) (H1 := η 1) (H2 := η 2) (H3 := η 3) (H4 := η 4) (H5 := η 5) (H6 := η 6) (H7 := η 7) (H8 := η 8) (H9 := η 9) f70 f69 f68 f67 f66 f65 f64 f63 f62 f61 f60 f59 f58 f57 f56 f55 f54 f53 f52 f51 f50 f49 f48 f47 f46 f45 f44 f43 f42 f41 f40 f39 f38 f37 f36 f35 f34 f33 f32 f31 f30 f29 f28 f27 f26 f25 f24 f23 f22 f21 f20 f19 f18 f17 f16 f15 f14 f13 f12 f11 f10 f9 f8 f7 f6 f5 f4 f3 f2 f1 f0
theorem q_72v_21 {q0 : Nat} {n0 n1 n2 n3 n4 n5 n6 n7 n8 n9 n10 n11 n12 n13 n14 n15 n16 n17 n18 : Int} {H0 H1 H2 H3 H4 H5 H6 : gH} (f0 : n0 ≤ 2147483647) (f1 : (-2147483648) ≤ n0) (f2 : n1 ≤ 2147483647) (f3 : (-2147483648) ≤ n1) (f4 : n2 ≤ 2147483647) (f5 : (-2147483648) ≤ n2) (f6 : n3 = 30) (f7 : n4 = 30) (f8 : (hLe T0 H0 H1 ∧ hFr s_72v.2.2.2.2 H0 H1 ∧ hWt T0 H1) ∧ (Ab_72v_6 n4 n3 n2 n1 n0 H0 H1 ∧ preb_72v n4 H0) ∧ some q0 = some (mub_72v_6 n4 n3 n2 n1 n0 H0 H1)) (f9 : n5 = 16) (f10 : n0 ≤ n5) (f11 : n6 ≤ 2147483647) (f12 : (-2147483648) ≤ n6) (f13 : n6 = hV H1 (n3).toNat 3) (f14 : n6 = 0) (f15 : n7 ≤ 2147483647) (f16 : (-2147483648) ≤ n7) (f17 : n7 = hV H1 (n3).toNat 2) (f18 : n8 ≤ 1) (f19 : 0 ≤ n8) (f20 : (hLe T0 H1 H2 ∧ hFr s_73v.2.2.2.2 H1 H2 ∧ ((0 : Int) = 0 → H2.length = H1.length) ∧ hWt T0 H2) ∧ postb_73v n8 n7 H1 H2) (f21 : n8 ≠ 0) (f22 : n9 ≤ 2147483647) (f23 : (-2147483648) ≤ n9) (f24 : n9 = hV H2 (n3).toNat 13) (f25 : (hLe T0 H2 H3 ∧ hFr s_74v.2.2.2.2 H2 H3 ∧ ((0 : Int) = 0 → H3.length = H2.length) ∧ hWt T0 H3) ∧ postb_74v n10 n3 n9 n2 H2 H3) (f26 : 0 ≤ n10) (f27 : n11 ≤ 2147483647) (f28 : (-2147483648) ≤ n11) (f29 : n11 = hV H3 (n3).toNat 2) (f30 : n12 = 20) (f31 : n13 = w32 (n11 - n12)) (f32 : n14 = 31) (f33 : n14 = hV H3 (n3).toNat 0) (f34 : n15 ≤ 2147483647) (f35 : (-2147483648) ≤ n15) (f36 : n15 = hV H3 (n3).toNat 1) (f37 : n16 ≤ 2147483647) (f38 : (-2147483648) ≤ n16) (f39 : (hLe T0 H3 H4 ∧ hFr s_124.2.2.2.2 H3 H4 ∧ ((0 : Int) = 0 → H4.length = H3.length) ∧ hWt T0 H4) ∧ True) (f40 : (hLe T0 H4 H5 ∧ hFr s_24v.2.2.2.2 H4 H5 ∧ ((0 : Int) = 0 → H5.length = H4.length) ∧ hWt T0 H5) ∧ postb_24v n10 n13 n16 H4 H5) (f41 : n17 ≤ 2147483647) (f42 : (-2147483648) ≤ n17) (f43 : n17 = hV H5 (n3).toNat 2) (f44 : (hLe T0 H5 H6 ∧ hFr s_66v.2.2.2.2 H5 H6 ∧ ((0 : Int) = 0 → H6.length = H5.length) ∧ hWt T0 H6) ∧ postb_66v n3 n17 H5 H6) (f45 : n18 ≤ 2147483647) (f46 : (-2147483648) ≤ n18) (f47 : hK H6 (n10).toNat = 1) (f48 : n18 = hV H6 (n10).toNat 0) (f49 : n18 = 1) : preb_76v n3 n10 H6 := by
  have pz := f8.2.1.2
  unfold preb_72v at pz
  have ga := f8.2.1.1
  unfold Ab_72v_6 at ga
  have vz : vwC H1 = vwC H0 := vwC_fr f8.1.2.1 (by decide +kernel)
  obtain ⟨kz, bz, blz, b13, cz, b48, x10, x116, x30, x317, x13, ya, yt⟩ := ga
  have r3 := f13
  rw [f6] at r3
  rw [show ((30 : Int)).toNat = 30 from rfl] at r3
  have r2 := f17
  rw [f6] at r2
  rw [show ((30 : Int)).toNat = 30 from rfl] at r2
  have pc := f20.2
  unfold postb_73v at pc
  have cq := f25.2
  unfold postb_74v at cq
  have cq2 := cq.2
  have ck_0 := (cq.1 (by omega)).2
  have ck_1 : hK H4 (n10).toNat = 1 := kLe f39.1.1 ck_0 rfl
  have ck_2 : hK H5 (n10).toNat = 1 := kLe f40.1.1 ck_1 rfl
  have ck_3 : hK H6 (n10).toNat = 1 := kLe f44.1.1 ck_2 rfl
  have s0 := PF_fr f20.1.1 f20.1.2.1 (by decide +kernel) kz
  have a0 : absC H2 = (absC H1) := s0.1
  have v0 : vwC H2 = vwC H0 := (vwC_fr f20.1.2.1 (by decide +kernel)).trans vz
  have u0 := CU_fr f20.1.1 f20.1.2.1 (by decide +kernel) cz
  have d0 := BI_fr f20.1.1 f20.1.2.1 (by decide +kernel) bz
  have j0 : BLc H2 = BLc H0 := d0.2.trans blz
  have s1 := PF_fr f25.1.1 f25.1.2.1 (by decide +kernel) s0.2.2
  have a1 : absC H3 = (absC H1) := s1.1.trans a0
  have v1 : vwC H3 = vwC H0 := (vwC_fr f25.1.2.1 (by decide +kernel)).trans v0
  have u1 := CU_fr f25.1.1 f25.1.2.1 (by decide +kernel) u0
  have d1 := BI_fr f25.1.1 f25.1.2.1 (by decide +kernel) d0.1
  have j1 : BLc H3 = BLc H0 := d1.2.trans j0
  have s2 := PF_fr f39.1.1 f39.1.2.1 (by decide +kernel) s1.2.2
  have a2 : absC H4 = (absC H1) := s2.1.trans a1
  have v2 : vwC H4 = vwC H0 := (vwC_fr f39.1.2.1 (by decide +kernel)).trans v1
  have u2 := CU_fr f39.1.1 f39.1.2.1 (by decide +kernel) u1
  have d2 := BI_fr f39.1.1 f39.1.2.1 (by decide +kernel) d1.1
  have j2 : BLc H4 = BLc H0 := d2.2.trans j1
  have s3 := PF_fr f40.1.1 f40.1.2.1 (by decide +kernel) s2.2.2
  have a3 : absC H5 = (absC H1) := s3.1.trans a2
  have v3 : vwC H5 = vwC H0 := (vwC_fr f40.1.2.1 (by decide +kernel)).trans v2
  have u3 := CU_fr f40.1.1 f40.1.2.1 (by decide +kernel) u2
  have d3 := BI_fr f40.1.1 f40.1.2.1 (by decide +kernel) d2.1
  have j3 : BLc H5 = BLc H0 := d3.2.trans j2
  have c4 := f44.2
  unfold postb_66v at c4
  rw [v3] at c4
  rw [a3] at c4
  have a4 : absC H6 = (ptk (vwC H0) n17 (absC H1)) := c4.2
  have v4 : vwC H6 = vwC H0 := (vwC_fr f44.1.2.1 (by decide +kernel)).trans v3
  have u4 := CU_fr f44.1.1 f44.1.2.1 (by decide +kernel) u3
  have d4 := BI_fr f44.1.1 f44.1.2.1 (by decide +kernel) d3.1
  have j4 : BLc H6 = BLc H0 := d4.2.trans j3
  have pr := f40.2
  unfold postb_24v at pr
  unfold preb_76v
  exact c4.1
theorem c_72v_6_20 {q0 : Nat} : vOkm T0 (eP e_72v L_72v A_72v mu_72v (some q0)) 1 ([(0, [18], [], 1), (20, [18, 10], [6], 0), (23, [10], [6], 1), (90, [18], [], -2147483648), (91, [18], [], 2147483647), (1066, [1, 17], [5, 6], 0), (20, [17, 1], [5], 2), (90, [17], [], -2147483648), (91, [17], [], 2147483647), (1024, [10, 13, 16], [4, 5], 0), (1124, [16, 14, 15], [3, 4], 0), (90, [16], [], -2147483648), (91, [16], [], 2147483647), (20, [15, 1], [3], 1), (90, [15], [], -2147483648), (91, [15], [], 2147483647), (20, [14, 1], [3], 0), (0, [14], [], 31), (2, [13, 11, 12], [], 0), (0, [12], [], 20), (20, [11, 1], [3], 2), (90, [11], [], -2147483648), (91, [11], [], 2147483647), (51, [10], [], 0), (1074, [10, 1, 9, 2], [2, 3], 0), (20, [9, 1], [2], 13), (90, [9], [], -2147483648), (91, [9], [], 2147483647), (31, [8], [], 0), (1073, [8, 7], [1, 2], 0), (90, [8], [], 0), (91, [8], [], 1), (20, [7, 1], [1], 2), (90, [7], [], -2147483648), (91, [7], [], 2147483647), (30, [6], [], 0), (20, [6, 1], [1], 3), (90, [6], [], -2147483648), (91, [6], [], 2147483647), (45, [4, 5], [], 0), (0, [5], [], 16), (5000, [0, 1, 2, 3, 4], [0, 1], 6), (0, [0], [], 30), (0, [1], [], 30), (90, [2], [], -2147483648), (91, [2], [], 2147483647), (90, [3], [], -2147483648), (91, [3], [], 2147483647), (90, [4], [], -2147483648), (91, [4], [], 2147483647)], (2076, [1, 10], [6], 0)) := vOk_in fun ρ η h => by
  obtain ⟨f0, f1, f2, f3, f4, f5, f6, f7, f8, f9, f10, f11, f12, f13, f14, f15, f16, f17, f18, f19, f20, f21, f22, f23, f24, f25, f26, f27, f28, f29, f30, f31, f32, f33, f34, f35, f36, f37, f38, f39, f40, f41, f42, f43, f44, f45, f46, f47, f48, f49, _⟩ := h
  exact q_72v_21 (q0 := q0) (n0 := ρ 4) (n1 := ρ 3) (n2 := ρ 2) (n3 := ρ 1) (n4 := ρ 0) (n5 := ρ 5) (n6 := ρ 6) (n7 := ρ 7) (n8 := ρ 8) (n9 := ρ 9) (n10 := ρ 10) (n11 := ρ 11) (n12 := ρ 12) (n13 := ρ 13) (n14 := ρ 14) (n15 := ρ 15) (n16 := ρ 16) (n17 := ρ 17) (n18 := ρ 18) (H0 := η 0) (H1 := η 1) (H2 := η 2) (H3 := η 3) (H4 := η 4) (H5 := η 5) (H6 := η 6) f49 f48 f47 f46 f45 f44 f43 f42 f41 f40 f39 f38 f37 f36 f35 f34 f33 f32 f31 f30 f29 f28 f27 f26 f25 f24 f23 f22 f21 f20 f19 f18 f17 f16 f15 f14 f13 f12 f11 f10 f9 f8 f7 f6 f5 f4 f3 f2 f1 f0
theorem q_72v_22 {q0 : Nat} {n0 n1 n2 n3 n4 n5 n6 n7 n8 n9 n10 n11 n12 n13 n14 n15 n16 n17 n18 n19 : Int} {H0 H1 H2 H3 H4 H5 H6 H7 : gH} (f0 : n0 ≤ 2147483647) (f1 : (-2147483648) ≤ n0) (f2 : n1 ≤ 2147483647) (f3 : (-2147483648) ≤ n1) (f4 : n2 ≤ 2147483647) (f5 : (-2147483648) ≤ n2) (f6 : n3 = 30) (f7 : n4 = 30) (f8 : (hLe T0 H0 H1 ∧ hFr s_72v.2.2.2.2 H0 H1 ∧ hWt T0 H1) ∧ (Ab_72v_6 n4 n3 n2 n1 n0 H0 H1 ∧ preb_72v n4 H0) ∧ some q0 = some (mub_72v_6 n4 n3 n2 n1 n0 H0 H1)) (f9 : n5 = 16) (f10 : n0 ≤ n5) (f11 : n6 ≤ 2147483647) (f12 : (-2147483648) ≤ n6) (f13 : n6 = hV H1 (n3).toNat 3) (f14 : n6 = 0) (f15 : n7 ≤ 2147483647) (f16 : (-2147483648) ≤ n7) (f17 : n7 = hV H1 (n3).toNat 2) (f18 : n8 ≤ 1) (f19 : 0 ≤ n8) (f20 : (hLe T0 H1 H2 ∧ hFr s_73v.2.2.2.2 H1 H2 ∧ ((0 : Int) = 0 → H2.length = H1.length) ∧ hWt T0 H2) ∧ postb_73v n8 n7 H1 H2) (f21 : n8 ≠ 0) (f22 : n9 ≤ 2147483647) (f23 : (-2147483648) ≤ n9) (f24 : n9 = hV H2 (n3).toNat 13) (f25 : (hLe T0 H2 H3 ∧ hFr s_74v.2.2.2.2 H2 H3 ∧ ((0 : Int) = 0 → H3.length = H2.length) ∧ hWt T0 H3) ∧ postb_74v n10 n3 n9 n2 H2 H3) (f26 : 0 ≤ n10) (f27 : n11 ≤ 2147483647) (f28 : (-2147483648) ≤ n11) (f29 : n11 = hV H3 (n3).toNat 2) (f30 : n12 = 20) (f31 : n13 = w32 (n11 - n12)) (f32 : n14 = 31) (f33 : n14 = hV H3 (n3).toNat 0) (f34 : n15 ≤ 2147483647) (f35 : (-2147483648) ≤ n15) (f36 : n15 = hV H3 (n3).toNat 1) (f37 : n16 ≤ 2147483647) (f38 : (-2147483648) ≤ n16) (f39 : (hLe T0 H3 H4 ∧ hFr s_124.2.2.2.2 H3 H4 ∧ ((0 : Int) = 0 → H4.length = H3.length) ∧ hWt T0 H4) ∧ True) (f40 : (hLe T0 H4 H5 ∧ hFr s_24v.2.2.2.2 H4 H5 ∧ ((0 : Int) = 0 → H5.length = H4.length) ∧ hWt T0 H5) ∧ postb_24v n10 n13 n16 H4 H5) (f41 : n17 ≤ 2147483647) (f42 : (-2147483648) ≤ n17) (f43 : n17 = hV H5 (n3).toNat 2) (f44 : (hLe T0 H5 H6 ∧ hFr s_66v.2.2.2.2 H5 H6 ∧ ((0 : Int) = 0 → H6.length = H5.length) ∧ hWt T0 H6) ∧ postb_66v n3 n17 H5 H6) (f45 : n18 ≤ 2147483647) (f46 : (-2147483648) ≤ n18) (f47 : hK H6 (n10).toNat = 1) (f48 : n18 = hV H6 (n10).toNat 0) (f49 : n18 = 1) (f50 : (hLe T0 H6 H7 ∧ hFr s_76v.2.2.2.2 H6 H7 ∧ ((0 : Int) = 0 → H7.length = H6.length) ∧ hWt T0 H7) ∧ postb_76v n3 n10 H6 H7) (f51 : n19 = 4) : preb_66v n3 n19 H7 := by
  have pz := f8.2.1.2
  unfold preb_72v at pz
  have ga := f8.2.1.1
  unfold Ab_72v_6 at ga
  have vz : vwC H1 = vwC H0 := vwC_fr f8.1.2.1 (by decide +kernel)
  obtain ⟨kz, bz, blz, b13, cz, b48, x10, x116, x30, x317, x13, ya, yt⟩ := ga
  have r3 := f13
  rw [f6] at r3
  rw [show ((30 : Int)).toNat = 30 from rfl] at r3
  have r2 := f17
  rw [f6] at r2
  rw [show ((30 : Int)).toNat = 30 from rfl] at r2
  have pc := f20.2
  unfold postb_73v at pc
  have cq := f25.2
  unfold postb_74v at cq
  have cq2 := cq.2
  have ck_0 := (cq.1 (by omega)).2
  have ck_1 : hK H4 (n10).toNat = 1 := kLe f39.1.1 ck_0 rfl
  have ck_2 : hK H5 (n10).toNat = 1 := kLe f40.1.1 ck_1 rfl
  have ck_3 : hK H6 (n10).toNat = 1 := kLe f44.1.1 ck_2 rfl
  have ck_4 : hK H7 (n10).toNat = 1 := kLe f50.1.1 ck_3 rfl
  have s0 := PF_fr f20.1.1 f20.1.2.1 (by decide +kernel) kz
  have a0 : absC H2 = (absC H1) := s0.1
  have v0 : vwC H2 = vwC H0 := (vwC_fr f20.1.2.1 (by decide +kernel)).trans vz
  have u0 := CU_fr f20.1.1 f20.1.2.1 (by decide +kernel) cz
  have d0 := BI_fr f20.1.1 f20.1.2.1 (by decide +kernel) bz
  have j0 : BLc H2 = BLc H0 := d0.2.trans blz
  have s1 := PF_fr f25.1.1 f25.1.2.1 (by decide +kernel) s0.2.2
  have a1 : absC H3 = (absC H1) := s1.1.trans a0
  have v1 : vwC H3 = vwC H0 := (vwC_fr f25.1.2.1 (by decide +kernel)).trans v0
  have u1 := CU_fr f25.1.1 f25.1.2.1 (by decide +kernel) u0
  have d1 := BI_fr f25.1.1 f25.1.2.1 (by decide +kernel) d0.1
  have j1 : BLc H3 = BLc H0 := d1.2.trans j0
  have s2 := PF_fr f39.1.1 f39.1.2.1 (by decide +kernel) s1.2.2
  have a2 : absC H4 = (absC H1) := s2.1.trans a1
  have v2 : vwC H4 = vwC H0 := (vwC_fr f39.1.2.1 (by decide +kernel)).trans v1
  have u2 := CU_fr f39.1.1 f39.1.2.1 (by decide +kernel) u1
  have d2 := BI_fr f39.1.1 f39.1.2.1 (by decide +kernel) d1.1
  have j2 : BLc H4 = BLc H0 := d2.2.trans j1
  have s3 := PF_fr f40.1.1 f40.1.2.1 (by decide +kernel) s2.2.2
  have a3 : absC H5 = (absC H1) := s3.1.trans a2
  have v3 : vwC H5 = vwC H0 := (vwC_fr f40.1.2.1 (by decide +kernel)).trans v2
  have u3 := CU_fr f40.1.1 f40.1.2.1 (by decide +kernel) u2
  have d3 := BI_fr f40.1.1 f40.1.2.1 (by decide +kernel) d2.1
  have j3 : BLc H5 = BLc H0 := d3.2.trans j2
  have c4 := f44.2
  unfold postb_66v at c4
  rw [v3] at c4
  rw [a3] at c4
  have a4 : absC H6 = (ptk (vwC H0) n17 (absC H1)) := c4.2
  have v4 : vwC H6 = vwC H0 := (vwC_fr f44.1.2.1 (by decide +kernel)).trans v3
  have u4 := CU_fr f44.1.1 f44.1.2.1 (by decide +kernel) u3
  have d4 := BI_fr f44.1.1 f44.1.2.1 (by decide +kernel) d3.1
  have j4 : BLc H6 = BLc H0 := d4.2.trans j3
  have c5 := f50.2
  unfold postb_76v at c5
  rw [v4] at c5
  rw [a4] at c5
  have a5 : absC H7 = (pFade (vwC H0) (ptk (vwC H0) n17 (absC H1))) := c5.2
  have v5 : vwC H7 = vwC H0 := (vwC_fr f50.1.2.1 (by decide +kernel)).trans v4
  have u5 := CU_fr f50.1.1 f50.1.2.1 (by decide +kernel) u4
  have d5 := BI_fr f50.1.1 f50.1.2.1 (by decide +kernel) d4.1
  have j5 : BLc H7 = BLc H0 := d5.2.trans j4
  unfold preb_66v
  exact ⟨c5.1, .inl (by omega)⟩
theorem c_72v_6_21 {q0 : Nat} : vOkm T0 (eP e_72v L_72v A_72v mu_72v (some q0)) 1 ([(0, [19], [], 4), (1076, [1, 10], [6, 7], 0), (0, [18], [], 1), (20, [18, 10], [6], 0), (23, [10], [6], 1), (90, [18], [], -2147483648), (91, [18], [], 2147483647), (1066, [1, 17], [5, 6], 0), (20, [17, 1], [5], 2), (90, [17], [], -2147483648), (91, [17], [], 2147483647), (1024, [10, 13, 16], [4, 5], 0), (1124, [16, 14, 15], [3, 4], 0), (90, [16], [], -2147483648), (91, [16], [], 2147483647), (20, [15, 1], [3], 1), (90, [15], [], -2147483648), (91, [15], [], 2147483647), (20, [14, 1], [3], 0), (0, [14], [], 31), (2, [13, 11, 12], [], 0), (0, [12], [], 20), (20, [11, 1], [3], 2), (90, [11], [], -2147483648), (91, [11], [], 2147483647), (51, [10], [], 0), (1074, [10, 1, 9, 2], [2, 3], 0), (20, [9, 1], [2], 13), (90, [9], [], -2147483648), (91, [9], [], 2147483647), (31, [8], [], 0), (1073, [8, 7], [1, 2], 0), (90, [8], [], 0), (91, [8], [], 1), (20, [7, 1], [1], 2), (90, [7], [], -2147483648), (91, [7], [], 2147483647), (30, [6], [], 0), (20, [6, 1], [1], 3), (90, [6], [], -2147483648), (91, [6], [], 2147483647), (45, [4, 5], [], 0), (0, [5], [], 16), (5000, [0, 1, 2, 3, 4], [0, 1], 6), (0, [0], [], 30), (0, [1], [], 30), (90, [2], [], -2147483648), (91, [2], [], 2147483647), (90, [3], [], -2147483648), (91, [3], [], 2147483647), (90, [4], [], -2147483648), (91, [4], [], 2147483647)], (2066, [1, 19], [7], 0)) := vOk_in fun ρ η h => by
  obtain ⟨f0, f1, f2, f3, f4, f5, f6, f7, f8, f9, f10, f11, f12, f13, f14, f15, f16, f17, f18, f19, f20, f21, f22, f23, f24, f25, f26, f27, f28, f29, f30, f31, f32, f33, f34, f35, f36, f37, f38, f39, f40, f41, f42, f43, f44, f45, f46, f47, f48, f49, f50, f51, _⟩ := h
  exact q_72v_22 (q0 := q0) (n0 := ρ 4) (n1 := ρ 3) (n2 := ρ 2) (n3 := ρ 1) (n4 := ρ 0) (n5 := ρ 5) (n6 := ρ 6) (n7 := ρ 7) (n8 := ρ 8) (n9 := ρ 9) (n10 := ρ 10) (n11 := ρ 11) (n12 := ρ 12) (n13 := ρ 13) (n14 := ρ 14) (n15 := ρ 15) (n16 := ρ 16) (n17 := ρ 17) (n18 := ρ 18) (n19 := ρ 19) (H0 := η 0) (H1 := η 1) (H2 := η 2) (H3 := η 3) (H4 := η 4) (H5 := η 5) (H6 := η 6) (H7 := η 7) f51 f50 f49 f48 f47 f46 f45 f44 f43 f42 f41 f40 f39 f38 f37 f36 f35 f34 f33 f32 f31 f30 f29 f28 f27 f26 f25 f24 f23 f22 f21 f20 f19 f18 f17 f16 f15 f14 f13 f12 f11 f10 f9 f8 f7 f6 f5 f4 f3 f2 f1 f0
theorem q_72v_23 {q0 : Nat} {n0 n1 n2 n3 n4 n5 n6 n7 n8 n9 n10 n11 n12 n13 n14 n15 n16 n17 n18 n19 n20 n21 n22 n23 n24 n25 : Int} {H0 H1 H2 H3 H4 H5 H6 H7 H8 : gH} (f0 : n0 ≤ 2147483647) (f1 : (-2147483648) ≤ n0) (f2 : n1 ≤ 2147483647) (f3 : (-2147483648) ≤ n1) (f4 : n2 ≤ 2147483647) (f5 : (-2147483648) ≤ n2) (f6 : n3 = 30) (f7 : n4 = 30) (f8 : (hLe T0 H0 H1 ∧ hFr s_72v.2.2.2.2 H0 H1 ∧ hWt T0 H1) ∧ (Ab_72v_6 n4 n3 n2 n1 n0 H0 H1 ∧ preb_72v n4 H0) ∧ some q0 = some (mub_72v_6 n4 n3 n2 n1 n0 H0 H1)) (f9 : n5 = 16) (f10 : n0 ≤ n5) (f11 : n6 ≤ 2147483647) (f12 : (-2147483648) ≤ n6) (f13 : n6 = hV H1 (n3).toNat 3) (f14 : n6 = 0) (f15 : n7 ≤ 2147483647) (f16 : (-2147483648) ≤ n7) (f17 : n7 = hV H1 (n3).toNat 2) (f18 : n8 ≤ 1) (f19 : 0 ≤ n8) (f20 : (hLe T0 H1 H2 ∧ hFr s_73v.2.2.2.2 H1 H2 ∧ ((0 : Int) = 0 → H2.length = H1.length) ∧ hWt T0 H2) ∧ postb_73v n8 n7 H1 H2) (f21 : n8 ≠ 0) (f22 : n9 ≤ 2147483647) (f23 : (-2147483648) ≤ n9) (f24 : n9 = hV H2 (n3).toNat 13) (f25 : (hLe T0 H2 H3 ∧ hFr s_74v.2.2.2.2 H2 H3 ∧ ((0 : Int) = 0 → H3.length = H2.length) ∧ hWt T0 H3) ∧ postb_74v n10 n3 n9 n2 H2 H3) (f26 : 0 ≤ n10) (f27 : n11 ≤ 2147483647) (f28 : (-2147483648) ≤ n11) (f29 : n11 = hV H3 (n3).toNat 2) (f30 : n12 = 20) (f31 : n13 = w32 (n11 - n12)) (f32 : n14 = 31) (f33 : n14 = hV H3 (n3).toNat 0) (f34 : n15 ≤ 2147483647) (f35 : (-2147483648) ≤ n15) (f36 : n15 = hV H3 (n3).toNat 1) (f37 : n16 ≤ 2147483647) (f38 : (-2147483648) ≤ n16) (f39 : (hLe T0 H3 H4 ∧ hFr s_124.2.2.2.2 H3 H4 ∧ ((0 : Int) = 0 → H4.length = H3.length) ∧ hWt T0 H4) ∧ True) (f40 : (hLe T0 H4 H5 ∧ hFr s_24v.2.2.2.2 H4 H5 ∧ ((0 : Int) = 0 → H5.length = H4.length) ∧ hWt T0 H5) ∧ postb_24v n10 n13 n16 H4 H5) (f41 : n17 ≤ 2147483647) (f42 : (-2147483648) ≤ n17) (f43 : n17 = hV H5 (n3).toNat 2) (f44 : (hLe T0 H5 H6 ∧ hFr s_66v.2.2.2.2 H5 H6 ∧ ((0 : Int) = 0 → H6.length = H5.length) ∧ hWt T0 H6) ∧ postb_66v n3 n17 H5 H6) (f45 : n18 ≤ 2147483647) (f46 : (-2147483648) ≤ n18) (f47 : hK H6 (n10).toNat = 1) (f48 : n18 = hV H6 (n10).toNat 0) (f49 : n18 = 1) (f50 : (hLe T0 H6 H7 ∧ hFr s_76v.2.2.2.2 H6 H7 ∧ ((0 : Int) = 0 → H7.length = H6.length) ∧ hWt T0 H7) ∧ postb_76v n3 n10 H6 H7) (f51 : n19 = 4) (f52 : (hLe T0 H7 H8 ∧ hFr s_66v.2.2.2.2 H7 H8 ∧ ((0 : Int) = 0 → H8.length = H7.length) ∧ hWt T0 H8) ∧ postb_66v n3 n19 H7 H8) (f53 : n20 = w32 (n2 + 1)) (f54 : n21 ≤ 2147483647) (f55 : (-2147483648) ≤ n21) (f56 : hK H8 (n10).toNat = 1) (f57 : n21 = hV H8 (n10).toNat 0) (f58 : n22 = 5) (f59 : n21 ≠ n22) (f60 : n23 = 1) (f61 : n24 = w32 (n1 + n23)) (f62 : n25 = w32 (n0 + 1)) : Ab_72v_6 n4 n3 n20 n24 n25 H0 H8 ∧ ∀ q, some q0 = some q → mub_72v_6 n4 n3 n20 n24 n25 H0 H8 < q := by
  have pz := f8.2.1.2
  unfold preb_72v at pz
  have ga := f8.2.1.1
  unfold Ab_72v_6 at ga
  have vz : vwC H1 = vwC H0 := vwC_fr f8.1.2.1 (by decide +kernel)
  obtain ⟨kz, bz, blz, b13, cz, b48, x10, x116, x30, x317, x13, ya, yt⟩ := ga
  have r3 := f13
  rw [f6] at r3
  rw [show ((30 : Int)).toNat = 30 from rfl] at r3
  have r2 := f17
  rw [f6] at r2
  rw [show ((30 : Int)).toNat = 30 from rfl] at r2
  have pc := f20.2
  unfold postb_73v at pc
  have cq := f25.2
  unfold postb_74v at cq
  have cq2 := cq.2
  have ck_0 := (cq.1 (by omega)).2
  have ck_1 : hK H4 (n10).toNat = 1 := kLe f39.1.1 ck_0 rfl
  have ck_2 : hK H5 (n10).toNat = 1 := kLe f40.1.1 ck_1 rfl
  have ck_3 : hK H6 (n10).toNat = 1 := kLe f44.1.1 ck_2 rfl
  have ck_4 : hK H7 (n10).toNat = 1 := kLe f50.1.1 ck_3 rfl
  have ck_5 : hK H8 (n10).toNat = 1 := kLe f52.1.1 ck_4 rfl
  have s0 := PF_fr f20.1.1 f20.1.2.1 (by decide +kernel) kz
  have a0 : absC H2 = (absC H1) := s0.1
  have v0 : vwC H2 = vwC H0 := (vwC_fr f20.1.2.1 (by decide +kernel)).trans vz
  have u0 := CU_fr f20.1.1 f20.1.2.1 (by decide +kernel) cz
  have d0 := BI_fr f20.1.1 f20.1.2.1 (by decide +kernel) bz
  have j0 : BLc H2 = BLc H0 := d0.2.trans blz
  have s1 := PF_fr f25.1.1 f25.1.2.1 (by decide +kernel) s0.2.2
  have a1 : absC H3 = (absC H1) := s1.1.trans a0
  have v1 : vwC H3 = vwC H0 := (vwC_fr f25.1.2.1 (by decide +kernel)).trans v0
  have u1 := CU_fr f25.1.1 f25.1.2.1 (by decide +kernel) u0
  have d1 := BI_fr f25.1.1 f25.1.2.1 (by decide +kernel) d0.1
  have j1 : BLc H3 = BLc H0 := d1.2.trans j0
  have s2 := PF_fr f39.1.1 f39.1.2.1 (by decide +kernel) s1.2.2
  have a2 : absC H4 = (absC H1) := s2.1.trans a1
  have v2 : vwC H4 = vwC H0 := (vwC_fr f39.1.2.1 (by decide +kernel)).trans v1
  have u2 := CU_fr f39.1.1 f39.1.2.1 (by decide +kernel) u1
  have d2 := BI_fr f39.1.1 f39.1.2.1 (by decide +kernel) d1.1
  have j2 : BLc H4 = BLc H0 := d2.2.trans j1
  have s3 := PF_fr f40.1.1 f40.1.2.1 (by decide +kernel) s2.2.2
  have a3 : absC H5 = (absC H1) := s3.1.trans a2
  have v3 : vwC H5 = vwC H0 := (vwC_fr f40.1.2.1 (by decide +kernel)).trans v2
  have u3 := CU_fr f40.1.1 f40.1.2.1 (by decide +kernel) u2
  have d3 := BI_fr f40.1.1 f40.1.2.1 (by decide +kernel) d2.1
  have j3 : BLc H5 = BLc H0 := d3.2.trans j2
  have c4 := f44.2
  unfold postb_66v at c4
  rw [v3] at c4
  rw [a3] at c4
  have a4 : absC H6 = (ptk (vwC H0) n17 (absC H1)) := c4.2
  have v4 : vwC H6 = vwC H0 := (vwC_fr f44.1.2.1 (by decide +kernel)).trans v3
  have u4 := CU_fr f44.1.1 f44.1.2.1 (by decide +kernel) u3
  have d4 := BI_fr f44.1.1 f44.1.2.1 (by decide +kernel) d3.1
  have j4 : BLc H6 = BLc H0 := d4.2.trans j3
  have c5 := f50.2
  unfold postb_76v at c5
  rw [v4] at c5
  rw [a4] at c5
  have a5 : absC H7 = (pFade (vwC H0) (ptk (vwC H0) n17 (absC H1))) := c5.2
  have v5 : vwC H7 = vwC H0 := (vwC_fr f50.1.2.1 (by decide +kernel)).trans v4
  have u5 := CU_fr f50.1.1 f50.1.2.1 (by decide +kernel) u4
  have d5 := BI_fr f50.1.1 f50.1.2.1 (by decide +kernel) d4.1
  have j5 : BLc H7 = BLc H0 := d5.2.trans j4
  have c6 := f52.2
  unfold postb_66v at c6
  try rw [f51] at c6
  rw [v5] at c6
  rw [a5] at c6
  have a6 : absC H8 = (ptk (vwC H0) 4 (pFade (vwC H0) (ptk (vwC H0) n17 (absC H1)))) := c6.2
  have v6 : vwC H8 = vwC H0 := (vwC_fr f52.1.2.1 (by decide +kernel)).trans v5
  have u6 := CU_fr f52.1.1 f52.1.2.1 (by decide +kernel) u5
  have d6 := BI_fr f52.1.1 f52.1.2.1 (by decide +kernel) d5.1
  have j6 : BLc H8 = BLc H0 := d6.2.trans j5
  have y2 := pz.2.1.2.1
  have y3 := pz.2.1.2.2.1
  have wq31 := f31
  unfold w32 at wq31
  have wq53 := f53
  unfold w32 at wq53
  have wq61 := f61
  unfold w32 at wq61
  have wq62 := f62
  unfold w32 at wq62
  have g5 := Option.some.inj f8.2.2
  unfold mub_72v_6 at g5
  unfold Ab_72v_6 mub_72v_6
  have t13 : hV H8 30 13 = hV H1 30 13 := (f52.1.2.1.1 30 13 (by decide +kernel)).trans ((f50.1.2.1.1 30 13 (by decide +kernel)).trans ((f44.1.2.1.1 30 13 (by decide +kernel)).trans ((f40.1.2.1.1 30 13 (by decide +kernel)).trans ((f39.1.2.1.1 30 13 (by decide +kernel)).trans ((f25.1.2.1.1 30 13 (by decide +kernel)).trans (f20.1.2.1.1 30 13 (by decide +kernel)))))))
  have t48 : hV H8 48 = hV H1 48 := (fRow f52.1.2.1 48 (by decide +kernel)).trans ((fRow f50.1.2.1 48 (by decide +kernel)).trans ((fRow f44.1.2.1 48 (by decide +kernel)).trans ((fRow f40.1.2.1 48 (by decide +kernel)).trans ((fRow f39.1.2.1 48 (by decide +kernel)).trans ((fRow f25.1.2.1 48 (by decide +kernel)).trans (fRow f20.1.2.1 48 (by decide +kernel)))))))
  have hk : (vwC H0).1 (absC H1).1 = hV H1 30 2 := by
    have u := (kd_at kz).resolve_left (by have := absC_pos kz (by omega); omega)
    rw [vz] at u
    exact u
  have pr := f40.2
  unfold postb_24v at pr
  have ka0_0 : hK H6 (n10).toNat = 1 := kLe f44.1.1 ck_2 rfl
  have kq0 : n18 = hV H5 (n10).toNat 0 := f48.trans (f44.1.2.1.2.2 _ 1 ck_2 rfl 0 (by decide +kernel))
  have ka1_0 : hK H6 (n10).toNat = 1 := kLe f44.1.1 ck_2 rfl
  have ka1_1 : hK H7 (n10).toNat = 1 := kLe f50.1.1 ka1_0 rfl
  have ka1_2 : hK H8 (n10).toNat = 1 := kLe f52.1.1 ka1_1 rfl
  have kq1 : n21 = hV H5 (n10).toNat 0 := f57.trans ((f52.1.2.1.2.2 _ 1 ka1_1 rfl 0 (by decide +kernel)).trans ((f50.1.2.1.2.2 _ 1 ka1_0 rfl 0 (by decide +kernel)).trans (f44.1.2.1.2.2 _ 1 ck_2 rfl 0 (by decide +kernel))))
  have rz0 := f29
  rw [f6] at rz0
  rw [show ((30 : Int)).toNat = 30 from rfl] at rz0
  have tz0 : hV H3 30 2 = hV H1 30 2 := (f25.1.2.1.1 30 2 (by decide +kernel)).trans (f20.1.2.1.1 30 2 (by decide +kernel))
  have rz1 := f43
  rw [f6] at rz1
  rw [show ((30 : Int)).toNat = 30 from rfl] at rz1
  have tz1 : hV H5 30 2 = hV H1 30 2 := (f40.1.2.1.1 30 2 (by decide +kernel)).trans ((f39.1.2.1.1 30 2 (by decide +kernel)).trans ((f25.1.2.1.1 30 2 (by decide +kernel)).trans (f20.1.2.1.1 30 2 (by decide +kernel))))
  have pr1 := pr.1
  have k2 : hV H1 30 2 = 21 := by omega
  have kt : n17 = 21 := by omega
  have hb : absC H8 = ptk (vwC H0) 4 (pBody (vwC H0) (BLc H0) 21 (ptk (vwC H0) 21 (absC H1))) := by
    rw [pBody_21, ← kt]
    exact a6
  have st := cues_st (bl := BLc H0) pz.1.2.1 (hk.trans k2) (by decide) (by decide) (c := (n2).toNat) (by omega) hb
  have tot : hV H8 30 3 = 0 → ∃ d : Int, n24 = n1 + d ∧ 0 ≤ d ∧ d ≤ gB (hV H0 30 13).toNat ∧ pcap (pcap n1 + pcz (vwC H0) (BLc H0) (absC H1)) = pcap (n1 + d) := fun hf => by
    obtain ⟨w1, w2, w3⟩ := yt (by omega)
    have bb := gB_pos (hV H0 30 13).toNat
    have b16 : n2 * gB (hV H0 30 13).toNat ≤ 16 * gB (hV H0 30 13).toNat := Int.mul_le_mul_of_nonneg_right x116 (by omega)
    have b7 : gB (hV H0 30 13).toNat ≤ gB 6 := gB_mono (by omega)
    have b8 : gB 6 = 16777216 := by decide
    refine ⟨1, by omega, by omega, by omega, ?_⟩
    rw [pcz_1 (by rw [hk]; omega)]
    exact pcap_one w1
  refine ⟨⟨c6.1, d6.1, j6, t13.trans b13, u6, t48.trans b48, by omega, by omega, by omega, by omega, fun w => by have := x13 (by omega); omega, ?_, fun w => ?_⟩, fun q hq => ?_⟩
  · rw [← ya, st, show (n2).toNat + 1 = (n20).toNat by omega]
  · obtain ⟨d, d1, d2, d3, d4⟩ := tot w
    obtain ⟨w1, w2, w3⟩ := yt (by omega)
    have ts := tot_st pz.1.2.1 (hk.trans k2) (by decide) (by decide) (c := (n2).toNat) (by omega) hb d4
    rw [show (n2).toNat + 1 = (n20).toNat by omega, w3] at ts
    refine ⟨by omega, ?_, ?_⟩
    · rw [d1, show n20 = n2 + 1 by omega, Int.add_mul, Int.one_mul]
      omega
    · rw [d1]
      exact ts.symm
  · have g6 := Option.some.inj hq
    subst g6
    first
    | omega
    | lia
theorem c_72v_6_22 {q0 : Nat} : vOkm T0 (eP e_72v L_72v A_72v mu_72v (some q0)) 1 ([(10, [25, 4], [], 1), (1, [24, 3, 23], [], 0), (0, [23], [], 1), (41, [21, 22], [], 0), (0, [22], [], 5), (20, [21, 10], [8], 0), (23, [10], [8], 1), (90, [21], [], -2147483648), (91, [21], [], 2147483647), (10, [20, 2], [], 1), (1066, [1, 19], [7, 8], 0), (0, [19], [], 4), (1076, [1, 10], [6, 7], 0), (0, [18], [], 1), (20, [18, 10], [6], 0), (23, [10], [6], 1), (90, [18], [], -2147483648), (91, [18], [], 2147483647), (1066, [1, 17], [5, 6], 0), (20, [17, 1], [5], 2), (90, [17], [], -2147483648), (91, [17], [], 2147483647), (1024, [10, 13, 16], [4, 5], 0), (1124, [16, 14, 15], [3, 4], 0), (90, [16], [], -2147483648), (91, [16], [], 2147483647), (20, [15, 1], [3], 1), (90, [15], [], -2147483648), (91, [15], [], 2147483647), (20, [14, 1], [3], 0), (0, [14], [], 31), (2, [13, 11, 12], [], 0), (0, [12], [], 20), (20, [11, 1], [3], 2), (90, [11], [], -2147483648), (91, [11], [], 2147483647), (51, [10], [], 0), (1074, [10, 1, 9, 2], [2, 3], 0), (20, [9, 1], [2], 13), (90, [9], [], -2147483648), (91, [9], [], 2147483647), (31, [8], [], 0), (1073, [8, 7], [1, 2], 0), (90, [8], [], 0), (91, [8], [], 1), (20, [7, 1], [1], 2), (90, [7], [], -2147483648), (91, [7], [], 2147483647), (30, [6], [], 0), (20, [6, 1], [1], 3), (90, [6], [], -2147483648), (91, [6], [], 2147483647), (45, [4, 5], [], 0), (0, [5], [], 16), (5000, [0, 1, 2, 3, 4], [0, 1], 6), (0, [0], [], 30), (0, [1], [], 30), (90, [2], [], -2147483648), (91, [2], [], 2147483647), (90, [3], [], -2147483648), (91, [3], [], 2147483647), (90, [4], [], -2147483648), (91, [4], [], 2147483647)], (4000, [1, 20, 24, 25], [8], 6)) := vOk_in fun ρ η h => by
  obtain ⟨f0, f1, f2, f3, f4, f5, f6, f7, f8, f9, f10, f11, f12, f13, f14, f15, f16, f17, f18, f19, f20, f21, f22, f23, f24, f25, f26, f27, f28, f29, f30, f31, f32, f33, f34, f35, f36, f37, f38, f39, f40, f41, f42, f43, f44, f45, f46, f47, f48, f49, f50, f51, f52, f53, f54, f55, f56, f57, f58, f59, f60, f61, f62, _⟩ := h
  exact q_72v_23 (q0 := q0) (n0 := ρ 4) (n1 := ρ 3) (n2 := ρ 2) (n3 := ρ 1) (n4 := ρ 0) (n5 := ρ 5) (n6 := ρ 6) (n7 := ρ 7) (n8 := ρ 8) (n9 := ρ 9) (n10 := ρ 10) (n11 := ρ 11) (n12 := ρ 12) (n13 := ρ 13) (n14 := ρ 14) (n15 := ρ 15) (n16 := ρ 16) (n17 := ρ 17) (n18 := ρ 18) (n19 := ρ 19) (n20 := ρ 20) (n21 := ρ 21) (n22 := ρ 22) (n23 := ρ 23) (n24 := ρ 24) (n25 := ρ 25) (H0 := η 0) (H1 := η 1) (H2 := η 2) (H3 := η 3) (H4 := η 4) (H5 := η 5) (H6 := η 6) (H7 := η 7) (H8 := η 8) f62 f61 f60 f59 f58 f57 f56 f55 f54 f53 f52 f51 f50 f49 f48 f47 f46 f45 f44 f43 f42 f41 f40 f39 f38 f37 f36 f35 f34 f33 f32 f31 f30 f29 f28 f27 f26 f25 f24 f23 f22 f21 f20 f19 f18 f17 f16 f15 f14 f13 f12 f11 f10 f9 f8 f7 f6 f5 f4 f3 f2 f1 f0
theorem q_72v_24 {q0 : Nat} {n0 n1 n2 n3 n4 n5 n6 n7 n8 n9 n10 n11 n12 n13 n14 n15 n16 n17 n18 n19 n20 n21 n22 n23 n24 n25 n26 n27 : Int} {H0 H1 H2 H3 H4 H5 H6 H7 H8 H9 : gH} (f0 : n0 ≤ 2147483647) (f1 : (-2147483648) ≤ n0) (f2 : n1 ≤ 2147483647) (f3 : (-2147483648) ≤ n1) (f4 : n2 ≤ 2147483647) (f5 : (-2147483648) ≤ n2) (f6 : n3 = 30) (f7 : n4 = 30) (f8 : (hLe T0 H0 H1 ∧ hFr s_72v.2.2.2.2 H0 H1 ∧ hWt T0 H1) ∧ (Ab_72v_6 n4 n3 n2 n1 n0 H0 H1 ∧ preb_72v n4 H0) ∧ some q0 = some (mub_72v_6 n4 n3 n2 n1 n0 H0 H1)) (f9 : n5 = 16) (f10 : n0 ≤ n5) (f11 : n6 ≤ 2147483647) (f12 : (-2147483648) ≤ n6) (f13 : n6 = hV H1 (n3).toNat 3) (f14 : n6 = 0) (f15 : n7 ≤ 2147483647) (f16 : (-2147483648) ≤ n7) (f17 : n7 = hV H1 (n3).toNat 2) (f18 : n8 ≤ 1) (f19 : 0 ≤ n8) (f20 : (hLe T0 H1 H2 ∧ hFr s_73v.2.2.2.2 H1 H2 ∧ ((0 : Int) = 0 → H2.length = H1.length) ∧ hWt T0 H2) ∧ postb_73v n8 n7 H1 H2) (f21 : n8 ≠ 0) (f22 : n9 ≤ 2147483647) (f23 : (-2147483648) ≤ n9) (f24 : n9 = hV H2 (n3).toNat 13) (f25 : (hLe T0 H2 H3 ∧ hFr s_74v.2.2.2.2 H2 H3 ∧ ((0 : Int) = 0 → H3.length = H2.length) ∧ hWt T0 H3) ∧ postb_74v n10 n3 n9 n2 H2 H3) (f26 : 0 ≤ n10) (f27 : n11 ≤ 2147483647) (f28 : (-2147483648) ≤ n11) (f29 : n11 = hV H3 (n3).toNat 2) (f30 : n12 = 20) (f31 : n13 = w32 (n11 - n12)) (f32 : n14 = 31) (f33 : n14 = hV H3 (n3).toNat 0) (f34 : n15 ≤ 2147483647) (f35 : (-2147483648) ≤ n15) (f36 : n15 = hV H3 (n3).toNat 1) (f37 : n16 ≤ 2147483647) (f38 : (-2147483648) ≤ n16) (f39 : (hLe T0 H3 H4 ∧ hFr s_124.2.2.2.2 H3 H4 ∧ ((0 : Int) = 0 → H4.length = H3.length) ∧ hWt T0 H4) ∧ True) (f40 : (hLe T0 H4 H5 ∧ hFr s_24v.2.2.2.2 H4 H5 ∧ ((0 : Int) = 0 → H5.length = H4.length) ∧ hWt T0 H5) ∧ postb_24v n10 n13 n16 H4 H5) (f41 : n17 ≤ 2147483647) (f42 : (-2147483648) ≤ n17) (f43 : n17 = hV H5 (n3).toNat 2) (f44 : (hLe T0 H5 H6 ∧ hFr s_66v.2.2.2.2 H5 H6 ∧ ((0 : Int) = 0 → H6.length = H5.length) ∧ hWt T0 H6) ∧ postb_66v n3 n17 H5 H6) (f45 : n18 ≤ 2147483647) (f46 : (-2147483648) ≤ n18) (f47 : hK H6 (n10).toNat = 1) (f48 : n18 = hV H6 (n10).toNat 0) (f49 : n18 = 1) (f50 : (hLe T0 H6 H7 ∧ hFr s_76v.2.2.2.2 H6 H7 ∧ ((0 : Int) = 0 → H7.length = H6.length) ∧ hWt T0 H7) ∧ postb_76v n3 n10 H6 H7) (f51 : n19 = 4) (f52 : (hLe T0 H7 H8 ∧ hFr s_66v.2.2.2.2 H7 H8 ∧ ((0 : Int) = 0 → H8.length = H7.length) ∧ hWt T0 H8) ∧ postb_66v n3 n19 H7 H8) (f53 : n20 = w32 (n2 + 1)) (f54 : n21 ≤ 2147483647) (f55 : (-2147483648) ≤ n21) (f56 : hK H8 (n10).toNat = 1) (f57 : n21 = hV H8 (n10).toNat 0) (f58 : n22 = 5) (f59 : n21 = n22) (f60 : n23 = 47) (f61 : n23 = hV H8 (n3).toNat 11) (f62 : n24 ≤ 2147483647) (f63 : (-2147483648) ≤ n24) (f64 : hK H8 (n10).toNat = 1) (f65 : n24 = hV H8 (n10).toNat 2) (f66 : n25 ≤ 2147483647) (f67 : (-2147483648) ≤ n25) (f68 : (hLe T0 H8 H9 ∧ hFr s_199vk740.2.2.2.2 H8 H9 ∧ ((0 : Int) = 0 → H9.length = H8.length) ∧ hWt T0 H9) ∧ postb_199vk740 n25 n23 n24 H8 H9) (f69 : n26 = w32 (n1 + n25)) (f70 : n27 = w32 (n0 + 1)) : Ab_72v_6 n4 n3 n20 n26 n27 H0 H9 ∧ ∀ q, some q0 = some q → mub_72v_6 n4 n3 n20 n26 n27 H0 H9 < q := by
  have pz := f8.2.1.2
  unfold preb_72v at pz
  have ga := f8.2.1.1
  unfold Ab_72v_6 at ga
  have vz : vwC H1 = vwC H0 := vwC_fr f8.1.2.1 (by decide +kernel)
  obtain ⟨kz, bz, blz, b13, cz, b48, x10, x116, x30, x317, x13, ya, yt⟩ := ga
  have r3 := f13
  rw [f6] at r3
  rw [show ((30 : Int)).toNat = 30 from rfl] at r3
  have r2 := f17
  rw [f6] at r2
  rw [show ((30 : Int)).toNat = 30 from rfl] at r2
  have pc := f20.2
  unfold postb_73v at pc
  have cq := f25.2
  unfold postb_74v at cq
  have cq2 := cq.2
  have ck_0 := (cq.1 (by omega)).2
  have ck_1 : hK H4 (n10).toNat = 1 := kLe f39.1.1 ck_0 rfl
  have ck_2 : hK H5 (n10).toNat = 1 := kLe f40.1.1 ck_1 rfl
  have ck_3 : hK H6 (n10).toNat = 1 := kLe f44.1.1 ck_2 rfl
  have ck_4 : hK H7 (n10).toNat = 1 := kLe f50.1.1 ck_3 rfl
  have ck_5 : hK H8 (n10).toNat = 1 := kLe f52.1.1 ck_4 rfl
  have ck_6 : hK H9 (n10).toNat = 1 := kLe f68.1.1 ck_5 rfl
  have s0 := PF_fr f20.1.1 f20.1.2.1 (by decide +kernel) kz
  have a0 : absC H2 = (absC H1) := s0.1
  have v0 : vwC H2 = vwC H0 := (vwC_fr f20.1.2.1 (by decide +kernel)).trans vz
  have u0 := CU_fr f20.1.1 f20.1.2.1 (by decide +kernel) cz
  have d0 := BI_fr f20.1.1 f20.1.2.1 (by decide +kernel) bz
  have j0 : BLc H2 = BLc H0 := d0.2.trans blz
  have s1 := PF_fr f25.1.1 f25.1.2.1 (by decide +kernel) s0.2.2
  have a1 : absC H3 = (absC H1) := s1.1.trans a0
  have v1 : vwC H3 = vwC H0 := (vwC_fr f25.1.2.1 (by decide +kernel)).trans v0
  have u1 := CU_fr f25.1.1 f25.1.2.1 (by decide +kernel) u0
  have d1 := BI_fr f25.1.1 f25.1.2.1 (by decide +kernel) d0.1
  have j1 : BLc H3 = BLc H0 := d1.2.trans j0
  have s2 := PF_fr f39.1.1 f39.1.2.1 (by decide +kernel) s1.2.2
  have a2 : absC H4 = (absC H1) := s2.1.trans a1
  have v2 : vwC H4 = vwC H0 := (vwC_fr f39.1.2.1 (by decide +kernel)).trans v1
  have u2 := CU_fr f39.1.1 f39.1.2.1 (by decide +kernel) u1
  have d2 := BI_fr f39.1.1 f39.1.2.1 (by decide +kernel) d1.1
  have j2 : BLc H4 = BLc H0 := d2.2.trans j1
  have s3 := PF_fr f40.1.1 f40.1.2.1 (by decide +kernel) s2.2.2
  have a3 : absC H5 = (absC H1) := s3.1.trans a2
  have v3 : vwC H5 = vwC H0 := (vwC_fr f40.1.2.1 (by decide +kernel)).trans v2
  have u3 := CU_fr f40.1.1 f40.1.2.1 (by decide +kernel) u2
  have d3 := BI_fr f40.1.1 f40.1.2.1 (by decide +kernel) d2.1
  have j3 : BLc H5 = BLc H0 := d3.2.trans j2
  have c4 := f44.2
  unfold postb_66v at c4
  rw [v3] at c4
  rw [a3] at c4
  have a4 : absC H6 = (ptk (vwC H0) n17 (absC H1)) := c4.2
  have v4 : vwC H6 = vwC H0 := (vwC_fr f44.1.2.1 (by decide +kernel)).trans v3
  have u4 := CU_fr f44.1.1 f44.1.2.1 (by decide +kernel) u3
  have d4 := BI_fr f44.1.1 f44.1.2.1 (by decide +kernel) d3.1
  have j4 : BLc H6 = BLc H0 := d4.2.trans j3
  have c5 := f50.2
  unfold postb_76v at c5
  rw [v4] at c5
  rw [a4] at c5
  have a5 : absC H7 = (pFade (vwC H0) (ptk (vwC H0) n17 (absC H1))) := c5.2
  have v5 : vwC H7 = vwC H0 := (vwC_fr f50.1.2.1 (by decide +kernel)).trans v4
  have u5 := CU_fr f50.1.1 f50.1.2.1 (by decide +kernel) u4
  have d5 := BI_fr f50.1.1 f50.1.2.1 (by decide +kernel) d4.1
  have j5 : BLc H7 = BLc H0 := d5.2.trans j4
  have c6 := f52.2
  unfold postb_66v at c6
  try rw [f51] at c6
  rw [v5] at c6
  rw [a5] at c6
  have a6 : absC H8 = (ptk (vwC H0) 4 (pFade (vwC H0) (ptk (vwC H0) n17 (absC H1)))) := c6.2
  have v6 : vwC H8 = vwC H0 := (vwC_fr f52.1.2.1 (by decide +kernel)).trans v5
  have u6 := CU_fr f52.1.1 f52.1.2.1 (by decide +kernel) u5
  have d6 := BI_fr f52.1.1 f52.1.2.1 (by decide +kernel) d5.1
  have j6 : BLc H8 = BLc H0 := d6.2.trans j5
  have s7 := PF_fr f68.1.1 f68.1.2.1 (by decide +kernel) c6.1
  have a7 : absC H9 = (ptk (vwC H0) 4 (pFade (vwC H0) (ptk (vwC H0) n17 (absC H1)))) := s7.1.trans a6
  have v7 : vwC H9 = vwC H0 := (vwC_fr f68.1.2.1 (by decide +kernel)).trans v6
  have u7 := CU_fr f68.1.1 f68.1.2.1 (by decide +kernel) u6
  have d7 := BI_fr f68.1.1 f68.1.2.1 (by decide +kernel) d6.1
  have j7 : BLc H9 = BLc H0 := d7.2.trans j6
  have y2 := pz.2.1.2.1
  have y3 := pz.2.1.2.2.1
  have wq31 := f31
  unfold w32 at wq31
  have wq53 := f53
  unfold w32 at wq53
  have wq69 := f69
  unfold w32 at wq69
  have wq70 := f70
  unfold w32 at wq70
  have g5 := Option.some.inj f8.2.2
  unfold mub_72v_6 at g5
  unfold Ab_72v_6 mub_72v_6
  have t13 : hV H9 30 13 = hV H1 30 13 := (f68.1.2.1.1 30 13 (by decide +kernel)).trans ((f52.1.2.1.1 30 13 (by decide +kernel)).trans ((f50.1.2.1.1 30 13 (by decide +kernel)).trans ((f44.1.2.1.1 30 13 (by decide +kernel)).trans ((f40.1.2.1.1 30 13 (by decide +kernel)).trans ((f39.1.2.1.1 30 13 (by decide +kernel)).trans ((f25.1.2.1.1 30 13 (by decide +kernel)).trans (f20.1.2.1.1 30 13 (by decide +kernel))))))))
  have t48 : hV H9 48 = hV H1 48 := (fRow f68.1.2.1 48 (by decide +kernel)).trans ((fRow f52.1.2.1 48 (by decide +kernel)).trans ((fRow f50.1.2.1 48 (by decide +kernel)).trans ((fRow f44.1.2.1 48 (by decide +kernel)).trans ((fRow f40.1.2.1 48 (by decide +kernel)).trans ((fRow f39.1.2.1 48 (by decide +kernel)).trans ((fRow f25.1.2.1 48 (by decide +kernel)).trans (fRow f20.1.2.1 48 (by decide +kernel))))))))
  have hk : (vwC H0).1 (absC H1).1 = hV H1 30 2 := by
    have u := (kd_at kz).resolve_left (by have := absC_pos kz (by omega); omega)
    rw [vz] at u
    exact u
  have pr := f40.2
  unfold postb_24v at pr
  have ka0_0 : hK H6 (n10).toNat = 1 := kLe f44.1.1 ck_2 rfl
  have kq0 : n18 = hV H5 (n10).toNat 0 := f48.trans (f44.1.2.1.2.2 _ 1 ck_2 rfl 0 (by decide +kernel))
  have ka1_0 : hK H6 (n10).toNat = 1 := kLe f44.1.1 ck_2 rfl
  have ka1_1 : hK H7 (n10).toNat = 1 := kLe f50.1.1 ka1_0 rfl
  have ka1_2 : hK H8 (n10).toNat = 1 := kLe f52.1.1 ka1_1 rfl
  have kq1 : n21 = hV H5 (n10).toNat 0 := f57.trans ((f52.1.2.1.2.2 _ 1 ka1_1 rfl 0 (by decide +kernel)).trans ((f50.1.2.1.2.2 _ 1 ka1_0 rfl 0 (by decide +kernel)).trans (f44.1.2.1.2.2 _ 1 ck_2 rfl 0 (by decide +kernel))))
  have rz0 := f29
  rw [f6] at rz0
  rw [show ((30 : Int)).toNat = 30 from rfl] at rz0
  have tz0 : hV H3 30 2 = hV H1 30 2 := (f25.1.2.1.1 30 2 (by decide +kernel)).trans (f20.1.2.1.1 30 2 (by decide +kernel))
  have rz1 := f43
  rw [f6] at rz1
  rw [show ((30 : Int)).toNat = 30 from rfl] at rz1
  have tz1 : hV H5 30 2 = hV H1 30 2 := (f40.1.2.1.1 30 2 (by decide +kernel)).trans ((f39.1.2.1.1 30 2 (by decide +kernel)).trans ((f25.1.2.1.1 30 2 (by decide +kernel)).trans (f20.1.2.1.1 30 2 (by decide +kernel))))
  have pr1 := pr.1
  exfalso
  omega
theorem c_72v_6_23 {q0 : Nat} : vOkm T0 (eP e_72v L_72v A_72v mu_72v (some q0)) 1 ([(10, [27, 4], [], 1), (1, [26, 3, 25], [], 0), (1199, [25, 23, 24], [8, 9], 0), (90, [25], [], -2147483648), (91, [25], [], 2147483647), (20, [24, 10], [8], 2), (23, [10], [8], 1), (90, [24], [], -2147483648), (91, [24], [], 2147483647), (20, [23, 1], [8], 11), (0, [23], [], 47), (40, [21, 22], [], 0), (0, [22], [], 5), (20, [21, 10], [8], 0), (23, [10], [8], 1), (90, [21], [], -2147483648), (91, [21], [], 2147483647), (10, [20, 2], [], 1), (1066, [1, 19], [7, 8], 0), (0, [19], [], 4), (1076, [1, 10], [6, 7], 0), (0, [18], [], 1), (20, [18, 10], [6], 0), (23, [10], [6], 1), (90, [18], [], -2147483648), (91, [18], [], 2147483647), (1066, [1, 17], [5, 6], 0), (20, [17, 1], [5], 2), (90, [17], [], -2147483648), (91, [17], [], 2147483647), (1024, [10, 13, 16], [4, 5], 0), (1124, [16, 14, 15], [3, 4], 0), (90, [16], [], -2147483648), (91, [16], [], 2147483647), (20, [15, 1], [3], 1), (90, [15], [], -2147483648), (91, [15], [], 2147483647), (20, [14, 1], [3], 0), (0, [14], [], 31), (2, [13, 11, 12], [], 0), (0, [12], [], 20), (20, [11, 1], [3], 2), (90, [11], [], -2147483648), (91, [11], [], 2147483647), (51, [10], [], 0), (1074, [10, 1, 9, 2], [2, 3], 0), (20, [9, 1], [2], 13), (90, [9], [], -2147483648), (91, [9], [], 2147483647), (31, [8], [], 0), (1073, [8, 7], [1, 2], 0), (90, [8], [], 0), (91, [8], [], 1), (20, [7, 1], [1], 2), (90, [7], [], -2147483648), (91, [7], [], 2147483647), (30, [6], [], 0), (20, [6, 1], [1], 3), (90, [6], [], -2147483648), (91, [6], [], 2147483647), (45, [4, 5], [], 0), (0, [5], [], 16), (5000, [0, 1, 2, 3, 4], [0, 1], 6), (0, [0], [], 30), (0, [1], [], 30), (90, [2], [], -2147483648), (91, [2], [], 2147483647), (90, [3], [], -2147483648), (91, [3], [], 2147483647), (90, [4], [], -2147483648), (91, [4], [], 2147483647)], (4000, [1, 20, 26, 27], [9], 6)) := vOk_in fun ρ η h => by
  obtain ⟨f0, f1, f2, f3, f4, f5, f6, f7, f8, f9, f10, f11, f12, f13, f14, f15, f16, f17, f18, f19, f20, f21, f22, f23, f24, f25, f26, f27, f28, f29, f30, f31, f32, f33, f34, f35, f36, f37, f38, f39, f40, f41, f42, f43, f44, f45, f46, f47, f48, f49, f50, f51, f52, f53, f54, f55, f56, f57, f58, f59, f60, f61, f62, f63, f64, f65, f66, f67, f68, f69, f70, _⟩ := h
  exact q_72v_24 (q0 := q0) (n0 := ρ 4) (n1 := ρ 3) (n2 := ρ 2) (n3 := ρ 1) (n4 := ρ 0) (n5 := ρ 5) (n6 := ρ 6) (n7 := ρ 7) (n8 := ρ 8) (n9 := ρ 9) (n10 := ρ 10) (n11 := ρ 11) (n12 := ρ 12) (n13 := ρ 13) (n14 := ρ 14) (n15 := ρ 15) (n16 := ρ 16) (n17 := ρ 17) (n18 := ρ 18) (n19 := ρ 19) (n20 := ρ 20) (n21 := ρ 21) (n22 := ρ 22) (n23 := ρ 23) (n24 := ρ 24) (n25 := ρ 25) (n26 := ρ 26) (n27 := ρ 27) (H0 := η 0) (H1 := η 1) (H2 := η 2) (H3 := η 3) (H4 := η 4) (H5 := η 5) (H6 := η 6) (H7 := η 7) (H8 := η 8) (H9 := η 9) f70 f69 f68 f67 f66 f65 f64 f63 f62 f61 f60 f59 f58 f57 f56 f55 f54 f53 f52 f51 f50 f49 f48 f47 f46 f45 f44 f43 f42 f41 f40 f39 f38 f37 f36 f35 f34 f33 f32 f31 f30 f29 f28 f27 f26 f25 f24 f23 f22 f21 f20 f19 f18 f17 f16 f15 f14 f13 f12 f11 f10 f9 f8 f7 f6 f5 f4 f3 f2 f1 f0
theorem q_72v_25 {q0 : Nat} {n0 n1 n2 n3 n4 n5 n6 n7 n8 n9 n10 n11 n12 n13 n14 n15 n16 n17 n18 : Int} {H0 H1 H2 H3 H4 H5 H6 : gH} (f0 : n0 ≤ 2147483647) (f1 : (-2147483648) ≤ n0) (f2 : n1 ≤ 2147483647) (f3 : (-2147483648) ≤ n1) (f4 : n2 ≤ 2147483647) (f5 : (-2147483648) ≤ n2) (f6 : n3 = 30) (f7 : n4 = 30) (f8 : (hLe T0 H0 H1 ∧ hFr s_72v.2.2.2.2 H0 H1 ∧ hWt T0 H1) ∧ (Ab_72v_6 n4 n3 n2 n1 n0 H0 H1 ∧ preb_72v n4 H0) ∧ some q0 = some (mub_72v_6 n4 n3 n2 n1 n0 H0 H1)) (f9 : n5 = 16) (f10 : n0 ≤ n5) (f11 : n6 ≤ 2147483647) (f12 : (-2147483648) ≤ n6) (f13 : n6 = hV H1 (n3).toNat 3) (f14 : n6 = 0) (f15 : n7 ≤ 2147483647) (f16 : (-2147483648) ≤ n7) (f17 : n7 = hV H1 (n3).toNat 2) (f18 : n8 ≤ 1) (f19 : 0 ≤ n8) (f20 : (hLe T0 H1 H2 ∧ hFr s_73v.2.2.2.2 H1 H2 ∧ ((0 : Int) = 0 → H2.length = H1.length) ∧ hWt T0 H2) ∧ postb_73v n8 n7 H1 H2) (f21 : n8 ≠ 0) (f22 : n9 ≤ 2147483647) (f23 : (-2147483648) ≤ n9) (f24 : n9 = hV H2 (n3).toNat 13) (f25 : (hLe T0 H2 H3 ∧ hFr s_74v.2.2.2.2 H2 H3 ∧ ((0 : Int) = 0 → H3.length = H2.length) ∧ hWt T0 H3) ∧ postb_74v n10 n3 n9 n2 H2 H3) (f26 : 0 ≤ n10) (f27 : n11 ≤ 2147483647) (f28 : (-2147483648) ≤ n11) (f29 : n11 = hV H3 (n3).toNat 2) (f30 : n12 = 20) (f31 : n13 = w32 (n11 - n12)) (f32 : n14 = 31) (f33 : n14 = hV H3 (n3).toNat 0) (f34 : n15 ≤ 2147483647) (f35 : (-2147483648) ≤ n15) (f36 : n15 = hV H3 (n3).toNat 1) (f37 : n16 ≤ 2147483647) (f38 : (-2147483648) ≤ n16) (f39 : (hLe T0 H3 H4 ∧ hFr s_124.2.2.2.2 H3 H4 ∧ ((0 : Int) = 0 → H4.length = H3.length) ∧ hWt T0 H4) ∧ True) (f40 : (hLe T0 H4 H5 ∧ hFr s_24v.2.2.2.2 H4 H5 ∧ ((0 : Int) = 0 → H5.length = H4.length) ∧ hWt T0 H5) ∧ postb_24v n10 n13 n16 H4 H5) (f41 : n17 ≤ 2147483647) (f42 : (-2147483648) ≤ n17) (f43 : n17 = hV H5 (n3).toNat 2) (f44 : (hLe T0 H5 H6 ∧ hFr s_66v.2.2.2.2 H5 H6 ∧ ((0 : Int) = 0 → H6.length = H5.length) ∧ hWt T0 H6) ∧ postb_66v n3 n17 H5 H6) (f45 : n18 ≤ 2147483647) (f46 : (-2147483648) ≤ n18) (f47 : hK H6 (n10).toNat = 1) (f48 : n18 = hV H6 (n10).toNat 0) (f49 : n18 = 2) : preb_77v n3 n10 H6 := by
  have pz := f8.2.1.2
  unfold preb_72v at pz
  have ga := f8.2.1.1
  unfold Ab_72v_6 at ga
  have vz : vwC H1 = vwC H0 := vwC_fr f8.1.2.1 (by decide +kernel)
  obtain ⟨kz, bz, blz, b13, cz, b48, x10, x116, x30, x317, x13, ya, yt⟩ := ga
  have r3 := f13
  rw [f6] at r3
  rw [show ((30 : Int)).toNat = 30 from rfl] at r3
  have r2 := f17
  rw [f6] at r2
  rw [show ((30 : Int)).toNat = 30 from rfl] at r2
  have pc := f20.2
  unfold postb_73v at pc
  have cq := f25.2
  unfold postb_74v at cq
  have cq2 := cq.2
  have ck_0 := (cq.1 (by omega)).2
  have ck_1 : hK H4 (n10).toNat = 1 := kLe f39.1.1 ck_0 rfl
  have ck_2 : hK H5 (n10).toNat = 1 := kLe f40.1.1 ck_1 rfl
  have ck_3 : hK H6 (n10).toNat = 1 := kLe f44.1.1 ck_2 rfl
  have s0 := PF_fr f20.1.1 f20.1.2.1 (by decide +kernel) kz
  have a0 : absC H2 = (absC H1) := s0.1
  have v0 : vwC H2 = vwC H0 := (vwC_fr f20.1.2.1 (by decide +kernel)).trans vz
  have u0 := CU_fr f20.1.1 f20.1.2.1 (by decide +kernel) cz
  have d0 := BI_fr f20.1.1 f20.1.2.1 (by decide +kernel) bz
  have j0 : BLc H2 = BLc H0 := d0.2.trans blz
  have s1 := PF_fr f25.1.1 f25.1.2.1 (by decide +kernel) s0.2.2
  have a1 : absC H3 = (absC H1) := s1.1.trans a0
  have v1 : vwC H3 = vwC H0 := (vwC_fr f25.1.2.1 (by decide +kernel)).trans v0
  have u1 := CU_fr f25.1.1 f25.1.2.1 (by decide +kernel) u0
  have d1 := BI_fr f25.1.1 f25.1.2.1 (by decide +kernel) d0.1
  have j1 : BLc H3 = BLc H0 := d1.2.trans j0
  have s2 := PF_fr f39.1.1 f39.1.2.1 (by decide +kernel) s1.2.2
  have a2 : absC H4 = (absC H1) := s2.1.trans a1
  have v2 : vwC H4 = vwC H0 := (vwC_fr f39.1.2.1 (by decide +kernel)).trans v1
  have u2 := CU_fr f39.1.1 f39.1.2.1 (by decide +kernel) u1
  have d2 := BI_fr f39.1.1 f39.1.2.1 (by decide +kernel) d1.1
  have j2 : BLc H4 = BLc H0 := d2.2.trans j1
  have s3 := PF_fr f40.1.1 f40.1.2.1 (by decide +kernel) s2.2.2
  have a3 : absC H5 = (absC H1) := s3.1.trans a2
  have v3 : vwC H5 = vwC H0 := (vwC_fr f40.1.2.1 (by decide +kernel)).trans v2
  have u3 := CU_fr f40.1.1 f40.1.2.1 (by decide +kernel) u2
  have d3 := BI_fr f40.1.1 f40.1.2.1 (by decide +kernel) d2.1
  have j3 : BLc H5 = BLc H0 := d3.2.trans j2
  have c4 := f44.2
  unfold postb_66v at c4
  rw [v3] at c4
  rw [a3] at c4
  have a4 : absC H6 = (ptk (vwC H0) n17 (absC H1)) := c4.2
  have v4 : vwC H6 = vwC H0 := (vwC_fr f44.1.2.1 (by decide +kernel)).trans v3
  have u4 := CU_fr f44.1.1 f44.1.2.1 (by decide +kernel) u3
  have d4 := BI_fr f44.1.1 f44.1.2.1 (by decide +kernel) d3.1
  have j4 : BLc H6 = BLc H0 := d4.2.trans j3
  have pr := f40.2
  unfold postb_24v at pr
  unfold preb_77v
  exact c4.1
theorem c_72v_6_24 {q0 : Nat} : vOkm T0 (eP e_72v L_72v A_72v mu_72v (some q0)) 1 ([(0, [18], [], 2), (20, [18, 10], [6], 0), (23, [10], [6], 1), (90, [18], [], -2147483648), (91, [18], [], 2147483647), (1066, [1, 17], [5, 6], 0), (20, [17, 1], [5], 2), (90, [17], [], -2147483648), (91, [17], [], 2147483647), (1024, [10, 13, 16], [4, 5], 0), (1124, [16, 14, 15], [3, 4], 0), (90, [16], [], -2147483648), (91, [16], [], 2147483647), (20, [15, 1], [3], 1), (90, [15], [], -2147483648), (91, [15], [], 2147483647), (20, [14, 1], [3], 0), (0, [14], [], 31), (2, [13, 11, 12], [], 0), (0, [12], [], 20), (20, [11, 1], [3], 2), (90, [11], [], -2147483648), (91, [11], [], 2147483647), (51, [10], [], 0), (1074, [10, 1, 9, 2], [2, 3], 0), (20, [9, 1], [2], 13), (90, [9], [], -2147483648), (91, [9], [], 2147483647), (31, [8], [], 0), (1073, [8, 7], [1, 2], 0), (90, [8], [], 0), (91, [8], [], 1), (20, [7, 1], [1], 2), (90, [7], [], -2147483648), (91, [7], [], 2147483647), (30, [6], [], 0), (20, [6, 1], [1], 3), (90, [6], [], -2147483648), (91, [6], [], 2147483647), (45, [4, 5], [], 0), (0, [5], [], 16), (5000, [0, 1, 2, 3, 4], [0, 1], 6), (0, [0], [], 30), (0, [1], [], 30), (90, [2], [], -2147483648), (91, [2], [], 2147483647), (90, [3], [], -2147483648), (91, [3], [], 2147483647), (90, [4], [], -2147483648), (91, [4], [], 2147483647)], (2077, [1, 10], [6], 0)) := vOk_in fun ρ η h => by
  obtain ⟨f0, f1, f2, f3, f4, f5, f6, f7, f8, f9, f10, f11, f12, f13, f14, f15, f16, f17, f18, f19, f20, f21, f22, f23, f24, f25, f26, f27, f28, f29, f30, f31, f32, f33, f34, f35, f36, f37, f38, f39, f40, f41, f42, f43, f44, f45, f46, f47, f48, f49, _⟩ := h
  exact q_72v_25 (q0 := q0) (n0 := ρ 4) (n1 := ρ 3) (n2 := ρ 2) (n3 := ρ 1) (n4 := ρ 0) (n5 := ρ 5) (n6 := ρ 6) (n7 := ρ 7) (n8 := ρ 8) (n9 := ρ 9) (n10 := ρ 10) (n11 := ρ 11) (n12 := ρ 12) (n13 := ρ 13) (n14 := ρ 14) (n15 := ρ 15) (n16 := ρ 16) (n17 := ρ 17) (n18 := ρ 18) (H0 := η 0) (H1 := η 1) (H2 := η 2) (H3 := η 3) (H4 := η 4) (H5 := η 5) (H6 := η 6) f49 f48 f47 f46 f45 f44 f43 f42 f41 f40 f39 f38 f37 f36 f35 f34 f33 f32 f31 f30 f29 f28 f27 f26 f25 f24 f23 f22 f21 f20 f19 f18 f17 f16 f15 f14 f13 f12 f11 f10 f9 f8 f7 f6 f5 f4 f3 f2 f1 f0
theorem q_72v_26 {q0 : Nat} {n0 n1 n2 n3 n4 n5 n6 n7 n8 n9 n10 n11 n12 n13 n14 n15 n16 n17 n18 n19 : Int} {H0 H1 H2 H3 H4 H5 H6 H7 : gH} (f0 : n0 ≤ 2147483647) (f1 : (-2147483648) ≤ n0) (f2 : n1 ≤ 2147483647) (f3 : (-2147483648) ≤ n1) (f4 : n2 ≤ 2147483647) (f5 : (-2147483648) ≤ n2) (f6 : n3 = 30) (f7 : n4 = 30) (f8 : (hLe T0 H0 H1 ∧ hFr s_72v.2.2.2.2 H0 H1 ∧ hWt T0 H1) ∧ (Ab_72v_6 n4 n3 n2 n1 n0 H0 H1 ∧ preb_72v n4 H0) ∧ some q0 = some (mub_72v_6 n4 n3 n2 n1 n0 H0 H1)) (f9 : n5 = 16) (f10 : n0 ≤ n5) (f11 : n6 ≤ 2147483647) (f12 : (-2147483648) ≤ n6) (f13 : n6 = hV H1 (n3).toNat 3) (f14 : n6 = 0) (f15 : n7 ≤ 2147483647) (f16 : (-2147483648) ≤ n7) (f17 : n7 = hV H1 (n3).toNat 2) (f18 : n8 ≤ 1) (f19 : 0 ≤ n8) (f20 : (hLe T0 H1 H2 ∧ hFr s_73v.2.2.2.2 H1 H2 ∧ ((0 : Int) = 0 → H2.length = H1.length) ∧ hWt T0 H2) ∧ postb_73v n8 n7 H1 H2) (f21 : n8 ≠ 0) (f22 : n9 ≤ 2147483647) (f23 : (-2147483648) ≤ n9) (f24 : n9 = hV H2 (n3).toNat 13) (f25 : (hLe T0 H2 H3 ∧ hFr s_74v.2.2.2.2 H2 H3 ∧ ((0 : Int) = 0 → H3.length = H2.length) ∧ hWt T0 H3) ∧ postb_74v n10 n3 n9 n2 H2 H3) (f26 : 0 ≤ n10) (f27 : n11 ≤ 2147483647) (f28 : (-2147483648) ≤ n11) (f29 : n11 = hV H3 (n3).toNat 2) (f30 : n12 = 20) (f31 : n13 = w32 (n11 - n12)) (f32 : n14 = 31) (f33 : n14 = hV H3 (n3).toNat 0) (f34 : n15 ≤ 2147483647) (f35 : (-2147483648) ≤ n15) (f36 : n15 = hV H3 (n3).toNat 1) (f37 : n16 ≤ 2147483647) (f38 : (-2147483648) ≤ n16) (f39 : (hLe T0 H3 H4 ∧ hFr s_124.2.2.2.2 H3 H4 ∧ ((0 : Int) = 0 → H4.length = H3.length) ∧ hWt T0 H4) ∧ True) (f40 : (hLe T0 H4 H5 ∧ hFr s_24v.2.2.2.2 H4 H5 ∧ ((0 : Int) = 0 → H5.length = H4.length) ∧ hWt T0 H5) ∧ postb_24v n10 n13 n16 H4 H5) (f41 : n17 ≤ 2147483647) (f42 : (-2147483648) ≤ n17) (f43 : n17 = hV H5 (n3).toNat 2) (f44 : (hLe T0 H5 H6 ∧ hFr s_66v.2.2.2.2 H5 H6 ∧ ((0 : Int) = 0 → H6.length = H5.length) ∧ hWt T0 H6) ∧ postb_66v n3 n17 H5 H6) (f45 : n18 ≤ 2147483647) (f46 : (-2147483648) ≤ n18) (f47 : hK H6 (n10).toNat = 1) (f48 : n18 = hV H6 (n10).toNat 0) (f49 : n18 = 2) (f50 : (hLe T0 H6 H7 ∧ hFr s_77v.2.2.2.2 H6 H7 ∧ ((0 : Int) = 0 → H7.length = H6.length) ∧ hWt T0 H7) ∧ postb_77v n3 n10 H6 H7) (f51 : n19 = 4) : preb_66v n3 n19 H7 := by
  have pz := f8.2.1.2
  unfold preb_72v at pz
  have ga := f8.2.1.1
  unfold Ab_72v_6 at ga
  have vz : vwC H1 = vwC H0 := vwC_fr f8.1.2.1 (by decide +kernel)
  obtain ⟨kz, bz, blz, b13, cz, b48, x10, x116, x30, x317, x13, ya, yt⟩ := ga
  have r3 := f13
  rw [f6] at r3
  rw [show ((30 : Int)).toNat = 30 from rfl] at r3
  have r2 := f17
  rw [f6] at r2
  rw [show ((30 : Int)).toNat = 30 from rfl] at r2
  have pc := f20.2
  unfold postb_73v at pc
  have cq := f25.2
  unfold postb_74v at cq
  have cq2 := cq.2
  have ck_0 := (cq.1 (by omega)).2
  have ck_1 : hK H4 (n10).toNat = 1 := kLe f39.1.1 ck_0 rfl
  have ck_2 : hK H5 (n10).toNat = 1 := kLe f40.1.1 ck_1 rfl
  have ck_3 : hK H6 (n10).toNat = 1 := kLe f44.1.1 ck_2 rfl
  have ck_4 : hK H7 (n10).toNat = 1 := kLe f50.1.1 ck_3 rfl
  have s0 := PF_fr f20.1.1 f20.1.2.1 (by decide +kernel) kz
  have a0 : absC H2 = (absC H1) := s0.1
  have v0 : vwC H2 = vwC H0 := (vwC_fr f20.1.2.1 (by decide +kernel)).trans vz
  have u0 := CU_fr f20.1.1 f20.1.2.1 (by decide +kernel) cz
  have d0 := BI_fr f20.1.1 f20.1.2.1 (by decide +kernel) bz
  have j0 : BLc H2 = BLc H0 := d0.2.trans blz
  have s1 := PF_fr f25.1.1 f25.1.2.1 (by decide +kernel) s0.2.2
  have a1 : absC H3 = (absC H1) := s1.1.trans a0
  have v1 : vwC H3 = vwC H0 := (vwC_fr f25.1.2.1 (by decide +kernel)).trans v0
  have u1 := CU_fr f25.1.1 f25.1.2.1 (by decide +kernel) u0
  have d1 := BI_fr f25.1.1 f25.1.2.1 (by decide +kernel) d0.1
  have j1 : BLc H3 = BLc H0 := d1.2.trans j0
  have s2 := PF_fr f39.1.1 f39.1.2.1 (by decide +kernel) s1.2.2
  have a2 : absC H4 = (absC H1) := s2.1.trans a1
  have v2 : vwC H4 = vwC H0 := (vwC_fr f39.1.2.1 (by decide +kernel)).trans v1
  have u2 := CU_fr f39.1.1 f39.1.2.1 (by decide +kernel) u1
  have d2 := BI_fr f39.1.1 f39.1.2.1 (by decide +kernel) d1.1
  have j2 : BLc H4 = BLc H0 := d2.2.trans j1
  have s3 := PF_fr f40.1.1 f40.1.2.1 (by decide +kernel) s2.2.2
  have a3 : absC H5 = (absC H1) := s3.1.trans a2
  have v3 : vwC H5 = vwC H0 := (vwC_fr f40.1.2.1 (by decide +kernel)).trans v2
  have u3 := CU_fr f40.1.1 f40.1.2.1 (by decide +kernel) u2
  have d3 := BI_fr f40.1.1 f40.1.2.1 (by decide +kernel) d2.1
  have j3 : BLc H5 = BLc H0 := d3.2.trans j2
  have c4 := f44.2
  unfold postb_66v at c4
  rw [v3] at c4
  rw [a3] at c4
  have a4 : absC H6 = (ptk (vwC H0) n17 (absC H1)) := c4.2
  have v4 : vwC H6 = vwC H0 := (vwC_fr f44.1.2.1 (by decide +kernel)).trans v3
  have u4 := CU_fr f44.1.1 f44.1.2.1 (by decide +kernel) u3
  have d4 := BI_fr f44.1.1 f44.1.2.1 (by decide +kernel) d3.1
  have j4 : BLc H6 = BLc H0 := d4.2.trans j3
  have c5 := f50.2
  unfold postb_77v at c5
  rw [v4] at c5
  rw [a4] at c5
  have a5 : absC H7 = (pDip (vwC H0) (ptk (vwC H0) n17 (absC H1))) := c5.2
  have v5 : vwC H7 = vwC H0 := (vwC_fr f50.1.2.1 (by decide +kernel)).trans v4
  have u5 := CU_fr f50.1.1 f50.1.2.1 (by decide +kernel) u4
  have d5 := BI_fr f50.1.1 f50.1.2.1 (by decide +kernel) d4.1
  have j5 : BLc H7 = BLc H0 := d5.2.trans j4
  unfold preb_66v
  exact ⟨c5.1, .inl (by omega)⟩
theorem c_72v_6_25 {q0 : Nat} : vOkm T0 (eP e_72v L_72v A_72v mu_72v (some q0)) 1 ([(0, [19], [], 4), (1077, [1, 10], [6, 7], 0), (0, [18], [], 2), (20, [18, 10], [6], 0), (23, [10], [6], 1), (90, [18], [], -2147483648), (91, [18], [], 2147483647), (1066, [1, 17], [5, 6], 0), (20, [17, 1], [5], 2), (90, [17], [], -2147483648), (91, [17], [], 2147483647), (1024, [10, 13, 16], [4, 5], 0), (1124, [16, 14, 15], [3, 4], 0), (90, [16], [], -2147483648), (91, [16], [], 2147483647), (20, [15, 1], [3], 1), (90, [15], [], -2147483648), (91, [15], [], 2147483647), (20, [14, 1], [3], 0), (0, [14], [], 31), (2, [13, 11, 12], [], 0), (0, [12], [], 20), (20, [11, 1], [3], 2), (90, [11], [], -2147483648), (91, [11], [], 2147483647), (51, [10], [], 0), (1074, [10, 1, 9, 2], [2, 3], 0), (20, [9, 1], [2], 13), (90, [9], [], -2147483648), (91, [9], [], 2147483647), (31, [8], [], 0), (1073, [8, 7], [1, 2], 0), (90, [8], [], 0), (91, [8], [], 1), (20, [7, 1], [1], 2), (90, [7], [], -2147483648), (91, [7], [], 2147483647), (30, [6], [], 0), (20, [6, 1], [1], 3), (90, [6], [], -2147483648), (91, [6], [], 2147483647), (45, [4, 5], [], 0), (0, [5], [], 16), (5000, [0, 1, 2, 3, 4], [0, 1], 6), (0, [0], [], 30), (0, [1], [], 30), (90, [2], [], -2147483648), (91, [2], [], 2147483647), (90, [3], [], -2147483648), (91, [3], [], 2147483647), (90, [4], [], -2147483648), (91, [4], [], 2147483647)], (2066, [1, 19], [7], 0)) := vOk_in fun ρ η h => by
  obtain ⟨f0, f1, f2, f3, f4, f5, f6, f7, f8, f9, f10, f11, f12, f13, f14, f15, f16, f17, f18, f19, f20, f21, f22, f23, f24, f25, f26, f27, f28, f29, f30, f31, f32, f33, f34, f35, f36, f37, f38, f39, f40, f41, f42, f43, f44, f45, f46, f47, f48, f49, f50, f51, _⟩ := h
  exact q_72v_26 (q0 := q0) (n0 := ρ 4) (n1 := ρ 3) (n2 := ρ 2) (n3 := ρ 1) (n4 := ρ 0) (n5 := ρ 5) (n6 := ρ 6) (n7 := ρ 7) (n8 := ρ 8) (n9 := ρ 9) (n10 := ρ 10) (n11 := ρ 11) (n12 := ρ 12) (n13 := ρ 13) (n14 := ρ 14) (n15 := ρ 15) (n16 := ρ 16) (n17 := ρ 17) (n18 := ρ 18) (n19 := ρ 19) (H0 := η 0) (H1 := η 1) (H2 := η 2) (H3 := η 3) (H4 := η 4) (H5 := η 5) (H6 := η 6) (H7 := η 7) f51 f50 f49 f48 f47 f46 f45 f44 f43 f42 f41 f40 f39 f38 f37 f36 f35 f34 f33 f32 f31 f30 f29 f28 f27 f26 f25 f24 f23 f22 f21 f20 f19 f18 f17 f16 f15 f14 f13 f12 f11 f10 f9 f8 f7 f6 f5 f4 f3 f2 f1 f0
theorem q_72v_27 {q0 : Nat} {n0 n1 n2 n3 n4 n5 n6 n7 n8 n9 n10 n11 n12 n13 n14 n15 n16 n17 n18 n19 n20 n21 n22 n23 n24 n25 : Int} {H0 H1 H2 H3 H4 H5 H6 H7 H8 : gH} (f0 : n0 ≤ 2147483647) (f1 : (-2147483648) ≤ n0) (f2 : n1 ≤ 2147483647) (f3 : (-2147483648) ≤ n1) (f4 : n2 ≤ 2147483647) (f5 : (-2147483648) ≤ n2) (f6 : n3 = 30) (f7 : n4 = 30) (f8 : (hLe T0 H0 H1 ∧ hFr s_72v.2.2.2.2 H0 H1 ∧ hWt T0 H1) ∧ (Ab_72v_6 n4 n3 n2 n1 n0 H0 H1 ∧ preb_72v n4 H0) ∧ some q0 = some (mub_72v_6 n4 n3 n2 n1 n0 H0 H1)) (f9 : n5 = 16) (f10 : n0 ≤ n5) (f11 : n6 ≤ 2147483647) (f12 : (-2147483648) ≤ n6) (f13 : n6 = hV H1 (n3).toNat 3) (f14 : n6 = 0) (f15 : n7 ≤ 2147483647) (f16 : (-2147483648) ≤ n7) (f17 : n7 = hV H1 (n3).toNat 2) (f18 : n8 ≤ 1) (f19 : 0 ≤ n8) (f20 : (hLe T0 H1 H2 ∧ hFr s_73v.2.2.2.2 H1 H2 ∧ ((0 : Int) = 0 → H2.length = H1.length) ∧ hWt T0 H2) ∧ postb_73v n8 n7 H1 H2) (f21 : n8 ≠ 0) (f22 : n9 ≤ 2147483647) (f23 : (-2147483648) ≤ n9) (f24 : n9 = hV H2 (n3).toNat 13) (f25 : (hLe T0 H2 H3 ∧ hFr s_74v.2.2.2.2 H2 H3 ∧ ((0 : Int) = 0 → H3.length = H2.length) ∧ hWt T0 H3) ∧ postb_74v n10 n3 n9 n2 H2 H3) (f26 : 0 ≤ n10) (f27 : n11 ≤ 2147483647) (f28 : (-2147483648) ≤ n11) (f29 : n11 = hV H3 (n3).toNat 2) (f30 : n12 = 20) (f31 : n13 = w32 (n11 - n12)) (f32 : n14 = 31) (f33 : n14 = hV H3 (n3).toNat 0) (f34 : n15 ≤ 2147483647) (f35 : (-2147483648) ≤ n15) (f36 : n15 = hV H3 (n3).toNat 1) (f37 : n16 ≤ 2147483647) (f38 : (-2147483648) ≤ n16) (f39 : (hLe T0 H3 H4 ∧ hFr s_124.2.2.2.2 H3 H4 ∧ ((0 : Int) = 0 → H4.length = H3.length) ∧ hWt T0 H4) ∧ True) (f40 : (hLe T0 H4 H5 ∧ hFr s_24v.2.2.2.2 H4 H5 ∧ ((0 : Int) = 0 → H5.length = H4.length) ∧ hWt T0 H5) ∧ postb_24v n10 n13 n16 H4 H5) (f41 : n17 ≤ 2147483647) (f42 : (-2147483648) ≤ n17) (f43 : n17 = hV H5 (n3).toNat 2) (f44 : (hLe T0 H5 H6 ∧ hFr s_66v.2.2.2.2 H5 H6 ∧ ((0 : Int) = 0 → H6.length = H5.length) ∧ hWt T0 H6) ∧ postb_66v n3 n17 H5 H6) (f45 : n18 ≤ 2147483647) (f46 : (-2147483648) ≤ n18) (f47 : hK H6 (n10).toNat = 1) (f48 : n18 = hV H6 (n10).toNat 0) (f49 : n18 = 2) (f50 : (hLe T0 H6 H7 ∧ hFr s_77v.2.2.2.2 H6 H7 ∧ ((0 : Int) = 0 → H7.length = H6.length) ∧ hWt T0 H7) ∧ postb_77v n3 n10 H6 H7) (f51 : n19 = 4) (f52 : (hLe T0 H7 H8 ∧ hFr s_66v.2.2.2.2 H7 H8 ∧ ((0 : Int) = 0 → H8.length = H7.length) ∧ hWt T0 H8) ∧ postb_66v n3 n19 H7 H8) (f53 : n20 = w32 (n2 + 1)) (f54 : n21 ≤ 2147483647) (f55 : (-2147483648) ≤ n21) (f56 : hK H8 (n10).toNat = 1) (f57 : n21 = hV H8 (n10).toNat 0) (f58 : n22 = 5) (f59 : n21 ≠ n22) (f60 : n23 = 1) (f61 : n24 = w32 (n1 + n23)) (f62 : n25 = w32 (n0 + 1)) : Ab_72v_6 n4 n3 n20 n24 n25 H0 H8 ∧ ∀ q, some q0 = some q → mub_72v_6 n4 n3 n20 n24 n25 H0 H8 < q := by
  have pz := f8.2.1.2
  unfold preb_72v at pz
  have ga := f8.2.1.1
  unfold Ab_72v_6 at ga
  have vz : vwC H1 = vwC H0 := vwC_fr f8.1.2.1 (by decide +kernel)
  obtain ⟨kz, bz, blz, b13, cz, b48, x10, x116, x30, x317, x13, ya, yt⟩ := ga
  have r3 := f13
  rw [f6] at r3
  rw [show ((30 : Int)).toNat = 30 from rfl] at r3
  have r2 := f17
  rw [f6] at r2
  rw [show ((30 : Int)).toNat = 30 from rfl] at r2
  have pc := f20.2
  unfold postb_73v at pc
  have cq := f25.2
  unfold postb_74v at cq
  have cq2 := cq.2
  have ck_0 := (cq.1 (by omega)).2
  have ck_1 : hK H4 (n10).toNat = 1 := kLe f39.1.1 ck_0 rfl
  have ck_2 : hK H5 (n10).toNat = 1 := kLe f40.1.1 ck_1 rfl
  have ck_3 : hK H6 (n10).toNat = 1 := kLe f44.1.1 ck_2 rfl
  have ck_4 : hK H7 (n10).toNat = 1 := kLe f50.1.1 ck_3 rfl
  have ck_5 : hK H8 (n10).toNat = 1 := kLe f52.1.1 ck_4 rfl
  have s0 := PF_fr f20.1.1 f20.1.2.1 (by decide +kernel) kz
  have a0 : absC H2 = (absC H1) := s0.1
  have v0 : vwC H2 = vwC H0 := (vwC_fr f20.1.2.1 (by decide +kernel)).trans vz
  have u0 := CU_fr f20.1.1 f20.1.2.1 (by decide +kernel) cz
  have d0 := BI_fr f20.1.1 f20.1.2.1 (by decide +kernel) bz
  have j0 : BLc H2 = BLc H0 := d0.2.trans blz
  have s1 := PF_fr f25.1.1 f25.1.2.1 (by decide +kernel) s0.2.2
  have a1 : absC H3 = (absC H1) := s1.1.trans a0
  have v1 : vwC H3 = vwC H0 := (vwC_fr f25.1.2.1 (by decide +kernel)).trans v0
  have u1 := CU_fr f25.1.1 f25.1.2.1 (by decide +kernel) u0
  have d1 := BI_fr f25.1.1 f25.1.2.1 (by decide +kernel) d0.1
  have j1 : BLc H3 = BLc H0 := d1.2.trans j0
  have s2 := PF_fr f39.1.1 f39.1.2.1 (by decide +kernel) s1.2.2
  have a2 : absC H4 = (absC H1) := s2.1.trans a1
  have v2 : vwC H4 = vwC H0 := (vwC_fr f39.1.2.1 (by decide +kernel)).trans v1
  have u2 := CU_fr f39.1.1 f39.1.2.1 (by decide +kernel) u1
  have d2 := BI_fr f39.1.1 f39.1.2.1 (by decide +kernel) d1.1
  have j2 : BLc H4 = BLc H0 := d2.2.trans j1
  have s3 := PF_fr f40.1.1 f40.1.2.1 (by decide +kernel) s2.2.2
  have a3 : absC H5 = (absC H1) := s3.1.trans a2
  have v3 : vwC H5 = vwC H0 := (vwC_fr f40.1.2.1 (by decide +kernel)).trans v2
  have u3 := CU_fr f40.1.1 f40.1.2.1 (by decide +kernel) u2
  have d3 := BI_fr f40.1.1 f40.1.2.1 (by decide +kernel) d2.1
  have j3 : BLc H5 = BLc H0 := d3.2.trans j2
  have c4 := f44.2
  unfold postb_66v at c4
  rw [v3] at c4
  rw [a3] at c4
  have a4 : absC H6 = (ptk (vwC H0) n17 (absC H1)) := c4.2
  have v4 : vwC H6 = vwC H0 := (vwC_fr f44.1.2.1 (by decide +kernel)).trans v3
  have u4 := CU_fr f44.1.1 f44.1.2.1 (by decide +kernel) u3
  have d4 := BI_fr f44.1.1 f44.1.2.1 (by decide +kernel) d3.1
  have j4 : BLc H6 = BLc H0 := d4.2.trans j3
  have c5 := f50.2
  unfold postb_77v at c5
  rw [v4] at c5
  rw [a4] at c5
  have a5 : absC H7 = (pDip (vwC H0) (ptk (vwC H0) n17 (absC H1))) := c5.2
  have v5 : vwC H7 = vwC H0 := (vwC_fr f50.1.2.1 (by decide +kernel)).trans v4
  have u5 := CU_fr f50.1.1 f50.1.2.1 (by decide +kernel) u4
  have d5 := BI_fr f50.1.1 f50.1.2.1 (by decide +kernel) d4.1
  have j5 : BLc H7 = BLc H0 := d5.2.trans j4
  have c6 := f52.2
  unfold postb_66v at c6
  try rw [f51] at c6
  rw [v5] at c6
  rw [a5] at c6
  have a6 : absC H8 = (ptk (vwC H0) 4 (pDip (vwC H0) (ptk (vwC H0) n17 (absC H1)))) := c6.2
  have v6 : vwC H8 = vwC H0 := (vwC_fr f52.1.2.1 (by decide +kernel)).trans v5
  have u6 := CU_fr f52.1.1 f52.1.2.1 (by decide +kernel) u5
  have d6 := BI_fr f52.1.1 f52.1.2.1 (by decide +kernel) d5.1
  have j6 : BLc H8 = BLc H0 := d6.2.trans j5
  have y2 := pz.2.1.2.1
  have y3 := pz.2.1.2.2.1
  have wq31 := f31
  unfold w32 at wq31
  have wq53 := f53
  unfold w32 at wq53
  have wq61 := f61
  unfold w32 at wq61
  have wq62 := f62
  unfold w32 at wq62
  have g5 := Option.some.inj f8.2.2
  unfold mub_72v_6 at g5
  unfold Ab_72v_6 mub_72v_6
  have t13 : hV H8 30 13 = hV H1 30 13 := (f52.1.2.1.1 30 13 (by decide +kernel)).trans ((f50.1.2.1.1 30 13 (by decide +kernel)).trans ((f44.1.2.1.1 30 13 (by decide +kernel)).trans ((f40.1.2.1.1 30 13 (by decide +kernel)).trans ((f39.1.2.1.1 30 13 (by decide +kernel)).trans ((f25.1.2.1.1 30 13 (by decide +kernel)).trans (f20.1.2.1.1 30 13 (by decide +kernel)))))))
  have t48 : hV H8 48 = hV H1 48 := (fRow f52.1.2.1 48 (by decide +kernel)).trans ((fRow f50.1.2.1 48 (by decide +kernel)).trans ((fRow f44.1.2.1 48 (by decide +kernel)).trans ((fRow f40.1.2.1 48 (by decide +kernel)).trans ((fRow f39.1.2.1 48 (by decide +kernel)).trans ((fRow f25.1.2.1 48 (by decide +kernel)).trans (fRow f20.1.2.1 48 (by decide +kernel)))))))
  have hk : (vwC H0).1 (absC H1).1 = hV H1 30 2 := by
    have u := (kd_at kz).resolve_left (by have := absC_pos kz (by omega); omega)
    rw [vz] at u
    exact u
  have pr := f40.2
  unfold postb_24v at pr
  have ka0_0 : hK H6 (n10).toNat = 1 := kLe f44.1.1 ck_2 rfl
  have kq0 : n18 = hV H5 (n10).toNat 0 := f48.trans (f44.1.2.1.2.2 _ 1 ck_2 rfl 0 (by decide +kernel))
  have ka1_0 : hK H6 (n10).toNat = 1 := kLe f44.1.1 ck_2 rfl
  have ka1_1 : hK H7 (n10).toNat = 1 := kLe f50.1.1 ka1_0 rfl
  have ka1_2 : hK H8 (n10).toNat = 1 := kLe f52.1.1 ka1_1 rfl
  have kq1 : n21 = hV H5 (n10).toNat 0 := f57.trans ((f52.1.2.1.2.2 _ 1 ka1_1 rfl 0 (by decide +kernel)).trans ((f50.1.2.1.2.2 _ 1 ka1_0 rfl 0 (by decide +kernel)).trans (f44.1.2.1.2.2 _ 1 ck_2 rfl 0 (by decide +kernel))))
  have rz0 := f29
  rw [f6] at rz0
  rw [show ((30 : Int)).toNat = 30 from rfl] at rz0
  have tz0 : hV H3 30 2 = hV H1 30 2 := (f25.1.2.1.1 30 2 (by decide +kernel)).trans (f20.1.2.1.1 30 2 (by decide +kernel))
  have rz1 := f43
  rw [f6] at rz1
  rw [show ((30 : Int)).toNat = 30 from rfl] at rz1
  have tz1 : hV H5 30 2 = hV H1 30 2 := (f40.1.2.1.1 30 2 (by decide +kernel)).trans ((f39.1.2.1.1 30 2 (by decide +kernel)).trans ((f25.1.2.1.1 30 2 (by decide +kernel)).trans (f20.1.2.1.1 30 2 (by decide +kernel))))
  have pr1 := pr.1
  have k2 : hV H1 30 2 = 22 := by omega
  have kt : n17 = 22 := by omega
  have hb : absC H8 = ptk (vwC H0) 4 (pBody (vwC H0) (BLc H0) 22 (ptk (vwC H0) 22 (absC H1))) := by
    rw [pBody_22, ← kt]
    exact a6
  have st := cues_st (bl := BLc H0) pz.1.2.1 (hk.trans k2) (by decide) (by decide) (c := (n2).toNat) (by omega) hb
  have tot : hV H8 30 3 = 0 → ∃ d : Int, n24 = n1 + d ∧ 0 ≤ d ∧ d ≤ gB (hV H0 30 13).toNat ∧ pcap (pcap n1 + pcz (vwC H0) (BLc H0) (absC H1)) = pcap (n1 + d) := fun hf => by
    obtain ⟨w1, w2, w3⟩ := yt (by omega)
    have bb := gB_pos (hV H0 30 13).toNat
    have b16 : n2 * gB (hV H0 30 13).toNat ≤ 16 * gB (hV H0 30 13).toNat := Int.mul_le_mul_of_nonneg_right x116 (by omega)
    have b7 : gB (hV H0 30 13).toNat ≤ gB 6 := gB_mono (by omega)
    have b8 : gB 6 = 16777216 := by decide
    refine ⟨1, by omega, by omega, by omega, ?_⟩
    rw [pcz_1 (by rw [hk]; omega)]
    exact pcap_one w1
  refine ⟨⟨c6.1, d6.1, j6, t13.trans b13, u6, t48.trans b48, by omega, by omega, by omega, by omega, fun w => by have := x13 (by omega); omega, ?_, fun w => ?_⟩, fun q hq => ?_⟩
  · rw [← ya, st, show (n2).toNat + 1 = (n20).toNat by omega]
  · obtain ⟨d, d1, d2, d3, d4⟩ := tot w
    obtain ⟨w1, w2, w3⟩ := yt (by omega)
    have ts := tot_st pz.1.2.1 (hk.trans k2) (by decide) (by decide) (c := (n2).toNat) (by omega) hb d4
    rw [show (n2).toNat + 1 = (n20).toNat by omega, w3] at ts
    refine ⟨by omega, ?_, ?_⟩
    · rw [d1, show n20 = n2 + 1 by omega, Int.add_mul, Int.one_mul]
      omega
    · rw [d1]
      exact ts.symm
  · have g6 := Option.some.inj hq
    subst g6
    first
    | omega
    | lia
theorem c_72v_6_26 {q0 : Nat} : vOkm T0 (eP e_72v L_72v A_72v mu_72v (some q0)) 1 ([(10, [25, 4], [], 1), (1, [24, 3, 23], [], 0), (0, [23], [], 1), (41, [21, 22], [], 0), (0, [22], [], 5), (20, [21, 10], [8], 0), (23, [10], [8], 1), (90, [21], [], -2147483648), (91, [21], [], 2147483647), (10, [20, 2], [], 1), (1066, [1, 19], [7, 8], 0), (0, [19], [], 4), (1077, [1, 10], [6, 7], 0), (0, [18], [], 2), (20, [18, 10], [6], 0), (23, [10], [6], 1), (90, [18], [], -2147483648), (91, [18], [], 2147483647), (1066, [1, 17], [5, 6], 0), (20, [17, 1], [5], 2), (90, [17], [], -2147483648), (91, [17], [], 2147483647), (1024, [10, 13, 16], [4, 5], 0), (1124, [16, 14, 15], [3, 4], 0), (90, [16], [], -2147483648), (91, [16], [], 2147483647), (20, [15, 1], [3], 1), (90, [15], [], -2147483648), (91, [15], [], 2147483647), (20, [14, 1], [3], 0), (0, [14], [], 31), (2, [13, 11, 12], [], 0), (0, [12], [], 20), (20, [11, 1], [3], 2), (90, [11], [], -2147483648), (91, [11], [], 2147483647), (51, [10], [], 0), (1074, [10, 1, 9, 2], [2, 3], 0), (20, [9, 1], [2], 13), (90, [9], [], -2147483648), (91, [9], [], 2147483647), (31, [8], [], 0), (1073, [8, 7], [1, 2], 0), (90, [8], [], 0), (91, [8], [], 1), (20, [7, 1], [1], 2), (90, [7], [], -2147483648), (91, [7], [], 2147483647), (30, [6], [], 0), (20, [6, 1], [1], 3), (90, [6], [], -2147483648), (91, [6], [], 2147483647), (45, [4, 5], [], 0), (0, [5], [], 16), (5000, [0, 1, 2, 3, 4], [0, 1], 6), (0, [0], [], 30), (0, [1], [], 30), (90, [2], [], -2147483648), (91, [2], [], 2147483647), (90, [3], [], -2147483648), (91, [3], [], 2147483647), (90, [4], [], -2147483648), (91, [4], [], 2147483647)], (4000, [1, 20, 24, 25], [8], 6)) := vOk_in fun ρ η h => by
  obtain ⟨f0, f1, f2, f3, f4, f5, f6, f7, f8, f9, f10, f11, f12, f13, f14, f15, f16, f17, f18, f19, f20, f21, f22, f23, f24, f25, f26, f27, f28, f29, f30, f31, f32, f33, f34, f35, f36, f37, f38, f39, f40, f41, f42, f43, f44, f45, f46, f47, f48, f49, f50, f51, f52, f53, f54, f55, f56, f57, f58, f59, f60, f61, f62, _⟩ := h
  exact q_72v_27 (q0 := q0) (n0 := ρ 4) (n1 := ρ 3) (n2 := ρ 2) (n3 := ρ 1) (n4 := ρ 0) (n5 := ρ 5) (n6 := ρ 6) (n7 := ρ 7) (n8 := ρ 8) (n9 := ρ 9) (n10 := ρ 10) (n11 := ρ 11) (n12 := ρ 12) (n13 := ρ 13) (n14 := ρ 14) (n15 := ρ 15) (n16 := ρ 16) (n17 := ρ 17) (n18 := ρ 18) (n19 := ρ 19) (n20 := ρ 20) (n21 := ρ 21) (n22 := ρ 22) (n23 := ρ 23) (n24 := ρ 24) (n25 := ρ 25) (H0 := η 0) (H1 := η 1) (H2 := η 2) (H3 := η 3) (H4 := η 4) (H5 := η 5) (H6 := η 6) (H7 := η 7) (H8 := η 8) f62 f61 f60 f59 f58 f57 f56 f55 f54 f53 f52 f51 f50 f49 f48 f47 f46 f45 f44 f43 f42 f41 f40 f39 f38 f37 f36 f35 f34 f33 f32 f31 f30 f29 f28 f27 f26 f25 f24 f23 f22 f21 f20 f19 f18 f17 f16 f15 f14 f13 f12 f11 f10 f9 f8 f7 f6 f5 f4 f3 f2 f1 f0
theorem q_72v_28 {q0 : Nat} {n0 n1 n2 n3 n4 n5 n6 n7 n8 n9 n10 n11 n12 n13 n14 n15 n16 n17 n18 n19 n20 n21 n22 n23 n24 n25 n26 n27 : Int} {H0 H1 H2 H3 H4 H5 H6 H7 H8 H9 : gH} (f0 : n0 ≤ 2147483647) (f1 : (-2147483648) ≤ n0) (f2 : n1 ≤ 2147483647) (f3 : (-2147483648) ≤ n1) (f4 : n2 ≤ 2147483647) (f5 : (-2147483648) ≤ n2) (f6 : n3 = 30) (f7 : n4 = 30) (f8 : (hLe T0 H0 H1 ∧ hFr s_72v.2.2.2.2 H0 H1 ∧ hWt T0 H1) ∧ (Ab_72v_6 n4 n3 n2 n1 n0 H0 H1 ∧ preb_72v n4 H0) ∧ some q0 = some (mub_72v_6 n4 n3 n2 n1 n0 H0 H1)) (f9 : n5 = 16) (f10 : n0 ≤ n5) (f11 : n6 ≤ 2147483647) (f12 : (-2147483648) ≤ n6) (f13 : n6 = hV H1 (n3).toNat 3) (f14 : n6 = 0) (f15 : n7 ≤ 2147483647) (f16 : (-2147483648) ≤ n7) (f17 : n7 = hV H1 (n3).toNat 2) (f18 : n8 ≤ 1) (f19 : 0 ≤ n8) (f20 : (hLe T0 H1 H2 ∧ hFr s_73v.2.2.2.2 H1 H2 ∧ ((0 : Int) = 0 → H2.length = H1.length) ∧ hWt T0 H2) ∧ postb_73v n8 n7 H1 H2) (f21 : n8 ≠ 0) (f22 : n9 ≤ 2147483647) (f23 : (-2147483648) ≤ n9) (f24 : n9 = hV H2 (n3).toNat 13) (f25 : (hLe T0 H2 H3 ∧ hFr s_74v.2.2.2.2 H2 H3 ∧ ((0 : Int) = 0 → H3.length = H2.length) ∧ hWt T0 H3) ∧ postb_74v n10 n3 n9 n2 H2 H3) (f26 : 0 ≤ n10) (f27 : n11 ≤ 2147483647) (f28 : (-2147483648) ≤ n11) (f29 : n11 = hV H3 (n3).toNat 2) (f30 : n12 = 20) (f31 : n13 = w32 (n11 - n12)) (f32 : n14 = 31) (f33 : n14 = hV H3 (n3).toNat 0) (f34 : n15 ≤ 2147483647) (f35 : (-2147483648) ≤ n15) (f36 : n15 = hV H3 (n3).toNat 1) (f37 : n16 ≤ 2147483647) (f38 : (-2147483648) ≤ n16) (f39 : (hLe T0 H3 H4 ∧ hFr s_124.2.2.2.2 H3 H4 ∧ ((0 : Int) = 0 → H4.length = H3.length) ∧ hWt T0 H4) ∧ True) (f40 : (hLe T0 H4 H5 ∧ hFr s_24v.2.2.2.2 H4 H5 ∧ ((0 : Int) = 0 → H5.length = H4.length) ∧ hWt T0 H5) ∧ postb_24v n10 n13 n16 H4 H5) (f41 : n17 ≤ 2147483647) (f42 : (-2147483648) ≤ n17) (f43 : n17 = hV H5 (n3).toNat 2) (f44 : (hLe T0 H5 H6 ∧ hFr s_66v.2.2.2.2 H5 H6 ∧ ((0 : Int) = 0 → H6.length = H5.length) ∧ hWt T0 H6) ∧ postb_66v n3 n17 H5 H6) (f45 : n18 ≤ 2147483647) (f46 : (-2147483648) ≤ n18) (f47 : hK H6 (n10).toNat = 1) (f48 : n18 = hV H6 (n10).toNat 0) (f49 : n18 = 2) (f50 : (hLe T0 H6 H7 ∧ hFr s_77v.2.2.2.2 H6 H7 ∧ ((0 : Int) = 0 → H7.length = H6.length) ∧ hWt T0 H7) ∧ postb_77v n3 n10 H6 H7) (f51 : n19 = 4) (f52 : (hLe T0 H7 H8 ∧ hFr s_66v.2.2.2.2 H7 H8 ∧ ((0 : Int) = 0 → H8.length = H7.length) ∧ hWt T0 H8) ∧ postb_66v n3 n19 H7 H8) (f53 : n20 = w32 (n2 + 1)) (f54 : n21 ≤ 2147483647) (f55 : (-2147483648) ≤ n21) (f56 : hK H8 (n10).toNat = 1) (f57 : n21 = hV H8 (n10).toNat 0) (f58 : n22 = 5) (f59 : n21 = n22) (f60 : n23 = 47) (f61 : n23 = hV H8 (n3).toNat 11) (f62 : n24 ≤ 2147483647) (f63 : (-2147483648) ≤ n24) (f64 : hK H8 (n10).toNat = 1) (f65 : n24 = hV H8 (n10).toNat 2) (f66 : n25 ≤ 2147483647) (f67 : (-2147483648) ≤ n25) (f68 : (hLe T0 H8 H9 ∧ hFr s_199vk740.2.2.2.2 H8 H9 ∧ ((0 : Int) = 0 → H9.length = H8.length) ∧ hWt T0 H9) ∧ postb_199vk740 n25 n23 n24 H8 H9) (f69 : n26 = w32 (n1 + n25)) (f70 : n27 = w32 (n0 + 1)) : Ab_72v_6 n4 n3 n20 n26 n27 H0 H9 ∧ ∀ q, some q0 = some q → mub_72v_6 n4 n3 n20 n26 n27 H0 H9 < q := by
  have pz := f8.2.1.2
  unfold preb_72v at pz
  have ga := f8.2.1.1
  unfold Ab_72v_6 at ga
  have vz : vwC H1 = vwC H0 := vwC_fr f8.1.2.1 (by decide +kernel)
  obtain ⟨kz, bz, blz, b13, cz, b48, x10, x116, x30, x317, x13, ya, yt⟩ := ga
  have r3 := f13
  rw [f6] at r3
  rw [show ((30 : Int)).toNat = 30 from rfl] at r3
  have r2 := f17
  rw [f6] at r2
  rw [show ((30 : Int)).toNat = 30 from rfl] at r2
  have pc := f20.2
  unfold postb_73v at pc
  have cq := f25.2
  unfold postb_74v at cq
  have cq2 := cq.2
  have ck_0 := (cq.1 (by omega)).2
  have ck_1 : hK H4 (n10).toNat = 1 := kLe f39.1.1 ck_0 rfl
  have ck_2 : hK H5 (n10).toNat = 1 := kLe f40.1.1 ck_1 rfl
  have ck_3 : hK H6 (n10).toNat = 1 := kLe f44.1.1 ck_2 rfl
  have ck_4 : hK H7 (n10).toNat = 1 := kLe f50.1.1 ck_3 rfl
  have ck_5 : hK H8 (n10).toNat = 1 := kLe f52.1.1 ck_4 rfl
  have ck_6 : hK H9 (n10).toNat = 1 := kLe f68.1.1 ck_5 rfl
  have s0 := PF_fr f20.1.1 f20.1.2.1 (by decide +kernel) kz
  have a0 : absC H2 = (absC H1) := s0.1
  have v0 : vwC H2 = vwC H0 := (vwC_fr f20.1.2.1 (by decide +kernel)).trans vz
  have u0 := CU_fr f20.1.1 f20.1.2.1 (by decide +kernel) cz
  have d0 := BI_fr f20.1.1 f20.1.2.1 (by decide +kernel) bz
  have j0 : BLc H2 = BLc H0 := d0.2.trans blz
  have s1 := PF_fr f25.1.1 f25.1.2.1 (by decide +kernel) s0.2.2
  have a1 : absC H3 = (absC H1) := s1.1.trans a0
  have v1 : vwC H3 = vwC H0 := (vwC_fr f25.1.2.1 (by decide +kernel)).trans v0
  have u1 := CU_fr f25.1.1 f25.1.2.1 (by decide +kernel) u0
  have d1 := BI_fr f25.1.1 f25.1.2.1 (by decide +kernel) d0.1
  have j1 : BLc H3 = BLc H0 := d1.2.trans j0
  have s2 := PF_fr f39.1.1 f39.1.2.1 (by decide +kernel) s1.2.2
  have a2 : absC H4 = (absC H1) := s2.1.trans a1
  have v2 : vwC H4 = vwC H0 := (vwC_fr f39.1.2.1 (by decide +kernel)).trans v1
  have u2 := CU_fr f39.1.1 f39.1.2.1 (by decide +kernel) u1
  have d2 := BI_fr f39.1.1 f39.1.2.1 (by decide +kernel) d1.1
  have j2 : BLc H4 = BLc H0 := d2.2.trans j1
  have s3 := PF_fr f40.1.1 f40.1.2.1 (by decide +kernel) s2.2.2
  have a3 : absC H5 = (absC H1) := s3.1.trans a2
  have v3 : vwC H5 = vwC H0 := (vwC_fr f40.1.2.1 (by decide +kernel)).trans v2
  have u3 := CU_fr f40.1.1 f40.1.2.1 (by decide +kernel) u2
  have d3 := BI_fr f40.1.1 f40.1.2.1 (by decide +kernel) d2.1
  have j3 : BLc H5 = BLc H0 := d3.2.trans j2
  have c4 := f44.2
  unfold postb_66v at c4
  rw [v3] at c4
  rw [a3] at c4
  have a4 : absC H6 = (ptk (vwC H0) n17 (absC H1)) := c4.2
  have v4 : vwC H6 = vwC H0 := (vwC_fr f44.1.2.1 (by decide +kernel)).trans v3
  have u4 := CU_fr f44.1.1 f44.1.2.1 (by decide +kernel) u3
  have d4 := BI_fr f44.1.1 f44.1.2.1 (by decide +kernel) d3.1
  have j4 : BLc H6 = BLc H0 := d4.2.trans j3
  have c5 := f50.2
  unfold postb_77v at c5
  rw [v4] at c5
  rw [a4] at c5
  have a5 : absC H7 = (pDip (vwC H0) (ptk (vwC H0) n17 (absC H1))) := c5.2
  have v5 : vwC H7 = vwC H0 := (vwC_fr f50.1.2.1 (by decide +kernel)).trans v4
  have u5 := CU_fr f50.1.1 f50.1.2.1 (by decide +kernel) u4
  have d5 := BI_fr f50.1.1 f50.1.2.1 (by decide +kernel) d4.1
  have j5 : BLc H7 = BLc H0 := d5.2.trans j4
  have c6 := f52.2
  unfold postb_66v at c6
  try rw [f51] at c6
  rw [v5] at c6
  rw [a5] at c6
  have a6 : absC H8 = (ptk (vwC H0) 4 (pDip (vwC H0) (ptk (vwC H0) n17 (absC H1)))) := c6.2
  have v6 : vwC H8 = vwC H0 := (vwC_fr f52.1.2.1 (by decide +kernel)).trans v5
  have u6 := CU_fr f52.1.1 f52.1.2.1 (by decide +kernel) u5
  have d6 := BI_fr f52.1.1 f52.1.2.1 (by decide +kernel) d5.1
  have j6 : BLc H8 = BLc H0 := d6.2.trans j5
  have s7 := PF_fr f68.1.1 f68.1.2.1 (by decide +kernel) c6.1
  have a7 : absC H9 = (ptk (vwC H0) 4 (pDip (vwC H0) (ptk (vwC H0) n17 (absC H1)))) := s7.1.trans a6
  have v7 : vwC H9 = vwC H0 := (vwC_fr f68.1.2.1 (by decide +kernel)).trans v6
  have u7 := CU_fr f68.1.1 f68.1.2.1 (by decide +kernel) u6
  have d7 := BI_fr f68.1.1 f68.1.2.1 (by decide +kernel) d6.1
  have j7 : BLc H9 = BLc H0 := d7.2.trans j6
  have y2 := pz.2.1.2.1
  have y3 := pz.2.1.2.2.1
  have wq31 := f31
  unfold w32 at wq31
  have wq53 := f53
  unfold w32 at wq53
  have wq69 := f69
  unfold w32 at wq69
  have wq70 := f70
  unfold w32 at wq70
  have g5 := Option.some.inj f8.2.2
  unfold mub_72v_6 at g5
  unfold Ab_72v_6 mub_72v_6
  have t13 : hV H9 30 13 = hV H1 30 13 := (f68.1.2.1.1 30 13 (by decide +kernel)).trans ((f52.1.2.1.1 30 13 (by decide +kernel)).trans ((f50.1.2.1.1 30 13 (by decide +kernel)).trans ((f44.1.2.1.1 30 13 (by decide +kernel)).trans ((f40.1.2.1.1 30 13 (by decide +kernel)).trans ((f39.1.2.1.1 30 13 (by decide +kernel)).trans ((f25.1.2.1.1 30 13 (by decide +kernel)).trans (f20.1.2.1.1 30 13 (by decide +kernel))))))))
  have t48 : hV H9 48 = hV H1 48 := (fRow f68.1.2.1 48 (by decide +kernel)).trans ((fRow f52.1.2.1 48 (by decide +kernel)).trans ((fRow f50.1.2.1 48 (by decide +kernel)).trans ((fRow f44.1.2.1 48 (by decide +kernel)).trans ((fRow f40.1.2.1 48 (by decide +kernel)).trans ((fRow f39.1.2.1 48 (by decide +kernel)).trans ((fRow f25.1.2.1 48 (by decide +kernel)).trans (fRow f20.1.2.1 48 (by decide +kernel))))))))
  have hk : (vwC H0).1 (absC H1).1 = hV H1 30 2 := by
    have u := (kd_at kz).resolve_left (by have := absC_pos kz (by omega); omega)
    rw [vz] at u
    exact u
  have pr := f40.2
  unfold postb_24v at pr
  have ka0_0 : hK H6 (n10).toNat = 1 := kLe f44.1.1 ck_2 rfl
  have kq0 : n18 = hV H5 (n10).toNat 0 := f48.trans (f44.1.2.1.2.2 _ 1 ck_2 rfl 0 (by decide +kernel))
  have ka1_0 : hK H6 (n10).toNat = 1 := kLe f44.1.1 ck_2 rfl
  have ka1_1 : hK H7 (n10).toNat = 1 := kLe f50.1.1 ka1_0 rfl
  have ka1_2 : hK H8 (n10).toNat = 1 := kLe f52.1.1 ka1_1 rfl
  have kq1 : n21 = hV H5 (n10).toNat 0 := f57.trans ((f52.1.2.1.2.2 _ 1 ka1_1 rfl 0 (by decide +kernel)).trans ((f50.1.2.1.2.2 _ 1 ka1_0 rfl 0 (by decide +kernel)).trans (f44.1.2.1.2.2 _ 1 ck_2 rfl 0 (by decide +kernel))))
  have rz0 := f29
  rw [f6] at rz0
  rw [show ((30 : Int)).toNat = 30 from rfl] at rz0
  have tz0 : hV H3 30 2 = hV H1 30 2 := (f25.1.2.1.1 30 2 (by decide +kernel)).trans (f20.1.2.1.1 30 2 (by decide +kernel))
  have rz1 := f43
  rw [f6] at rz1
  rw [show ((30 : Int)).toNat = 30 from rfl] at rz1
  have tz1 : hV H5 30 2 = hV H1 30 2 := (f40.1.2.1.1 30 2 (by decide +kernel)).trans ((f39.1.2.1.1 30 2 (by decide +kernel)).trans ((f25.1.2.1.1 30 2 (by decide +kernel)).trans (f20.1.2.1.1 30 2 (by decide +kernel))))
  have pr1 := pr.1
  exfalso
  omega
theorem c_72v_6_27 {q0 : Nat} : vOkm T0 (eP e_72v L_72v A_72v mu_72v (some q0)) 1 ([(10, [27, 4], [], 1), (1, [26, 3, 25], [], 0), (1199, [25, 23, 24], [8, 9], 0), (90, [25], [], -2147483648), (91, [25], [], 2147483647), (20, [24, 10], [8], 2), (23, [10], [8], 1), (90, [24], [], -2147483648), (91, [24], [], 2147483647), (20, [23, 1], [8], 11), (0, [23], [], 47), (40, [21, 22], [], 0), (0, [22], [], 5), (20, [21, 10], [8], 0), (23, [10], [8], 1), (90, [21], [], -2147483648), (91, [21], [], 2147483647), (10, [20, 2], [], 1), (1066, [1, 19], [7, 8], 0), (0, [19], [], 4), (1077, [1, 10], [6, 7], 0), (0, [18], [], 2), (20, [18, 10], [6], 0), (23, [10], [6], 1), (90, [18], [], -2147483648), (91, [18], [], 2147483647), (1066, [1, 17], [5, 6], 0), (20, [17, 1], [5], 2), (90, [17], [], -2147483648), (91, [17], [], 2147483647), (1024, [10, 13, 16], [4, 5], 0), (1124, [16, 14, 15], [3, 4], 0), (90, [16], [], -2147483648), (91, [16], [], 2147483647), (20, [15, 1], [3], 1), (90, [15], [], -2147483648), (91, [15], [], 2147483647), (20, [14, 1], [3], 0), (0, [14], [], 31), (2, [13, 11, 12], [], 0), (0, [12], [], 20), (20, [11, 1], [3], 2), (90, [11], [], -2147483648), (91, [11], [], 2147483647), (51, [10], [], 0), (1074, [10, 1, 9, 2], [2, 3], 0), (20, [9, 1], [2], 13), (90, [9], [], -2147483648), (91, [9], [], 2147483647), (31, [8], [], 0), (1073, [8, 7], [1, 2], 0), (90, [8], [], 0), (91, [8], [], 1), (20, [7, 1], [1], 2), (90, [7], [], -2147483648), (91, [7], [], 2147483647), (30, [6], [], 0), (20, [6, 1], [1], 3), (90, [6], [], -2147483648), (91, [6], [], 2147483647), (45, [4, 5], [], 0), (0, [5], [], 16), (5000, [0, 1, 2, 3, 4], [0, 1], 6), (0, [0], [], 30), (0, [1], [], 30), (90, [2], [], -2147483648), (91, [2], [], 2147483647), (90, [3], [], -2147483648), (91, [3], [], 2147483647), (90, [4], [], -2147483648), (91, [4], [], 2147483647)], (4000, [1, 20, 26, 27], [9], 6)) := vOk_in fun ρ η h => by
  obtain ⟨f0, f1, f2, f3, f4, f5, f6, f7, f8, f9, f10, f11, f12, f13, f14, f15, f16, f17, f18, f19, f20, f21, f22, f23, f24, f25, f26, f27, f28, f29, f30, f31, f32, f33, f34, f35, f36, f37, f38, f39, f40, f41, f42, f43, f44, f45, f46, f47, f48, f49, f50, f51, f52, f53, f54, f55, f56, f57, f58, f59, f60, f61, f62, f63, f64, f65, f66, f67, f68, f69, f70, _⟩ := h
  exact q_72v_28 (q0 := q0) (n0 := ρ 4) (n1 := ρ 3) (n2 := ρ 2) (n3 := ρ 1) (n4 := ρ 0) (n5 := ρ 5) (n6 := ρ 6) (n7 := ρ 7) (n8 := ρ 8) (n9 := ρ 9) (n10 := ρ 10) (n11 := ρ 11) (n12 := ρ 12) (n13 := ρ 13) (n14 := ρ 14) (n15 := ρ 15) (n16 := ρ 16) (n17 := ρ 17) (n18 := ρ 18) (n19 := ρ 19) (n20 := ρ 20) (n21 := ρ 21) (n22 := ρ 22) (n23 := ρ 23) (n24 := ρ 24) (n25 := ρ 25) (n26 := ρ 26) (n27 := ρ 27) (H0 := η 0) (H1 := η 1) (H2 := η 2) (H3 := η 3) (H4 := η 4) (H5 := η 5) (H6 := η 6) (H7 := η 7) (H8 := η 8) (H9 := η 9) f70 f69 f68 f67 f66 f65 f64 f63 f62 f61 f60 f59 f58 f57 f56 f55 f54 f53 f52 f51 f50 f49 f48 f47 f46 f45 f44 f43 f42 f41 f40 f39 f38 f37 f36 f35 f34 f33 f32 f31 f30 f29 f28 f27 f26 f25 f24 f23 f22 f21 f20 f19 f18 f17 f16 f15 f14 f13 f12 f11 f10 f9 f8 f7 f6 f5 f4 f3 f2 f1 f0
theorem q_72v_29 {q0 : Nat} {n0 n1 n2 n3 n4 n5 n6 n7 n8 n9 n10 n11 n12 n13 n14 n15 n16 n17 n18 : Int} {H0 H1 H2 H3 H4 H5 H6 : gH} (f0 : n0 ≤ 2147483647) (f1 : (-2147483648) ≤ n0) (f2 : n1 ≤ 2147483647) (f3 : (-2147483648) ≤ n1) (f4 : n2 ≤ 2147483647) (f5 : (-2147483648) ≤ n2) (f6 : n3 = 30) (f7 : n4 = 30) (f8 : (hLe T0 H0 H1 ∧ hFr s_72v.2.2.2.2 H0 H1 ∧ hWt T0 H1) ∧ (Ab_72v_6 n4 n3 n2 n1 n0 H0 H1 ∧ preb_72v n4 H0) ∧ some q0 = some (mub_72v_6 n4 n3 n2 n1 n0 H0 H1)) (f9 : n5 = 16) (f10 : n0 ≤ n5) (f11 : n6 ≤ 2147483647) (f12 : (-2147483648) ≤ n6) (f13 : n6 = hV H1 (n3).toNat 3) (f14 : n6 = 0) (f15 : n7 ≤ 2147483647) (f16 : (-2147483648) ≤ n7) (f17 : n7 = hV H1 (n3).toNat 2) (f18 : n8 ≤ 1) (f19 : 0 ≤ n8) (f20 : (hLe T0 H1 H2 ∧ hFr s_73v.2.2.2.2 H1 H2 ∧ ((0 : Int) = 0 → H2.length = H1.length) ∧ hWt T0 H2) ∧ postb_73v n8 n7 H1 H2) (f21 : n8 ≠ 0) (f22 : n9 ≤ 2147483647) (f23 : (-2147483648) ≤ n9) (f24 : n9 = hV H2 (n3).toNat 13) (f25 : (hLe T0 H2 H3 ∧ hFr s_74v.2.2.2.2 H2 H3 ∧ ((0 : Int) = 0 → H3.length = H2.length) ∧ hWt T0 H3) ∧ postb_74v n10 n3 n9 n2 H2 H3) (f26 : 0 ≤ n10) (f27 : n11 ≤ 2147483647) (f28 : (-2147483648) ≤ n11) (f29 : n11 = hV H3 (n3).toNat 2) (f30 : n12 = 20) (f31 : n13 = w32 (n11 - n12)) (f32 : n14 = 31) (f33 : n14 = hV H3 (n3).toNat 0) (f34 : n15 ≤ 2147483647) (f35 : (-2147483648) ≤ n15) (f36 : n15 = hV H3 (n3).toNat 1) (f37 : n16 ≤ 2147483647) (f38 : (-2147483648) ≤ n16) (f39 : (hLe T0 H3 H4 ∧ hFr s_124.2.2.2.2 H3 H4 ∧ ((0 : Int) = 0 → H4.length = H3.length) ∧ hWt T0 H4) ∧ True) (f40 : (hLe T0 H4 H5 ∧ hFr s_24v.2.2.2.2 H4 H5 ∧ ((0 : Int) = 0 → H5.length = H4.length) ∧ hWt T0 H5) ∧ postb_24v n10 n13 n16 H4 H5) (f41 : n17 ≤ 2147483647) (f42 : (-2147483648) ≤ n17) (f43 : n17 = hV H5 (n3).toNat 2) (f44 : (hLe T0 H5 H6 ∧ hFr s_66v.2.2.2.2 H5 H6 ∧ ((0 : Int) = 0 → H6.length = H5.length) ∧ hWt T0 H6) ∧ postb_66v n3 n17 H5 H6) (f45 : n18 ≤ 2147483647) (f46 : (-2147483648) ≤ n18) (f47 : hK H6 (n10).toNat = 1) (f48 : n18 = hV H6 (n10).toNat 0) (f49 : n18 = 3) : preb_78v n3 n10 H6 := by
  have pz := f8.2.1.2
  unfold preb_72v at pz
  have ga := f8.2.1.1
  unfold Ab_72v_6 at ga
  have vz : vwC H1 = vwC H0 := vwC_fr f8.1.2.1 (by decide +kernel)
  obtain ⟨kz, bz, blz, b13, cz, b48, x10, x116, x30, x317, x13, ya, yt⟩ := ga
  have r3 := f13
  rw [f6] at r3
  rw [show ((30 : Int)).toNat = 30 from rfl] at r3
  have r2 := f17
  rw [f6] at r2
  rw [show ((30 : Int)).toNat = 30 from rfl] at r2
  have pc := f20.2
  unfold postb_73v at pc
  have cq := f25.2
  unfold postb_74v at cq
  have cq2 := cq.2
  have ck_0 := (cq.1 (by omega)).2
  have ck_1 : hK H4 (n10).toNat = 1 := kLe f39.1.1 ck_0 rfl
  have ck_2 : hK H5 (n10).toNat = 1 := kLe f40.1.1 ck_1 rfl
  have ck_3 : hK H6 (n10).toNat = 1 := kLe f44.1.1 ck_2 rfl
  have s0 := PF_fr f20.1.1 f20.1.2.1 (by decide +kernel) kz
  have a0 : absC H2 = (absC H1) := s0.1
  have v0 : vwC H2 = vwC H0 := (vwC_fr f20.1.2.1 (by decide +kernel)).trans vz
  have u0 := CU_fr f20.1.1 f20.1.2.1 (by decide +kernel) cz
  have d0 := BI_fr f20.1.1 f20.1.2.1 (by decide +kernel) bz
  have j0 : BLc H2 = BLc H0 := d0.2.trans blz
  have s1 := PF_fr f25.1.1 f25.1.2.1 (by decide +kernel) s0.2.2
  have a1 : absC H3 = (absC H1) := s1.1.trans a0
  have v1 : vwC H3 = vwC H0 := (vwC_fr f25.1.2.1 (by decide +kernel)).trans v0
  have u1 := CU_fr f25.1.1 f25.1.2.1 (by decide +kernel) u0
  have d1 := BI_fr f25.1.1 f25.1.2.1 (by decide +kernel) d0.1
  have j1 : BLc H3 = BLc H0 := d1.2.trans j0
  have s2 := PF_fr f39.1.1 f39.1.2.1 (by decide +kernel) s1.2.2
  have a2 : absC H4 = (absC H1) := s2.1.trans a1
  have v2 : vwC H4 = vwC H0 := (vwC_fr f39.1.2.1 (by decide +kernel)).trans v1
  have u2 := CU_fr f39.1.1 f39.1.2.1 (by decide +kernel) u1
  have d2 := BI_fr f39.1.1 f39.1.2.1 (by decide +kernel) d1.1
  have j2 : BLc H4 = BLc H0 := d2.2.trans j1
  have s3 := PF_fr f40.1.1 f40.1.2.1 (by decide +kernel) s2.2.2
  have a3 : absC H5 = (absC H1) := s3.1.trans a2
  have v3 : vwC H5 = vwC H0 := (vwC_fr f40.1.2.1 (by decide +kernel)).trans v2
  have u3 := CU_fr f40.1.1 f40.1.2.1 (by decide +kernel) u2
  have d3 := BI_fr f40.1.1 f40.1.2.1 (by decide +kernel) d2.1
  have j3 : BLc H5 = BLc H0 := d3.2.trans j2
  have c4 := f44.2
  unfold postb_66v at c4
  rw [v3] at c4
  rw [a3] at c4
  have a4 : absC H6 = (ptk (vwC H0) n17 (absC H1)) := c4.2
  have v4 : vwC H6 = vwC H0 := (vwC_fr f44.1.2.1 (by decide +kernel)).trans v3
  have u4 := CU_fr f44.1.1 f44.1.2.1 (by decide +kernel) u3
  have d4 := BI_fr f44.1.1 f44.1.2.1 (by decide +kernel) d3.1
  have j4 : BLc H6 = BLc H0 := d4.2.trans j3
  have pr := f40.2
  unfold postb_24v at pr
  have kd0 : hK H6 (n10).toNat = 1 := kLe f44.1.1 ck_2 rfl
  have t18 : hV H6 (n10).toNat 18 = hV H5 (n10).toNat 18 := f44.1.2.1.2.2 _ 1 ck_2 rfl 18 (by decide +kernel)
  unfold preb_78v
  exact ⟨c4.1, t18.trans pr.2, kd0, by omega⟩
theorem c_72v_6_28 {q0 : Nat} : vOkm T0 (eP e_72v L_72v A_72v mu_72v (some q0)) 1 ([(0, [18], [], 3), (20, [18, 10], [6], 0), (23, [10], [6], 1), (90, [18], [], -2147483648), (91, [18], [], 2147483647), (1066, [1, 17], [5, 6], 0), (20, [17, 1], [5], 2), (90, [17], [], -2147483648), (91, [17], [], 2147483647), (1024, [10, 13, 16], [4, 5], 0), (1124, [16, 14, 15], [3, 4], 0), (90, [16], [], -2147483648), (91, [16], [], 2147483647), (20, [15, 1], [3], 1), (90, [15], [], -2147483648), (91, [15], [], 2147483647), (20, [14, 1], [3], 0), (0, [14], [], 31), (2, [13, 11, 12], [], 0), (0, [12], [], 20), (20, [11, 1], [3], 2), (90, [11], [], -2147483648), (91, [11], [], 2147483647), (51, [10], [], 0), (1074, [10, 1, 9, 2], [2, 3], 0), (20, [9, 1], [2], 13), (90, [9], [], -2147483648), (91, [9], [], 2147483647), (31, [8], [], 0), (1073, [8, 7], [1, 2], 0), (90, [8], [], 0), (91, [8], [], 1), (20, [7, 1], [1], 2), (90, [7], [], -2147483648), (91, [7], [], 2147483647), (30, [6], [], 0), (20, [6, 1], [1], 3), (90, [6], [], -2147483648), (91, [6], [], 2147483647), (45, [4, 5], [], 0), (0, [5], [], 16), (5000, [0, 1, 2, 3, 4], [0, 1], 6), (0, [0], [], 30), (0, [1], [], 30), (90, [2], [], -2147483648), (91, [2], [], 2147483647), (90, [3], [], -2147483648), (91, [3], [], 2147483647), (90, [4], [], -2147483648), (91, [4], [], 2147483647)], (2078, [1, 10], [6], 0)) := vOk_in fun ρ η h => by
  obtain ⟨f0, f1, f2, f3, f4, f5, f6, f7, f8, f9, f10, f11, f12, f13, f14, f15, f16, f17, f18, f19, f20, f21, f22, f23, f24, f25, f26, f27, f28, f29, f30, f31, f32, f33, f34, f35, f36, f37, f38, f39, f40, f41, f42, f43, f44, f45, f46, f47, f48, f49, _⟩ := h
  exact q_72v_29 (q0 := q0) (n0 := ρ 4) (n1 := ρ 3) (n2 := ρ 2) (n3 := ρ 1) (n4 := ρ 0) (n5 := ρ 5) (n6 := ρ 6) (n7 := ρ 7) (n8 := ρ 8) (n9 := ρ 9) (n10 := ρ 10) (n11 := ρ 11) (n12 := ρ 12) (n13 := ρ 13) (n14 := ρ 14) (n15 := ρ 15) (n16 := ρ 16) (n17 := ρ 17) (n18 := ρ 18) (H0 := η 0) (H1 := η 1) (H2 := η 2) (H3 := η 3) (H4 := η 4) (H5 := η 5) (H6 := η 6) f49 f48 f47 f46 f45 f44 f43 f42 f41 f40 f39 f38 f37 f36 f35 f34 f33 f32 f31 f30 f29 f28 f27 f26 f25 f24 f23 f22 f21 f20 f19 f18 f17 f16 f15 f14 f13 f12 f11 f10 f9 f8 f7 f6 f5 f4 f3 f2 f1 f0
theorem q_72v_30 {q0 : Nat} {n0 n1 n2 n3 n4 n5 n6 n7 n8 n9 n10 n11 n12 n13 n14 n15 n16 n17 n18 n19 : Int} {H0 H1 H2 H3 H4 H5 H6 H7 : gH} (f0 : n0 ≤ 2147483647) (f1 : (-2147483648) ≤ n0) (f2 : n1 ≤ 2147483647) (f3 : (-2147483648) ≤ n1) (f4 : n2 ≤ 2147483647) (f5 : (-2147483648) ≤ n2) (f6 : n3 = 30) (f7 : n4 = 30) (f8 : (hLe T0 H0 H1 ∧ hFr s_72v.2.2.2.2 H0 H1 ∧ hWt T0 H1) ∧ (Ab_72v_6 n4 n3 n2 n1 n0 H0 H1 ∧ preb_72v n4 H0) ∧ some q0 = some (mub_72v_6 n4 n3 n2 n1 n0 H0 H1)) (f9 : n5 = 16) (f10 : n0 ≤ n5) (f11 : n6 ≤ 2147483647) (f12 : (-2147483648) ≤ n6) (f13 : n6 = hV H1 (n3).toNat 3) (f14 : n6 = 0) (f15 : n7 ≤ 2147483647) (f16 : (-2147483648) ≤ n7) (f17 : n7 = hV H1 (n3).toNat 2) (f18 : n8 ≤ 1) (f19 : 0 ≤ n8) (f20 : (hLe T0 H1 H2 ∧ hFr s_73v.2.2.2.2 H1 H2 ∧ ((0 : Int) = 0 → H2.length = H1.length) ∧ hWt T0 H2) ∧ postb_73v n8 n7 H1 H2) (f21 : n8 ≠ 0) (f22 : n9 ≤ 2147483647) (f23 : (-2147483648) ≤ n9) (f24 : n9 = hV H2 (n3).toNat 13) (f25 : (hLe T0 H2 H3 ∧ hFr s_74v.2.2.2.2 H2 H3 ∧ ((0 : Int) = 0 → H3.length = H2.length) ∧ hWt T0 H3) ∧ postb_74v n10 n3 n9 n2 H2 H3) (f26 : 0 ≤ n10) (f27 : n11 ≤ 2147483647) (f28 : (-2147483648) ≤ n11) (f29 : n11 = hV H3 (n3).toNat 2) (f30 : n12 = 20) (f31 : n13 = w32 (n11 - n12)) (f32 : n14 = 31) (f33 : n14 = hV H3 (n3).toNat 0) (f34 : n15 ≤ 2147483647) (f35 : (-2147483648) ≤ n15) (f36 : n15 = hV H3 (n3).toNat 1) (f37 : n16 ≤ 2147483647) (f38 : (-2147483648) ≤ n16) (f39 : (hLe T0 H3 H4 ∧ hFr s_124.2.2.2.2 H3 H4 ∧ ((0 : Int) = 0 → H4.length = H3.length) ∧ hWt T0 H4) ∧ True) (f40 : (hLe T0 H4 H5 ∧ hFr s_24v.2.2.2.2 H4 H5 ∧ ((0 : Int) = 0 → H5.length = H4.length) ∧ hWt T0 H5) ∧ postb_24v n10 n13 n16 H4 H5) (f41 : n17 ≤ 2147483647) (f42 : (-2147483648) ≤ n17) (f43 : n17 = hV H5 (n3).toNat 2) (f44 : (hLe T0 H5 H6 ∧ hFr s_66v.2.2.2.2 H5 H6 ∧ ((0 : Int) = 0 → H6.length = H5.length) ∧ hWt T0 H6) ∧ postb_66v n3 n17 H5 H6) (f45 : n18 ≤ 2147483647) (f46 : (-2147483648) ≤ n18) (f47 : hK H6 (n10).toNat = 1) (f48 : n18 = hV H6 (n10).toNat 0) (f49 : n18 = 3) (f50 : (hLe T0 H6 H7 ∧ hFr s_78v.2.2.2.2 H6 H7 ∧ ((0 : Int) = 0 → H7.length = H6.length) ∧ hWt T0 H7) ∧ postb_78v n3 n10 H6 H7) (f51 : n19 = 4) : preb_66v n3 n19 H7 := by
  have pz := f8.2.1.2
  unfold preb_72v at pz
  have ga := f8.2.1.1
  unfold Ab_72v_6 at ga
  have vz : vwC H1 = vwC H0 := vwC_fr f8.1.2.1 (by decide +kernel)
  obtain ⟨kz, bz, blz, b13, cz, b48, x10, x116, x30, x317, x13, ya, yt⟩ := ga
  have r3 := f13
  rw [f6] at r3
  rw [show ((30 : Int)).toNat = 30 from rfl] at r3
  have r2 := f17
  rw [f6] at r2
  rw [show ((30 : Int)).toNat = 30 from rfl] at r2
  have pc := f20.2
  unfold postb_73v at pc
  have cq := f25.2
  unfold postb_74v at cq
  have cq2 := cq.2
  have ck_0 := (cq.1 (by omega)).2
  have ck_1 : hK H4 (n10).toNat = 1 := kLe f39.1.1 ck_0 rfl
  have ck_2 : hK H5 (n10).toNat = 1 := kLe f40.1.1 ck_1 rfl
  have ck_3 : hK H6 (n10).toNat = 1 := kLe f44.1.1 ck_2 rfl
  have ck_4 : hK H7 (n10).toNat = 1 := kLe f50.1.1 ck_3 rfl
  have s0 := PF_fr f20.1.1 f20.1.2.1 (by decide +kernel) kz
  have a0 : absC H2 = (absC H1) := s0.1
  have v0 : vwC H2 = vwC H0 := (vwC_fr f20.1.2.1 (by decide +kernel)).trans vz
  have u0 := CU_fr f20.1.1 f20.1.2.1 (by decide +kernel) cz
  have d0 := BI_fr f20.1.1 f20.1.2.1 (by decide +kernel) bz
  have j0 : BLc H2 = BLc H0 := d0.2.trans blz
  have s1 := PF_fr f25.1.1 f25.1.2.1 (by decide +kernel) s0.2.2
  have a1 : absC H3 = (absC H1) := s1.1.trans a0
  have v1 : vwC H3 = vwC H0 := (vwC_fr f25.1.2.1 (by decide +kernel)).trans v0
  have u1 := CU_fr f25.1.1 f25.1.2.1 (by decide +kernel) u0
  have d1 := BI_fr f25.1.1 f25.1.2.1 (by decide +kernel) d0.1
  have j1 : BLc H3 = BLc H0 := d1.2.trans j0
  have s2 := PF_fr f39.1.1 f39.1.2.1 (by decide +kernel) s1.2.2
  have a2 : absC H4 = (absC H1) := s2.1.trans a1
  have v2 : vwC H4 = vwC H0 := (vwC_fr f39.1.2.1 (by decide +kernel)).trans v1
  have u2 := CU_fr f39.1.1 f39.1.2.1 (by decide +kernel) u1
  have d2 := BI_fr f39.1.1 f39.1.2.1 (by decide +kernel) d1.1
  have j2 : BLc H4 = BLc H0 := d2.2.trans j1
  have s3 := PF_fr f40.1.1 f40.1.2.1 (by decide +kernel) s2.2.2
  have a3 : absC H5 = (absC H1) := s3.1.trans a2
  have v3 : vwC H5 = vwC H0 := (vwC_fr f40.1.2.1 (by decide +kernel)).trans v2
  have u3 := CU_fr f40.1.1 f40.1.2.1 (by decide +kernel) u2
  have d3 := BI_fr f40.1.1 f40.1.2.1 (by decide +kernel) d2.1
  have j3 : BLc H5 = BLc H0 := d3.2.trans j2
  have c4 := f44.2
  unfold postb_66v at c4
  rw [v3] at c4
  rw [a3] at c4
  have a4 : absC H6 = (ptk (vwC H0) n17 (absC H1)) := c4.2
  have v4 : vwC H6 = vwC H0 := (vwC_fr f44.1.2.1 (by decide +kernel)).trans v3
  have u4 := CU_fr f44.1.1 f44.1.2.1 (by decide +kernel) u3
  have d4 := BI_fr f44.1.1 f44.1.2.1 (by decide +kernel) d3.1
  have j4 : BLc H6 = BLc H0 := d4.2.trans j3
  have c5 := f50.2
  unfold postb_78v at c5
  rw [v4] at c5
  rw [a4] at c5
  have a5 : absC H7 = (pTaps (vwC H0) (ptk (vwC H0) n17 (absC H1))) := c5.2
  have v5 : vwC H7 = vwC H0 := (vwC_fr f50.1.2.1 (by decide +kernel)).trans v4
  have u5 := CU_fr f50.1.1 f50.1.2.1 (by decide +kernel) u4
  have d5 := BI_fr f50.1.1 f50.1.2.1 (by decide +kernel) d4.1
  have j5 : BLc H7 = BLc H0 := d5.2.trans j4
  unfold preb_66v
  exact ⟨c5.1, .inl (by omega)⟩
theorem c_72v_6_29 {q0 : Nat} : vOkm T0 (eP e_72v L_72v A_72v mu_72v (some q0)) 1 ([(0, [19], [], 4), (1078, [1, 10], [6, 7], 0), (0, [18], [], 3), (20, [18, 10], [6], 0), (23, [10], [6], 1), (90, [18], [], -2147483648), (91, [18], [], 2147483647), (1066, [1, 17], [5, 6], 0), (20, [17, 1], [5], 2), (90, [17], [], -2147483648), (91, [17], [], 2147483647), (1024, [10, 13, 16], [4, 5], 0), (1124, [16, 14, 15], [3, 4], 0), (90, [16], [], -2147483648), (91, [16], [], 2147483647), (20, [15, 1], [3], 1), (90, [15], [], -2147483648), (91, [15], [], 2147483647), (20, [14, 1], [3], 0), (0, [14], [], 31), (2, [13, 11, 12], [], 0), (0, [12], [], 20), (20, [11, 1], [3], 2), (90, [11], [], -2147483648), (91, [11], [], 2147483647), (51, [10], [], 0), (1074, [10, 1, 9, 2], [2, 3], 0), (20, [9, 1], [2], 13), (90, [9], [], -2147483648), (91, [9], [], 2147483647), (31, [8], [], 0), (1073, [8, 7], [1, 2], 0), (90, [8], [], 0), (91, [8], [], 1), (20, [7, 1], [1], 2), (90, [7], [], -2147483648), (91, [7], [], 2147483647), (30, [6], [], 0), (20, [6, 1], [1], 3), (90, [6], [], -2147483648), (91, [6], [], 2147483647), (45, [4, 5], [], 0), (0, [5], [], 16), (5000, [0, 1, 2, 3, 4], [0, 1], 6), (0, [0], [], 30), (0, [1], [], 30), (90, [2], [], -2147483648), (91, [2], [], 2147483647), (90, [3], [], -2147483648), (91, [3], [], 2147483647), (90, [4], [], -2147483648), (91, [4], [], 2147483647)], (2066, [1, 19], [7], 0)) := vOk_in fun ρ η h => by
  obtain ⟨f0, f1, f2, f3, f4, f5, f6, f7, f8, f9, f10, f11, f12, f13, f14, f15, f16, f17, f18, f19, f20, f21, f22, f23, f24, f25, f26, f27, f28, f29, f30, f31, f32, f33, f34, f35, f36, f37, f38, f39, f40, f41, f42, f43, f44, f45, f46, f47, f48, f49, f50, f51, _⟩ := h
  exact q_72v_30 (q0 := q0) (n0 := ρ 4) (n1 := ρ 3) (n2 := ρ 2) (n3 := ρ 1) (n4 := ρ 0) (n5 := ρ 5) (n6 := ρ 6) (n7 := ρ 7) (n8 := ρ 8) (n9 := ρ 9) (n10 := ρ 10) (n11 := ρ 11) (n12 := ρ 12) (n13 := ρ 13) (n14 := ρ 14) (n15 := ρ 15) (n16 := ρ 16) (n17 := ρ 17) (n18 := ρ 18) (n19 := ρ 19) (H0 := η 0) (H1 := η 1) (H2 := η 2) (H3 := η 3) (H4 := η 4) (H5 := η 5) (H6 := η 6) (H7 := η 7) f51 f50 f49 f48 f47 f46 f45 f44 f43 f42 f41 f40 f39 f38 f37 f36 f35 f34 f33 f32 f31 f30 f29 f28 f27 f26 f25 f24 f23 f22 f21 f20 f19 f18 f17 f16 f15 f14 f13 f12 f11 f10 f9 f8 f7 f6 f5 f4 f3 f2 f1 f0
theorem q_72v_31 {q0 : Nat} {n0 n1 n2 n3 n4 n5 n6 n7 n8 n9 n10 n11 n12 n13 n14 n15 n16 n17 n18 n19 n20 n21 n22 n23 n24 n25 : Int} {H0 H1 H2 H3 H4 H5 H6 H7 H8 : gH} (f0 : n0 ≤ 2147483647) (f1 : (-2147483648) ≤ n0) (f2 : n1 ≤ 2147483647) (f3 : (-2147483648) ≤ n1) (f4 : n2 ≤ 2147483647) (f5 : (-2147483648) ≤ n2) (f6 : n3 = 30) (f7 : n4 = 30) (f8 : (hLe T0 H0 H1 ∧ hFr s_72v.2.2.2.2 H0 H1 ∧ hWt T0 H1) ∧ (Ab_72v_6 n4 n3 n2 n1 n0 H0 H1 ∧ preb_72v n4 H0) ∧ some q0 = some (mub_72v_6 n4 n3 n2 n1 n0 H0 H1)) (f9 : n5 = 16) (f10 : n0 ≤ n5) (f11 : n6 ≤ 2147483647) (f12 : (-2147483648) ≤ n6) (f13 : n6 = hV H1 (n3).toNat 3) (f14 : n6 = 0) (f15 : n7 ≤ 2147483647) (f16 : (-2147483648) ≤ n7) (f17 : n7 = hV H1 (n3).toNat 2) (f18 : n8 ≤ 1) (f19 : 0 ≤ n8) (f20 : (hLe T0 H1 H2 ∧ hFr s_73v.2.2.2.2 H1 H2 ∧ ((0 : Int) = 0 → H2.length = H1.length) ∧ hWt T0 H2) ∧ postb_73v n8 n7 H1 H2) (f21 : n8 ≠ 0) (f22 : n9 ≤ 2147483647) (f23 : (-2147483648) ≤ n9) (f24 : n9 = hV H2 (n3).toNat 13) (f25 : (hLe T0 H2 H3 ∧ hFr s_74v.2.2.2.2 H2 H3 ∧ ((0 : Int) = 0 → H3.length = H2.length) ∧ hWt T0 H3) ∧ postb_74v n10 n3 n9 n2 H2 H3) (f26 : 0 ≤ n10) (f27 : n11 ≤ 2147483647) (f28 : (-2147483648) ≤ n11) (f29 : n11 = hV H3 (n3).toNat 2) (f30 : n12 = 20) (f31 : n13 = w32 (n11 - n12)) (f32 : n14 = 31) (f33 : n14 = hV H3 (n3).toNat 0) (f34 : n15 ≤ 2147483647) (f35 : (-2147483648) ≤ n15) (f36 : n15 = hV H3 (n3).toNat 1) (f37 : n16 ≤ 2147483647) (f38 : (-2147483648) ≤ n16) (f39 : (hLe T0 H3 H4 ∧ hFr s_124.2.2.2.2 H3 H4 ∧ ((0 : Int) = 0 → H4.length = H3.length) ∧ hWt T0 H4) ∧ True) (f40 : (hLe T0 H4 H5 ∧ hFr s_24v.2.2.2.2 H4 H5 ∧ ((0 : Int) = 0 → H5.length = H4.length) ∧ hWt T0 H5) ∧ postb_24v n10 n13 n16 H4 H5) (f41 : n17 ≤ 2147483647) (f42 : (-2147483648) ≤ n17) (f43 : n17 = hV H5 (n3).toNat 2) (f44 : (hLe T0 H5 H6 ∧ hFr s_66v.2.2.2.2 H5 H6 ∧ ((0 : Int) = 0 → H6.length = H5.length) ∧ hWt T0 H6) ∧ postb_66v n3 n17 H5 H6) (f45 : n18 ≤ 2147483647) (f46 : (-2147483648) ≤ n18) (f47 : hK H6 (n10).toNat = 1) (f48 : n18 = hV H6 (n10).toNat 0) (f49 : n18 = 3) (f50 : (hLe T0 H6 H7 ∧ hFr s_78v.2.2.2.2 H6 H7 ∧ ((0 : Int) = 0 → H7.length = H6.length) ∧ hWt T0 H7) ∧ postb_78v n3 n10 H6 H7) (f51 : n19 = 4) (f52 : (hLe T0 H7 H8 ∧ hFr s_66v.2.2.2.2 H7 H8 ∧ ((0 : Int) = 0 → H8.length = H7.length) ∧ hWt T0 H8) ∧ postb_66v n3 n19 H7 H8) (f53 : n20 = w32 (n2 + 1)) (f54 : n21 ≤ 2147483647) (f55 : (-2147483648) ≤ n21) (f56 : hK H8 (n10).toNat = 1) (f57 : n21 = hV H8 (n10).toNat 0) (f58 : n22 = 5) (f59 : n21 ≠ n22) (f60 : n23 = 1) (f61 : n24 = w32 (n1 + n23)) (f62 : n25 = w32 (n0 + 1)) : Ab_72v_6 n4 n3 n20 n24 n25 H0 H8 ∧ ∀ q, some q0 = some q → mub_72v_6 n4 n3 n20 n24 n25 H0 H8 < q := by
  have pz := f8.2.1.2
  unfold preb_72v at pz
  have ga := f8.2.1.1
  unfold Ab_72v_6 at ga
  have vz : vwC H1 = vwC H0 := vwC_fr f8.1.2.1 (by decide +kernel)
  obtain ⟨kz, bz, blz, b13, cz, b48, x10, x116, x30, x317, x13, ya, yt⟩ := ga
  have r3 := f13
  rw [f6] at r3
  rw [show ((30 : Int)).toNat = 30 from rfl] at r3
  have r2 := f17
  rw [f6] at r2
  rw [show ((30 : Int)).toNat = 30 from rfl] at r2
  have pc := f20.2
  unfold postb_73v at pc
  have cq := f25.2
  unfold postb_74v at cq
  have cq2 := cq.2
  have ck_0 := (cq.1 (by omega)).2
  have ck_1 : hK H4 (n10).toNat = 1 := kLe f39.1.1 ck_0 rfl
  have ck_2 : hK H5 (n10).toNat = 1 := kLe f40.1.1 ck_1 rfl
  have ck_3 : hK H6 (n10).toNat = 1 := kLe f44.1.1 ck_2 rfl
  have ck_4 : hK H7 (n10).toNat = 1 := kLe f50.1.1 ck_3 rfl
  have ck_5 : hK H8 (n10).toNat = 1 := kLe f52.1.1 ck_4 rfl
  have s0 := PF_fr f20.1.1 f20.1.2.1 (by decide +kernel) kz
  have a0 : absC H2 = (absC H1) := s0.1
  have v0 : vwC H2 = vwC H0 := (vwC_fr f20.1.2.1 (by decide +kernel)).trans vz
  have u0 := CU_fr f20.1.1 f20.1.2.1 (by decide +kernel) cz
  have d0 := BI_fr f20.1.1 f20.1.2.1 (by decide +kernel) bz
  have j0 : BLc H2 = BLc H0 := d0.2.trans blz
  have s1 := PF_fr f25.1.1 f25.1.2.1 (by decide +kernel) s0.2.2
  have a1 : absC H3 = (absC H1) := s1.1.trans a0
  have v1 : vwC H3 = vwC H0 := (vwC_fr f25.1.2.1 (by decide +kernel)).trans v0
  have u1 := CU_fr f25.1.1 f25.1.2.1 (by decide +kernel) u0
  have d1 := BI_fr f25.1.1 f25.1.2.1 (by decide +kernel) d0.1
  have j1 : BLc H3 = BLc H0 := d1.2.trans j0
  have s2 := PF_fr f39.1.1 f39.1.2.1 (by decide +kernel) s1.2.2
  have a2 : absC H4 = (absC H1) := s2.1.trans a1
  have v2 : vwC H4 = vwC H0 := (vwC_fr f39.1.2.1 (by decide +kernel)).trans v1
  have u2 := CU_fr f39.1.1 f39.1.2.1 (by decide +kernel) u1
  have d2 := BI_fr f39.1.1 f39.1.2.1 (by decide +kernel) d1.1
  have j2 : BLc H4 = BLc H0 := d2.2.trans j1
  have s3 := PF_fr f40.1.1 f40.1.2.1 (by decide +kernel) s2.2.2
  have a3 : absC H5 = (absC H1) := s3.1.trans a2
  have v3 : vwC H5 = vwC H0 := (vwC_fr f40.1.2.1 (by decide +kernel)).trans v2
  have u3 := CU_fr f40.1.1 f40.1.2.1 (by decide +kernel) u2
  have d3 := BI_fr f40.1.1 f40.1.2.1 (by decide +kernel) d2.1
  have j3 : BLc H5 = BLc H0 := d3.2.trans j2
  have c4 := f44.2
  unfold postb_66v at c4
  rw [v3] at c4
  rw [a3] at c4
  have a4 : absC H6 = (ptk (vwC H0) n17 (absC H1)) := c4.2
  have v4 : vwC H6 = vwC H0 := (vwC_fr f44.1.2.1 (by decide +kernel)).trans v3
  have u4 := CU_fr f44.1.1 f44.1.2.1 (by decide +kernel) u3
  have d4 := BI_fr f44.1.1 f44.1.2.1 (by decide +kernel) d3.1
  have j4 : BLc H6 = BLc H0 := d4.2.trans j3
  have c5 := f50.2
  unfold postb_78v at c5
  rw [v4] at c5
  rw [a4] at c5
  have a5 : absC H7 = (pTaps (vwC H0) (ptk (vwC H0) n17 (absC H1))) := c5.2
  have v5 : vwC H7 = vwC H0 := (vwC_fr f50.1.2.1 (by decide +kernel)).trans v4
  have u5 := CU_fr f50.1.1 f50.1.2.1 (by decide +kernel) u4
  have d5 := BI_fr f50.1.1 f50.1.2.1 (by decide +kernel) d4.1
  have j5 : BLc H7 = BLc H0 := d5.2.trans j4
  have c6 := f52.2
  unfold postb_66v at c6
  try rw [f51] at c6
  rw [v5] at c6
  rw [a5] at c6
  have a6 : absC H8 = (ptk (vwC H0) 4 (pTaps (vwC H0) (ptk (vwC H0) n17 (absC H1)))) := c6.2
  have v6 : vwC H8 = vwC H0 := (vwC_fr f52.1.2.1 (by decide +kernel)).trans v5
  have u6 := CU_fr f52.1.1 f52.1.2.1 (by decide +kernel) u5
  have d6 := BI_fr f52.1.1 f52.1.2.1 (by decide +kernel) d5.1
  have j6 : BLc H8 = BLc H0 := d6.2.trans j5
  have y2 := pz.2.1.2.1
  have y3 := pz.2.1.2.2.1
  have wq31 := f31
  unfold w32 at wq31
  have wq53 := f53
  unfold w32 at wq53
  have wq61 := f61
  unfold w32 at wq61
  have wq62 := f62
  unfold w32 at wq62
  have g5 := Option.some.inj f8.2.2
  unfold mub_72v_6 at g5
  unfold Ab_72v_6 mub_72v_6
  have t13 : hV H8 30 13 = hV H1 30 13 := (f52.1.2.1.1 30 13 (by decide +kernel)).trans ((f50.1.2.1.1 30 13 (by decide +kernel)).trans ((f44.1.2.1.1 30 13 (by decide +kernel)).trans ((f40.1.2.1.1 30 13 (by decide +kernel)).trans ((f39.1.2.1.1 30 13 (by decide +kernel)).trans ((f25.1.2.1.1 30 13 (by decide +kernel)).trans (f20.1.2.1.1 30 13 (by decide +kernel)))))))
  have t48 : hV H8 48 = hV H1 48 := (fRow f52.1.2.1 48 (by decide +kernel)).trans ((fRow f50.1.2.1 48 (by decide +kernel)).trans ((fRow f44.1.2.1 48 (by decide +kernel)).trans ((fRow f40.1.2.1 48 (by decide +kernel)).trans ((fRow f39.1.2.1 48 (by decide +kernel)).trans ((fRow f25.1.2.1 48 (by decide +kernel)).trans (fRow f20.1.2.1 48 (by decide +kernel)))))))
  have hk : (vwC H0).1 (absC H1).1 = hV H1 30 2 := by
    have u := (kd_at kz).resolve_left (by have := absC_pos kz (by omega); omega)
    rw [vz] at u
    exact u
  have pr := f40.2
  unfold postb_24v at pr
  have ka0_0 : hK H6 (n10).toNat = 1 := kLe f44.1.1 ck_2 rfl
  have kq0 : n18 = hV H5 (n10).toNat 0 := f48.trans (f44.1.2.1.2.2 _ 1 ck_2 rfl 0 (by decide +kernel))
  have ka1_0 : hK H6 (n10).toNat = 1 := kLe f44.1.1 ck_2 rfl
  have ka1_1 : hK H7 (n10).toNat = 1 := kLe f50.1.1 ka1_0 rfl
  have ka1_2 : hK H8 (n10).toNat = 1 := kLe f52.1.1 ka1_1 rfl
  have kq1 : n21 = hV H5 (n10).toNat 0 := f57.trans ((f52.1.2.1.2.2 _ 1 ka1_1 rfl 0 (by decide +kernel)).trans ((f50.1.2.1.2.2 _ 1 ka1_0 rfl 0 (by decide +kernel)).trans (f44.1.2.1.2.2 _ 1 ck_2 rfl 0 (by decide +kernel))))
  have rz0 := f29
  rw [f6] at rz0
  rw [show ((30 : Int)).toNat = 30 from rfl] at rz0
  have tz0 : hV H3 30 2 = hV H1 30 2 := (f25.1.2.1.1 30 2 (by decide +kernel)).trans (f20.1.2.1.1 30 2 (by decide +kernel))
  have rz1 := f43
  rw [f6] at rz1
  rw [show ((30 : Int)).toNat = 30 from rfl] at rz1
  have tz1 : hV H5 30 2 = hV H1 30 2 := (f40.1.2.1.1 30 2 (by decide +kernel)).trans ((f39.1.2.1.1 30 2 (by decide +kernel)).trans ((f25.1.2.1.1 30 2 (by decide +kernel)).trans (f20.1.2.1.1 30 2 (by decide +kernel))))
  have pr1 := pr.1
  have k2 : hV H1 30 2 = 23 := by omega
  have kt : n17 = 23 := by omega
  have hb : absC H8 = ptk (vwC H0) 4 (pBody (vwC H0) (BLc H0) 23 (ptk (vwC H0) 23 (absC H1))) := by
    rw [pBody_23, ← kt]
    exact a6
  have st := cues_st (bl := BLc H0) pz.1.2.1 (hk.trans k2) (by decide) (by decide) (c := (n2).toNat) (by omega) hb
  have tot : hV H8 30 3 = 0 → ∃ d : Int, n24 = n1 + d ∧ 0 ≤ d ∧ d ≤ gB (hV H0 30 13).toNat ∧ pcap (pcap n1 + pcz (vwC H0) (BLc H0) (absC H1)) = pcap (n1 + d) := fun hf => by
    obtain ⟨w1, w2, w3⟩ := yt (by omega)
    have bb := gB_pos (hV H0 30 13).toNat
    have b16 : n2 * gB (hV H0 30 13).toNat ≤ 16 * gB (hV H0 30 13).toNat := Int.mul_le_mul_of_nonneg_right x116 (by omega)
    have b7 : gB (hV H0 30 13).toNat ≤ gB 6 := gB_mono (by omega)
    have b8 : gB 6 = 16777216 := by decide
    refine ⟨1, by omega, by omega, by omega, ?_⟩
    rw [pcz_1 (by rw [hk]; omega)]
    exact pcap_one w1
  refine ⟨⟨c6.1, d6.1, j6, t13.trans b13, u6, t48.trans b48, by omega, by omega, by omega, by omega, fun w => by have := x13 (by omega); omega, ?_, fun w => ?_⟩, fun q hq => ?_⟩
  · rw [← ya, st, show (n2).toNat + 1 = (n20).toNat by omega]
  · obtain ⟨d, d1, d2, d3, d4⟩ := tot w
    obtain ⟨w1, w2, w3⟩ := yt (by omega)
    have ts := tot_st pz.1.2.1 (hk.trans k2) (by decide) (by decide) (c := (n2).toNat) (by omega) hb d4
    rw [show (n2).toNat + 1 = (n20).toNat by omega, w3] at ts
    refine ⟨by omega, ?_, ?_⟩
    · rw [d1, show n20 = n2 + 1 by omega, Int.add_mul, Int.one_mul]
      omega
    · rw [d1]
      exact ts.symm
  · have g6 := Option.some.inj hq
    subst g6
    first
    | omega
    | lia
theorem c_72v_6_30 {q0 : Nat} : vOkm T0 (eP e_72v L_72v A_72v mu_72v (some q0)) 1 ([(10, [25, 4], [], 1), (1, [24, 3, 23], [], 0), (0, [23], [], 1), (41, [21, 22], [], 0), (0, [22], [], 5), (20, [21, 10], [8], 0), (23, [10], [8], 1), (90, [21], [], -2147483648), (91, [21], [], 2147483647), (10, [20, 2], [], 1), (1066, [1, 19], [7, 8], 0), (0, [19], [], 4), (1078, [1, 10], [6, 7], 0), (0, [18], [], 3), (20, [18, 10], [6], 0), (23, [10], [6], 1), (90, [18], [], -2147483648), (91, [18], [], 2147483647), (1066, [1, 17], [5, 6], 0), (20, [17, 1], [5], 2), (90, [17], [], -2147483648), (91, [17], [], 2147483647), (1024, [10, 13, 16], [4, 5], 0), (1124, [16, 14, 15], [3, 4], 0), (90, [16], [], -2147483648), (91, [16], [], 2147483647), (20, [15, 1], [3], 1), (90, [15], [], -2147483648), (91, [15], [], 2147483647), (20, [14, 1], [3], 0), (0, [14], [], 31), (2, [13, 11, 12], [], 0), (0, [12], [], 20), (20, [11, 1], [3], 2), (90, [11], [], -2147483648), (91, [11], [], 2147483647), (51, [10], [], 0), (1074, [10, 1, 9, 2], [2, 3], 0), (20, [9, 1], [2], 13), (90, [9], [], -2147483648), (91, [9], [], 2147483647), (31, [8], [], 0), (1073, [8, 7], [1, 2], 0), (90, [8], [], 0), (91, [8], [], 1), (20, [7, 1], [1], 2), (90, [7], [], -2147483648), (91, [7], [], 2147483647), (30, [6], [], 0), (20, [6, 1], [1], 3), (90, [6], [], -2147483648), (91, [6], [], 2147483647), (45, [4, 5], [], 0), (0, [5], [], 16), (5000, [0, 1, 2, 3, 4], [0, 1], 6), (0, [0], [], 30), (0, [1], [], 30), (90, [2], [], -2147483648), (91, [2], [], 2147483647), (90, [3], [], -2147483648), (91, [3], [], 2147483647), (90, [4], [], -2147483648), (91, [4], [], 2147483647)], (4000, [1, 20, 24, 25], [8], 6)) := vOk_in fun ρ η h => by
  obtain ⟨f0, f1, f2, f3, f4, f5, f6, f7, f8, f9, f10, f11, f12, f13, f14, f15, f16, f17, f18, f19, f20, f21, f22, f23, f24, f25, f26, f27, f28, f29, f30, f31, f32, f33, f34, f35, f36, f37, f38, f39, f40, f41, f42, f43, f44, f45, f46, f47, f48, f49, f50, f51, f52, f53, f54, f55, f56, f57, f58, f59, f60, f61, f62, _⟩ := h
  exact q_72v_31 (q0 := q0) (n0 := ρ 4) (n1 := ρ 3) (n2 := ρ 2) (n3 := ρ 1) (n4 := ρ 0) (n5 := ρ 5) (n6 := ρ 6) (n7 := ρ 7) (n8 := ρ 8) (n9 := ρ 9) (n10 := ρ 10) (n11 := ρ 11) (n12 := ρ 12) (n13 := ρ 13) (n14 := ρ 14) (n15 := ρ 15) (n16 := ρ 16) (n17 := ρ 17) (n18 := ρ 18) (n19 := ρ 19) (n20 := ρ 20) (n21 := ρ 21) (n22 := ρ 22) (n23 := ρ 23) (n24 := ρ 24) (n25 := ρ 25) (H0 := η 0) (H1 := η 1) (H2 := η 2) (H3 := η 3) (H4 := η 4) (H5 := η 5) (H6 := η 6) (H7 := η 7) (H8 := η 8) f62 f61 f60 f59 f58 f57 f56 f55 f54 f53 f52 f51 f50 f49 f48 f47 f46 f45 f44 f43 f42 f41 f40 f39 f38 f37 f36 f35 f34 f33 f32 f31 f30 f29 f28 f27 f26 f25 f24 f23 f22 f21 f20 f19 f18 f17 f16 f15 f14 f13 f12 f11 f10 f9 f8 f7 f6 f5 f4 f3 f2 f1 f0
theorem q_72v_32 {q0 : Nat} {n0 n1 n2 n3 n4 n5 n6 n7 n8 n9 n10 n11 n12 n13 n14 n15 n16 n17 n18 n19 n20 n21 n22 n23 n24 n25 n26 n27 : Int} {H0 H1 H2 H3 H4 H5 H6 H7 H8 H9 : gH} (f0 : n0 ≤ 2147483647) (f1 : (-2147483648) ≤ n0) (f2 : n1 ≤ 2147483647) (f3 : (-2147483648) ≤ n1) (f4 : n2 ≤ 2147483647) (f5 : (-2147483648) ≤ n2) (f6 : n3 = 30) (f7 : n4 = 30) (f8 : (hLe T0 H0 H1 ∧ hFr s_72v.2.2.2.2 H0 H1 ∧ hWt T0 H1) ∧ (Ab_72v_6 n4 n3 n2 n1 n0 H0 H1 ∧ preb_72v n4 H0) ∧ some q0 = some (mub_72v_6 n4 n3 n2 n1 n0 H0 H1)) (f9 : n5 = 16) (f10 : n0 ≤ n5) (f11 : n6 ≤ 2147483647) (f12 : (-2147483648) ≤ n6) (f13 : n6 = hV H1 (n3).toNat 3) (f14 : n6 = 0) (f15 : n7 ≤ 2147483647) (f16 : (-2147483648) ≤ n7) (f17 : n7 = hV H1 (n3).toNat 2) (f18 : n8 ≤ 1) (f19 : 0 ≤ n8) (f20 : (hLe T0 H1 H2 ∧ hFr s_73v.2.2.2.2 H1 H2 ∧ ((0 : Int) = 0 → H2.length = H1.length) ∧ hWt T0 H2) ∧ postb_73v n8 n7 H1 H2) (f21 : n8 ≠ 0) (f22 : n9 ≤ 2147483647) (f23 : (-2147483648) ≤ n9) (f24 : n9 = hV H2 (n3).toNat 13) (f25 : (hLe T0 H2 H3 ∧ hFr s_74v.2.2.2.2 H2 H3 ∧ ((0 : Int) = 0 → H3.length = H2.length) ∧ hWt T0 H3) ∧ postb_74v n10 n3 n9 n2 H2 H3) (f26 : 0 ≤ n10) (f27 : n11 ≤ 2147483647) (f28 : (-2147483648) ≤ n11) (f29 : n11 = hV H3 (n3).toNat 2) (f30 : n12 = 20) (f31 : n13 = w32 (n11 - n12)) (f32 : n14 = 31) (f33 : n14 = hV H3 (n3).toNat 0) (f34 : n15 ≤ 2147483647) (f35 : (-2147483648) ≤ n15) (f36 : n15 = hV H3 (n3).toNat 1) (f37 : n16 ≤ 2147483647) (f38 : (-2147483648) ≤ n16) (f39 : (hLe T0 H3 H4 ∧ hFr s_124.2.2.2.2 H3 H4 ∧ ((0 : Int) = 0 → H4.length = H3.length) ∧ hWt T0 H4) ∧ True) (f40 : (hLe T0 H4 H5 ∧ hFr s_24v.2.2.2.2 H4 H5 ∧ ((0 : Int) = 0 → H5.length = H4.length) ∧ hWt T0 H5) ∧ postb_24v n10 n13 n16 H4 H5) (f41 : n17 ≤ 2147483647) (f42 : (-2147483648) ≤ n17) (f43 : n17 = hV H5 (n3).toNat 2) (f44 : (hLe T0 H5 H6 ∧ hFr s_66v.2.2.2.2 H5 H6 ∧ ((0 : Int) = 0 → H6.length = H5.length) ∧ hWt T0 H6) ∧ postb_66v n3 n17 H5 H6) (f45 : n18 ≤ 2147483647) (f46 : (-2147483648) ≤ n18) (f47 : hK H6 (n10).toNat = 1) (f48 : n18 = hV H6 (n10).toNat 0) (f49 : n18 = 3) (f50 : (hLe T0 H6 H7 ∧ hFr s_78v.2.2.2.2 H6 H7 ∧ ((0 : Int) = 0 → H7.length = H6.length) ∧ hWt T0 H7) ∧ postb_78v n3 n10 H6 H7) (f51 : n19 = 4) (f52 : (hLe T0 H7 H8 ∧ hFr s_66v.2.2.2.2 H7 H8 ∧ ((0 : Int) = 0 → H8.length = H7.length) ∧ hWt T0 H8) ∧ postb_66v n3 n19 H7 H8) (f53 : n20 = w32 (n2 + 1)) (f54 : n21 ≤ 2147483647) (f55 : (-2147483648) ≤ n21) (f56 : hK H8 (n10).toNat = 1) (f57 : n21 = hV H8 (n10).toNat 0) (f58 : n22 = 5) (f59 : n21 = n22) (f60 : n23 = 47) (f61 : n23 = hV H8 (n3).toNat 11) (f62 : n24 ≤ 2147483647) (f63 : (-2147483648) ≤ n24) (f64 : hK H8 (n10).toNat = 1) (f65 : n24 = hV H8 (n10).toNat 2) (f66 : n25 ≤ 2147483647) (f67 : (-2147483648) ≤ n25) (f68 : (hLe T0 H8 H9 ∧ hFr s_199vk740.2.2.2.2 H8 H9 ∧ ((0 : Int) = 0 → H9.length = H8.length) ∧ hWt T0 H9) ∧ postb_199vk740 n25 n23 n24 H8 H9) (f69 : n26 = w32 (n1 + n25)) (f70 : n27 = w32 (n0 + 1)) : Ab_72v_6 n4 n3 n20 n26 n27 H0 H9 ∧ ∀ q, some q0 = some q → mub_72v_6 n4 n3 n20 n26 n27 H0 H9 < q := by
  have pz := f8.2.1.2
  unfold preb_72v at pz
  have ga := f8.2.1.1
  unfold Ab_72v_6 at ga
  have vz : vwC H1 = vwC H0 := vwC_fr f8.1.2.1 (by decide +kernel)
  obtain ⟨kz, bz, blz, b13, cz, b48, x10, x116, x30, x317, x13, ya, yt⟩ := ga
  have r3 := f13
  rw [f6] at r3
  rw [show ((30 : Int)).toNat = 30 from rfl] at r3
  have r2 := f17
  rw [f6] at r2
  rw [show ((30 : Int)).toNat = 30 from rfl] at r2
  have pc := f20.2
  unfold postb_73v at pc
  have cq := f25.2
  unfold postb_74v at cq
  have cq2 := cq.2
  have ck_0 := (cq.1 (by omega)).2
  have ck_1 : hK H4 (n10).toNat = 1 := kLe f39.1.1 ck_0 rfl
  have ck_2 : hK H5 (n10).toNat = 1 := kLe f40.1.1 ck_1 rfl
  have ck_3 : hK H6 (n10).toNat = 1 := kLe f44.1.1 ck_2 rfl
  have ck_4 : hK H7 (n10).toNat = 1 := kLe f50.1.1 ck_3 rfl
  have ck_5 : hK H8 (n10).toNat = 1 := kLe f52.1.1 ck_4 rfl
  have ck_6 : hK H9 (n10).toNat = 1 := kLe f68.1.1 ck_5 rfl
  have s0 := PF_fr f20.1.1 f20.1.2.1 (by decide +kernel) kz
  have a0 : absC H2 = (absC H1) := s0.1
  have v0 : vwC H2 = vwC H0 := (vwC_fr f20.1.2.1 (by decide +kernel)).trans vz
  have u0 := CU_fr f20.1.1 f20.1.2.1 (by decide +kernel) cz
  have d0 := BI_fr f20.1.1 f20.1.2.1 (by decide +kernel) bz
  have j0 : BLc H2 = BLc H0 := d0.2.trans blz
  have s1 := PF_fr f25.1.1 f25.1.2.1 (by decide +kernel) s0.2.2
  have a1 : absC H3 = (absC H1) := s1.1.trans a0
  have v1 : vwC H3 = vwC H0 := (vwC_fr f25.1.2.1 (by decide +kernel)).trans v0
  have u1 := CU_fr f25.1.1 f25.1.2.1 (by decide +kernel) u0
  have d1 := BI_fr f25.1.1 f25.1.2.1 (by decide +kernel) d0.1
  have j1 : BLc H3 = BLc H0 := d1.2.trans j0
  have s2 := PF_fr f39.1.1 f39.1.2.1 (by decide +kernel) s1.2.2
  have a2 : absC H4 = (absC H1) := s2.1.trans a1
  have v2 : vwC H4 = vwC H0 := (vwC_fr f39.1.2.1 (by decide +kernel)).trans v1
  have u2 := CU_fr f39.1.1 f39.1.2.1 (by decide +kernel) u1
  have d2 := BI_fr f39.1.1 f39.1.2.1 (by decide +kernel) d1.1
  have j2 : BLc H4 = BLc H0 := d2.2.trans j1
  have s3 := PF_fr f40.1.1 f40.1.2.1 (by decide +kernel) s2.2.2
  have a3 : absC H5 = (absC H1) := s3.1.trans a2
  have v3 : vwC H5 = vwC H0 := (vwC_fr f40.1.2.1 (by decide +kernel)).trans v2
  have u3 := CU_fr f40.1.1 f40.1.2.1 (by decide +kernel) u2
  have d3 := BI_fr f40.1.1 f40.1.2.1 (by decide +kernel) d2.1
  have j3 : BLc H5 = BLc H0 := d3.2.trans j2
  have c4 := f44.2
  unfold postb_66v at c4
  rw [v3] at c4
  rw [a3] at c4
  have a4 : absC H6 = (ptk (vwC H0) n17 (absC H1)) := c4.2
  have v4 : vwC H6 = vwC H0 := (vwC_fr f44.1.2.1 (by decide +kernel)).trans v3
  have u4 := CU_fr f44.1.1 f44.1.2.1 (by decide +kernel) u3
  have d4 := BI_fr f44.1.1 f44.1.2.1 (by decide +kernel) d3.1
  have j4 : BLc H6 = BLc H0 := d4.2.trans j3
  have c5 := f50.2
  unfold postb_78v at c5
  rw [v4] at c5
  rw [a4] at c5
  have a5 : absC H7 = (pTaps (vwC H0) (ptk (vwC H0) n17 (absC H1))) := c5.2
  have v5 : vwC H7 = vwC H0 := (vwC_fr f50.1.2.1 (by decide +kernel)).trans v4
  have u5 := CU_fr f50.1.1 f50.1.2.1 (by decide +kernel) u4
  have d5 := BI_fr f50.1.1 f50.1.2.1 (by decide +kernel) d4.1
  have j5 : BLc H7 = BLc H0 := d5.2.trans j4
  have c6 := f52.2
  unfold postb_66v at c6
  try rw [f51] at c6
  rw [v5] at c6
  rw [a5] at c6
  have a6 : absC H8 = (ptk (vwC H0) 4 (pTaps (vwC H0) (ptk (vwC H0) n17 (absC H1)))) := c6.2
  have v6 : vwC H8 = vwC H0 := (vwC_fr f52.1.2.1 (by decide +kernel)).trans v5
  have u6 := CU_fr f52.1.1 f52.1.2.1 (by decide +kernel) u5
  have d6 := BI_fr f52.1.1 f52.1.2.1 (by decide +kernel) d5.1
  have j6 : BLc H8 = BLc H0 := d6.2.trans j5
  have s7 := PF_fr f68.1.1 f68.1.2.1 (by decide +kernel) c6.1
  have a7 : absC H9 = (ptk (vwC H0) 4 (pTaps (vwC H0) (ptk (vwC H0) n17 (absC H1)))) := s7.1.trans a6
  have v7 : vwC H9 = vwC H0 := (vwC_fr f68.1.2.1 (by decide +kernel)).trans v6
  have u7 := CU_fr f68.1.1 f68.1.2.1 (by decide +kernel) u6
  have d7 := BI_fr f68.1.1 f68.1.2.1 (by decide +kernel) d6.1
  have j7 : BLc H9 = BLc H0 := d7.2.trans j6
  have y2 := pz.2.1.2.1
  have y3 := pz.2.1.2.2.1
  have wq31 := f31
  unfold w32 at wq31
  have wq53 := f53
  unfold w32 at wq53
  have wq69 := f69
  unfold w32 at wq69
  have wq70 := f70
  unfold w32 at wq70
  have g5 := Option.some.inj f8.2.2
  unfold mub_72v_6 at g5
  unfold Ab_72v_6 mub_72v_6
  have t13 : hV H9 30 13 = hV H1 30 13 := (f68.1.2.1.1 30 13 (by decide +kernel)).trans ((f52.1.2.1.1 30 13 (by decide +kernel)).trans ((f50.1.2.1.1 30 13 (by decide +kernel)).trans ((f44.1.2.1.1 30 13 (by decide +kernel)).trans ((f40.1.2.1.1 30 13 (by decide +kernel)).trans ((f39.1.2.1.1 30 13 (by decide +kernel)).trans ((f25.1.2.1.1 30 13 (by decide +kernel)).trans (f20.1.2.1.1 30 13 (by decide +kernel))))))))
  have t48 : hV H9 48 = hV H1 48 := (fRow f68.1.2.1 48 (by decide +kernel)).trans ((fRow f52.1.2.1 48 (by decide +kernel)).trans ((fRow f50.1.2.1 48 (by decide +kernel)).trans ((fRow f44.1.2.1 48 (by decide +kernel)).trans ((fRow f40.1.2.1 48 (by decide +kernel)).trans ((fRow f39.1.2.1 48 (by decide +kernel)).trans ((fRow f25.1.2.1 48 (by decide +kernel)).trans (fRow f20.1.2.1 48 (by decide +kernel))))))))
  have hk : (vwC H0).1 (absC H1).1 = hV H1 30 2 := by
    have u := (kd_at kz).resolve_left (by have := absC_pos kz (by omega); omega)
    rw [vz] at u
    exact u
  have pr := f40.2
  unfold postb_24v at pr
  have ka0_0 : hK H6 (n10).toNat = 1 := kLe f44.1.1 ck_2 rfl
  have kq0 : n18 = hV H5 (n10).toNat 0 := f48.trans (f44.1.2.1.2.2 _ 1 ck_2 rfl 0 (by decide +kernel))
  have ka1_0 : hK H6 (n10).toNat = 1 := kLe f44.1.1 ck_2 rfl
  have ka1_1 : hK H7 (n10).toNat = 1 := kLe f50.1.1 ka1_0 rfl
  have ka1_2 : hK H8 (n10).toNat = 1 := kLe f52.1.1 ka1_1 rfl
  have kq1 : n21 = hV H5 (n10).toNat 0 := f57.trans ((f52.1.2.1.2.2 _ 1 ka1_1 rfl 0 (by decide +kernel)).trans ((f50.1.2.1.2.2 _ 1 ka1_0 rfl 0 (by decide +kernel)).trans (f44.1.2.1.2.2 _ 1 ck_2 rfl 0 (by decide +kernel))))
  have rz0 := f29
  rw [f6] at rz0
  rw [show ((30 : Int)).toNat = 30 from rfl] at rz0
  have tz0 : hV H3 30 2 = hV H1 30 2 := (f25.1.2.1.1 30 2 (by decide +kernel)).trans (f20.1.2.1.1 30 2 (by decide +kernel))
  have rz1 := f43
  rw [f6] at rz1
  rw [show ((30 : Int)).toNat = 30 from rfl] at rz1
  have tz1 : hV H5 30 2 = hV H1 30 2 := (f40.1.2.1.1 30 2 (by decide +kernel)).trans ((f39.1.2.1.1 30 2 (by decide +kernel)).trans ((f25.1.2.1.1 30 2 (by decide +kernel)).trans (f20.1.2.1.1 30 2 (by decide +kernel))))
  have pr1 := pr.1
  exfalso
  omega
theorem c_72v_6_31 {q0 : Nat} : vOkm T0 (eP e_72v L_72v A_72v mu_72v (some q0)) 1 ([(10, [27, 4], [], 1), (1, [26, 3, 25], [], 0), (1199, [25, 23, 24], [8, 9], 0), (90, [25], [], -2147483648), (91, [25], [], 2147483647), (20, [24, 10], [8], 2), (23, [10], [8], 1), (90, [24], [], -2147483648), (91, [24], [], 2147483647), (20, [23, 1], [8], 11), (0, [23], [], 47), (40, [21, 22], [], 0), (0, [22], [], 5), (20, [21, 10], [8], 0), (23, [10], [8], 1), (90, [21], [], -2147483648), (91, [21], [], 2147483647), (10, [20, 2], [], 1), (1066, [1, 19], [7, 8], 0), (0, [19], [], 4), (1078, [1, 10], [6, 7], 0), (0, [18], [], 3), (20, [18, 10], [6], 0), (23, [10], [6], 1), (90, [18], [], -2147483648), (91, [18], [], 2147483647), (1066, [1, 17], [5, 6], 0), (20, [17, 1], [5], 2), (90, [17], [], -2147483648), (91, [17], [], 2147483647), (1024, [10, 13, 16], [4, 5], 0), (1124, [16, 14, 15], [3, 4], 0), (90, [16], [], -2147483648), (91, [16], [], 2147483647), (20, [15, 1], [3], 1), (90, [15], [], -2147483648), (91, [15], [], 2147483647), (20, [14, 1], [3], 0), (0, [14], [], 31), (2, [13, 11, 12], [], 0), (0, [12], [], 20), (20, [11, 1], [3], 2), (90, [11], [], -2147483648), (91, [11], [], 2147483647), (51, [10], [], 0), (1074, [10, 1, 9, 2], [2, 3], 0), (20, [9, 1], [2], 13), (90, [9], [], -2147483648), (91, [9], [], 2147483647), (31, [8], [], 0), (1073, [8, 7], [1, 2], 0), (90, [8], [], 0), (91, [8], [], 1), (20, [7, 1], [1], 2), (90, [7], [], -2147483648), (91, [7], [], 2147483647), (30, [6], [], 0), (20, [6, 1], [1], 3), (90, [6], [], -2147483648), (91, [6], [], 2147483647), (45, [4, 5], [], 0), (0, [5], [], 16), (5000, [0, 1, 2, 3, 4], [0, 1], 6), (0, [0], [], 30), (0, [1], [], 30), (90, [2], [], -2147483648), (91, [2], [], 2147483647), (90, [3], [], -2147483648), (91, [3], [], 2147483647), (90, [4], [], -2147483648), (91, [4], [], 2147483647)], (4000, [1, 20, 26, 27], [9], 6)) := vOk_in fun ρ η h => by
  obtain ⟨f0, f1, f2, f3, f4, f5, f6, f7, f8, f9, f10, f11, f12, f13, f14, f15, f16, f17, f18, f19, f20, f21, f22, f23, f24, f25, f26, f27, f28, f29, f30, f31, f32, f33, f34, f35, f36, f37, f38, f39, f40, f41, f42, f43, f44, f45, f46, f47, f48, f49, f50, f51, f52, f53, f54, f55, f56, f57, f58, f59, f60, f61, f62, f63, f64, f65, f66, f67, f68, f69, f70, _⟩ := h
  exact q_72v_32 (q0 := q0) (n0 := ρ 4) (n1 := ρ 3) (n2 := ρ 2) (n3 := ρ 1) (n4 := ρ 0) (n5 := ρ 5) (n6 := ρ 6) (n7 := ρ 7) (n8 := ρ 8) (n9 := ρ 9) (n10 := ρ 10) (n11 := ρ 11) (n12 := ρ 12) (n13 := ρ 13) (n14 := ρ 14) (n15 := ρ 15) (n16 := ρ 16) (n17 := ρ 17) (n18 := ρ 18) (n19 := ρ 19) (n20 := ρ 20) (n21 := ρ 21) (n22 := ρ 22) (n23 := ρ 23) (n24 := ρ 24) (n25 := ρ 25) (n26 := ρ 26) (n27 := ρ 27) (H0 := η 0) (H1 := η 1) (H2 := η 2) (H3 := η 3) (H4 := η 4) (H5 := η 5) (H6 := η 6) (H7 := η 7) (H8 := η 8) (H9 := η 9) f70 f69 f68 f67 f66 f65 f64 f63 f62 f61 f60 f59 f58 f57 f56 f55 f54 f53 f52 f51 f50 f49 f48 f47 f46 f45 f44 f43 f42 f41 f40 f39 f38 f37 f36 f35 f34 f33 f32 f31 f30 f29 f28 f27 f26 f25 f24 f23 f22 f21 f20 f19 f18 f17 f16 f15 f14 f13 f12 f11 f10 f9 f8 f7 f6 f5 f4 f3 f2 f1 f0
theorem q_72v_33 {q0 : Nat} {n0 n1 n2 n3 n4 n5 n6 n7 n8 n9 n10 n11 n12 n13 n14 n15 n16 n17 n18 n19 n20 : Int} {H0 H1 H2 H3 H4 H5 H6 : gH} (f0 : n0 ≤ 2147483647) (f1 : (-2147483648) ≤ n0) (f2 : n1 ≤ 2147483647) (f3 : (-2147483648) ≤ n1) (f4 : n2 ≤ 2147483647) (f5 : (-2147483648) ≤ n2) (f6 : n3 = 30) (f7 : n4 = 30) (f8 : (hLe T0 H0 H1 ∧ hFr s_72v.2.2.2.2 H0 H1 ∧ hWt T0 H1) ∧ (Ab_72v_6 n4 n3 n2 n1 n0 H0 H1 ∧ preb_72v n4 H0) ∧ some q0 = some (mub_72v_6 n4 n3 n2 n1 n0 H0 H1)) (f9 : n5 = 16) (f10 : n0 ≤ n5) (f11 : n6 ≤ 2147483647) (f12 : (-2147483648) ≤ n6) (f13 : n6 = hV H1 (n3).toNat 3) (f14 : n6 = 0) (f15 : n7 ≤ 2147483647) (f16 : (-2147483648) ≤ n7) (f17 : n7 = hV H1 (n3).toNat 2) (f18 : n8 ≤ 1) (f19 : 0 ≤ n8) (f20 : (hLe T0 H1 H2 ∧ hFr s_73v.2.2.2.2 H1 H2 ∧ ((0 : Int) = 0 → H2.length = H1.length) ∧ hWt T0 H2) ∧ postb_73v n8 n7 H1 H2) (f21 : n8 ≠ 0) (f22 : n9 ≤ 2147483647) (f23 : (-2147483648) ≤ n9) (f24 : n9 = hV H2 (n3).toNat 13) (f25 : (hLe T0 H2 H3 ∧ hFr s_74v.2.2.2.2 H2 H3 ∧ ((0 : Int) = 0 → H3.length = H2.length) ∧ hWt T0 H3) ∧ postb_74v n10 n3 n9 n2 H2 H3) (f26 : 0 ≤ n10) (f27 : n11 ≤ 2147483647) (f28 : (-2147483648) ≤ n11) (f29 : n11 = hV H3 (n3).toNat 2) (f30 : n12 = 20) (f31 : n13 = w32 (n11 - n12)) (f32 : n14 = 31) (f33 : n14 = hV H3 (n3).toNat 0) (f34 : n15 ≤ 2147483647) (f35 : (-2147483648) ≤ n15) (f36 : n15 = hV H3 (n3).toNat 1) (f37 : n16 ≤ 2147483647) (f38 : (-2147483648) ≤ n16) (f39 : (hLe T0 H3 H4 ∧ hFr s_124.2.2.2.2 H3 H4 ∧ ((0 : Int) = 0 → H4.length = H3.length) ∧ hWt T0 H4) ∧ True) (f40 : (hLe T0 H4 H5 ∧ hFr s_24v.2.2.2.2 H4 H5 ∧ ((0 : Int) = 0 → H5.length = H4.length) ∧ hWt T0 H5) ∧ postb_24v n10 n13 n16 H4 H5) (f41 : n17 ≤ 2147483647) (f42 : (-2147483648) ≤ n17) (f43 : n17 = hV H5 (n3).toNat 2) (f44 : (hLe T0 H5 H6 ∧ hFr s_66v.2.2.2.2 H5 H6 ∧ ((0 : Int) = 0 → H6.length = H5.length) ∧ hWt T0 H6) ∧ postb_66v n3 n17 H5 H6) (f45 : n18 ≤ 2147483647) (f46 : (-2147483648) ≤ n18) (f47 : hK H6 (n10).toNat = 1) (f48 : n18 = hV H6 (n10).toNat 0) (f49 : n18 = 4) (f50 : n19 = 0) (f51 : n20 = 9999) : preb_67v n3 n19 n20 H6 := by
  have pz := f8.2.1.2
  unfold preb_72v at pz
  have ga := f8.2.1.1
  unfold Ab_72v_6 at ga
  have vz : vwC H1 = vwC H0 := vwC_fr f8.1.2.1 (by decide +kernel)
  obtain ⟨kz, bz, blz, b13, cz, b48, x10, x116, x30, x317, x13, ya, yt⟩ := ga
  have r3 := f13
  rw [f6] at r3
  rw [show ((30 : Int)).toNat = 30 from rfl] at r3
  have r2 := f17
  rw [f6] at r2
  rw [show ((30 : Int)).toNat = 30 from rfl] at r2
  have pc := f20.2
  unfold postb_73v at pc
  have cq := f25.2
  unfold postb_74v at cq
  have cq2 := cq.2
  have ck_0 := (cq.1 (by omega)).2
  have ck_1 : hK H4 (n10).toNat = 1 := kLe f39.1.1 ck_0 rfl
  have ck_2 : hK H5 (n10).toNat = 1 := kLe f40.1.1 ck_1 rfl
  have ck_3 : hK H6 (n10).toNat = 1 := kLe f44.1.1 ck_2 rfl
  have s0 := PF_fr f20.1.1 f20.1.2.1 (by decide +kernel) kz
  have a0 : absC H2 = (absC H1) := s0.1
  have v0 : vwC H2 = vwC H0 := (vwC_fr f20.1.2.1 (by decide +kernel)).trans vz
  have u0 := CU_fr f20.1.1 f20.1.2.1 (by decide +kernel) cz
  have d0 := BI_fr f20.1.1 f20.1.2.1 (by decide +kernel) bz
  have j0 : BLc H2 = BLc H0 := d0.2.trans blz
  have s1 := PF_fr f25.1.1 f25.1.2.1 (by decide +kernel) s0.2.2
  have a1 : absC H3 = (absC H1) := s1.1.trans a0
  have v1 : vwC H3 = vwC H0 := (vwC_fr f25.1.2.1 (by decide +kernel)).trans v0
  have u1 := CU_fr f25.1.1 f25.1.2.1 (by decide +kernel) u0
  have d1 := BI_fr f25.1.1 f25.1.2.1 (by decide +kernel) d0.1
  have j1 : BLc H3 = BLc H0 := d1.2.trans j0
  have s2 := PF_fr f39.1.1 f39.1.2.1 (by decide +kernel) s1.2.2
  have a2 : absC H4 = (absC H1) := s2.1.trans a1
  have v2 : vwC H4 = vwC H0 := (vwC_fr f39.1.2.1 (by decide +kernel)).trans v1
  have u2 := CU_fr f39.1.1 f39.1.2.1 (by decide +kernel) u1
  have d2 := BI_fr f39.1.1 f39.1.2.1 (by decide +kernel) d1.1
  have j2 : BLc H4 = BLc H0 := d2.2.trans j1
  have s3 := PF_fr f40.1.1 f40.1.2.1 (by decide +kernel) s2.2.2
  have a3 : absC H5 = (absC H1) := s3.1.trans a2
  have v3 : vwC H5 = vwC H0 := (vwC_fr f40.1.2.1 (by decide +kernel)).trans v2
  have u3 := CU_fr f40.1.1 f40.1.2.1 (by decide +kernel) u2
  have d3 := BI_fr f40.1.1 f40.1.2.1 (by decide +kernel) d2.1
  have j3 : BLc H5 = BLc H0 := d3.2.trans j2
  have c4 := f44.2
  unfold postb_66v at c4
  rw [v3] at c4
  rw [a3] at c4
  have a4 : absC H6 = (ptk (vwC H0) n17 (absC H1)) := c4.2
  have v4 : vwC H6 = vwC H0 := (vwC_fr f44.1.2.1 (by decide +kernel)).trans v3
  have u4 := CU_fr f44.1.1 f44.1.2.1 (by decide +kernel) u3
  have d4 := BI_fr f44.1.1 f44.1.2.1 (by decide +kernel) d3.1
  have j4 : BLc H6 = BLc H0 := d4.2.trans j3
  have pr := f40.2
  unfold postb_24v at pr
  unfold preb_67v
  exact c4.1
theorem c_72v_6_32 {q0 : Nat} : vOkm T0 (eP e_72v L_72v A_72v mu_72v (some q0)) 1 ([(0, [20], [], 9999), (0, [19], [], 0), (0, [18], [], 4), (20, [18, 10], [6], 0), (23, [10], [6], 1), (90, [18], [], -2147483648), (91, [18], [], 2147483647), (1066, [1, 17], [5, 6], 0), (20, [17, 1], [5], 2), (90, [17], [], -2147483648), (91, [17], [], 2147483647), (1024, [10, 13, 16], [4, 5], 0), (1124, [16, 14, 15], [3, 4], 0), (90, [16], [], -2147483648), (91, [16], [], 2147483647), (20, [15, 1], [3], 1), (90, [15], [], -2147483648), (91, [15], [], 2147483647), (20, [14, 1], [3], 0), (0, [14], [], 31), (2, [13, 11, 12], [], 0), (0, [12], [], 20), (20, [11, 1], [3], 2), (90, [11], [], -2147483648), (91, [11], [], 2147483647), (51, [10], [], 0), (1074, [10, 1, 9, 2], [2, 3], 0), (20, [9, 1], [2], 13), (90, [9], [], -2147483648), (91, [9], [], 2147483647), (31, [8], [], 0), (1073, [8, 7], [1, 2], 0), (90, [8], [], 0), (91, [8], [], 1), (20, [7, 1], [1], 2), (90, [7], [], -2147483648), (91, [7], [], 2147483647), (30, [6], [], 0), (20, [6, 1], [1], 3), (90, [6], [], -2147483648), (91, [6], [], 2147483647), (45, [4, 5], [], 0), (0, [5], [], 16), (5000, [0, 1, 2, 3, 4], [0, 1], 6), (0, [0], [], 30), (0, [1], [], 30), (90, [2], [], -2147483648), (91, [2], [], 2147483647), (90, [3], [], -2147483648), (91, [3], [], 2147483647), (90, [4], [], -2147483648), (91, [4], [], 2147483647)], (2067, [1, 19, 20], [6], 0)) := vOk_in fun ρ η h => by
  obtain ⟨f0, f1, f2, f3, f4, f5, f6, f7, f8, f9, f10, f11, f12, f13, f14, f15, f16, f17, f18, f19, f20, f21, f22, f23, f24, f25, f26, f27, f28, f29, f30, f31, f32, f33, f34, f35, f36, f37, f38, f39, f40, f41, f42, f43, f44, f45, f46, f47, f48, f49, f50, f51, _⟩ := h
  exact q_72v_33 (q0 := q0) (n0 := ρ 4) (n1 := ρ 3) (n2 := ρ 2) (n3 := ρ 1) (n4 := ρ 0) (n5 := ρ 5) (n6 := ρ 6) (n7 := ρ 7) (n8 := ρ 8) (n9 := ρ 9) (n10 := ρ 10) (n11 := ρ 11) (n12 := ρ 12) (n13 := ρ 13) (n14 := ρ 14) (n15 := ρ 15) (n16 := ρ 16) (n17 := ρ 17) (n18 := ρ 18) (n19 := ρ 19) (n20 := ρ 20) (H0 := η 0) (H1 := η 1) (H2 := η 2) (H3 := η 3) (H4 := η 4) (H5 := η 5) (H6 := η 6) f51 f50 f49 f48 f47 f46 f45 f44 f43 f42 f41 f40 f39 f38 f37 f36 f35 f34 f33 f32 f31 f30 f29 f28 f27 f26 f25 f24 f23 f22 f21 f20 f19 f18 f17 f16 f15 f14 f13 f12 f11 f10 f9 f8 f7 f6 f5 f4 f3 f2 f1 f0
theorem q_72v_34 {q0 : Nat} {n0 n1 n2 n3 n4 n5 n6 n7 n8 n9 n10 n11 n12 n13 n14 n15 n16 n17 n18 n19 n20 n21 n22 n23 : Int} {H0 H1 H2 H3 H4 H5 H6 H7 H8 : gH} (f0 : n0 ≤ 2147483647) (f1 : (-2147483648) ≤ n0) (f2 : n1 ≤ 2147483647) (f3 : (-2147483648) ≤ n1) (f4 : n2 ≤ 2147483647) (f5 : (-2147483648) ≤ n2) (f6 : n3 = 30) (f7 : n4 = 30) (f8 : (hLe T0 H0 H1 ∧ hFr s_72v.2.2.2.2 H0 H1 ∧ hWt T0 H1) ∧ (Ab_72v_6 n4 n3 n2 n1 n0 H0 H1 ∧ preb_72v n4 H0) ∧ some q0 = some (mub_72v_6 n4 n3 n2 n1 n0 H0 H1)) (f9 : n5 = 16) (f10 : n0 ≤ n5) (f11 : n6 ≤ 2147483647) (f12 : (-2147483648) ≤ n6) (f13 : n6 = hV H1 (n3).toNat 3) (f14 : n6 = 0) (f15 : n7 ≤ 2147483647) (f16 : (-2147483648) ≤ n7) (f17 : n7 = hV H1 (n3).toNat 2) (f18 : n8 ≤ 1) (f19 : 0 ≤ n8) (f20 : (hLe T0 H1 H2 ∧ hFr s_73v.2.2.2.2 H1 H2 ∧ ((0 : Int) = 0 → H2.length = H1.length) ∧ hWt T0 H2) ∧ postb_73v n8 n7 H1 H2) (f21 : n8 ≠ 0) (f22 : n9 ≤ 2147483647) (f23 : (-2147483648) ≤ n9) (f24 : n9 = hV H2 (n3).toNat 13) (f25 : (hLe T0 H2 H3 ∧ hFr s_74v.2.2.2.2 H2 H3 ∧ ((0 : Int) = 0 → H3.length = H2.length) ∧ hWt T0 H3) ∧ postb_74v n10 n3 n9 n2 H2 H3) (f26 : 0 ≤ n10) (f27 : n11 ≤ 2147483647) (f28 : (-2147483648) ≤ n11) (f29 : n11 = hV H3 (n3).toNat 2) (f30 : n12 = 20) (f31 : n13 = w32 (n11 - n12)) (f32 : n14 = 31) (f33 : n14 = hV H3 (n3).toNat 0) (f34 : n15 ≤ 2147483647) (f35 : (-2147483648) ≤ n15) (f36 : n15 = hV H3 (n3).toNat 1) (f37 : n16 ≤ 2147483647) (f38 : (-2147483648) ≤ n16) (f39 : (hLe T0 H3 H4 ∧ hFr s_124.2.2.2.2 H3 H4 ∧ ((0 : Int) = 0 → H4.length = H3.length) ∧ hWt T0 H4) ∧ True) (f40 : (hLe T0 H4 H5 ∧ hFr s_24v.2.2.2.2 H4 H5 ∧ ((0 : Int) = 0 → H5.length = H4.length) ∧ hWt T0 H5) ∧ postb_24v n10 n13 n16 H4 H5) (f41 : n17 ≤ 2147483647) (f42 : (-2147483648) ≤ n17) (f43 : n17 = hV H5 (n3).toNat 2) (f44 : (hLe T0 H5 H6 ∧ hFr s_66v.2.2.2.2 H5 H6 ∧ ((0 : Int) = 0 → H6.length = H5.length) ∧ hWt T0 H6) ∧ postb_66v n3 n17 H5 H6) (f45 : n18 ≤ 2147483647) (f46 : (-2147483648) ≤ n18) (f47 : hK H6 (n10).toNat = 1) (f48 : n18 = hV H6 (n10).toNat 0) (f49 : n18 = 4) (f50 : n19 = 0) (f51 : n20 = 9999) (f52 : n21 ≤ 2147483647) (f53 : (-2147483648) ≤ n21) (f54 : (hLe T0 H6 H7 ∧ hFr s_67v.2.2.2.2 H6 H7 ∧ ((0 : Int) = 0 → H7.length = H6.length) ∧ hWt T0 H7) ∧ postb_67v n21 n3 n19 n20 H6 H7) (f55 : hK H7 (n10).toNat = 1) (f56 : n22 = 2) (f57 : hUpd H8 H7 n10 n22 n21) (f58 : n23 = 4) : preb_66v n3 n23 H8 := by
  have pz := f8.2.1.2
  unfold preb_72v at pz
  have ga := f8.2.1.1
  unfold Ab_72v_6 at ga
  have vz : vwC H1 = vwC H0 := vwC_fr f8.1.2.1 (by decide +kernel)
  obtain ⟨kz, bz, blz, b13, cz, b48, x10, x116, x30, x317, x13, ya, yt⟩ := ga
  have r3 := f13
  rw [f6] at r3
  rw [show ((30 : Int)).toNat = 30 from rfl] at r3
  have r2 := f17
  rw [f6] at r2
  rw [show ((30 : Int)).toNat = 30 from rfl] at r2
  have pc := f20.2
  unfold postb_73v at pc
  have cq := f25.2
  unfold postb_74v at cq
  have cq2 := cq.2
  have ck_0 := (cq.1 (by omega)).2
  have ck_1 : hK H4 (n10).toNat = 1 := kLe f39.1.1 ck_0 rfl
  have ck_2 : hK H5 (n10).toNat = 1 := kLe f40.1.1 ck_1 rfl
  have ck_3 : hK H6 (n10).toNat = 1 := kLe f44.1.1 ck_2 rfl
  have ck_4 : hK H7 (n10).toNat = 1 := kLe f54.1.1 ck_3 rfl
  have ck_5 : hK H8 (n10).toNat = 1 := kUp f57 ck_4
  have s0 := PF_fr f20.1.1 f20.1.2.1 (by decide +kernel) kz
  have a0 : absC H2 = (absC H1) := s0.1
  have v0 : vwC H2 = vwC H0 := (vwC_fr f20.1.2.1 (by decide +kernel)).trans vz
  have u0 := CU_fr f20.1.1 f20.1.2.1 (by decide +kernel) cz
  have d0 := BI_fr f20.1.1 f20.1.2.1 (by decide +kernel) bz
  have j0 : BLc H2 = BLc H0 := d0.2.trans blz
  have s1 := PF_fr f25.1.1 f25.1.2.1 (by decide +kernel) s0.2.2
  have a1 : absC H3 = (absC H1) := s1.1.trans a0
  have v1 : vwC H3 = vwC H0 := (vwC_fr f25.1.2.1 (by decide +kernel)).trans v0
  have u1 := CU_fr f25.1.1 f25.1.2.1 (by decide +kernel) u0
  have d1 := BI_fr f25.1.1 f25.1.2.1 (by decide +kernel) d0.1
  have j1 : BLc H3 = BLc H0 := d1.2.trans j0
  have s2 := PF_fr f39.1.1 f39.1.2.1 (by decide +kernel) s1.2.2
  have a2 : absC H4 = (absC H1) := s2.1.trans a1
  have v2 : vwC H4 = vwC H0 := (vwC_fr f39.1.2.1 (by decide +kernel)).trans v1
  have u2 := CU_fr f39.1.1 f39.1.2.1 (by decide +kernel) u1
  have d2 := BI_fr f39.1.1 f39.1.2.1 (by decide +kernel) d1.1
  have j2 : BLc H4 = BLc H0 := d2.2.trans j1
  have s3 := PF_fr f40.1.1 f40.1.2.1 (by decide +kernel) s2.2.2
  have a3 : absC H5 = (absC H1) := s3.1.trans a2
  have v3 : vwC H5 = vwC H0 := (vwC_fr f40.1.2.1 (by decide +kernel)).trans v2
  have u3 := CU_fr f40.1.1 f40.1.2.1 (by decide +kernel) u2
  have d3 := BI_fr f40.1.1 f40.1.2.1 (by decide +kernel) d2.1
  have j3 : BLc H5 = BLc H0 := d3.2.trans j2
  have c4 := f44.2
  unfold postb_66v at c4
  rw [v3] at c4
  rw [a3] at c4
  have a4 : absC H6 = (ptk (vwC H0) n17 (absC H1)) := c4.2
  have v4 : vwC H6 = vwC H0 := (vwC_fr f44.1.2.1 (by decide +kernel)).trans v3
  have u4 := CU_fr f44.1.1 f44.1.2.1 (by decide +kernel) u3
  have d4 := BI_fr f44.1.1 f44.1.2.1 (by decide +kernel) d3.1
  have j4 : BLc H6 = BLc H0 := d4.2.trans j3
  have c5 := f54.2
  unfold postb_67v at c5
  try rw [f50] at c5
  try rw [f51] at c5
  rw [v4] at c5
  rw [a4] at c5
  have a5 : absC H7 = (pnm (vwC H0) 0 9999 (ptk (vwC H0) n17 (absC H1))) := c5.2
  have v5 : vwC H7 = vwC H0 := (vwC_fr f54.1.2.1 (by decide +kernel)).trans v4
  have u5 := CU_fr f54.1.1 f54.1.2.1 (by decide +kernel) u4
  have d5 := BI_fr f54.1.1 f54.1.2.1 (by decide +kernel) d4.1
  have j5 : BLc H7 = BLc H0 := d5.2.trans j4
  have uq6 := upCue f57 c5.1 d5.1 ck_4
  have s6 := PF_up f57 c5.1 ck_4
  have d6 := BI_up f57 c5.1 d5.1 ck_4
  have a6 : absC H8 = (pnm (vwC H0) 0 9999 (ptk (vwC H0) n17 (absC H1))) := s6.1.trans a5
  have v6 : vwC H8 = vwC H0 := s6.2.1.trans v5
  have j6 : BLc H8 = BLc H0 := d6.2.trans j5
  have u6 := CU_up f57 u5 (by rw [ck_4]; decide)
  unfold preb_66v
  exact ⟨s6.2.2, .inl (by omega)⟩
theorem c_72v_6_33 {q0 : Nat} : vOkm T0 (eP e_72v L_72v A_72v mu_72v (some q0)) 1 ([(0, [23], [], 4), (80, [10, 22, 21], [8, 7], 0), (0, [22], [], 2), (23, [10], [7], 1), (1067, [21, 1, 19, 20], [6, 7], 0), (90, [21], [], -2147483648), (91, [21], [], 2147483647), (0, [20], [], 9999), (0, [19], [], 0), (0, [18], [], 4), (20, [18, 10], [6], 0), (23, [10], [6], 1), (90, [18], [], -2147483648), (91, [18], [], 2147483647), (1066, [1, 17], [5, 6], 0), (20, [17, 1], [5], 2), (90, [17], [], -2147483648), (91, [17], [], 2147483647), (1024, [10, 13, 16], [4, 5], 0), (1124, [16, 14, 15], [3, 4], 0), (90, [16], [], -2147483648), (91, [16], [], 2147483647), (20, [15, 1], [3], 1), (90, [15], [], -2147483648), (91, [15], [], 2147483647), (20, [14, 1], [3], 0), (0, [14], [], 31), (2, [13, 11, 12], [], 0), (0, [12], [], 20), (20, [11, 1], [3], 2), (90, [11], [], -2147483648), (91, [11], [], 2147483647), (51, [10], [], 0), (1074, [10, 1, 9, 2], [2, 3], 0), (20, [9, 1], [2], 13), (90, [9], [], -2147483648), (91, [9], [], 2147483647), (31, [8], [], 0), (1073, [8, 7], [1, 2], 0), (90, [8], [], 0), (91, [8], [], 1), (20, [7, 1], [1], 2), (90, [7], [], -2147483648), (91, [7], [], 2147483647), (30, [6], [], 0), (20, [6, 1], [1], 3), (90, [6], [], -2147483648), (91, [6], [], 2147483647), (45, [4, 5], [], 0), (0, [5], [], 16), (5000, [0, 1, 2, 3, 4], [0, 1], 6), (0, [0], [], 30), (0, [1], [], 30), (90, [2], [], -2147483648), (91, [2], [], 2147483647), (90, [3], [], -2147483648), (91, [3], [], 2147483647), (90, [4], [], -2147483648), (91, [4], [], 2147483647)], (2066, [1, 23], [8], 0)) := vOk_in fun ρ η h => by
  obtain ⟨f0, f1, f2, f3, f4, f5, f6, f7, f8, f9, f10, f11, f12, f13, f14, f15, f16, f17, f18, f19, f20, f21, f22, f23, f24, f25, f26, f27, f28, f29, f30, f31, f32, f33, f34, f35, f36, f37, f38, f39, f40, f41, f42, f43, f44, f45, f46, f47, f48, f49, f50, f51, f52, f53, f54, f55, f56, f57, f58, _⟩ := h
  exact q_72v_34 (q0 := q0) (n0 := ρ 4) (n1 := ρ 3) (n2 := ρ 2) (n3 := ρ 1) (n4 := ρ 0) (n5 := ρ 5) (n6 := ρ 6) (n7 := ρ 7) (n8 := ρ 8) (n9 := ρ 9) (n10 := ρ 10) (n11 := ρ 11) (n12 := ρ 12) (n13 := ρ 13) (n14 := ρ 14) (n15 := ρ 15) (n16 := ρ 16) (n17 := ρ 17) (n18 := ρ 18) (n19 := ρ 19) (n20 := ρ 20) (n21 := ρ 21) (n22 := ρ 22) (n23 := ρ 23) (H0 := η 0) (H1 := η 1) (H2 := η 2) (H3 := η 3) (H4 := η 4) (H5 := η 5) (H6 := η 6) (H7 := η 7) (H8 := η 8) f58 f57 f56 f55 f54 f53 f52 f51 f50 f49 f48 f47 f46 f45 f44 f43 f42 f41 f40 f39 f38 f37 f36 f35 f34 f33 f32 f31 f30 f29 f28 f27 f26 f25 f24 f23 f22 f21 f20 f19 f18 f17 f16 f15 f14 f13 f12 f11 f10 f9 f8 f7 f6 f5 f4 f3 f2 f1 f0
theorem q_72v_35 {q0 : Nat} {n0 n1 n2 n3 n4 n5 n6 n7 n8 n9 n10 n11 n12 n13 n14 n15 n16 n17 n18 n19 n20 n21 n22 n23 n24 n25 n26 n27 n28 n29 : Int} {H0 H1 H2 H3 H4 H5 H6 H7 H8 H9 : gH} (f0 : n0 ≤ 2147483647) (f1 : (-2147483648) ≤ n0) (f2 : n1 ≤ 2147483647) (f3 : (-2147483648) ≤ n1) (f4 : n2 ≤ 2147483647) (f5 : (-2147483648) ≤ n2) (f6 : n3 = 30) (f7 : n4 = 30) (f8 : (hLe T0 H0 H1 ∧ hFr s_72v.2.2.2.2 H0 H1 ∧ hWt T0 H1) ∧ (Ab_72v_6 n4 n3 n2 n1 n0 H0 H1 ∧ preb_72v n4 H0) ∧ some q0 = some (mub_72v_6 n4 n3 n2 n1 n0 H0 H1)) (f9 : n5 = 16) (f10 : n0 ≤ n5) (f11 : n6 ≤ 2147483647) (f12 : (-2147483648) ≤ n6) (f13 : n6 = hV H1 (n3).toNat 3) (f14 : n6 = 0) (f15 : n7 ≤ 2147483647) (f16 : (-2147483648) ≤ n7) (f17 : n7 = hV H1 (n3).toNat 2) (f18 : n8 ≤ 1) (f19 : 0 ≤ n8) (f20 : (hLe T0 H1 H2 ∧ hFr s_73v.2.2.2.2 H1 H2 ∧ ((0 : Int) = 0 → H2.length = H1.length) ∧ hWt T0 H2) ∧ postb_73v n8 n7 H1 H2) (f21 : n8 ≠ 0) (f22 : n9 ≤ 2147483647) (f23 : (-2147483648) ≤ n9) (f24 : n9 = hV H2 (n3).toNat 13) (f25 : (hLe T0 H2 H3 ∧ hFr s_74v.2.2.2.2 H2 H3 ∧ ((0 : Int) = 0 → H3.length = H2.length) ∧ hWt T0 H3) ∧ postb_74v n10 n3 n9 n2 H2 H3) (f26 : 0 ≤ n10) (f27 : n11 ≤ 2147483647) (f28 : (-2147483648) ≤ n11) (f29 : n11 = hV H3 (n3).toNat 2) (f30 : n12 = 20) (f31 : n13 = w32 (n11 - n12)) (f32 : n14 = 31) (f33 : n14 = hV H3 (n3).toNat 0) (f34 : n15 ≤ 2147483647) (f35 : (-2147483648) ≤ n15) (f36 : n15 = hV H3 (n3).toNat 1) (f37 : n16 ≤ 2147483647) (f38 : (-2147483648) ≤ n16) (f39 : (hLe T0 H3 H4 ∧ hFr s_124.2.2.2.2 H3 H4 ∧ ((0 : Int) = 0 → H4.length = H3.length) ∧ hWt T0 H4) ∧ True) (f40 : (hLe T0 H4 H5 ∧ hFr s_24v.2.2.2.2 H4 H5 ∧ ((0 : Int) = 0 → H5.length = H4.length) ∧ hWt T0 H5) ∧ postb_24v n10 n13 n16 H4 H5) (f41 : n17 ≤ 2147483647) (f42 : (-2147483648) ≤ n17) (f43 : n17 = hV H5 (n3).toNat 2) (f44 : (hLe T0 H5 H6 ∧ hFr s_66v.2.2.2.2 H5 H6 ∧ ((0 : Int) = 0 → H6.length = H5.length) ∧ hWt T0 H6) ∧ postb_66v n3 n17 H5 H6) (f45 : n18 ≤ 2147483647) (f46 : (-2147483648) ≤ n18) (f47 : hK H6 (n10).toNat = 1) (f48 : n18 = hV H6 (n10).toNat 0) (f49 : n18 = 4) (f50 : n19 = 0) (f51 : n20 = 9999) (f52 : n21 ≤ 2147483647) (f53 : (-2147483648) ≤ n21) (f54 : (hLe T0 H6 H7 ∧ hFr s_67v.2.2.2.2 H6 H7 ∧ ((0 : Int) = 0 → H7.length = H6.length) ∧ hWt T0 H7) ∧ postb_67v n21 n3 n19 n20 H6 H7) (f55 : hK H7 (n10).toNat = 1) (f56 : n22 = 2) (f57 : hUpd H8 H7 n10 n22 n21) (f58 : n23 = 4) (f59 : (hLe T0 H8 H9 ∧ hFr s_66v.2.2.2.2 H8 H9 ∧ ((0 : Int) = 0 → H9.length = H8.length) ∧ hWt T0 H9) ∧ postb_66v n3 n23 H8 H9) (f60 : n24 = w32 (n2 + 1)) (f61 : n25 ≤ 2147483647) (f62 : (-2147483648) ≤ n25) (f63 : hK H9 (n10).toNat = 1) (f64 : n25 = hV H9 (n10).toNat 0) (f65 : n26 = 5) (f66 : n25 ≠ n26) (f67 : n27 = 1) (f68 : n28 = w32 (n1 + n27)) (f69 : n29 = w32 (n0 + 1)) : Ab_72v_6 n4 n3 n24 n28 n29 H0 H9 ∧ ∀ q, some q0 = some q → mub_72v_6 n4 n3 n24 n28 n29 H0 H9 < q := by
  have pz := f8.2.1.2
  unfold preb_72v at pz
  have ga := f8.2.1.1
  unfold Ab_72v_6 at ga
  have vz : vwC H1 = vwC H0 := vwC_fr f8.1.2.1 (by decide +kernel)
  obtain ⟨kz, bz, blz, b13, cz, b48, x10, x116, x30, x317, x13, ya, yt⟩ := ga
  have r3 := f13
  rw [f6] at r3
  rw [show ((30 : Int)).toNat = 30 from rfl] at r3
  have r2 := f17
  rw [f6] at r2
  rw [show ((30 : Int)).toNat = 30 from rfl] at r2
  have pc := f20.2
  unfold postb_73v at pc
  have cq := f25.2
  unfold postb_74v at cq
  have cq2 := cq.2
  have ck_0 := (cq.1 (by omega)).2
  have ck_1 : hK H4 (n10).toNat = 1 := kLe f39.1.1 ck_0 rfl
  have ck_2 : hK H5 (n10).toNat = 1 := kLe f40.1.1 ck_1 rfl
  have ck_3 : hK H6 (n10).toNat = 1 := kLe f44.1.1 ck_2 rfl
  have ck_4 : hK H7 (n10).toNat = 1 := kLe f54.1.1 ck_3 rfl
  have ck_5 : hK H8 (n10).toNat = 1 := kUp f57 ck_4
  have ck_6 : hK H9 (n10).toNat = 1 := kLe f59.1.1 ck_5 rfl
  have s0 := PF_fr f20.1.1 f20.1.2.1 (by decide +kernel) kz
  have a0 : absC H2 = (absC H1) := s0.1
  have v0 : vwC H2 = vwC H0 := (vwC_fr f20.1.2.1 (by decide +kernel)).trans vz
  have u0 := CU_fr f20.1.1 f20.1.2.1 (by decide +kernel) cz
  have d0 := BI_fr f20.1.1 f20.1.2.1 (by decide +kernel) bz
  have j0 : BLc H2 = BLc H0 := d0.2.trans blz
  have s1 := PF_fr f25.1.1 f25.1.2.1 (by decide +kernel) s0.2.2
  have a1 : absC H3 = (absC H1) := s1.1.trans a0
  have v1 : vwC H3 = vwC H0 := (vwC_fr f25.1.2.1 (by decide +kernel)).trans v0
  have u1 := CU_fr f25.1.1 f25.1.2.1 (by decide +kernel) u0
  have d1 := BI_fr f25.1.1 f25.1.2.1 (by decide +kernel) d0.1
  have j1 : BLc H3 = BLc H0 := d1.2.trans j0
  have s2 := PF_fr f39.1.1 f39.1.2.1 (by decide +kernel) s1.2.2
  have a2 : absC H4 = (absC H1) := s2.1.trans a1
  have v2 : vwC H4 = vwC H0 := (vwC_fr f39.1.2.1 (by decide +kernel)).trans v1
  have u2 := CU_fr f39.1.1 f39.1.2.1 (by decide +kernel) u1
  have d2 := BI_fr f39.1.1 f39.1.2.1 (by decide +kernel) d1.1
  have j2 : BLc H4 = BLc H0 := d2.2.trans j1
  have s3 := PF_fr f40.1.1 f40.1.2.1 (by decide +kernel) s2.2.2
  have a3 : absC H5 = (absC H1) := s3.1.trans a2
  have v3 : vwC H5 = vwC H0 := (vwC_fr f40.1.2.1 (by decide +kernel)).trans v2
  have u3 := CU_fr f40.1.1 f40.1.2.1 (by decide +kernel) u2
  have d3 := BI_fr f40.1.1 f40.1.2.1 (by decide +kernel) d2.1
  have j3 : BLc H5 = BLc H0 := d3.2.trans j2
  have c4 := f44.2
  unfold postb_66v at c4
  rw [v3] at c4
  rw [a3] at c4
  have a4 : absC H6 = (ptk (vwC H0) n17 (absC H1)) := c4.2
  have v4 : vwC H6 = vwC H0 := (vwC_fr f44.1.2.1 (by decide +kernel)).trans v3
  have u4 := CU_fr f44.1.1 f44.1.2.1 (by decide +kernel) u3
  have d4 := BI_fr f44.1.1 f44.1.2.1 (by decide +kernel) d3.1
  have j4 : BLc H6 = BLc H0 := d4.2.trans j3
  have c5 := f54.2
  unfold postb_67v at c5
  try rw [f50] at c5
  try rw [f51] at c5
  rw [v4] at c5
  rw [a4] at c5
  have a5 : absC H7 = (pnm (vwC H0) 0 9999 (ptk (vwC H0) n17 (absC H1))) := c5.2
  have v5 : vwC H7 = vwC H0 := (vwC_fr f54.1.2.1 (by decide +kernel)).trans v4
  have u5 := CU_fr f54.1.1 f54.1.2.1 (by decide +kernel) u4
  have d5 := BI_fr f54.1.1 f54.1.2.1 (by decide +kernel) d4.1
  have j5 : BLc H7 = BLc H0 := d5.2.trans j4
  have uq6 := upCue f57 c5.1 d5.1 ck_4
  have s6 := PF_up f57 c5.1 ck_4
  have d6 := BI_up f57 c5.1 d5.1 ck_4
  have a6 : absC H8 = (pnm (vwC H0) 0 9999 (ptk (vwC H0) n17 (absC H1))) := s6.1.trans a5
  have v6 : vwC H8 = vwC H0 := s6.2.1.trans v5
  have j6 : BLc H8 = BLc H0 := d6.2.trans j5
  have u6 := CU_up f57 u5 (by rw [ck_4]; decide)
  have c7 := f59.2
  unfold postb_66v at c7
  try rw [f58] at c7
  rw [v6] at c7
  rw [a6] at c7
  have a7 : absC H9 = (ptk (vwC H0) 4 (pnm (vwC H0) 0 9999 (ptk (vwC H0) n17 (absC H1)))) := c7.2
  have v7 : vwC H9 = vwC H0 := (vwC_fr f59.1.2.1 (by decide +kernel)).trans v6
  have u7 := CU_fr f59.1.1 f59.1.2.1 (by decide +kernel) u6
  have d7 := BI_fr f59.1.1 f59.1.2.1 (by decide +kernel) d6.1
  have j7 : BLc H9 = BLc H0 := d7.2.trans j6
  have y2 := pz.2.1.2.1
  have y3 := pz.2.1.2.2.1
  have wq31 := f31
  unfold w32 at wq31
  have wq60 := f60
  unfold w32 at wq60
  have wq68 := f68
  unfold w32 at wq68
  have wq69 := f69
  unfold w32 at wq69
  have g5 := Option.some.inj f8.2.2
  unfold mub_72v_6 at g5
  unfold Ab_72v_6 mub_72v_6
  have t13 : hV H9 30 13 = hV H1 30 13 := (f59.1.2.1.1 30 13 (by decide +kernel)).trans ((uq6.1 13).trans ((f54.1.2.1.1 30 13 (by decide +kernel)).trans ((f44.1.2.1.1 30 13 (by decide +kernel)).trans ((f40.1.2.1.1 30 13 (by decide +kernel)).trans ((f39.1.2.1.1 30 13 (by decide +kernel)).trans ((f25.1.2.1.1 30 13 (by decide +kernel)).trans (f20.1.2.1.1 30 13 (by decide +kernel))))))))
  have t48 : hV H9 48 = hV H1 48 := (fRow f59.1.2.1 48 (by decide +kernel)).trans ((uq6.2.2).trans ((fRow f54.1.2.1 48 (by decide +kernel)).trans ((fRow f44.1.2.1 48 (by decide +kernel)).trans ((fRow f40.1.2.1 48 (by decide +kernel)).trans ((fRow f39.1.2.1 48 (by decide +kernel)).trans ((fRow f25.1.2.1 48 (by decide +kernel)).trans (fRow f20.1.2.1 48 (by decide +kernel))))))))
  have hk : (vwC H0).1 (absC H1).1 = hV H1 30 2 := by
    have u := (kd_at kz).resolve_left (by have := absC_pos kz (by omega); omega)
    rw [vz] at u
    exact u
  have pr := f40.2
  unfold postb_24v at pr
  have ka0_0 : hK H6 (n10).toNat = 1 := kLe f44.1.1 ck_2 rfl
  have kq0 : n18 = hV H5 (n10).toNat 0 := f48.trans (f44.1.2.1.2.2 _ 1 ck_2 rfl 0 (by decide +kernel))
  have ka1_0 : hK H6 (n10).toNat = 1 := kLe f44.1.1 ck_2 rfl
  have ka1_1 : hK H7 (n10).toNat = 1 := kLe f54.1.1 ka1_0 rfl
  have ka1_2 : hK H8 (n10).toNat = 1 := kUp f57 ka1_1
  have ka1_3 : hK H9 (n10).toNat = 1 := kLe f59.1.1 ka1_2 rfl
  have kq1 : n25 = hV H5 (n10).toNat 0 := f64.trans ((f59.1.2.1.2.2 _ 1 ka1_2 rfl 0 (by decide +kernel)).trans ((uSlot f57 _ 0 (by rw [f56]; decide)).trans ((f54.1.2.1.2.2 _ 1 ka1_0 rfl 0 (by decide +kernel)).trans (f44.1.2.1.2.2 _ 1 ck_2 rfl 0 (by decide +kernel)))))
  have rz0 := f29
  rw [f6] at rz0
  rw [show ((30 : Int)).toNat = 30 from rfl] at rz0
  have tz0 : hV H3 30 2 = hV H1 30 2 := (f25.1.2.1.1 30 2 (by decide +kernel)).trans (f20.1.2.1.1 30 2 (by decide +kernel))
  have rz1 := f43
  rw [f6] at rz1
  rw [show ((30 : Int)).toNat = 30 from rfl] at rz1
  have tz1 : hV H5 30 2 = hV H1 30 2 := (f40.1.2.1.1 30 2 (by decide +kernel)).trans ((f39.1.2.1.1 30 2 (by decide +kernel)).trans ((f25.1.2.1.1 30 2 (by decide +kernel)).trans (f20.1.2.1.1 30 2 (by decide +kernel))))
  have pr1 := pr.1
  have k2 : hV H1 30 2 = 24 := by omega
  have kt : n17 = 24 := by omega
  have hb : absC H9 = ptk (vwC H0) 4 (pBody (vwC H0) (BLc H0) 24 (ptk (vwC H0) 24 (absC H1))) := by
    rw [pBody_24, ← kt]
    exact a7
  have st := cues_st (bl := BLc H0) pz.1.2.1 (hk.trans k2) (by decide) (by decide) (c := (n2).toNat) (by omega) hb
  have tot : hV H9 30 3 = 0 → ∃ d : Int, n28 = n1 + d ∧ 0 ≤ d ∧ d ≤ gB (hV H0 30 13).toNat ∧ pcap (pcap n1 + pcz (vwC H0) (BLc H0) (absC H1)) = pcap (n1 + d) := fun hf => by
    obtain ⟨w1, w2, w3⟩ := yt (by omega)
    have bb := gB_pos (hV H0 30 13).toNat
    have b16 : n2 * gB (hV H0 30 13).toNat ≤ 16 * gB (hV H0 30 13).toNat := Int.mul_le_mul_of_nonneg_right x116 (by omega)
    have b7 : gB (hV H0 30 13).toNat ≤ gB 6 := gB_mono (by omega)
    have b8 : gB 6 = 16777216 := by decide
    refine ⟨1, by omega, by omega, by omega, ?_⟩
    rw [pcz_1 (by rw [hk]; omega)]
    exact pcap_one w1
  refine ⟨⟨c7.1, d7.1, j7, t13.trans b13, u7, t48.trans b48, by omega, by omega, by omega, by omega, fun w => by have := x13 (by omega); omega, ?_, fun w => ?_⟩, fun q hq => ?_⟩
  · rw [← ya, st, show (n2).toNat + 1 = (n24).toNat by omega]
  · obtain ⟨d, d1, d2, d3, d4⟩ := tot w
    obtain ⟨w1, w2, w3⟩ := yt (by omega)
    have ts := tot_st pz.1.2.1 (hk.trans k2) (by decide) (by decide) (c := (n2).toNat) (by omega) hb d4
    rw [show (n2).toNat + 1 = (n24).toNat by omega, w3] at ts
    refine ⟨by omega, ?_, ?_⟩
    · rw [d1, show n24 = n2 + 1 by omega, Int.add_mul, Int.one_mul]
      omega
    · rw [d1]
      exact ts.symm
  · have g6 := Option.some.inj hq
    subst g6
    first
    | omega
    | lia
theorem c_72v_6_34 {q0 : Nat} : vOkm T0 (eP e_72v L_72v A_72v mu_72v (some q0)) 1 ([(10, [29, 4], [], 1), (1, [28, 3, 27], [], 0), (0, [27], [], 1), (41, [25, 26], [], 0), (0, [26], [], 5), (20, [25, 10], [9], 0), (23, [10], [9], 1), (90, [25], [], -2147483648), (91, [25], [], 2147483647), (10, [24, 2], [], 1), (1066, [1, 23], [8, 9], 0), (0, [23], [], 4), (80, [10, 22, 21], [8, 7], 0), (0, [22], [], 2), (23, [10], [7], 1), (1067, [21, 1, 19, 20], [6, 7], 0), (90, [21], [], -2147483648), (91, [21], [], 2147483647), (0, [20], [], 9999), (0, [19], [], 0), (0, [18], [], 4), (20, [18, 10], [6], 0), (23, [10], [6], 1), (90, [18], [], -2147483648), (91, [18], [], 2147483647), (1066, [1, 17], [5, 6], 0), (20, [17, 1], [5], 2), (90, [17], [], -2147483648), (91, [17], [], 2147483647), (1024, [10, 13, 16], [4, 5], 0), (1124, [16, 14, 15], [3, 4], 0), (90, [16], [], -2147483648), (91, [16], [], 2147483647), (20, [15, 1], [3], 1), (90, [15], [], -2147483648), (91, [15], [], 2147483647), (20, [14, 1], [3], 0), (0, [14], [], 31), (2, [13, 11, 12], [], 0), (0, [12], [], 20), (20, [11, 1], [3], 2), (90, [11], [], -2147483648), (91, [11], [], 2147483647), (51, [10], [], 0), (1074, [10, 1, 9, 2], [2, 3], 0), (20, [9, 1], [2], 13), (90, [9], [], -2147483648), (91, [9], [], 2147483647), (31, [8], [], 0), (1073, [8, 7], [1, 2], 0), (90, [8], [], 0), (91, [8], [], 1), (20, [7, 1], [1], 2), (90, [7], [], -2147483648), (91, [7], [], 2147483647), (30, [6], [], 0), (20, [6, 1], [1], 3), (90, [6], [], -2147483648), (91, [6], [], 2147483647), (45, [4, 5], [], 0), (0, [5], [], 16), (5000, [0, 1, 2, 3, 4], [0, 1], 6), (0, [0], [], 30), (0, [1], [], 30), (90, [2], [], -2147483648), (91, [2], [], 2147483647), (90, [3], [], -2147483648), (91, [3], [], 2147483647), (90, [4], [], -2147483648), (91, [4], [], 2147483647)], (4000, [1, 24, 28, 29], [9], 6)) := vOk_in fun ρ η h => by
  obtain ⟨f0, f1, f2, f3, f4, f5, f6, f7, f8, f9, f10, f11, f12, f13, f14, f15, f16, f17, f18, f19, f20, f21, f22, f23, f24, f25, f26, f27, f28, f29, f30, f31, f32, f33, f34, f35, f36, f37, f38, f39, f40, f41, f42, f43, f44, f45, f46, f47, f48, f49, f50, f51, f52, f53, f54, f55, f56, f57, f58, f59, f60, f61, f62, f63, f64, f65, f66, f67, f68, f69, _⟩ := h
  exact q_72v_35 (q0 := q0) (n0 := ρ 4) (n1 := ρ 3) (n2 := ρ 2) (n3 := ρ 1) (n4 := ρ 0) (n5 := ρ 5) (n6 := ρ 6) (n7 := ρ 7) (n8 := ρ 8) (n9 := ρ 9) (n10 := ρ 10) (n11 := ρ 11) (n12 := ρ 12) (n13 := ρ 13) (n14 := ρ 14) (n15 := ρ 15) (n16 := ρ 16) (n17 := ρ 17) (n18 := ρ 18) (n19 := ρ 19) (n20 := ρ 20) (n21 := ρ 21) (n22 := ρ 22) (n23 := ρ 23) (n24 := ρ 24) (n25 := ρ 25) (n26 := ρ 26) (n27 := ρ 27) (n28 := ρ 28) (n29 := ρ 29) (H0 := η 0) (H1 := η 1) (H2 := η 2) (H3 := η 3) (H4 := η 4) (H5 := η 5) (H6 := η 6) (H7 := η 7) (H8 := η 8) (H9 := η 9) f69 f68 f67 f66 f65 f64 f63 f62 f61 f60 f59 f58 f57 f56 f55 f54 f53 f52 f51 f50 f49 f48 f47 f46 f45 f44 f43 f42 f41 f40 f39 f38 f37 f36 f35 f34 f33 f32 f31 f30 f29 f28 f27 f26 f25 f24 f23 f22 f21 f20 f19 f18 f17 f16 f15 f14 f13 f12 f11 f10 f9 f8 f7 f6 f5 f4 f3 f2 f1 f0
theorem q_72v_36 {q0 : Nat} {n0 n1 n2 n3 n4 n5 n6 n7 n8 n9 n10 n11 n12 n13 n14 n15 n16 n17 n18 n19 n20 n21 n22 n23 n24 n25 n26 n27 n28 n29 n30 n31 : Int} {H0 H1 H2 H3 H4 H5 H6 H7 H8 H9 H10 : gH} (f0 : n0 ≤ 2147483647) (f1 : (-2147483648) ≤ n0) (f2 : n1 ≤ 2147483647) (f3 : (-2147483648) ≤ n1) (f4 : n2 ≤ 2147483647) (f5 : (-2147483648) ≤ n2) (f6 : n3 = 30) (f7 : n4 = 30) (f8 : (hLe T0 H0 H1 ∧ hFr s_72v.2.2.2.2 H0 H1 ∧ hWt T0 H1) ∧ (Ab_72v_6 n4 n3 n2 n1 n0 H0 H1 ∧ preb_72v n4 H0) ∧ some q0 = some (mub_72v_6 n4 n3 n2 n1 n0 H0 H1)) (f9 : n5 = 16) (f10 : n0 ≤ n5) (f11 : n6 ≤ 2147483647) (f12 : (-2147483648) ≤ n6) (f13 : n6 = hV H1 (n3).toNat 3) (f14 : n6 = 0) (f15 : n7 ≤ 2147483647) (f16 : (-2147483648) ≤ n7) (f17 : n7 = hV H1 (n3).toNat 2) (f18 : n8 ≤ 1) (f19 : 0 ≤ n8) (f20 : (hLe T0 H1 H2 ∧ hFr s_73v.2.2.2.2 H1 H2 ∧ ((0 : Int) = 0 → H2.length = H1.length) ∧ hWt T0 H2) ∧ postb_73v n8 n7 H1 H2) (f21 : n8 ≠ 0) (f22 : n9 ≤ 2147483647) (f23 : (-2147483648) ≤ n9) (f24 : n9 = hV H2 (n3).toNat 13) (f25 : (hLe T0 H2 H3 ∧ hFr s_74v.2.2.2.2 H2 H3 ∧ ((0 : Int) = 0 → H3.length = H2.length) ∧ hWt T0 H3) ∧ postb_74v n10 n3 n9 n2 H2 H3) (f26 : 0 ≤ n10) (f27 : n11 ≤ 2147483647) (f28 : (-2147483648) ≤ n11) (f29 : n11 = hV H3 (n3).toNat 2) (f30 : n12 = 20) (f31 : n13 = w32 (n11 - n12)) (f32 : n14 = 31) (f33 : n14 = hV H3 (n3).toNat 0) (f34 : n15 ≤ 2147483647) (f35 : (-2147483648) ≤ n15) (f36 : n15 = hV H3 (n3).toNat 1) (f37 : n16 ≤ 2147483647) (f38 : (-2147483648) ≤ n16) (f39 : (hLe T0 H3 H4 ∧ hFr s_124.2.2.2.2 H3 H4 ∧ ((0 : Int) = 0 → H4.length = H3.length) ∧ hWt T0 H4) ∧ True) (f40 : (hLe T0 H4 H5 ∧ hFr s_24v.2.2.2.2 H4 H5 ∧ ((0 : Int) = 0 → H5.length = H4.length) ∧ hWt T0 H5) ∧ postb_24v n10 n13 n16 H4 H5) (f41 : n17 ≤ 2147483647) (f42 : (-2147483648) ≤ n17) (f43 : n17 = hV H5 (n3).toNat 2) (f44 : (hLe T0 H5 H6 ∧ hFr s_66v.2.2.2.2 H5 H6 ∧ ((0 : Int) = 0 → H6.length = H5.length) ∧ hWt T0 H6) ∧ postb_66v n3 n17 H5 H6) (f45 : n18 ≤ 2147483647) (f46 : (-2147483648) ≤ n18) (f47 : hK H6 (n10).toNat = 1) (f48 : n18 = hV H6 (n10).toNat 0) (f49 : n18 = 4) (f50 : n19 = 0) (f51 : n20 = 9999) (f52 : n21 ≤ 2147483647) (f53 : (-2147483648) ≤ n21) (f54 : (hLe T0 H6 H7 ∧ hFr s_67v.2.2.2.2 H6 H7 ∧ ((0 : Int) = 0 → H7.length = H6.length) ∧ hWt T0 H7) ∧ postb_67v n21 n3 n19 n20 H6 H7) (f55 : hK H7 (n10).toNat = 1) (f56 : n22 = 2) (f57 : hUpd H8 H7 n10 n22 n21) (f58 : n23 = 4) (f59 : (hLe T0 H8 H9 ∧ hFr s_66v.2.2.2.2 H8 H9 ∧ ((0 : Int) = 0 → H9.length = H8.length) ∧ hWt T0 H9) ∧ postb_66v n3 n23 H8 H9) (f60 : n24 = w32 (n2 + 1)) (f61 : n25 ≤ 2147483647) (f62 : (-2147483648) ≤ n25) (f63 : hK H9 (n10).toNat = 1) (f64 : n25 = hV H9 (n10).toNat 0) (f65 : n26 = 5) (f66 : n25 = n26) (f67 : n27 = 47) (f68 : n27 = hV H9 (n3).toNat 11) (f69 : n28 ≤ 2147483647) (f70 : (-2147483648) ≤ n28) (f71 : hK H9 (n10).toNat = 1) (f72 : n28 = hV H9 (n10).toNat 2) (f73 : n29 ≤ 2147483647) (f74 : (-2147483648) ≤ n29) (f75 : (hLe T0 H9 H10 ∧ hFr s_199vk740.2.2.2.2 H9 H10 ∧ ((0 : Int) = 0 → H10.length = H9.length) ∧ hWt T0 H10) ∧ postb_199vk740 n29 n27 n28 H9 H10) (f76 : n30 = w32 (n1 + n29)) (f77 : n31 = w32 (n0 + 1)) : Ab_72v_6 n4 n3 n24 n30 n31 H0 H10 ∧ ∀ q, some q0 = some q → mub_72v_6 n4 n3 n24 n30 n31 H0 H10 < q := by
  have pz := f8.2.1.2
  unfold preb_72v at pz
  have ga := f8.2.1.1
  unfold Ab_72v_6 at ga
  have vz : vwC H1 = vwC H0 := vwC_fr f8.1.2.1 (by decide +kernel)
  obtain ⟨kz, bz, blz, b13, cz, b48, x10, x116, x30, x317, x13, ya, yt⟩ := ga
  have r3 := f13
  rw [f6] at r3
  rw [show ((30 : Int)).toNat = 30 from rfl] at r3
  have r2 := f17
  rw [f6] at r2
  rw [show ((30 : Int)).toNat = 30 from rfl] at r2
  have pc := f20.2
  unfold postb_73v at pc
  have cq := f25.2
  unfold postb_74v at cq
  have cq2 := cq.2
  have ck_0 := (cq.1 (by omega)).2
  have ck_1 : hK H4 (n10).toNat = 1 := kLe f39.1.1 ck_0 rfl
  have ck_2 : hK H5 (n10).toNat = 1 := kLe f40.1.1 ck_1 rfl
  have ck_3 : hK H6 (n10).toNat = 1 := kLe f44.1.1 ck_2 rfl
  have ck_4 : hK H7 (n10).toNat = 1 := kLe f54.1.1 ck_3 rfl
  have ck_5 : hK H8 (n10).toNat = 1 := kUp f57 ck_4
  have ck_6 : hK H9 (n10).toNat = 1 := kLe f59.1.1 ck_5 rfl
  have ck_7 : hK H10 (n10).toNat = 1 := kLe f75.1.1 ck_6 rfl
  have s0 := PF_fr f20.1.1 f20.1.2.1 (by decide +kernel) kz
  have a0 : absC H2 = (absC H1) := s0.1
  have v0 : vwC H2 = vwC H0 := (vwC_fr f20.1.2.1 (by decide +kernel)).trans vz
  have u0 := CU_fr f20.1.1 f20.1.2.1 (by decide +kernel) cz
  have d0 := BI_fr f20.1.1 f20.1.2.1 (by decide +kernel) bz
  have j0 : BLc H2 = BLc H0 := d0.2.trans blz
  have s1 := PF_fr f25.1.1 f25.1.2.1 (by decide +kernel) s0.2.2
  have a1 : absC H3 = (absC H1) := s1.1.trans a0
  have v1 : vwC H3 = vwC H0 := (vwC_fr f25.1.2.1 (by decide +kernel)).trans v0
  have u1 := CU_fr f25.1.1 f25.1.2.1 (by decide +kernel) u0
  have d1 := BI_fr f25.1.1 f25.1.2.1 (by decide +kernel) d0.1
  have j1 : BLc H3 = BLc H0 := d1.2.trans j0
  have s2 := PF_fr f39.1.1 f39.1.2.1 (by decide +kernel) s1.2.2
  have a2 : absC H4 = (absC H1) := s2.1.trans a1
  have v2 : vwC H4 = vwC H0 := (vwC_fr f39.1.2.1 (by decide +kernel)).trans v1
  have u2 := CU_fr f39.1.1 f39.1.2.1 (by decide +kernel) u1
  have d2 := BI_fr f39.1.1 f39.1.2.1 (by decide +kernel) d1.1
  have j2 : BLc H4 = BLc H0 := d2.2.trans j1
  have s3 := PF_fr f40.1.1 f40.1.2.1 (by decide +kernel) s2.2.2
  have a3 : absC H5 = (absC H1) := s3.1.trans a2
  have v3 : vwC H5 = vwC H0 := (vwC_fr f40.1.2.1 (by decide +kernel)).trans v2
  have u3 := CU_fr f40.1.1 f40.1.2.1 (by decide +kernel) u2
  have d3 := BI_fr f40.1.1 f40.1.2.1 (by decide +kernel) d2.1
  have j3 : BLc H5 = BLc H0 := d3.2.trans j2
  have c4 := f44.2
  unfold postb_66v at c4
  rw [v3] at c4
  rw [a3] at c4
  have a4 : absC H6 = (ptk (vwC H0) n17 (absC H1)) := c4.2
  have v4 : vwC H6 = vwC H0 := (vwC_fr f44.1.2.1 (by decide +kernel)).trans v3
  have u4 := CU_fr f44.1.1 f44.1.2.1 (by decide +kernel) u3
  have d4 := BI_fr f44.1.1 f44.1.2.1 (by decide +kernel) d3.1
  have j4 : BLc H6 = BLc H0 := d4.2.trans j3
  have c5 := f54.2
  unfold postb_67v at c5
  try rw [f50] at c5
  try rw [f51] at c5
  rw [v4] at c5
  rw [a4] at c5
  have a5 : absC H7 = (pnm (vwC H0) 0 9999 (ptk (vwC H0) n17 (absC H1))) := c5.2
  have v5 : vwC H7 = vwC H0 := (vwC_fr f54.1.2.1 (by decide +kernel)).trans v4
  have u5 := CU_fr f54.1.1 f54.1.2.1 (by decide +kernel) u4
  have d5 := BI_fr f54.1.1 f54.1.2.1 (by decide +kernel) d4.1
  have j5 : BLc H7 = BLc H0 := d5.2.trans j4
  have uq6 := upCue f57 c5.1 d5.1 ck_4
  have s6 := PF_up f57 c5.1 ck_4
  have d6 := BI_up f57 c5.1 d5.1 ck_4
  have a6 : absC H8 = (pnm (vwC H0) 0 9999 (ptk (vwC H0) n17 (absC H1))) := s6.1.trans a5
  have v6 : vwC H8 = vwC H0 := s6.2.1.trans v5
  have j6 : BLc H8 = BLc H0 := d6.2.trans j5
  have u6 := CU_up f57 u5 (by rw [ck_4]; decide)
  have c7 := f59.2
  unfold postb_66v at c7
  try rw [f58] at c7
  rw [v6] at c7
  rw [a6] at c7
  have a7 : absC H9 = (ptk (vwC H0) 4 (pnm (vwC H0) 0 9999 (ptk (vwC H0) n17 (absC H1)))) := c7.2
  have v7 : vwC H9 = vwC H0 := (vwC_fr f59.1.2.1 (by decide +kernel)).trans v6
  have u7 := CU_fr f59.1.1 f59.1.2.1 (by decide +kernel) u6
  have d7 := BI_fr f59.1.1 f59.1.2.1 (by decide +kernel) d6.1
  have j7 : BLc H9 = BLc H0 := d7.2.trans j6
  have s8 := PF_fr f75.1.1 f75.1.2.1 (by decide +kernel) c7.1
  have a8 : absC H10 = (ptk (vwC H0) 4 (pnm (vwC H0) 0 9999 (ptk (vwC H0) n17 (absC H1)))) := s8.1.trans a7
  have v8 : vwC H10 = vwC H0 := (vwC_fr f75.1.2.1 (by decide +kernel)).trans v7
  have u8 := CU_fr f75.1.1 f75.1.2.1 (by decide +kernel) u7
  have d8 := BI_fr f75.1.1 f75.1.2.1 (by decide +kernel) d7.1
  have j8 : BLc H10 = BLc H0 := d8.2.trans j7
  have y2 := pz.2.1.2.1
  have y3 := pz.2.1.2.2.1
  have wq31 := f31
  unfold w32 at wq31
  have wq60 := f60
  unfold w32 at wq60
  have wq76 := f76
  unfold w32 at wq76
  have wq77 := f77
  unfold w32 at wq77
  have g5 := Option.some.inj f8.2.2
  unfold mub_72v_6 at g5
  unfold Ab_72v_6 mub_72v_6
  have t13 : hV H10 30 13 = hV H1 30 13 := (f75.1.2.1.1 30 13 (by decide +kernel)).trans ((f59.1.2.1.1 30 13 (by decide +kernel)).trans ((uq6.1 13).trans ((f54.1.2.1.1 30 13 (by decide +kernel)).trans ((f44.1.2.1.1 30 13 (by decide +kernel)).trans ((f40.1.2.1.1 30 13 (by decide +kernel)).trans ((f39.1.2.1.1 30 13 (by decide +kernel)).trans ((f25.1.2.1.1 30 13 (by decide +kernel)).trans (f20.1.2.1.1 30 13 (by decide +kernel)))))))))
  have t48 : hV H10 48 = hV H1 48 := (fRow f75.1.2.1 48 (by decide +kernel)).trans ((fRow f59.1.2.1 48 (by decide +kernel)).trans ((uq6.2.2).trans ((fRow f54.1.2.1 48 (by decide +kernel)).trans ((fRow f44.1.2.1 48 (by decide +kernel)).trans ((fRow f40.1.2.1 48 (by decide +kernel)).trans ((fRow f39.1.2.1 48 (by decide +kernel)).trans ((fRow f25.1.2.1 48 (by decide +kernel)).trans (fRow f20.1.2.1 48 (by decide +kernel)))))))))
  have hk : (vwC H0).1 (absC H1).1 = hV H1 30 2 := by
    have u := (kd_at kz).resolve_left (by have := absC_pos kz (by omega); omega)
    rw [vz] at u
    exact u
  have pr := f40.2
  unfold postb_24v at pr
  have ka0_0 : hK H6 (n10).toNat = 1 := kLe f44.1.1 ck_2 rfl
  have kq0 : n18 = hV H5 (n10).toNat 0 := f48.trans (f44.1.2.1.2.2 _ 1 ck_2 rfl 0 (by decide +kernel))
  have ka1_0 : hK H6 (n10).toNat = 1 := kLe f44.1.1 ck_2 rfl
  have ka1_1 : hK H7 (n10).toNat = 1 := kLe f54.1.1 ka1_0 rfl
  have ka1_2 : hK H8 (n10).toNat = 1 := kUp f57 ka1_1
  have ka1_3 : hK H9 (n10).toNat = 1 := kLe f59.1.1 ka1_2 rfl
  have kq1 : n25 = hV H5 (n10).toNat 0 := f64.trans ((f59.1.2.1.2.2 _ 1 ka1_2 rfl 0 (by decide +kernel)).trans ((uSlot f57 _ 0 (by rw [f56]; decide)).trans ((f54.1.2.1.2.2 _ 1 ka1_0 rfl 0 (by decide +kernel)).trans (f44.1.2.1.2.2 _ 1 ck_2 rfl 0 (by decide +kernel)))))
  have rz0 := f29
  rw [f6] at rz0
  rw [show ((30 : Int)).toNat = 30 from rfl] at rz0
  have tz0 : hV H3 30 2 = hV H1 30 2 := (f25.1.2.1.1 30 2 (by decide +kernel)).trans (f20.1.2.1.1 30 2 (by decide +kernel))
  have rz1 := f43
  rw [f6] at rz1
  rw [show ((30 : Int)).toNat = 30 from rfl] at rz1
  have tz1 : hV H5 30 2 = hV H1 30 2 := (f40.1.2.1.1 30 2 (by decide +kernel)).trans ((f39.1.2.1.1 30 2 (by decide +kernel)).trans ((f25.1.2.1.1 30 2 (by decide +kernel)).trans (f20.1.2.1.1 30 2 (by decide +kernel))))
  have pr1 := pr.1
  exfalso
  omega
theorem c_72v_6_35 {q0 : Nat} : vOkm T0 (eP e_72v L_72v A_72v mu_72v (some q0)) 1 ([(10, [31, 4], [], 1), (1, [30, 3, 29], [], 0), (1199, [29, 27, 28], [9, 10], 0), (90, [29], [], -2147483648), (91, [29], [], 2147483647), (20, [28, 10], [9], 2), (23, [10], [9], 1), (90, [28], [], -2147483648), (91, [28], [], 2147483647), (20, [27, 1], [9], 11), (0, [27], [], 47), (40, [25, 26], [], 0), (0, [26], [], 5), (20, [25, 10], [9], 0), (23, [10], [9], 1), (90, [25], [], -2147483648), (91, [25], [], 2147483647), (10, [24, 2], [], 1), (1066, [1, 23], [8, 9], 0), (0, [23], [], 4), (80, [10, 22, 21], [8, 7], 0), (0, [22], [], 2), (23, [10], [7], 1), (1067, [21, 1, 19, 20], [6, 7], 0), (90, [21], [], -2147483648), (91, [21], [], 2147483647), (0, [20], [], 9999), (0, [19], [], 0), (0, [18], [], 4), (20, [18, 10], [6], 0), (23, [10], [6], 1), (90, [18], [], -2147483648), (91, [18], [], 2147483647), (1066, [1, 17], [5, 6], 0), (20, [17, 1], [5], 2), (90, [17], [], -2147483648), (91, [17], [], 2147483647), (1024, [10, 13, 16], [4, 5], 0), (1124, [16, 14, 15], [3, 4], 0), (90, [16], [], -2147483648), (91, [16], [], 2147483647), (20, [15, 1], [3], 1), (90, [15], [], -2147483648), (91, [15], [], 2147483647), (20, [14, 1], [3], 0), (0, [14], [], 31), (2, [13, 11, 12], [], 0), (0, [12], [], 20), (20, [11, 1], [3], 2), (90, [11], [], -2147483648), (91, [11], [], 2147483647), (51, [10], [], 0), (1074, [10, 1, 9, 2], [2, 3], 0), (20, [9, 1], [2], 13), (90, [9], [], -2147483648), (91, [9], [], 2147483647), (31, [8], [], 0), (1073, [8, 7], [1, 2], 0), (90, [8], [], 0), (91, [8], [], 1), (20, [7, 1], [1], 2), (90, [7], [], -2147483648), (91, [7], [], 2147483647), (30, [6], [], 0), (20, [6, 1], [1], 3), (90, [6], [], -2147483648), (91, [6], [], 2147483647), (45, [4, 5], [], 0), (0, [5], [], 16), (5000, [0, 1, 2, 3, 4], [0, 1], 6), (0, [0], [], 30), (0, [1], [], 30), (90, [2], [], -2147483648), (91, [2], [], 2147483647), (90, [3], [], -2147483648), (91, [3], [], 2147483647), (90, [4], [], -2147483648), (91, [4], [], 2147483647)], (4000, [1, 24, 30, 31], [10], 6)) := vOk_in fun ρ η h => by
  obtain ⟨f0, f1, f2, f3, f4, f5, f6, f7, f8, f9, f10, f11, f12, f13, f14, f15, f16, f17, f18, f19, f20, f21, f22, f23, f24, f25, f26, f27, f28, f29, f30, f31, f32, f33, f34, f35, f36, f37, f38, f39, f40, f41, f42, f43, f44, f45, f46, f47, f48, f49, f50, f51, f52, f53, f54, f55, f56, f57, f58, f59, f60, f61, f62, f63, f64, f65, f66, f67, f68, f69, f70, f71, f72, f73, f74, f75, f76, f77, _⟩ := h
  exact q_72v_36 (q0 := q0) (n0 := ρ 4) (n1 := ρ 3) (n2 := ρ 2) (n3 := ρ 1) (n4 := ρ 0) (n5 := ρ 5) (n6 := ρ 6) (n7 := ρ 7) (n8 := ρ 8) (n9 := ρ 9) (n10 := ρ 10) (n11 := ρ 11) (n12 := ρ 12) (n13 := ρ 13) (n14 := ρ 14) (n15 := ρ 15) (n16 := ρ 16) (n17 := ρ 17) (n18 := ρ 18) (n19 := ρ 19) (n20 := ρ 20) (n21 := ρ 21) (n22 := ρ 22) (n23 := ρ 23) (n24 := ρ 24) (n25 := ρ 25) (n26 := ρ 26) (n27 := ρ 27) (n28 := ρ 28) (n29 := ρ 29) (n30 := ρ 30) (n31 := ρ 31) (H0 := η 0) (H1 := η 1) (H2 := η 2) (H3 := η 3) (H4 := η 4) (H5 := η 5) (H6 := η 6) (H7 := η 7) (H8 := η 8) (H9 := η 9) (H10 := η 10) f77 f76 f75 f74 f73 f72 f71 f70 f69 f68 f67 f66 f65 f64 f63 f62 f61 f60 f59 f58 f57 f56 f55 f54 f53 f52 f51 f50 f49 f48 f47 f46 f45 f44 f43 f42 f41 f40 f39 f38 f37 f36 f35 f34 f33 f32 f31 f30 f29 f28 f27 f26 f25 f24 f23 f22 f21 f20 f19 f18 f17 f16 f15 f14 f13 f12 f11 f10 f9 f8 f7 f6 f5 f4 f3 f2 f1 f0
set_option maxHeartbeats 20000000 in
def p_72v_6 : List vG := [([(1201, [8, 9, 3], [2, 3], 0), (20, [9, 1], [2], 13), (90, [9], [], -2147483648), (91, [9], [], 2147483647), (20, [8, 1], [2], 11), (0, [8], [], 47), (1201, [6, 7, 2], [1, 2], 0), (20, [7, 1], [1], 13), (90, [7], [], -2147483648), (91, [7], [], 2147483647), (20, [6, 1], [1], 10), (0, [6], [], 46), (44, [4, 5], [], 0), (0, [5], [], 16), (5000, [0, 1, 2, 3, 4], [0, 1], 6), (0, [0], [], 30), (0, [1], [], 30), (90, [2], [], -2147483648), (91, [2], [], 2147483647), (90, [3], [], -2147483648), (91, [3], [], 2147483647), (90, [4], [], -2147483648), (91, [4], [], 2147483647)], (3000, [], [3], 248)),
  ([(1201, [9, 10, 3], [2, 3], 0), (20, [10, 1], [2], 13), (90, [10], [], -2147483648), (91, [10], [], 2147483647), (20, [9, 1], [2], 11), (0, [9], [], 47), (1201, [7, 8, 2], [1, 2], 0), (20, [8, 1], [1], 13), (90, [8], [], -2147483648), (91, [8], [], 2147483647), (20, [7, 1], [1], 10), (0, [7], [], 46), (31, [6], [], 0), (20, [6, 1], [1], 3), (90, [6], [], -2147483648), (91, [6], [], 2147483647), (45, [4, 5], [], 0), (0, [5], [], 16), (5000, [0, 1, 2, 3, 4], [0, 1], 6), (0, [0], [], 30), (0, [1], [], 30), (90, [2], [], -2147483648), (91, [2], [], 2147483647), (90, [3], [], -2147483648), (91, [3], [], 2147483647), (90, [4], [], -2147483648), (91, [4], [], 2147483647)], (3000, [], [3], 248)),
  ([(1201, [11, 12, 3], [3, 4], 0), (20, [12, 1], [3], 13), (90, [12], [], -2147483648), (91, [12], [], 2147483647), (20, [11, 1], [3], 11), (0, [11], [], 47), (1201, [9, 10, 2], [2, 3], 0), (20, [10, 1], [2], 13), (90, [10], [], -2147483648), (91, [10], [], 2147483647), (20, [9, 1], [2], 10), (0, [9], [], 46), (30, [8], [], 0), (1073, [8, 7], [1, 2], 0), (90, [8], [], 0), (91, [8], [], 1), (20, [7, 1], [1], 2), (90, [7], [], -2147483648), (91, [7], [], 2147483647), (30, [6], [], 0), (20, [6, 1], [1], 3), (90, [6], [], -2147483648), (91, [6], [], 2147483647), (45, [4, 5], [], 0), (0, [5], [], 16), (5000, [0, 1, 2, 3, 4], [0, 1], 6), (0, [0], [], 30), (0, [1], [], 30), (90, [2], [], -2147483648), (91, [2], [], 2147483647), (90, [3], [], -2147483648), (91, [3], [], 2147483647), (90, [4], [], -2147483648), (91, [4], [], 2147483647)], (3000, [], [4], 248)),
  ([(20, [9, 1], [2], 13), (90, [9], [], -2147483648), (91, [9], [], 2147483647), (31, [8], [], 0), (1073, [8, 7], [1, 2], 0), (90, [8], [], 0), (91, [8], [], 1), (20, [7, 1], [1], 2), (90, [7], [], -2147483648), (91, [7], [], 2147483647), (30, [6], [], 0), (20, [6, 1], [1], 3), (90, [6], [], -2147483648), (91, [6], [], 2147483647), (45, [4, 5], [], 0), (0, [5], [], 16), (5000, [0, 1, 2, 3, 4], [0, 1], 6), (0, [0], [], 30), (0, [1], [], 30), (90, [2], [], -2147483648), (91, [2], [], 2147483647), (90, [3], [], -2147483648), (91, [3], [], 2147483647), (90, [4], [], -2147483648), (91, [4], [], 2147483647)], (2074, [1, 9, 2], [2], 0)),
  ([(0, [11], [], 2), (50, [10], [], 0), (1074, [10, 1, 9, 2], [2, 3], 0), (20, [9, 1], [2], 13), (90, [9], [], -2147483648), (91, [9], [], 2147483647), (31, [8], [], 0), (1073, [8, 7], [1, 2], 0), (90, [8], [], 0), (91, [8], [], 1), (20, [7, 1], [1], 2), (90, [7], [], -2147483648), (91, [7], [], 2147483647), (30, [6], [], 0), (20, [6, 1], [1], 3), (90, [6], [], -2147483648), (91, [6], [], 2147483647), (45, [4, 5], [], 0), (0, [5], [], 16), (5000, [0, 1, 2, 3, 4], [0, 1], 6), (0, [0], [], 30), (0, [1], [], 30), (90, [2], [], -2147483648), (91, [2], [], 2147483647), (90, [3], [], -2147483648), (91, [3], [], 2147483647), (90, [4], [], -2147483648), (91, [4], [], 2147483647)], (2064, [1, 11], [3], 0)),
  ([(10, [12, 4], [], 1), (1064, [1, 11], [3, 4], 0), (0, [11], [], 2), (50, [10], [], 0), (1074, [10, 1, 9, 2], [2, 3], 0), (20, [9, 1], [2], 13), (90, [9], [], -2147483648), (91, [9], [], 2147483647), (31, [8], [], 0), (1073, [8, 7], [1, 2], 0), (90, [8], [], 0), (91, [8], [], 1), (20, [7, 1], [1], 2), (90, [7], [], -2147483648), (91, [7], [], 2147483647), (30, [6], [], 0), (20, [6, 1], [1], 3), (90, [6], [], -2147483648), (91, [6], [], 2147483647), (45, [4, 5], [], 0), (0, [5], [], 16), (5000, [0, 1, 2, 3, 4], [0, 1], 6), (0, [0], [], 30), (0, [1], [], 30), (90, [2], [], -2147483648), (91, [2], [], 2147483647), (90, [3], [], -2147483648), (91, [3], [], 2147483647), (90, [4], [], -2147483648), (91, [4], [], 2147483647)], (4000, [1, 2, 3, 12], [4], 6)),
  ([(1124, [16, 14, 15], [3, 4], 0), (90, [16], [], -2147483648), (91, [16], [], 2147483647), (20, [15, 1], [3], 1), (90, [15], [], -2147483648), (91, [15], [], 2147483647), (20, [14, 1], [3], 0), (0, [14], [], 31), (2, [13, 11, 12], [], 0), (0, [12], [], 20), (20, [11, 1], [3], 2), (90, [11], [], -2147483648), (91, [11], [], 2147483647), (51, [10], [], 0), (1074, [10, 1, 9, 2], [2, 3], 0), (20, [9, 1], [2], 13), (90, [9], [], -2147483648), (91, [9], [], 2147483647), (31, [8], [], 0), (1073, [8, 7], [1, 2], 0), (90, [8], [], 0), (91, [8], [], 1), (20, [7, 1], [1], 2), (90, [7], [], -2147483648), (91, [7], [], 2147483647), (30, [6], [], 0), (20, [6, 1], [1], 3), (90, [6], [], -2147483648), (91, [6], [], 2147483647), (45, [4, 5], [], 0), (0, [5], [], 16), (5000, [0, 1, 2, 3, 4], [0, 1], 6), (0, [0], [], 30), (0, [1], [], 30), (90, [2], [], -2147483648), (91, [2], [], 2147483647), (90, [3], [], -2147483648), (91, [3], [], 2147483647), (90, [4], [], -2147483648), (91, [4], [], 2147483647)], (2024, [10, 13, 16], [4], 0)),
  ([(20, [17, 1], [5], 2), (90, [17], [], -2147483648), (91, [17], [], 2147483647), (1024, [10, 13, 16], [4, 5], 0), (1124, [16, 14, 15], [3, 4], 0), (90, [16], [], -2147483648), (91, [16], [], 2147483647), (20, [15, 1], [3], 1), (90, [15], [], -2147483648), (91, [15], [], 2147483647), (20, [14, 1], [3], 0), (0, [14], [], 31), (2, [13, 11, 12], [], 0), (0, [12], [], 20), (20, [11, 1], [3], 2), (90, [11], [], -2147483648), (91, [11], [], 2147483647), (51, [10], [], 0), (1074, [10, 1, 9, 2], [2, 3], 0), (20, [9, 1], [2], 13), (90, [9], [], -2147483648), (91, [9], [], 2147483647), (31, [8], [], 0), (1073, [8, 7], [1, 2], 0), (90, [8], [], 0), (91, [8], [], 1), (20, [7, 1], [1], 2), (90, [7], [], -2147483648), (91, [7], [], 2147483647), (30, [6], [], 0), (20, [6, 1], [1], 3), (90, [6], [], -2147483648), (91, [6], [], 2147483647), (45, [4, 5], [], 0), (0, [5], [], 16), (5000, [0, 1, 2, 3, 4], [0, 1], 6), (0, [0], [], 30), (0, [1], [], 30), (90, [2], [], -2147483648), (91, [2], [], 2147483647), (90, [3], [], -2147483648), (91, [3], [], 2147483647), (90, [4], [], -2147483648), (91, [4], [], 2147483647)], (2066, [1, 17], [5], 0)),
  ([(66, [18], [], 0), (20, [18, 10], [6], 0), (23, [10], [6], 1), (90, [18], [], -2147483648), (91, [18], [], 2147483647), (1066, [1, 17], [5, 6], 0), (20, [17, 1], [5], 2), (90, [17], [], -2147483648), (91, [17], [], 2147483647), (1024, [10, 13, 16], [4, 5], 0), (1124, [16, 14, 15], [3, 4], 0), (90, [16], [], -2147483648), (91, [16], [], 2147483647), (20, [15, 1], [3], 1), (90, [15], [], -2147483648), (91, [15], [], 2147483647), (20, [14, 1], [3], 0), (0, [14], [], 31), (2, [13, 11, 12], [], 0), (0, [12], [], 20), (20, [11, 1], [3], 2), (90, [11], [], -2147483648), (91, [11], [], 2147483647), (51, [10], [], 0), (1074, [10, 1, 9, 2], [2, 3], 0), (20, [9, 1], [2], 13), (90, [9], [], -2147483648), (91, [9], [], 2147483647), (31, [8], [], 0), (1073, [8, 7], [1, 2], 0), (90, [8], [], 0), (91, [8], [], 1), (20, [7, 1], [1], 2), (90, [7], [], -2147483648), (91, [7], [], 2147483647), (30, [6], [], 0), (20, [6, 1], [1], 3), (90, [6], [], -2147483648), (91, [6], [], 2147483647), (45, [4, 5], [], 0), (0, [5], [], 16), (5000, [0, 1, 2, 3, 4], [0, 1], 6), (0, [0], [], 30), (0, [1], [], 30), (90, [2], [], -2147483648), (91, [2], [], 2147483647), (90, [3], [], -2147483648), (91, [3], [], 2147483647), (90, [4], [], -2147483648), (91, [4], [], 2147483647)], (2080, [1, 10], [6], 0)),
  ([(0, [19], [], 4), (1080, [1, 10], [6, 7], 0), (66, [18], [], 0), (20, [18, 10], [6], 0), (23, [10], [6], 1), (90, [18], [], -2147483648), (91, [18], [], 2147483647), (1066, [1, 17], [5, 6], 0), (20, [17, 1], [5], 2), (90, [17], [], -2147483648), (91, [17], [], 2147483647), (1024, [10, 13, 16], [4, 5], 0), (1124, [16, 14, 15], [3, 4], 0), (90, [16], [], -2147483648), (91, [16], [], 2147483647), (20, [15, 1], [3], 1), (90, [15], [], -2147483648), (91, [15], [], 2147483647), (20, [14, 1], [3], 0), (0, [14], [], 31), (2, [13, 11, 12], [], 0), (0, [12], [], 20), (20, [11, 1], [3], 2), (90, [11], [], -2147483648), (91, [11], [], 2147483647), (51, [10], [], 0), (1074, [10, 1, 9, 2], [2, 3], 0), (20, [9, 1], [2], 13), (90, [9], [], -2147483648), (91, [9], [], 2147483647), (31, [8], [], 0), (1073, [8, 7], [1, 2], 0), (90, [8], [], 0), (91, [8], [], 1), (20, [7, 1], [1], 2), (90, [7], [], -2147483648), (91, [7], [], 2147483647), (30, [6], [], 0), (20, [6, 1], [1], 3), (90, [6], [], -2147483648), (91, [6], [], 2147483647), (45, [4, 5], [], 0), (0, [5], [], 16), (5000, [0, 1, 2, 3, 4], [0, 1], 6), (0, [0], [], 30), (0, [1], [], 30), (90, [2], [], -2147483648), (91, [2], [], 2147483647), (90, [3], [], -2147483648), (91, [3], [], 2147483647), (90, [4], [], -2147483648), (91, [4], [], 2147483647)], (2066, [1, 19], [7], 0)),
  ([(10, [25, 4], [], 1), (1, [24, 3, 23], [], 0), (0, [23], [], 1), (41, [21, 22], [], 0), (0, [22], [], 5), (20, [21, 10], [8], 0), (23, [10], [8], 1), (90, [21], [], -2147483648), (91, [21], [], 2147483647), (10, [20, 2], [], 1), (1066, [1, 19], [7, 8], 0), (0, [19], [], 4), (1080, [1, 10], [6, 7], 0), (66, [18], [], 0), (20, [18, 10], [6], 0), (23, [10], [6], 1), (90, [18], [], -2147483648), (91, [18], [], 2147483647), (1066, [1, 17], [5, 6], 0), (20, [17, 1], [5], 2), (90, [17], [], -2147483648), (91, [17], [], 2147483647), (1024, [10, 13, 16], [4, 5], 0), (1124, [16, 14, 15], [3, 4], 0), (90, [16], [], -2147483648), (91, [16], [], 2147483647), (20, [15, 1], [3], 1), (90, [15], [], -2147483648), (91, [15], [], 2147483647), (20, [14, 1], [3], 0), (0, [14], [], 31), (2, [13, 11, 12], [], 0), (0, [12], [], 20), (20, [11, 1], [3], 2), (90, [11], [], -2147483648), (91, [11], [], 2147483647), (51, [10], [], 0), (1074, [10, 1, 9, 2], [2, 3], 0), (20, [9, 1], [2], 13), (90, [9], [], -2147483648), (91, [9], [], 2147483647), (31, [8], [], 0), (1073, [8, 7], [1, 2], 0), (90, [8], [], 0), (91, [8], [], 1), (20, [7, 1], [1], 2), (90, [7], [], -2147483648), (91, [7], [], 2147483647), (30, [6], [], 0), (20, [6, 1], [1], 3), (90, [6], [], -2147483648), (91, [6], [], 2147483647), (45, [4, 5], [], 0), (0, [5], [], 16), (5000, [0, 1, 2, 3, 4], [0, 1], 6), (0, [0], [], 30), (0, [1], [], 30), (90, [2], [], -2147483648), (91, [2], [], 2147483647), (90, [3], [], -2147483648), (91, [3], [], 2147483647), (90, [4], [], -2147483648), (91, [4], [], 2147483647)], (4000, [1, 20, 24, 25], [8], 6)),
  ([(10, [27, 4], [], 1), (1, [26, 3, 25], [], 0), (1199, [25, 23, 24], [8, 9], 0), (90, [25], [], -2147483648), (91, [25], [], 2147483647), (20, [24, 10], [8], 2), (23, [10], [8], 1), (90, [24], [], -2147483648), (91, [24], [], 2147483647), (20, [23, 1], [8], 11), (0, [23], [], 47), (40, [21, 22], [], 0), (0, [22], [], 5), (20, [21, 10], [8], 0), (23, [10], [8], 1), (90, [21], [], -2147483648), (91, [21], [], 2147483647), (10, [20, 2], [], 1), (1066, [1, 19], [7, 8], 0), (0, [19], [], 4), (1080, [1, 10], [6, 7], 0), (66, [18], [], 0), (20, [18, 10], [6], 0), (23, [10], [6], 1), (90, [18], [], -2147483648), (91, [18], [], 2147483647), (1066, [1, 17], [5, 6], 0), (20, [17, 1], [5], 2), (90, [17], [], -2147483648), (91, [17], [], 2147483647), (1024, [10, 13, 16], [4, 5], 0), (1124, [16, 14, 15], [3, 4], 0), (90, [16], [], -2147483648), (91, [16], [], 2147483647), (20, [15, 1], [3], 1), (90, [15], [], -2147483648), (91, [15], [], 2147483647), (20, [14, 1], [3], 0), (0, [14], [], 31), (2, [13, 11, 12], [], 0), (0, [12], [], 20), (20, [11, 1], [3], 2), (90, [11], [], -2147483648), (91, [11], [], 2147483647), (51, [10], [], 0), (1074, [10, 1, 9, 2], [2, 3], 0), (20, [9, 1], [2], 13), (90, [9], [], -2147483648), (91, [9], [], 2147483647), (31, [8], [], 0), (1073, [8, 7], [1, 2], 0), (90, [8], [], 0), (91, [8], [], 1), (20, [7, 1], [1], 2), (90, [7], [], -2147483648), (91, [7], [], 2147483647), (30, [6], [], 0), (20, [6, 1], [1], 3), (90, [6], [], -2147483648), (91, [6], [], 2147483647), (45, [4, 5], [], 0), (0, [5], [], 16), (5000, [0, 1, 2, 3, 4], [0, 1], 6), (0, [0], [], 30), (0, [1], [], 30), (90, [2], [], -2147483648), (91, [2], [], 2147483647), (90, [3], [], -2147483648), (91, [3], [], 2147483647), (90, [4], [], -2147483648), (91, [4], [], 2147483647)], (4000, [1, 20, 26, 27], [9], 6)),
  ([(67, [18], [], 4), (20, [18, 10], [6], 0), (23, [10], [6], 1), (90, [18], [], -2147483648), (91, [18], [], 2147483647), (1066, [1, 17], [5, 6], 0), (20, [17, 1], [5], 2), (90, [17], [], -2147483648), (91, [17], [], 2147483647), (1024, [10, 13, 16], [4, 5], 0), (1124, [16, 14, 15], [3, 4], 0), (90, [16], [], -2147483648), (91, [16], [], 2147483647), (20, [15, 1], [3], 1), (90, [15], [], -2147483648), (91, [15], [], 2147483647), (20, [14, 1], [3], 0), (0, [14], [], 31), (2, [13, 11, 12], [], 0), (0, [12], [], 20), (20, [11, 1], [3], 2), (90, [11], [], -2147483648), (91, [11], [], 2147483647), (51, [10], [], 0), (1074, [10, 1, 9, 2], [2, 3], 0), (20, [9, 1], [2], 13), (90, [9], [], -2147483648), (91, [9], [], 2147483647), (31, [8], [], 0), (1073, [8, 7], [1, 2], 0), (90, [8], [], 0), (91, [8], [], 1), (20, [7, 1], [1], 2), (90, [7], [], -2147483648), (91, [7], [], 2147483647), (30, [6], [], 0), (20, [6, 1], [1], 3), (90, [6], [], -2147483648), (91, [6], [], 2147483647), (45, [4, 5], [], 0), (0, [5], [], 16), (5000, [0, 1, 2, 3, 4], [0, 1], 6), (0, [0], [], 30), (0, [1], [], 30), (90, [2], [], -2147483648), (91, [2], [], 2147483647), (90, [3], [], -2147483648), (91, [3], [], 2147483647), (90, [4], [], -2147483648), (91, [4], [], 2147483647)], (2080, [1, 10], [6], 0)),
  ([(0, [19], [], 4), (1080, [1, 10], [6, 7], 0), (67, [18], [], 4), (20, [18, 10], [6], 0), (23, [10], [6], 1), (90, [18], [], -2147483648), (91, [18], [], 2147483647), (1066, [1, 17], [5, 6], 0), (20, [17, 1], [5], 2), (90, [17], [], -2147483648), (91, [17], [], 2147483647), (1024, [10, 13, 16], [4, 5], 0), (1124, [16, 14, 15], [3, 4], 0), (90, [16], [], -2147483648), (91, [16], [], 2147483647), (20, [15, 1], [3], 1), (90, [15], [], -2147483648), (91, [15], [], 2147483647), (20, [14, 1], [3], 0), (0, [14], [], 31), (2, [13, 11, 12], [], 0), (0, [12], [], 20), (20, [11, 1], [3], 2), (90, [11], [], -2147483648), (91, [11], [], 2147483647), (51, [10], [], 0), (1074, [10, 1, 9, 2], [2, 3], 0), (20, [9, 1], [2], 13), (90, [9], [], -2147483648), (91, [9], [], 2147483647), (31, [8], [], 0), (1073, [8, 7], [1, 2], 0), (90, [8], [], 0), (91, [8], [], 1), (20, [7, 1], [1], 2), (90, [7], [], -2147483648), (91, [7], [], 2147483647), (30, [6], [], 0), (20, [6, 1], [1], 3), (90, [6], [], -2147483648), (91, [6], [], 2147483647), (45, [4, 5], [], 0), (0, [5], [], 16), (5000, [0, 1, 2, 3, 4], [0, 1], 6), (0, [0], [], 30), (0, [1], [], 30), (90, [2], [], -2147483648), (91, [2], [], 2147483647), (90, [3], [], -2147483648), (91, [3], [], 2147483647), (90, [4], [], -2147483648), (91, [4], [], 2147483647)], (2066, [1, 19], [7], 0)),
  ([(10, [25, 4], [], 1), (1, [24, 3, 23], [], 0), (0, [23], [], 1), (41, [21, 22], [], 0), (0, [22], [], 5), (20, [21, 10], [8], 0), (23, [10], [8], 1), (90, [21], [], -2147483648), (91, [21], [], 2147483647), (10, [20, 2], [], 1), (1066, [1, 19], [7, 8], 0), (0, [19], [], 4), (1080, [1, 10], [6, 7], 0), (67, [18], [], 4), (20, [18, 10], [6], 0), (23, [10], [6], 1), (90, [18], [], -2147483648), (91, [18], [], 2147483647), (1066, [1, 17], [5, 6], 0), (20, [17, 1], [5], 2), (90, [17], [], -2147483648), (91, [17], [], 2147483647), (1024, [10, 13, 16], [4, 5], 0), (1124, [16, 14, 15], [3, 4], 0), (90, [16], [], -2147483648), (91, [16], [], 2147483647), (20, [15, 1], [3], 1), (90, [15], [], -2147483648), (91, [15], [], 2147483647), (20, [14, 1], [3], 0), (0, [14], [], 31), (2, [13, 11, 12], [], 0), (0, [12], [], 20), (20, [11, 1], [3], 2), (90, [11], [], -2147483648), (91, [11], [], 2147483647), (51, [10], [], 0), (1074, [10, 1, 9, 2], [2, 3], 0), (20, [9, 1], [2], 13), (90, [9], [], -2147483648), (91, [9], [], 2147483647), (31, [8], [], 0), (1073, [8, 7], [1, 2], 0), (90, [8], [], 0), (91, [8], [], 1), (20, [7, 1], [1], 2), (90, [7], [], -2147483648), (91, [7], [], 2147483647), (30, [6], [], 0), (20, [6, 1], [1], 3), (90, [6], [], -2147483648), (91, [6], [], 2147483647), (45, [4, 5], [], 0), (0, [5], [], 16), (5000, [0, 1, 2, 3, 4], [0, 1], 6), (0, [0], [], 30), (0, [1], [], 30), (90, [2], [], -2147483648), (91, [2], [], 2147483647), (90, [3], [], -2147483648), (91, [3], [], 2147483647), (90, [4], [], -2147483648), (91, [4], [], 2147483647)], (4000, [1, 20, 24, 25], [8], 6)),
  ([(10, [27, 4], [], 1), (1, [26, 3, 25], [], 0), (1199, [25, 23, 24], [8, 9], 0), (90, [25], [], -2147483648), (91, [25], [], 2147483647), (20, [24, 10], [8], 2), (23, [10], [8], 1), (90, [24], [], -2147483648), (91, [24], [], 2147483647), (20, [23, 1], [8], 11), (0, [23], [], 47), (40, [21, 22], [], 0), (0, [22], [], 5), (20, [21, 10], [8], 0), (23, [10], [8], 1), (90, [21], [], -2147483648), (91, [21], [], 2147483647), (10, [20, 2], [], 1), (1066, [1, 19], [7, 8], 0), (0, [19], [], 4), (1080, [1, 10], [6, 7], 0), (67, [18], [], 4), (20, [18, 10], [6], 0), (23, [10], [6], 1), (90, [18], [], -2147483648), (91, [18], [], 2147483647), (1066, [1, 17], [5, 6], 0), (20, [17, 1], [5], 2), (90, [17], [], -2147483648), (91, [17], [], 2147483647), (1024, [10, 13, 16], [4, 5], 0), (1124, [16, 14, 15], [3, 4], 0), (90, [16], [], -2147483648), (91, [16], [], 2147483647), (20, [15, 1], [3], 1), (90, [15], [], -2147483648), (91, [15], [], 2147483647), (20, [14, 1], [3], 0), (0, [14], [], 31), (2, [13, 11, 12], [], 0), (0, [12], [], 20), (20, [11, 1], [3], 2), (90, [11], [], -2147483648), (91, [11], [], 2147483647), (51, [10], [], 0), (1074, [10, 1, 9, 2], [2, 3], 0), (20, [9, 1], [2], 13), (90, [9], [], -2147483648), (91, [9], [], 2147483647), (31, [8], [], 0), (1073, [8, 7], [1, 2], 0), (90, [8], [], 0), (91, [8], [], 1), (20, [7, 1], [1], 2), (90, [7], [], -2147483648), (91, [7], [], 2147483647), (30, [6], [], 0), (20, [6, 1], [1], 3), (90, [6], [], -2147483648), (91, [6], [], 2147483647), (45, [4, 5], [], 0), (0, [5], [], 16), (5000, [0, 1, 2, 3, 4], [0, 1], 6), (0, [0], [], 30), (0, [1], [], 30), (90, [2], [], -2147483648), (91, [2], [], 2147483647), (90, [3], [], -2147483648), (91, [3], [], 2147483647), (90, [4], [], -2147483648), (91, [4], [], 2147483647)], (4000, [1, 20, 26, 27], [9], 6)),
  ([(0, [18], [], 0), (20, [18, 10], [6], 0), (23, [10], [6], 1), (90, [18], [], -2147483648), (91, [18], [], 2147483647), (1066, [1, 17], [5, 6], 0), (20, [17, 1], [5], 2), (90, [17], [], -2147483648), (91, [17], [], 2147483647), (1024, [10, 13, 16], [4, 5], 0), (1124, [16, 14, 15], [3, 4], 0), (90, [16], [], -2147483648), (91, [16], [], 2147483647), (20, [15, 1], [3], 1), (90, [15], [], -2147483648), (91, [15], [], 2147483647), (20, [14, 1], [3], 0), (0, [14], [], 31), (2, [13, 11, 12], [], 0), (0, [12], [], 20), (20, [11, 1], [3], 2), (90, [11], [], -2147483648), (91, [11], [], 2147483647), (51, [10], [], 0), (1074, [10, 1, 9, 2], [2, 3], 0), (20, [9, 1], [2], 13), (90, [9], [], -2147483648), (91, [9], [], 2147483647), (31, [8], [], 0), (1073, [8, 7], [1, 2], 0), (90, [8], [], 0), (91, [8], [], 1), (20, [7, 1], [1], 2), (90, [7], [], -2147483648), (91, [7], [], 2147483647), (30, [6], [], 0), (20, [6, 1], [1], 3), (90, [6], [], -2147483648), (91, [6], [], 2147483647), (45, [4, 5], [], 0), (0, [5], [], 16), (5000, [0, 1, 2, 3, 4], [0, 1], 6), (0, [0], [], 30), (0, [1], [], 30), (90, [2], [], -2147483648), (91, [2], [], 2147483647), (90, [3], [], -2147483648), (91, [3], [], 2147483647), (90, [4], [], -2147483648), (91, [4], [], 2147483647)], (2075, [1, 10], [6], 0)),
  ([(0, [19], [], 4), (1075, [1, 10], [6, 7], 0), (0, [18], [], 0), (20, [18, 10], [6], 0), (23, [10], [6], 1), (90, [18], [], -2147483648), (91, [18], [], 2147483647), (1066, [1, 17], [5, 6], 0), (20, [17, 1], [5], 2), (90, [17], [], -2147483648), (91, [17], [], 2147483647), (1024, [10, 13, 16], [4, 5], 0), (1124, [16, 14, 15], [3, 4], 0), (90, [16], [], -2147483648), (91, [16], [], 2147483647), (20, [15, 1], [3], 1), (90, [15], [], -2147483648), (91, [15], [], 2147483647), (20, [14, 1], [3], 0), (0, [14], [], 31), (2, [13, 11, 12], [], 0), (0, [12], [], 20), (20, [11, 1], [3], 2), (90, [11], [], -2147483648), (91, [11], [], 2147483647), (51, [10], [], 0), (1074, [10, 1, 9, 2], [2, 3], 0), (20, [9, 1], [2], 13), (90, [9], [], -2147483648), (91, [9], [], 2147483647), (31, [8], [], 0), (1073, [8, 7], [1, 2], 0), (90, [8], [], 0), (91, [8], [], 1), (20, [7, 1], [1], 2), (90, [7], [], -2147483648), (91, [7], [], 2147483647), (30, [6], [], 0), (20, [6, 1], [1], 3), (90, [6], [], -2147483648), (91, [6], [], 2147483647), (45, [4, 5], [], 0), (0, [5], [], 16), (5000, [0, 1, 2, 3, 4], [0, 1], 6), (0, [0], [], 30), (0, [1], [], 30), (90, [2], [], -2147483648), (91, [2], [], 2147483647), (90, [3], [], -2147483648), (91, [3], [], 2147483647), (90, [4], [], -2147483648), (91, [4], [], 2147483647)], (2066, [1, 19], [7], 0)),
  ([(10, [25, 4], [], 1), (1, [24, 3, 23], [], 0), (0, [23], [], 1), (41, [21, 22], [], 0), (0, [22], [], 5), (20, [21, 10], [8], 0), (23, [10], [8], 1), (90, [21], [], -2147483648), (91, [21], [], 2147483647), (10, [20, 2], [], 1), (1066, [1, 19], [7, 8], 0), (0, [19], [], 4), (1075, [1, 10], [6, 7], 0), (0, [18], [], 0), (20, [18, 10], [6], 0), (23, [10], [6], 1), (90, [18], [], -2147483648), (91, [18], [], 2147483647), (1066, [1, 17], [5, 6], 0), (20, [17, 1], [5], 2), (90, [17], [], -2147483648), (91, [17], [], 2147483647), (1024, [10, 13, 16], [4, 5], 0), (1124, [16, 14, 15], [3, 4], 0), (90, [16], [], -2147483648), (91, [16], [], 2147483647), (20, [15, 1], [3], 1), (90, [15], [], -2147483648), (91, [15], [], 2147483647), (20, [14, 1], [3], 0), (0, [14], [], 31), (2, [13, 11, 12], [], 0), (0, [12], [], 20), (20, [11, 1], [3], 2), (90, [11], [], -2147483648), (91, [11], [], 2147483647), (51, [10], [], 0), (1074, [10, 1, 9, 2], [2, 3], 0), (20, [9, 1], [2], 13), (90, [9], [], -2147483648), (91, [9], [], 2147483647), (31, [8], [], 0), (1073, [8, 7], [1, 2], 0), (90, [8], [], 0), (91, [8], [], 1), (20, [7, 1], [1], 2), (90, [7], [], -2147483648), (91, [7], [], 2147483647), (30, [6], [], 0), (20, [6, 1], [1], 3), (90, [6], [], -2147483648), (91, [6], [], 2147483647), (45, [4, 5], [], 0), (0, [5], [], 16), (5000, [0, 1, 2, 3, 4], [0, 1], 6), (0, [0], [], 30), (0, [1], [], 30), (90, [2], [], -2147483648), (91, [2], [], 2147483647), (90, [3], [], -2147483648), (91, [3], [], 2147483647), (90, [4], [], -2147483648), (91, [4], [], 2147483647)], (4000, [1, 20, 24, 25], [8], 6)),
  ([(10, [27, 4], [], 1), (1, [26, 3, 25], [], 0), (1199, [25, 23, 24], [8, 9], 0), (90, [25], [], -2147483648), (91, [25], [], 2147483647), (20, [24, 10], [8], 2), (23, [10], [8], 1), (90, [24], [], -2147483648), (91, [24], [], 2147483647), (20, [23, 1], [8], 11), (0, [23], [], 47), (40, [21, 22], [], 0), (0, [22], [], 5), (20, [21, 10], [8], 0), (23, [10], [8], 1), (90, [21], [], -2147483648), (91, [21], [], 2147483647), (10, [20, 2], [], 1), (1066, [1, 19], [7, 8], 0), (0, [19], [], 4), (1075, [1, 10], [6, 7], 0), (0, [18], [], 0), (20, [18, 10], [6], 0), (23, [10], [6], 1), (90, [18], [], -2147483648), (91, [18], [], 2147483647), (1066, [1, 17], [5, 6], 0), (20, [17, 1], [5], 2), (90, [17], [], -2147483648), (91, [17], [], 2147483647), (1024, [10, 13, 16], [4, 5], 0), (1124, [16, 14, 15], [3, 4], 0), (90, [16], [], -2147483648), (91, [16], [], 2147483647), (20, [15, 1], [3], 1), (90, [15], [], -2147483648), (91, [15], [], 2147483647), (20, [14, 1], [3], 0), (0, [14], [], 31), (2, [13, 11, 12], [], 0), (0, [12], [], 20), (20, [11, 1], [3], 2), (90, [11], [], -2147483648), (91, [11], [], 2147483647), (51, [10], [], 0), (1074, [10, 1, 9, 2], [2, 3], 0), (20, [9, 1], [2], 13), (90, [9], [], -2147483648), (91, [9], [], 2147483647), (31, [8], [], 0), (1073, [8, 7], [1, 2], 0), (90, [8], [], 0), (91, [8], [], 1), (20, [7, 1], [1], 2), (90, [7], [], -2147483648), (91, [7], [], 2147483647), (30, [6], [], 0), (20, [6, 1], [1], 3), (90, [6], [], -2147483648), (91, [6], [], 2147483647), (45, [4, 5], [], 0), (0, [5], [], 16), (5000, [0, 1, 2, 3, 4], [0, 1], 6), (0, [0], [], 30), (0, [1], [], 30), (90, [2], [], -2147483648), (91, [2], [], 2147483647), (90, [3], [], -2147483648), (91, [3], [], 2147483647), (90, [4], [], -2147483648), (91, [4], [], 2147483647)], (4000, [1, 20, 26, 27], [9], 6)),
  ([(0, [18], [], 1), (20, [18, 10], [6], 0), (23, [10], [6], 1), (90, [18], [], -2147483648), (91, [18], [], 2147483647), (1066, [1, 17], [5, 6], 0), (20, [17, 1], [5], 2), (90, [17], [], -2147483648), (91, [17], [], 2147483647), (1024, [10, 13, 16], [4, 5], 0), (1124, [16, 14, 15], [3, 4], 0), (90, [16], [], -2147483648), (91, [16], [], 2147483647), (20, [15, 1], [3], 1), (90, [15], [], -2147483648), (91, [15], [], 2147483647), (20, [14, 1], [3], 0), (0, [14], [], 31), (2, [13, 11, 12], [], 0), (0, [12], [], 20), (20, [11, 1], [3], 2), (90, [11], [], -2147483648), (91, [11], [], 2147483647), (51, [10], [], 0), (1074, [10, 1, 9, 2], [2, 3], 0), (20, [9, 1], [2], 13), (90, [9], [], -2147483648), (91, [9], [], 2147483647), (31, [8], [], 0), (1073, [8, 7], [1, 2], 0), (90, [8], [], 0), (91, [8], [], 1), (20, [7, 1], [1], 2), (90, [7], [], -2147483648), (91, [7], [], 2147483647), (30, [6], [], 0), (20, [6, 1], [1], 3), (90, [6], [], -2147483648), (91, [6], [], 2147483647), (45, [4, 5], [], 0), (0, [5], [], 16), (5000, [0, 1, 2, 3, 4], [0, 1], 6), (0, [0], [], 30), (0, [1], [], 30), (90, [2], [], -2147483648), (91, [2], [], 2147483647), (90, [3], [], -2147483648), (91, [3], [], 2147483647), (90, [4], [], -2147483648), (91, [4], [], 2147483647)], (2076, [1, 10], [6], 0)),
  ([(0, [19], [], 4), (1076, [1, 10], [6, 7], 0), (0, [18], [], 1), (20, [18, 10], [6], 0), (23, [10], [6], 1), (90, [18], [], -2147483648), (91, [18], [], 2147483647), (1066, [1, 17], [5, 6], 0), (20, [17, 1], [5], 2), (90, [17], [], -2147483648), (91, [17], [], 2147483647), (1024, [10, 13, 16], [4, 5], 0), (1124, [16, 14, 15], [3, 4], 0), (90, [16], [], -2147483648), (91, [16], [], 2147483647), (20, [15, 1], [3], 1), (90, [15], [], -2147483648), (91, [15], [], 2147483647), (20, [14, 1], [3], 0), (0, [14], [], 31), (2, [13, 11, 12], [], 0), (0, [12], [], 20), (20, [11, 1], [3], 2), (90, [11], [], -2147483648), (91, [11], [], 2147483647), (51, [10], [], 0), (1074, [10, 1, 9, 2], [2, 3], 0), (20, [9, 1], [2], 13), (90, [9], [], -2147483648), (91, [9], [], 2147483647), (31, [8], [], 0), (1073, [8, 7], [1, 2], 0), (90, [8], [], 0), (91, [8], [], 1), (20, [7, 1], [1], 2), (90, [7], [], -2147483648), (91, [7], [], 2147483647), (30, [6], [], 0), (20, [6, 1], [1], 3), (90, [6], [], -2147483648), (91, [6], [], 2147483647), (45, [4, 5], [], 0), (0, [5], [], 16), (5000, [0, 1, 2, 3, 4], [0, 1], 6), (0, [0], [], 30), (0, [1], [], 30), (90, [2], [], -2147483648), (91, [2], [], 2147483647), (90, [3], [], -2147483648), (91, [3], [], 2147483647), (90, [4], [], -2147483648), (91, [4], [], 2147483647)], (2066, [1, 19], [7], 0)),
  ([(10, [25, 4], [], 1), (1, [24, 3, 23], [], 0), (0, [23], [], 1), (41, [21, 22], [], 0), (0, [22], [], 5), (20, [21, 10], [8], 0), (23, [10], [8], 1), (90, [21], [], -2147483648), (91, [21], [], 2147483647), (10, [20, 2], [], 1), (1066, [1, 19], [7, 8], 0), (0, [19], [], 4), (1076, [1, 10], [6, 7], 0), (0, [18], [], 1), (20, [18, 10], [6], 0), (23, [10], [6], 1), (90, [18], [], -2147483648), (91, [18], [], 2147483647), (1066, [1, 17], [5, 6], 0), (20, [17, 1], [5], 2), (90, [17], [], -2147483648), (91, [17], [], 2147483647), (1024, [10, 13, 16], [4, 5], 0), (1124, [16, 14, 15], [3, 4], 0), (90, [16], [], -2147483648), (91, [16], [], 2147483647), (20, [15, 1], [3], 1), (90, [15], [], -2147483648), (91, [15], [], 2147483647), (20, [14, 1], [3], 0), (0, [14], [], 31), (2, [13, 11, 12], [], 0), (0, [12], [], 20), (20, [11, 1], [3], 2), (90, [11], [], -2147483648), (91, [11], [], 2147483647), (51, [10], [], 0), (1074, [10, 1, 9, 2], [2, 3], 0), (20, [9, 1], [2], 13), (90, [9], [], -2147483648), (91, [9], [], 2147483647), (31, [8], [], 0), (1073, [8, 7], [1, 2], 0), (90, [8], [], 0), (91, [8], [], 1), (20, [7, 1], [1], 2), (90, [7], [], -2147483648), (91, [7], [], 2147483647), (30, [6], [], 0), (20, [6, 1], [1], 3), (90, [6], [], -2147483648), (91, [6], [], 2147483647), (45, [4, 5], [], 0), (0, [5], [], 16), (5000, [0, 1, 2, 3, 4], [0, 1], 6), (0, [0], [], 30), (0, [1], [], 30), (90, [2], [], -2147483648), (91, [2], [], 2147483647), (90, [3], [], -2147483648), (91, [3], [], 2147483647), (90, [4], [], -2147483648), (91, [4], [], 2147483647)], (4000, [1, 20, 24, 25], [8], 6)),
  ([(10, [27, 4], [], 1), (1, [26, 3, 25], [], 0), (1199, [25, 23, 24], [8, 9], 0), (90, [25], [], -2147483648), (91, [25], [], 2147483647), (20, [24, 10], [8], 2), (23, [10], [8], 1), (90, [24], [], -2147483648), (91, [24], [], 2147483647), (20, [23, 1], [8], 11), (0, [23], [], 47), (40, [21, 22], [], 0), (0, [22], [], 5), (20, [21, 10], [8], 0), (23, [10], [8], 1), (90, [21], [], -2147483648), (91, [21], [], 2147483647), (10, [20, 2], [], 1), (1066, [1, 19], [7, 8], 0), (0, [19], [], 4), (1076, [1, 10], [6, 7], 0), (0, [18], [], 1), (20, [18, 10], [6], 0), (23, [10], [6], 1), (90, [18], [], -2147483648), (91, [18], [], 2147483647), (1066, [1, 17], [5, 6], 0), (20, [17, 1], [5], 2), (90, [17], [], -2147483648), (91, [17], [], 2147483647), (1024, [10, 13, 16], [4, 5], 0), (1124, [16, 14, 15], [3, 4], 0), (90, [16], [], -2147483648), (91, [16], [], 2147483647), (20, [15, 1], [3], 1), (90, [15], [], -2147483648), (91, [15], [], 2147483647), (20, [14, 1], [3], 0), (0, [14], [], 31), (2, [13, 11, 12], [], 0), (0, [12], [], 20), (20, [11, 1], [3], 2), (90, [11], [], -2147483648), (91, [11], [], 2147483647), (51, [10], [], 0), (1074, [10, 1, 9, 2], [2, 3], 0), (20, [9, 1], [2], 13), (90, [9], [], -2147483648), (91, [9], [], 2147483647), (31, [8], [], 0), (1073, [8, 7], [1, 2], 0), (90, [8], [], 0), (91, [8], [], 1), (20, [7, 1], [1], 2), (90, [7], [], -2147483648), (91, [7], [], 2147483647), (30, [6], [], 0), (20, [6, 1], [1], 3), (90, [6], [], -2147483648), (91, [6], [], 2147483647), (45, [4, 5], [], 0), (0, [5], [], 16), (5000, [0, 1, 2, 3, 4], [0, 1], 6), (0, [0], [], 30), (0, [1], [], 30), (90, [2], [], -2147483648), (91, [2], [], 2147483647), (90, [3], [], -2147483648), (91, [3], [], 2147483647), (90, [4], [], -2147483648), (91, [4], [], 2147483647)], (4000, [1, 20, 26, 27], [9], 6)),
  ([(0, [18], [], 2), (20, [18, 10], [6], 0), (23, [10], [6], 1), (90, [18], [], -2147483648), (91, [18], [], 2147483647), (1066, [1, 17], [5, 6], 0), (20, [17, 1], [5], 2), (90, [17], [], -2147483648), (91, [17], [], 2147483647), (1024, [10, 13, 16], [4, 5], 0), (1124, [16, 14, 15], [3, 4], 0), (90, [16], [], -2147483648), (91, [16], [], 2147483647), (20, [15, 1], [3], 1), (90, [15], [], -2147483648), (91, [15], [], 2147483647), (20, [14, 1], [3], 0), (0, [14], [], 31), (2, [13, 11, 12], [], 0), (0, [12], [], 20), (20, [11, 1], [3], 2), (90, [11], [], -2147483648), (91, [11], [], 2147483647), (51, [10], [], 0), (1074, [10, 1, 9, 2], [2, 3], 0), (20, [9, 1], [2], 13), (90, [9], [], -2147483648), (91, [9], [], 2147483647), (31, [8], [], 0), (1073, [8, 7], [1, 2], 0), (90, [8], [], 0), (91, [8], [], 1), (20, [7, 1], [1], 2), (90, [7], [], -2147483648), (91, [7], [], 2147483647), (30, [6], [], 0), (20, [6, 1], [1], 3), (90, [6], [], -2147483648), (91, [6], [], 2147483647), (45, [4, 5], [], 0), (0, [5], [], 16), (5000, [0, 1, 2, 3, 4], [0, 1], 6), (0, [0], [], 30), (0, [1], [], 30), (90, [2], [], -2147483648), (91, [2], [], 2147483647), (90, [3], [], -2147483648), (91, [3], [], 2147483647), (90, [4], [], -2147483648), (91, [4], [], 2147483647)], (2077, [1, 10], [6], 0)),
  ([(0, [19], [], 4), (1077, [1, 10], [6, 7], 0), (0, [18], [], 2), (20, [18, 10], [6], 0), (23, [10], [6], 1), (90, [18], [], -2147483648), (91, [18], [], 2147483647), (1066, [1, 17], [5, 6], 0), (20, [17, 1], [5], 2), (90, [17], [], -2147483648), (91, [17], [], 2147483647), (1024, [10, 13, 16], [4, 5], 0), (1124, [16, 14, 15], [3, 4], 0), (90, [16], [], -2147483648), (91, [16], [], 2147483647), (20, [15, 1], [3], 1), (90, [15], [], -2147483648), (91, [15], [], 2147483647), (20, [14, 1], [3], 0), (0, [14], [], 31), (2, [13, 11, 12], [], 0), (0, [12], [], 20), (20, [11, 1], [3], 2), (90, [11], [], -2147483648), (91, [11], [], 2147483647), (51, [10], [], 0), (1074, [10, 1, 9, 2], [2, 3], 0), (20, [9, 1], [2], 13), (90, [9], [], -2147483648), (91, [9], [], 2147483647), (31, [8], [], 0), (1073, [8, 7], [1, 2], 0), (90, [8], [], 0), (91, [8], [], 1), (20, [7, 1], [1], 2), (90, [7], [], -2147483648), (91, [7], [], 2147483647), (30, [6], [], 0), (20, [6, 1], [1], 3), (90, [6], [], -2147483648), (91, [6], [], 2147483647), (45, [4, 5], [], 0), (0, [5], [], 16), (5000, [0, 1, 2, 3, 4], [0, 1], 6), (0, [0], [], 30), (0, [1], [], 30), (90, [2], [], -2147483648), (91, [2], [], 2147483647), (90, [3], [], -2147483648), (91, [3], [], 2147483647), (90, [4], [], -2147483648), (91, [4], [], 2147483647)], (2066, [1, 19], [7], 0)),
  ([(10, [25, 4], [], 1), (1, [24, 3, 23], [], 0), (0, [23], [], 1), (41, [21, 22], [], 0), (0, [22], [], 5), (20, [21, 10], [8], 0), (23, [10], [8], 1), (90, [21], [], -2147483648), (91, [21], [], 2147483647), (10, [20, 2], [], 1), (1066, [1, 19], [7, 8], 0), (0, [19], [], 4), (1077, [1, 10], [6, 7], 0), (0, [18], [], 2), (20, [18, 10], [6], 0), (23, [10], [6], 1), (90, [18], [], -2147483648), (91, [18], [], 2147483647), (1066, [1, 17], [5, 6], 0), (20, [17, 1], [5], 2), (90, [17], [], -2147483648), (91, [17], [], 2147483647), (1024, [10, 13, 16], [4, 5], 0), (1124, [16, 14, 15], [3, 4], 0), (90, [16], [], -2147483648), (91, [16], [], 2147483647), (20, [15, 1], [3], 1), (90, [15], [], -2147483648), (91, [15], [], 2147483647), (20, [14, 1], [3], 0), (0, [14], [], 31), (2, [13, 11, 12], [], 0), (0, [12], [], 20), (20, [11, 1], [3], 2), (90, [11], [], -2147483648), (91, [11], [], 2147483647), (51, [10], [], 0), (1074, [10, 1, 9, 2], [2, 3], 0), (20, [9, 1], [2], 13), (90, [9], [], -2147483648), (91, [9], [], 2147483647), (31, [8], [], 0), (1073, [8, 7], [1, 2], 0), (90, [8], [], 0), (91, [8], [], 1), (20, [7, 1], [1], 2), (90, [7], [], -2147483648), (91, [7], [], 2147483647), (30, [6], [], 0), (20, [6, 1], [1], 3), (90, [6], [], -2147483648), (91, [6], [], 2147483647), (45, [4, 5], [], 0), (0, [5], [], 16), (5000, [0, 1, 2, 3, 4], [0, 1], 6), (0, [0], [], 30), (0, [1], [], 30), (90, [2], [], -2147483648), (91, [2], [], 2147483647), (90, [3], [], -2147483648), (91, [3], [], 2147483647), (90, [4], [], -2147483648), (91, [4], [], 2147483647)], (4000, [1, 20, 24, 25], [8], 6)),
  ([(10, [27, 4], [], 1), (1, [26, 3, 25], [], 0), (1199, [25, 23, 24], [8, 9], 0), (90, [25], [], -2147483648), (91, [25], [], 2147483647), (20, [24, 10], [8], 2), (23, [10], [8], 1), (90, [24], [], -2147483648), (91, [24], [], 2147483647), (20, [23, 1], [8], 11), (0, [23], [], 47), (40, [21, 22], [], 0), (0, [22], [], 5), (20, [21, 10], [8], 0), (23, [10], [8], 1), (90, [21], [], -2147483648), (91, [21], [], 2147483647), (10, [20, 2], [], 1), (1066, [1, 19], [7, 8], 0), (0, [19], [], 4), (1077, [1, 10], [6, 7], 0), (0, [18], [], 2), (20, [18, 10], [6], 0), (23, [10], [6], 1), (90, [18], [], -2147483648), (91, [18], [], 2147483647), (1066, [1, 17], [5, 6], 0), (20, [17, 1], [5], 2), (90, [17], [], -2147483648), (91, [17], [], 2147483647), (1024, [10, 13, 16], [4, 5], 0), (1124, [16, 14, 15], [3, 4], 0), (90, [16], [], -2147483648), (91, [16], [], 2147483647), (20, [15, 1], [3], 1), (90, [15], [], -2147483648), (91, [15], [], 2147483647), (20, [14, 1], [3], 0), (0, [14], [], 31), (2, [13, 11, 12], [], 0), (0, [12], [], 20), (20, [11, 1], [3], 2), (90, [11], [], -2147483648), (91, [11], [], 2147483647), (51, [10], [], 0), (1074, [10, 1, 9, 2], [2, 3], 0), (20, [9, 1], [2], 13), (90, [9], [], -2147483648), (91, [9], [], 2147483647), (31, [8], [], 0), (1073, [8, 7], [1, 2], 0), (90, [8], [], 0), (91, [8], [], 1), (20, [7, 1], [1], 2), (90, [7], [], -2147483648), (91, [7], [], 2147483647), (30, [6], [], 0), (20, [6, 1], [1], 3), (90, [6], [], -2147483648), (91, [6], [], 2147483647), (45, [4, 5], [], 0), (0, [5], [], 16), (5000, [0, 1, 2, 3, 4], [0, 1], 6), (0, [0], [], 30), (0, [1], [], 30), (90, [2], [], -2147483648), (91, [2], [], 2147483647), (90, [3], [], -2147483648), (91, [3], [], 2147483647), (90, [4], [], -2147483648), (91, [4], [], 2147483647)], (4000, [1, 20, 26, 27], [9], 6)),
  ([(0, [18], [], 3), (20, [18, 10], [6], 0), (23, [10], [6], 1), (90, [18], [], -2147483648), (91, [18], [], 2147483647), (1066, [1, 17], [5, 6], 0), (20, [17, 1], [5], 2), (90, [17], [], -2147483648), (91, [17], [], 2147483647), (1024, [10, 13, 16], [4, 5], 0), (1124, [16, 14, 15], [3, 4], 0), (90, [16], [], -2147483648), (91, [16], [], 2147483647), (20, [15, 1], [3], 1), (90, [15], [], -2147483648), (91, [15], [], 2147483647), (20, [14, 1], [3], 0), (0, [14], [], 31), (2, [13, 11, 12], [], 0), (0, [12], [], 20), (20, [11, 1], [3], 2), (90, [11], [], -2147483648), (91, [11], [], 2147483647), (51, [10], [], 0), (1074, [10, 1, 9, 2], [2, 3], 0), (20, [9, 1], [2], 13), (90, [9], [], -2147483648), (91, [9], [], 2147483647), (31, [8], [], 0), (1073, [8, 7], [1, 2], 0), (90, [8], [], 0), (91, [8], [], 1), (20, [7, 1], [1], 2), (90, [7], [], -2147483648), (91, [7], [], 2147483647), (30, [6], [], 0), (20, [6, 1], [1], 3), (90, [6], [], -2147483648), (91, [6], [], 2147483647), (45, [4, 5], [], 0), (0, [5], [], 16), (5000, [0, 1, 2, 3, 4], [0, 1], 6), (0, [0], [], 30), (0, [1], [], 30), (90, [2], [], -2147483648), (91, [2], [], 2147483647), (90, [3], [], -2147483648), (91, [3], [], 2147483647), (90, [4], [], -2147483648), (91, [4], [], 2147483647)], (2078, [1, 10], [6], 0)),
  ([(0, [19], [], 4), (1078, [1, 10], [6, 7], 0), (0, [18], [], 3), (20, [18, 10], [6], 0), (23, [10], [6], 1), (90, [18], [], -2147483648), (91, [18], [], 2147483647), (1066, [1, 17], [5, 6], 0), (20, [17, 1], [5], 2), (90, [17], [], -2147483648), (91, [17], [], 2147483647), (1024, [10, 13, 16], [4, 5], 0), (1124, [16, 14, 15], [3, 4], 0), (90, [16], [], -2147483648), (91, [16], [], 2147483647), (20, [15, 1], [3], 1), (90, [15], [], -2147483648), (91, [15], [], 2147483647), (20, [14, 1], [3], 0), (0, [14], [], 31), (2, [13, 11, 12], [], 0), (0, [12], [], 20), (20, [11, 1], [3], 2), (90, [11], [], -2147483648), (91, [11], [], 2147483647), (51, [10], [], 0), (1074, [10, 1, 9, 2], [2, 3], 0), (20, [9, 1], [2], 13), (90, [9], [], -2147483648), (91, [9], [], 2147483647), (31, [8], [], 0), (1073, [8, 7], [1, 2], 0), (90, [8], [], 0), (91, [8], [], 1), (20, [7, 1], [1], 2), (90, [7], [], -2147483648), (91, [7], [], 2147483647), (30, [6], [], 0), (20, [6, 1], [1], 3), (90, [6], [], -2147483648), (91, [6], [], 2147483647), (45, [4, 5], [], 0), (0, [5], [], 16), (5000, [0, 1, 2, 3, 4], [0, 1], 6), (0, [0], [], 30), (0, [1], [], 30), (90, [2], [], -2147483648), (91, [2], [], 2147483647), (90, [3], [], -2147483648), (91, [3], [], 2147483647), (90, [4], [], -2147483648), (91, [4], [], 2147483647)], (2066, [1, 19], [7], 0)),
  ([(10, [25, 4], [], 1), (1, [24, 3, 23], [], 0), (0, [23], [], 1), (41, [21, 22], [], 0), (0, [22], [], 5), (20, [21, 10], [8], 0), (23, [10], [8], 1), (90, [21], [], -2147483648), (91, [21], [], 2147483647), (10, [20, 2], [], 1), (1066, [1, 19], [7, 8], 0), (0, [19], [], 4), (1078, [1, 10], [6, 7], 0), (0, [18], [], 3), (20, [18, 10], [6], 0), (23, [10], [6], 1), (90, [18], [], -2147483648), (91, [18], [], 2147483647), (1066, [1, 17], [5, 6], 0), (20, [17, 1], [5], 2), (90, [17], [], -2147483648), (91, [17], [], 2147483647), (1024, [10, 13, 16], [4, 5], 0), (1124, [16, 14, 15], [3, 4], 0), (90, [16], [], -2147483648), (91, [16], [], 2147483647), (20, [15, 1], [3], 1), (90, [15], [], -2147483648), (91, [15], [], 2147483647), (20, [14, 1], [3], 0), (0, [14], [], 31), (2, [13, 11, 12], [], 0), (0, [12], [], 20), (20, [11, 1], [3], 2), (90, [11], [], -2147483648), (91, [11], [], 2147483647), (51, [10], [], 0), (1074, [10, 1, 9, 2], [2, 3], 0), (20, [9, 1], [2], 13), (90, [9], [], -2147483648), (91, [9], [], 2147483647), (31, [8], [], 0), (1073, [8, 7], [1, 2], 0), (90, [8], [], 0), (91, [8], [], 1), (20, [7, 1], [1], 2), (90, [7], [], -2147483648), (91, [7], [], 2147483647), (30, [6], [], 0), (20, [6, 1], [1], 3), (90, [6], [], -2147483648), (91, [6], [], 2147483647), (45, [4, 5], [], 0), (0, [5], [], 16), (5000, [0, 1, 2, 3, 4], [0, 1], 6), (0, [0], [], 30), (0, [1], [], 30), (90, [2], [], -2147483648), (91, [2], [], 2147483647), (90, [3], [], -2147483648), (91, [3], [], 2147483647), (90, [4], [], -2147483648), (91, [4], [], 2147483647)], (4000, [1, 20, 24, 25], [8], 6)),
  ([(10, [27, 4], [], 1), (1, [26, 3, 25], [], 0), (1199, [25, 23, 24], [8, 9], 0), (90, [25], [], -2147483648), (91, [25], [], 2147483647), (20, [24, 10], [8], 2), (23, [10], [8], 1), (90, [24], [], -2147483648), (91, [24], [], 2147483647), (20, [23, 1], [8], 11), (0, [23], [], 47), (40, [21, 22], [], 0), (0, [22], [], 5), (20, [21, 10], [8], 0), (23, [10], [8], 1), (90, [21], [], -2147483648), (91, [21], [], 2147483647), (10, [20, 2], [], 1), (1066, [1, 19], [7, 8], 0), (0, [19], [], 4), (1078, [1, 10], [6, 7], 0), (0, [18], [], 3), (20, [18, 10], [6], 0), (23, [10], [6], 1), (90, [18], [], -2147483648), (91, [18], [], 2147483647), (1066, [1, 17], [5, 6], 0), (20, [17, 1], [5], 2), (90, [17], [], -2147483648), (91, [17], [], 2147483647), (1024, [10, 13, 16], [4, 5], 0), (1124, [16, 14, 15], [3, 4], 0), (90, [16], [], -2147483648), (91, [16], [], 2147483647), (20, [15, 1], [3], 1), (90, [15], [], -2147483648), (91, [15], [], 2147483647), (20, [14, 1], [3], 0), (0, [14], [], 31), (2, [13, 11, 12], [], 0), (0, [12], [], 20), (20, [11, 1], [3], 2), (90, [11], [], -2147483648), (91, [11], [], 2147483647), (51, [10], [], 0), (1074, [10, 1, 9, 2], [2, 3], 0), (20, [9, 1], [2], 13), (90, [9], [], -2147483648), (91, [9], [], 2147483647), (31, [8], [], 0), (1073, [8, 7], [1, 2], 0), (90, [8], [], 0), (91, [8], [], 1), (20, [7, 1], [1], 2), (90, [7], [], -2147483648), (91, [7], [], 2147483647), (30, [6], [], 0), (20, [6, 1], [1], 3), (90, [6], [], -2147483648), (91, [6], [], 2147483647), (45, [4, 5], [], 0), (0, [5], [], 16), (5000, [0, 1, 2, 3, 4], [0, 1], 6), (0, [0], [], 30), (0, [1], [], 30), (90, [2], [], -2147483648), (91, [2], [], 2147483647), (90, [3], [], -2147483648), (91, [3], [], 2147483647), (90, [4], [], -2147483648), (91, [4], [], 2147483647)], (4000, [1, 20, 26, 27], [9], 6)),
  ([(0, [20], [], 9999), (0, [19], [], 0), (0, [18], [], 4), (20, [18, 10], [6], 0), (23, [10], [6], 1), (90, [18], [], -2147483648), (91, [18], [], 2147483647), (1066, [1, 17], [5, 6], 0), (20, [17, 1], [5], 2), (90, [17], [], -2147483648), (91, [17], [], 2147483647), (1024, [10, 13, 16], [4, 5], 0), (1124, [16, 14, 15], [3, 4], 0), (90, [16], [], -2147483648), (91, [16], [], 2147483647), (20, [15, 1], [3], 1), (90, [15], [], -2147483648), (91, [15], [], 2147483647), (20, [14, 1], [3], 0), (0, [14], [], 31), (2, [13, 11, 12], [], 0), (0, [12], [], 20), (20, [11, 1], [3], 2), (90, [11], [], -2147483648), (91, [11], [], 2147483647), (51, [10], [], 0), (1074, [10, 1, 9, 2], [2, 3], 0), (20, [9, 1], [2], 13), (90, [9], [], -2147483648), (91, [9], [], 2147483647), (31, [8], [], 0), (1073, [8, 7], [1, 2], 0), (90, [8], [], 0), (91, [8], [], 1), (20, [7, 1], [1], 2), (90, [7], [], -2147483648), (91, [7], [], 2147483647), (30, [6], [], 0), (20, [6, 1], [1], 3), (90, [6], [], -2147483648), (91, [6], [], 2147483647), (45, [4, 5], [], 0), (0, [5], [], 16), (5000, [0, 1, 2, 3, 4], [0, 1], 6), (0, [0], [], 30), (0, [1], [], 30), (90, [2], [], -2147483648), (91, [2], [], 2147483647), (90, [3], [], -2147483648), (91, [3], [], 2147483647), (90, [4], [], -2147483648), (91, [4], [], 2147483647)], (2067, [1, 19, 20], [6], 0)),
  ([(0, [23], [], 4), (80, [10, 22, 21], [8, 7], 0), (0, [22], [], 2), (23, [10], [7], 1), (1067, [21, 1, 19, 20], [6, 7], 0), (90, [21], [], -2147483648), (91, [21], [], 2147483647), (0, [20], [], 9999), (0, [19], [], 0), (0, [18], [], 4), (20, [18, 10], [6], 0), (23, [10], [6], 1), (90, [18], [], -2147483648), (91, [18], [], 2147483647), (1066, [1, 17], [5, 6], 0), (20, [17, 1], [5], 2), (90, [17], [], -2147483648), (91, [17], [], 2147483647), (1024, [10, 13, 16], [4, 5], 0), (1124, [16, 14, 15], [3, 4], 0), (90, [16], [], -2147483648), (91, [16], [], 2147483647), (20, [15, 1], [3], 1), (90, [15], [], -2147483648), (91, [15], [], 2147483647), (20, [14, 1], [3], 0), (0, [14], [], 31), (2, [13, 11, 12], [], 0), (0, [12], [], 20), (20, [11, 1], [3], 2), (90, [11], [], -2147483648), (91, [11], [], 2147483647), (51, [10], [], 0), (1074, [10, 1, 9, 2], [2, 3], 0), (20, [9, 1], [2], 13), (90, [9], [], -2147483648), (91, [9], [], 2147483647), (31, [8], [], 0), (1073, [8, 7], [1, 2], 0), (90, [8], [], 0), (91, [8], [], 1), (20, [7, 1], [1], 2), (90, [7], [], -2147483648), (91, [7], [], 2147483647), (30, [6], [], 0), (20, [6, 1], [1], 3), (90, [6], [], -2147483648), (91, [6], [], 2147483647), (45, [4, 5], [], 0), (0, [5], [], 16), (5000, [0, 1, 2, 3, 4], [0, 1], 6), (0, [0], [], 30), (0, [1], [], 30), (90, [2], [], -2147483648), (91, [2], [], 2147483647), (90, [3], [], -2147483648), (91, [3], [], 2147483647), (90, [4], [], -2147483648), (91, [4], [], 2147483647)], (2066, [1, 23], [8], 0)),
  ([(10, [29, 4], [], 1), (1, [28, 3, 27], [], 0), (0, [27], [], 1), (41, [25, 26], [], 0), (0, [26], [], 5), (20, [25, 10], [9], 0), (23, [10], [9], 1), (90, [25], [], -2147483648), (91, [25], [], 2147483647), (10, [24, 2], [], 1), (1066, [1, 23], [8, 9], 0), (0, [23], [], 4), (80, [10, 22, 21], [8, 7], 0), (0, [22], [], 2), (23, [10], [7], 1), (1067, [21, 1, 19, 20], [6, 7], 0), (90, [21], [], -2147483648), (91, [21], [], 2147483647), (0, [20], [], 9999), (0, [19], [], 0), (0, [18], [], 4), (20, [18, 10], [6], 0), (23, [10], [6], 1), (90, [18], [], -2147483648), (91, [18], [], 2147483647), (1066, [1, 17], [5, 6], 0), (20, [17, 1], [5], 2), (90, [17], [], -2147483648), (91, [17], [], 2147483647), (1024, [10, 13, 16], [4, 5], 0), (1124, [16, 14, 15], [3, 4], 0), (90, [16], [], -2147483648), (91, [16], [], 2147483647), (20, [15, 1], [3], 1), (90, [15], [], -2147483648), (91, [15], [], 2147483647), (20, [14, 1], [3], 0), (0, [14], [], 31), (2, [13, 11, 12], [], 0), (0, [12], [], 20), (20, [11, 1], [3], 2), (90, [11], [], -2147483648), (91, [11], [], 2147483647), (51, [10], [], 0), (1074, [10, 1, 9, 2], [2, 3], 0), (20, [9, 1], [2], 13), (90, [9], [], -2147483648), (91, [9], [], 2147483647), (31, [8], [], 0), (1073, [8, 7], [1, 2], 0), (90, [8], [], 0), (91, [8], [], 1), (20, [7, 1], [1], 2), (90, [7], [], -2147483648), (91, [7], [], 2147483647), (30, [6], [], 0), (20, [6, 1], [1], 3), (90, [6], [], -2147483648), (91, [6], [], 2147483647), (45, [4, 5], [], 0), (0, [5], [], 16), (5000, [0, 1, 2, 3, 4], [0, 1], 6), (0, [0], [], 30), (0, [1], [], 30), (90, [2], [], -2147483648), (91, [2], [], 2147483647), (90, [3], [], -2147483648), (91, [3], [], 2147483647), (90, [4], [], -2147483648), (91, [4], [], 2147483647)], (4000, [1, 24, 28, 29], [9], 6)),
  ([(10, [31, 4], [], 1), (1, [30, 3, 29], [], 0), (1199, [29, 27, 28], [9, 10], 0), (90, [29], [], -2147483648), (91, [29], [], 2147483647), (20, [28, 10], [9], 2), (23, [10], [9], 1), (90, [28], [], -2147483648), (91, [28], [], 2147483647), (20, [27, 1], [9], 11), (0, [27], [], 47), (40, [25, 26], [], 0), (0, [26], [], 5), (20, [25, 10], [9], 0), (23, [10], [9], 1), (90, [25], [], -2147483648), (91, [25], [], 2147483647), (10, [24, 2], [], 1), (1066, [1, 23], [8, 9], 0), (0, [23], [], 4), (80, [10, 22, 21], [8, 7], 0), (0, [22], [], 2), (23, [10], [7], 1), (1067, [21, 1, 19, 20], [6, 7], 0), (90, [21], [], -2147483648), (91, [21], [], 2147483647), (0, [20], [], 9999), (0, [19], [], 0), (0, [18], [], 4), (20, [18, 10], [6], 0), (23, [10], [6], 1), (90, [18], [], -2147483648), (91, [18], [], 2147483647), (1066, [1, 17], [5, 6], 0), (20, [17, 1], [5], 2), (90, [17], [], -2147483648), (91, [17], [], 2147483647), (1024, [10, 13, 16], [4, 5], 0), (1124, [16, 14, 15], [3, 4], 0), (90, [16], [], -2147483648), (91, [16], [], 2147483647), (20, [15, 1], [3], 1), (90, [15], [], -2147483648), (91, [15], [], 2147483647), (20, [14, 1], [3], 0), (0, [14], [], 31), (2, [13, 11, 12], [], 0), (0, [12], [], 20), (20, [11, 1], [3], 2), (90, [11], [], -2147483648), (91, [11], [], 2147483647), (51, [10], [], 0), (1074, [10, 1, 9, 2], [2, 3], 0), (20, [9, 1], [2], 13), (90, [9], [], -2147483648), (91, [9], [], 2147483647), (31, [8], [], 0), (1073, [8, 7], [1, 2], 0), (90, [8], [], 0), (91, [8], [], 1), (20, [7, 1], [1], 2), (90, [7], [], -2147483648), (91, [7], [], 2147483647), (30, [6], [], 0), (20, [6, 1], [1], 3), (90, [6], [], -2147483648), (91, [6], [], 2147483647), (45, [4, 5], [], 0), (0, [5], [], 16), (5000, [0, 1, 2, 3, 4], [0, 1], 6), (0, [0], [], 30), (0, [1], [], 30), (90, [2], [], -2147483648), (91, [2], [], 2147483647), (90, [3], [], -2147483648), (91, [3], [], 2147483647), (90, [4], [], -2147483648), (91, [4], [], 2147483647)], (4000, [1, 24, 30, 31], [10], 6))]
theorem r_72v_6 : vCovO false (eRc e_72v L_72v cs_72v 2000 (6, [(0, (3, 4, 30, 0)), (1, (0, -2147483648, 2147483647, 0)), (2, (0, -2147483648, 2147483647, 0)), (3, (0, -2147483648, 2147483647, 0))])) p_72v_6 = true := by decide +kernel
theorem m_72v (d : Nat) : eC e_72v (d + 6) := eC_ok (e := e_72v) (L := L_72v) (cs := cs_72v) (n := 2000) (d := d + 5) (A := A_72v) (μ := mu_72v) (tp := false) (p0 := p_72v_s) rfl ⟨m_24v (d + 4), ⟨m_64v (d + 4), ⟨m_66v (d + 3), ⟨m_67v (d + 2), ⟨m_73v (d + 4), ⟨m_74v (d + 4), ⟨m_75v d, ⟨m_76v d, ⟨m_77v (d + 1), ⟨m_78v d, ⟨m_80v d, ⟨m_124 (d + 3), ⟨m_199vk740 (d + 4), ⟨m_201vk740 (d + 4), trivial⟩⟩⟩⟩⟩⟩⟩⟩⟩⟩⟩⟩⟩⟩ rfl (.inl rfl) (by decide +kernel) (fun z => nomatch z) r_72v_s (allC c_72v_s_0 allN) (allC (.inl ⟨p_72v_6, r_72v_6, fun q0 => (allC c_72v_6_0 (allC c_72v_6_1 (allC c_72v_6_2 (allC c_72v_6_3 (allC c_72v_6_4 (allC c_72v_6_5 (allC c_72v_6_6 (allC c_72v_6_7 (allC c_72v_6_8 (allC c_72v_6_9 (allC c_72v_6_10 (allC c_72v_6_11 (allC c_72v_6_12 (allC c_72v_6_13 (allC c_72v_6_14 (allC c_72v_6_15 (allC c_72v_6_16 (allC c_72v_6_17 (allC c_72v_6_18 (allC c_72v_6_19 (allC c_72v_6_20 (allC c_72v_6_21 (allC c_72v_6_22 (allC c_72v_6_23 (allC c_72v_6_24 (allC c_72v_6_25 (allC c_72v_6_26 (allC c_72v_6_27 (allC c_72v_6_28 (allC c_72v_6_29 (allC c_72v_6_30 (allC c_72v_6_31 (allC c_72v_6_32 (allC c_72v_6_33 (allC c_72v_6_34 (allC c_72v_6_35 allN))))))))))))))))))))))))))))))))))))⟩) allN)
