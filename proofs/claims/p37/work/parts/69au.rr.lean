/- Reader.readRight ()V, more fully -/
def nbo_87 (a0 : Int) (h0 h : gH) : Prop := ∀ d : Int, d = hV h0 30 8 → RO h0 d → W49 h0 → RO h d ∧ OT h0 h d ∧ W49 h ∧ ∀ (L : List Int) (R : List Rul), CODE h0 d L → (L.length : Int) ≤ (absC h0).1 → RLl h0 d L R → R.length < 12 → 0 ≤ (absC h).1 → (vwC h0).1 (absC h0).1 = 38 → ∃ M : List Int, CODE h d (L ++ M) ∧ ((L ++ M).length : Int) ≤ (absC h).1 ∧ RLl h d (L ++ M) (R ++ [(xRule (vwC h0) (absC h0))]) ∧ GRl (xRule (vwC h0) (absC h0))
def no_87 : List Int → gH → gH → Prop := fun xs h0 h => match xs with
  | [a0] => nbo_87 a0 h0 h
  | _ => True
noncomputable def e_87o : vE := eV e_87v no_87
noncomputable def L_87o : List vE := [e_66v, e_88o, e_92o, e_99o, e_100o, e_101o]
def Bo_87 : Int → List Int → gH → gH → Prop := fun c xs h0 h => True
theorem q_87o_0 {n0 n1 n2 n3 n4 n5 n6 : Int} {H0 H1 H2 H3 H4 H5 : gH} (f0 : n0 = 30) (f1 : hWt T0 H0 ∧ preb_87v n0 H0) (f2 : n1 = 38) (f3 : (hLe T0 H0 H1 ∧ hFr s_66v.2.2.2.2 H0 H1 ∧ ((0 : Int) = 0 → H1.length = H0.length) ∧ hWt T0 H1) ∧ postb_66v n0 n1 H0 H1) (f4 : 0 ≤ n2) (f5 : hK H1 (n0).toNat = 4) (f6 : n2 = hV H1 (n0).toNat 8) (f7 : (hLe T0 H1 H2 ∧ hFr s_99.2.2.2.2 H1 H2 ∧ ((0 : Int) = 0 → H2.length = H1.length) ∧ hWt T0 H2) ∧ (True ∧ nbo_99 n2 H1 H2)) (f8 : (hLe T0 H2 H3 ∧ hFr s_92v.2.2.2.2 H2 H3 ∧ ((0 : Int) = 0 → H3.length = H2.length) ∧ hWt T0 H3) ∧ (postb_92v n0 H2 H3 ∧ nbo_92 n0 H2 H3)) (f9 : 0 ≤ n3) (f10 : hK H3 (n0).toNat = 4) (f11 : n3 = hV H3 (n0).toNat 8) (f12 : (hLe T0 H3 H4 ∧ hFr s_100.2.2.2.2 H3 H4 ∧ ((0 : Int) = 0 → H4.length = H3.length) ∧ hWt T0 H4) ∧ (True ∧ nbo_100 n3 H3 H4)) (f13 : n4 ≤ 2147483647) (f14 : (-2147483648) ≤ n4) (f15 : hK H4 (n0).toNat = 4) (f16 : n4 = hV H4 (n0).toNat 2) (f17 : n5 = 39) (f18 : n4 ≠ n5) (f19 : 0 ≤ n6) (f20 : hK H4 (n0).toNat = 4) (f21 : n6 = hV H4 (n0).toNat 8) (f22 : (hLe T0 H4 H5 ∧ hFr s_101v.2.2.2.2 H4 H5 ∧ ((0 : Int) = 0 → H5.length = H4.length) ∧ hWt T0 H5) ∧ (postb_101v n6 H4 H5 ∧ nbo_101 n6 H4 H5)) : nbo_87 n0 H0 H5 := by
  unfold nbo_87
  intro d ed zo w49
  have pz := f1.2
  unfold preb_87v at pz
  have pz := pz.1
  have c0 := f3.2
  unfold postb_66v at c0
  try rw [f2] at c0
  have a0 : absC H1 = (ptk (vwC H0) 38 (absC H0)) := c0.2
  have v0 : vwC H1 = vwC H0 := (vwC_fr f3.1.2.1 (by decide +kernel))
  have s1 := PF_fr f7.1.1 f7.1.2.1 (by decide +kernel) c0.1
  have a1 : absC H2 = (ptk (vwC H0) 38 (absC H0)) := s1.1.trans a0
  have v1 : vwC H2 = vwC H0 := s1.2.1.trans v0
  have c2 := f8.2.1
  unfold postb_92v at c2
  rw [v1] at c2
  rw [a1] at c2
  have a2 : absC H3 = (pExp (vwC H0) (ptk (vwC H0) 38 (absC H0))) := c2.2
  have v2 : vwC H3 = vwC H0 := (vwC_fr f8.1.2.1 (by decide +kernel)).trans v1
  have s3 := PF_fr f12.1.1 f12.1.2.1 (by decide +kernel) c2.1
  have a3 : absC H4 = (pExp (vwC H0) (ptk (vwC H0) 38 (absC H0))) := s3.1.trans a2
  have v3 : vwC H4 = vwC H0 := s3.2.1.trans v2
  have s4 := PF_fr f22.1.1 f22.1.2.1 (by decide +kernel) s3.2.2
  have a4 : absC H5 = (pExp (vwC H0) (ptk (vwC H0) 38 (absC H0))) := s4.1.trans a3
  have v4 : vwC H5 = vwC H0 := s4.2.1.trans v3
  have r6 : n2 = hV H1 30 8 := by
    have w := f6
    rw [f0] at w
    exact w
  have r11 : n3 = hV H3 30 8 := by
    have w := f11
    rw [f0] at w
    exact w
  have r16 : n4 = hV H4 30 2 := by
    have w := f16
    rw [f0] at w
    exact w
  have r21 : n6 = hV H4 30 8 := by
    have w := f21
    rw [f0] at w
    exact w
  have pb := f7.2.2
  unfold nbo_99 at pb
  rw [show n2 = d from r6.trans (show hV H1 30 8 = d from (f3.1.2.1.1 30 8 (by decide +kernel)).trans ed.symm)] at pb
  have pe := f12.2.2
  unfold nbo_100 at pe
  rw [show n3 = d from r11.trans (show hV H3 30 8 = d from ((f8.1.2.1.1 30 8 (by decide +kernel)).trans ((f7.1.2.1.1 30 8 (by decide +kernel)).trans (f3.1.2.1.1 30 8 (by decide +kernel)))).trans ed.symm)] at pe
  have en := f22.2.2
  unfold nbo_101 at en
  rw [show n6 = d from r21.trans (show hV H4 30 8 = d from ((f12.1.2.1.1 30 8 (by decide +kernel)).trans ((f8.1.2.1.1 30 8 (by decide +kernel)).trans ((f7.1.2.1.1 30 8 (by decide +kernel)).trans (f3.1.2.1.1 30 8 (by decide +kernel))))).trans ed.symm)] at en
  have sq := f8.2.2
  unfold nbo_92 at sq
  have sq : SUMp H2 H3 d := sq d (show hV H2 30 8 = d from ((f7.1.2.1.1 30 8 (by decide +kernel)).trans (f3.1.2.1.1 30 8 (by decide +kernel))).trans ed.symm).symm
  have w2 : W49 H2 := W49_le f7.1.1 (W49_le f3.1.1 w49)
  have w4 : W49 H3 → W49 H4 := fun w => W49_le f12.1.1 w
  have e_2 : absC H2 = (ptk (vwC H0) 38 (absC H0)) := a1
  have e_3 : absC H3 = (pExp (vwC H0) (ptk (vwC H0) 38 (absC H0))) := a2
  have kd : (absC H4).1 < 0 ∨ (vwC H0).1 (pExp (vwC H0) (ptk (vwC H0) 38 (absC H0))).1 = hV H4 30 2 := by
    have u := kd_at s3.2.2
    rw [v3, a3] at u
    rw [a3]
    exact u
  have g0 := (pb (KO_sm zo (SMf_fr f3.1.1 f3.1.2.1 (by decide +kernel) (by decide +kernel))).1).1
  obtain ⟨g1, g2, g3, g4, gc, ge, gr⟩ := RR_right zo (SMf_fr f3.1.1 f3.1.2.1 (by decide +kernel) (by decide +kernel)) pb (fun z => (sq z w2).1) pe (fun z => KO_rfl z) en
  refine ⟨g1, g2, (W49_le f22.1.1 (w4 (sq g3 w2).2.1)), fun L R cl hl rl lt hp k38 => ?_⟩
  have eH : absC H5 = (pExp (vwC H0) (ptk (vwC H0) 38 (absC H0))) := a4
  have h3 : 0 ≤ (absC H3).1 := by
    rw [e_3, ← eH]
    exact hp
  have h2 : 0 ≤ (absC H2).1 := Classical.byContradiction fun n => by
    rw [e_3, ← e_2, pExp_neg (vwC_ok H0) (by omega) (absC_ok s1.2.2)] at h3
    omega
  have q2 := h2
  rw [e_2] at q2
  have pn := ptk_next (h := H0) pz.2.1 q2
  rw [← e_2] at pn
  obtain ⟨c1, c2, c3⟩ := (sq g3 w2).2.2 L (gc L cl) (by omega) h3
  have xl := xE_len (v := vwC H2) (a := (absC H2).1) (b := (absC H3).1)
  rw [v1, e_2, e_3] at c2 c3
  rw [v1] at xl
  have kn : ¬ (vwC H0).1 (pExp (vwC H0) (ptk (vwC H0) 38 (absC H0))).1 = 39 := by
    have u := kd.resolve_left (by rw [a3, ← e_3]; omega)
    omega
  have xr : xRule (vwC H0) (absC H0) = some ((xE (vwC H0) (ptk (vwC H0) 38 (absC H0)).1 (pExp (vwC H0) (ptk (vwC H0) 38 (absC H0))).1), []) := by
    unfold xRule
    rw [if_pos k38, if_neg kn]
  have y := gr L R (xE (vwC H0) (ptk (vwC H0) 38 (absC H0)).1 (pExp (vwC H0) (ptk (vwC H0) 38 (absC H0))).1) [] cl rl lt c2 (by
    show CODE _ d (_ ++ [])
    rw [List.append_nil]
    exact ge _ c2)
  rw [xr]
  refine ⟨_, y.2, ?_, y.1, fun e he => ?_⟩
  · show ((L ++ ((xE (vwC H0) (ptk (vwC H0) 38 (absC H0)).1 (pExp (vwC H0) (ptk (vwC H0) 38 (absC H0))).1).map enc ++ [])).length : Int) ≤ _
    rw [List.append_nil, List.length_append, List.length_map, eH, ← e_3, ← e_2]
    omega
  · rw [← Option.some.inj he]
    exact ⟨c3, fun l hl => absurd hl (List.not_mem_nil), .inl rfl⟩
def g_87o_s_0 : vG := ([(1101, [6], [4, 5], 0), (20, [6, 0], [4], 8), (23, [0], [4], 4), (51, [6], [], 0), (41, [4, 5], [], 0), (0, [5], [], 39), (20, [4, 0], [4], 2), (23, [0], [4], 4), (90, [4], [], -2147483648), (91, [4], [], 2147483647), (1100, [3], [3, 4], 0), (20, [3, 0], [3], 8), (23, [0], [3], 4), (51, [3], [], 0), (1092, [0], [2, 3], 0), (1099, [2], [1, 2], 0), (20, [2, 0], [1], 8), (23, [0], [1], 4), (51, [2], [], 0), (1066, [0, 1], [0, 1], 0), (0, [1], [], 38), (6000, [0], [0], 0), (0, [0], [], 30)], (3000, [], [5], 50))
theorem c_87o_s_0 : vOkm T0 (eN e_87v L_87o A_87v mu_87v no_87 Bo_87 none) 1 g_87o_s_0 := vOk_inI fun ρ η f0 f1 f2 f3 f4 f5 f6 f7 f8 f9 f10 f11 f12 f13 f14 f15 f16 f17 f18 f19 f20 f21 f22 => q_87o_0 (n0 := ρ 0) (n1 := ρ 1) (n2 := ρ 2) (n3 := ρ 3) (n4 := ρ 4) (n5 := ρ 5) (n6 := ρ 6) (H0 := η 0) (H1 := η 1) (H2 := η 2) (H3 := η 3) (H4 := η 4) (H5 := η 5) f22 f21 f20 f19 f18 f17 f16 f15 f14 f13 f12 f11 f10 f9 f8 f7 f6 f5 f4 f3 f2 f1 f0
theorem q_87o_1 {n0 n1 n2 n3 n4 n5 n6 n7 : Int} {H0 H1 H2 H3 H4 H5 H6 H7 : gH} (f0 : n0 = 30) (f1 : hWt T0 H0 ∧ preb_87v n0 H0) (f2 : n1 = 38) (f3 : (hLe T0 H0 H1 ∧ hFr s_66v.2.2.2.2 H0 H1 ∧ ((0 : Int) = 0 → H1.length = H0.length) ∧ hWt T0 H1) ∧ postb_66v n0 n1 H0 H1) (f4 : 0 ≤ n2) (f5 : hK H1 (n0).toNat = 4) (f6 : n2 = hV H1 (n0).toNat 8) (f7 : (hLe T0 H1 H2 ∧ hFr s_99.2.2.2.2 H1 H2 ∧ ((0 : Int) = 0 → H2.length = H1.length) ∧ hWt T0 H2) ∧ (True ∧ nbo_99 n2 H1 H2)) (f8 : (hLe T0 H2 H3 ∧ hFr s_92v.2.2.2.2 H2 H3 ∧ ((0 : Int) = 0 → H3.length = H2.length) ∧ hWt T0 H3) ∧ (postb_92v n0 H2 H3 ∧ nbo_92 n0 H2 H3)) (f9 : 0 ≤ n3) (f10 : hK H3 (n0).toNat = 4) (f11 : n3 = hV H3 (n0).toNat 8) (f12 : (hLe T0 H3 H4 ∧ hFr s_100.2.2.2.2 H3 H4 ∧ ((0 : Int) = 0 → H4.length = H3.length) ∧ hWt T0 H4) ∧ (True ∧ nbo_100 n3 H3 H4)) (f13 : n4 ≤ 2147483647) (f14 : (-2147483648) ≤ n4) (f15 : hK H4 (n0).toNat = 4) (f16 : n4 = hV H4 (n0).toNat 2) (f17 : n5 = 39) (f18 : n4 = n5) (f19 : n6 = 39) (f20 : (hLe T0 H4 H5 ∧ hFr s_66v.2.2.2.2 H4 H5 ∧ ((0 : Int) = 0 → H5.length = H4.length) ∧ hWt T0 H5) ∧ postb_66v n0 n6 H4 H5) (f21 : (hLe T0 H5 H6 ∧ hFr s_88v.2.2.2.2 H5 H6 ∧ ((0 : Int) = 0 → H6.length = H5.length) ∧ hWt T0 H6) ∧ (postb_88v n0 H5 H6 ∧ nbo_88 n0 H5 H6)) (f22 : 0 ≤ n7) (f23 : hK H6 (n0).toNat = 4) (f24 : n7 = hV H6 (n0).toNat 8) (f25 : (hLe T0 H6 H7 ∧ hFr s_101v.2.2.2.2 H6 H7 ∧ ((0 : Int) = 0 → H7.length = H6.length) ∧ hWt T0 H7) ∧ (postb_101v n7 H6 H7 ∧ nbo_101 n7 H6 H7)) : nbo_87 n0 H0 H7 := by
  unfold nbo_87
  intro d ed zo w49
  have pz := f1.2
  unfold preb_87v at pz
  have pz := pz.1
  have c0 := f3.2
  unfold postb_66v at c0
  try rw [f2] at c0
  have a0 : absC H1 = (ptk (vwC H0) 38 (absC H0)) := c0.2
  have v0 : vwC H1 = vwC H0 := (vwC_fr f3.1.2.1 (by decide +kernel))
  have s1 := PF_fr f7.1.1 f7.1.2.1 (by decide +kernel) c0.1
  have a1 : absC H2 = (ptk (vwC H0) 38 (absC H0)) := s1.1.trans a0
  have v1 : vwC H2 = vwC H0 := s1.2.1.trans v0
  have c2 := f8.2.1
  unfold postb_92v at c2
  rw [v1] at c2
  rw [a1] at c2
  have a2 : absC H3 = (pExp (vwC H0) (ptk (vwC H0) 38 (absC H0))) := c2.2
  have v2 : vwC H3 = vwC H0 := (vwC_fr f8.1.2.1 (by decide +kernel)).trans v1
  have s3 := PF_fr f12.1.1 f12.1.2.1 (by decide +kernel) c2.1
  have a3 : absC H4 = (pExp (vwC H0) (ptk (vwC H0) 38 (absC H0))) := s3.1.trans a2
  have v3 : vwC H4 = vwC H0 := s3.2.1.trans v2
  have c4 := f20.2
  unfold postb_66v at c4
  try rw [f19] at c4
  rw [v3] at c4
  rw [a3] at c4
  have a4 : absC H5 = (ptk (vwC H0) 39 (pExp (vwC H0) (ptk (vwC H0) 38 (absC H0)))) := c4.2
  have v4 : vwC H5 = vwC H0 := (vwC_fr f20.1.2.1 (by decide +kernel)).trans v3
  have c5 := f21.2.1
  unfold postb_88v at c5
  rw [v4] at c5
  rw [a4] at c5
  have a5 : absC H6 = (pCond (vwC H0) 502 (ptk (vwC H0) 39 (pExp (vwC H0) (ptk (vwC H0) 38 (absC H0))))) := c5.2
  have v5 : vwC H6 = vwC H0 := (vwC_fr f21.1.2.1 (by decide +kernel)).trans v4
  have s6 := PF_fr f25.1.1 f25.1.2.1 (by decide +kernel) c5.1
  have a6 : absC H7 = (pCond (vwC H0) 502 (ptk (vwC H0) 39 (pExp (vwC H0) (ptk (vwC H0) 38 (absC H0))))) := s6.1.trans a5
  have v6 : vwC H7 = vwC H0 := s6.2.1.trans v5
  have r6 : n2 = hV H1 30 8 := by
    have w := f6
    rw [f0] at w
    exact w
  have r11 : n3 = hV H3 30 8 := by
    have w := f11
    rw [f0] at w
    exact w
  have r16 : n4 = hV H4 30 2 := by
    have w := f16
    rw [f0] at w
    exact w
  have r24 : n7 = hV H6 30 8 := by
    have w := f24
    rw [f0] at w
    exact w
  have pb := f7.2.2
  unfold nbo_99 at pb
  rw [show n2 = d from r6.trans (show hV H1 30 8 = d from (f3.1.2.1.1 30 8 (by decide +kernel)).trans ed.symm)] at pb
  have pe := f12.2.2
  unfold nbo_100 at pe
  rw [show n3 = d from r11.trans (show hV H3 30 8 = d from ((f8.1.2.1.1 30 8 (by decide +kernel)).trans ((f7.1.2.1.1 30 8 (by decide +kernel)).trans (f3.1.2.1.1 30 8 (by decide +kernel)))).trans ed.symm)] at pe
  have en := f25.2.2
  unfold nbo_101 at en
  rw [show n7 = d from r24.trans (show hV H6 30 8 = d from ((f21.1.2.1.1 30 8 (by decide +kernel)).trans ((f20.1.2.1.1 30 8 (by decide +kernel)).trans ((f12.1.2.1.1 30 8 (by decide +kernel)).trans ((f8.1.2.1.1 30 8 (by decide +kernel)).trans ((f7.1.2.1.1 30 8 (by decide +kernel)).trans (f3.1.2.1.1 30 8 (by decide +kernel))))))).trans ed.symm)] at en
  have sq := f8.2.2
  unfold nbo_92 at sq
  have sq : SUMp H2 H3 d := sq d (show hV H2 30 8 = d from ((f7.1.2.1.1 30 8 (by decide +kernel)).trans (f3.1.2.1.1 30 8 (by decide +kernel))).trans ed.symm).symm
  have w2 : W49 H2 := W49_le f7.1.1 (W49_le f3.1.1 w49)
  have w4 : W49 H3 → W49 H4 := fun w => W49_le f12.1.1 w
  have e_2 : absC H2 = (ptk (vwC H0) 38 (absC H0)) := a1
  have e_3 : absC H3 = (pExp (vwC H0) (ptk (vwC H0) 38 (absC H0))) := a2
  have kd : (absC H4).1 < 0 ∨ (vwC H0).1 (pExp (vwC H0) (ptk (vwC H0) 38 (absC H0))).1 = hV H4 30 2 := by
    have u := kd_at s3.2.2
    rw [v3, a3] at u
    rw [a3]
    exact u
  have cq := f21.2.2
  unfold nbo_88 at cq
  have cq := cq d (show hV H5 30 8 = d from ((f20.1.2.1.1 30 8 (by decide +kernel)).trans ((f12.1.2.1.1 30 8 (by decide +kernel)).trans ((f8.1.2.1.1 30 8 (by decide +kernel)).trans ((f7.1.2.1.1 30 8 (by decide +kernel)).trans (f3.1.2.1.1 30 8 (by decide +kernel)))))).trans ed.symm).symm
  have g0 := (pb (KO_sm zo (SMf_fr f3.1.1 f3.1.2.1 (by decide +kernel) (by decide +kernel))).1).1
  obtain ⟨g1, g2, g3, g4, gc, ge, gr⟩ := RR_right zo (SMf_fr f3.1.1 f3.1.2.1 (by decide +kernel) (by decide +kernel)) pb (fun z => (sq z w2).1) pe (fun z => KO_tr (KO_sm z (SMf_fr f20.1.1 f20.1.2.1 (by decide +kernel) (by decide +kernel))) (cq (KO_sm z (SMf_fr f20.1.1 f20.1.2.1 (by decide +kernel) (by decide +kernel))).1 (W49_le f20.1.1 (w4 (sq g0 w2).2.1))).1) en
  refine ⟨g1, g2, (W49_le f25.1.1 (cq (KO_sm g4 (SMf_fr f20.1.1 f20.1.2.1 (by decide +kernel) (by decide +kernel))).1 (W49_le f20.1.1 (w4 (sq g3 w2).2.1))).2.1), fun L R cl hl rl lt hp k38 => ?_⟩
  have e_5 : absC H5 = (ptk (vwC H0) 39 (pExp (vwC H0) (ptk (vwC H0) 38 (absC H0)))) := a4
  have eH : absC H7 = pCond (vwC H0) 502 (ptk (vwC H0) 39 (pExp (vwC H0) (ptk (vwC H0) 38 (absC H0)))) := a6
  have h5 : 0 ≤ (absC H5).1 := Classical.byContradiction fun n => by
    rw [eH, ← e_5, pCond_neg (vwC_ok H0) (by omega) (absC_ok c4.1)] at hp
    omega
  have q5 := h5
  rw [e_5] at q5
  have kq := pt1_kind (h := H0) pz.2.1 q5
  have pn5 := ptk_next (h := H0) pz.2.1 q5
  have h3 : 0 ≤ (absC H3).1 := by
    rw [e_3]
    exact kq.1
  have h2 : 0 ≤ (absC H2).1 := Classical.byContradiction fun n => by
    rw [e_3, ← e_2, pExp_neg (vwC_ok H0) (by omega) (absC_ok s1.2.2)] at h3
    omega
  have q2 := h2
  rw [e_2] at q2
  have pn := ptk_next (h := H0) pz.2.1 q2
  rw [← e_2] at pn
  obtain ⟨c1, c2, c3⟩ := (sq g3 w2).2.2 L (gc L cl) (by omega) h3
  have xl := xE_len (v := vwC H2) (a := (absC H2).1) (b := (absC H3).1)
  rw [v1, e_2, e_3] at c2 c3
  rw [v1] at xl
  have cn := (cq (KO_sm g4 (SMf_fr f20.1.1 f20.1.2.1 (by decide +kernel) (by decide +kernel))).1 (W49_le f20.1.1 (w4 (sq g3 w2).2.1))).2.2 (L ++ (xE (vwC H0) (ptk (vwC H0) 38 (absC H0)).1 (pExp (vwC H0) (ptk (vwC H0) 38 (absC H0))).1).map enc) (CODE_sm g4 (SMf_fr f20.1.1 f20.1.2.1 (by decide +kernel) (by decide +kernel)) (ge _ c2)) (by rw [List.length_append, List.length_map, ← e_3, ← e_2, e_5, pn5, ← e_3]; omega) (by rw [a5, ← eH]; exact hp)
  rw [v4, e_5] at cn
  obtain ⟨n1, n2, n3⟩ := cn
  have xr : xRule (vwC H0) (absC H0) = some ((xE (vwC H0) (ptk (vwC H0) 38 (absC H0)).1 (pExp (vwC H0) (ptk (vwC H0) 38 (absC H0))).1), (xCond (vwC H0) 502 true (ptk (vwC H0) 39 (pExp (vwC H0) (ptk (vwC H0) 38 (absC H0)))))) := by
    unfold xRule
    rw [if_pos k38, if_pos kq.2]
  have y := gr L R (xE (vwC H0) (ptk (vwC H0) 38 (absC H0)).1 (pExp (vwC H0) (ptk (vwC H0) 38 (absC H0))).1) (xCond (vwC H0) 502 true (ptk (vwC H0) 39 (pExp (vwC H0) (ptk (vwC H0) 38 (absC H0))))) cl rl lt c2 n1
  rw [xr]
  refine ⟨_, y.2, ?_, y.1, fun e he => ?_⟩
  · rw [← List.append_assoc, eH, ← a5]
    exact n2
  · rw [← Option.some.inj he]
    exact ⟨c3, n3, .inr ⟨_, _, rfl, rfl⟩⟩
def g_87o_s_1 : vG := ([(1101, [7], [6, 7], 0), (20, [7, 0], [6], 8), (23, [0], [6], 4), (51, [7], [], 0), (1088, [0], [5, 6], 0), (1066, [0, 6], [4, 5], 0), (0, [6], [], 39), (40, [4, 5], [], 0), (0, [5], [], 39), (20, [4, 0], [4], 2), (23, [0], [4], 4), (90, [4], [], -2147483648), (91, [4], [], 2147483647), (1100, [3], [3, 4], 0), (20, [3, 0], [3], 8), (23, [0], [3], 4), (51, [3], [], 0), (1092, [0], [2, 3], 0), (1099, [2], [1, 2], 0), (20, [2, 0], [1], 8), (23, [0], [1], 4), (51, [2], [], 0), (1066, [0, 1], [0, 1], 0), (0, [1], [], 38), (6000, [0], [0], 0), (0, [0], [], 30)], (3000, [], [7], 50))
theorem c_87o_s_1 : vOkm T0 (eN e_87v L_87o A_87v mu_87v no_87 Bo_87 none) 1 g_87o_s_1 := vOk_inI fun ρ η f0 f1 f2 f3 f4 f5 f6 f7 f8 f9 f10 f11 f12 f13 f14 f15 f16 f17 f18 f19 f20 f21 f22 f23 f24 f25 => q_87o_1 (n0 := ρ 0) (n1 := ρ 1) (n2 := ρ 2) (n3 := ρ 3) (n4 := ρ 4) (n5 := ρ 5) (n6 := ρ 6) (n7 := ρ 7) (H0 := η 0) (H1 := η 1) (H2 := η 2) (H3 := η 3) (H4 := η 4) (H5 := η 5) (H6 := η 6) (H7 := η 7) f25 f24 f23 f22 f21 f20 f19 f18 f17 f16 f15 f14 f13 f12 f11 f10 f9 f8 f7 f6 f5 f4 f3 f2 f1 f0
def p_87o_s : List vG := [g_87o_s_0,
  g_87o_s_1]
theorem r_87o_s : vCovBO (eR0 e_87v L_87v cs_87v 2000) p_87o_s = true := by decide +kernel
theorem m_87o (d : Nat) : eC e_87o (d + 5) := eC_ref (e := e_87v) (L := L_87v) (L' := L_87o) (cs := cs_87v) (n := 2000) (d := d + 4) (A := A_87v) (μ := mu_87v) (tp := false) (p0 := p_87v_s) (p1 := p_87o_s) (N := no_87) (B := Bo_87) rfl ⟨m_66v (d + 2), ⟨m_88o d, ⟨m_92o (d + 1), ⟨m_99o (d + 2), ⟨m_100o (d + 2), ⟨m_101o (d + 2), trivial⟩⟩⟩⟩⟩⟩ rfl (.inl rfl) (by decide +kernel) (fun z => nomatch z) r_87v_s (allC c_87v_s_0 (allC c_87v_s_1 (allC c_87v_s_2 (allC c_87v_s_3 (allC c_87v_s_4 (allC c_87v_s_5 (allC c_87v_s_6 (allC c_87v_s_7 allN)))))))) allN (sub0 (sub1 (sub1 (sub1 (sub1 (sub1 trivial)))))) r_87o_s (allC c_87o_s_0 (allC c_87o_s_1 allN)) allN
