/- MixStage.read ()I -/
noncomputable def s_157v : vM := ([(3, 11, 7, 0)], (0, -2147483648, 2147483647, 0), 1, 1, [(1, 0), (1, 1), (1, 2), (1, 3), (1, 4), (1, 5), (1, 6), (1, 7), (1, 8), (1, 9), (1, 10), (1, 11), (1, 12), (1, 13), (1, 14), (1, 15), (1, 16), (1, 18), (3, 4), (4, 1), (4, 2), (4, 3), (4, 4), (4, 5), (4, 6), (4, 7), (4, 8), (4, 13), (4, 15), (5, 0), (5, 2), (6, 2), (6, 3), (6, 4), (8, 4), (11, 1), (11, 2), (11, 4), (11, 5), (100, 0), (104, 0), (106, 0), (716, 0), (725, 0), (733, 0), (740, 0), (796, 0)])
def preb_157v (a0 : Int) (h : gH) : Prop := RDY h ∧ KM h ∧ ICm h ∧ MT (mC h)
def pre_157v : List Int → gH → Prop := fun xs h => match xs with
  | [a0] => preb_157v a0 h
  | _ => False
def postb_157v (r a0 : Int) (h0 h : gH) : Prop := RDY h ∧ KM h ∧ ICm h ∧ (mC h, r) = mRead (mC h0)
def post_157v : List Int → gH → gH → Prop := fun xs h0 h => match xs with
  | [r, a0] => postb_157v r a0 h0 h
  | _ => True
noncomputable def e_157v : vE := (157, s_157v, pre_157v, post_157v)
noncomputable def L_157v : List vE := [e_60v, e_62v, e_63v, e_193v]
def cs_157v : List vC := []
def A_157v : Int → List Int → gH → gH → Prop := fun c xs h0 h => True
def mu_157v : Int → List Int → gH → gH → Nat := fun c xs h0 h => 0
theorem q_157v_0 {n0 n1 n2 n3 n4 n5 : Int} {H0 : gH} (f0 : n0 = 7) (f1 : hWt T0 H0 ∧ preb_157v n0 H0) (f2 : n1 ≤ 8) (f3 : 0 ≤ n1) (f4 : n1 = hV H0 (n0).toNat 4) (f5 : n2 = 8) (f6 : n1 < n2) (f7 : n3 = 30) (f8 : n3 = hV H0 (n0).toNat 8) (f9 : n4 = 8) (f10 : n4 = hV H0 (n0).toNat 0) (f11 : n5 ≤ 2147483647) (f12 : (-2147483648) ≤ n5) (f13 : n5 = hV H0 (n0).toNat 1) : preb_60v n3 n4 n5 H0 := by
  have pz := f1.2
  unfold preb_157v at pz
  obtain ⟨rd, km, ic, mt⟩ := pz
  have rd2 := rd
  obtain ⟨z1, z2, z3, z4, z5, z6, z7⟩ := rd2
  obtain ⟨mf, ms, me, m20, m21, m22, mz⟩ := MTc mt
  have r4 := f4
  rw [f0] at r4
  rw [show ((7 : Int)).toNat = 7 from rfl] at r4
  have r8 := f8
  rw [f0] at r8
  rw [show ((7 : Int)).toNat = 7 from rfl] at r8
  have r10 := f10
  rw [f0] at r10
  rw [show ((7 : Int)).toNat = 7 from rfl] at r10
  have r13 := f13
  rw [f0] at r13
  rw [show ((7 : Int)).toNat = 7 from rfl] at r13
  unfold preb_60v
  exact ⟨z1, z2, z3, z4, z6, by omega, by omega, by omega, km.1, z7⟩
theorem c_157v_s_0 : vOkm T0 (eP e_157v L_157v A_157v mu_157v none) 1 ([(20, [5, 0], [0], 1), (90, [5], [], -2147483648), (91, [5], [], 2147483647), (20, [4, 0], [0], 0), (0, [4], [], 8), (20, [3, 0], [0], 8), (0, [3], [], 30), (42, [1, 2], [], 0), (0, [2], [], 8), (20, [1, 0], [0], 4), (90, [1], [], 0), (91, [1], [], 8), (6000, [0], [0], 0), (0, [0], [], 7)], (2060, [3, 4, 5], [0], 0)) := vOk_in fun ρ η h => by
  obtain ⟨f0, f1, f2, f3, f4, f5, f6, f7, f8, f9, f10, f11, f12, f13, _⟩ := h
  exact q_157v_0 (n0 := ρ 0) (n1 := ρ 1) (n2 := ρ 2) (n3 := ρ 3) (n4 := ρ 4) (n5 := ρ 5) (H0 := η 0) f13 f12 f11 f10 f9 f8 f7 f6 f5 f4 f3 f2 f1 f0
theorem q_157v_1 {n0 n1 n2 n3 n4 n5 n6 n7 : Int} {H0 H1 : gH} (f0 : n0 = 7) (f1 : hWt T0 H0 ∧ preb_157v n0 H0) (f2 : n1 ≤ 8) (f3 : 0 ≤ n1) (f4 : n1 = hV H0 (n0).toNat 4) (f5 : n2 = 8) (f6 : n1 < n2) (f7 : n3 = 30) (f8 : n3 = hV H0 (n0).toNat 8) (f9 : n4 = 8) (f10 : n4 = hV H0 (n0).toNat 0) (f11 : n5 ≤ 2147483647) (f12 : (-2147483648) ≤ n5) (f13 : n5 = hV H0 (n0).toNat 1) (f14 : n6 ≤ 2147483647) (f15 : (-2147483648) ≤ n6) (f16 : (hLe T0 H0 H1 ∧ hFr s_60v.2.2.2.2 H0 H1 ∧ ((0 : Int) = 0 → H1.length = H0.length) ∧ hWt T0 H1) ∧ postb_60v n6 n3 n4 n5 H0 H1) (f17 : n7 = 30) (f18 : n7 = hV H1 (n0).toNat 8) : preb_62v n7 H1 := by
  have pz := f1.2
  unfold preb_157v at pz
  obtain ⟨rd, km, ic, mt⟩ := pz
  have rd2 := rd
  obtain ⟨z1, z2, z3, z4, z5, z6, z7⟩ := rd2
  obtain ⟨mf, ms, me, m20, m21, m22, mz⟩ := MTc mt
  have r4 := f4
  rw [f0] at r4
  rw [show ((7 : Int)).toNat = 7 from rfl] at r4
  have r8 := f8
  rw [f0] at r8
  rw [show ((7 : Int)).toNat = 7 from rfl] at r8
  have r10 := f10
  rw [f0] at r10
  rw [show ((7 : Int)).toNat = 7 from rfl] at r10
  have r13 := f13
  rw [f0] at r13
  rw [show ((7 : Int)).toNat = 7 from rfl] at r13
  have r18 := f18
  rw [f0] at r18
  rw [show ((7 : Int)).toNat = 7 from rfl] at r18
  have q := f16.2
  unfold postb_60v at q
  rw [show n5 = hV H0 7 1 by omega] at q
  obtain ⟨c1, c2, c3, c4, c5, c6, c7⟩ := q
  have ksA := KS5_le f16.1.1 z1
  unfold preb_62v
  exact ksA
theorem c_157v_s_1 : vOkm T0 (eP e_157v L_157v A_157v mu_157v none) 1 ([(20, [7, 0], [1], 8), (0, [7], [], 30), (1060, [6, 3, 4, 5], [0, 1], 0), (90, [6], [], -2147483648), (91, [6], [], 2147483647), (20, [5, 0], [0], 1), (90, [5], [], -2147483648), (91, [5], [], 2147483647), (20, [4, 0], [0], 0), (0, [4], [], 8), (20, [3, 0], [0], 8), (0, [3], [], 30), (42, [1, 2], [], 0), (0, [2], [], 8), (20, [1, 0], [0], 4), (90, [1], [], 0), (91, [1], [], 8), (6000, [0], [0], 0), (0, [0], [], 7)], (2062, [7], [1], 0)) := vOk_in fun ρ η h => by
  obtain ⟨f0, f1, f2, f3, f4, f5, f6, f7, f8, f9, f10, f11, f12, f13, f14, f15, f16, f17, f18, _⟩ := h
  exact q_157v_1 (n0 := ρ 0) (n1 := ρ 1) (n2 := ρ 2) (n3 := ρ 3) (n4 := ρ 4) (n5 := ρ 5) (n6 := ρ 6) (n7 := ρ 7) (H0 := η 0) (H1 := η 1) f18 f17 f16 f15 f14 f13 f12 f11 f10 f9 f8 f7 f6 f5 f4 f3 f2 f1 f0
theorem q_157v_2 {n0 n1 n2 n3 n4 n5 n6 n7 n8 n9 n10 n11 : Int} {H0 H1 H2 H3 H4 : gH} (f0 : n0 = 7) (f1 : hWt T0 H0 ∧ preb_157v n0 H0) (f2 : n1 ≤ 8) (f3 : 0 ≤ n1) (f4 : n1 = hV H0 (n0).toNat 4) (f5 : n2 = 8) (f6 : n1 < n2) (f7 : n3 = 30) (f8 : n3 = hV H0 (n0).toNat 8) (f9 : n4 = 8) (f10 : n4 = hV H0 (n0).toNat 0) (f11 : n5 ≤ 2147483647) (f12 : (-2147483648) ≤ n5) (f13 : n5 = hV H0 (n0).toNat 1) (f14 : n6 ≤ 2147483647) (f15 : (-2147483648) ≤ n6) (f16 : (hLe T0 H0 H1 ∧ hFr s_60v.2.2.2.2 H0 H1 ∧ ((0 : Int) = 0 → H1.length = H0.length) ∧ hWt T0 H1) ∧ postb_60v n6 n3 n4 n5 H0 H1) (f17 : n7 = 30) (f18 : n7 = hV H1 (n0).toNat 8) (f19 : n8 ≤ 2147483647) (f20 : (-2147483648) ≤ n8) (f21 : (hLe T0 H1 H2 ∧ hFr s_62v.2.2.2.2 H1 H2 ∧ ((0 : Int) = 0 → H2.length = H1.length) ∧ hWt T0 H2) ∧ postb_62v n8 n7 H1 H2) (f22 : n9 = 2) (f23 : hUpd H3 H2 n0 n9 n8) (f24 : n10 = 0) (f25 : n11 = 1) (f26 : hUpd H4 H3 n0 n11 n10) (f27 : n6 ≠ 0) (f28 : n6 ≠ 0) : postb_157v n6 n0 H0 H4 := by
  have pz := f1.2
  unfold preb_157v at pz
  obtain ⟨rd, km, ic, mt⟩ := pz
  have rd2 := rd
  obtain ⟨z1, z2, z3, z4, z5, z6, z7⟩ := rd2
  obtain ⟨mf, ms, me, m20, m21, m22, mz⟩ := MTc mt
  have r4 := f4
  rw [f0] at r4
  rw [show ((7 : Int)).toNat = 7 from rfl] at r4
  have r8 := f8
  rw [f0] at r8
  rw [show ((7 : Int)).toNat = 7 from rfl] at r8
  have r10 := f10
  rw [f0] at r10
  rw [show ((7 : Int)).toNat = 7 from rfl] at r10
  have r13 := f13
  rw [f0] at r13
  rw [show ((7 : Int)).toNat = 7 from rfl] at r13
  have r18 := f18
  rw [f0] at r18
  rw [show ((7 : Int)).toNat = 7 from rfl] at r18
  have q := f16.2
  unfold postb_60v at q
  rw [show n5 = hV H0 7 1 by omega] at q
  obtain ⟨c1, c2, c3, c4, c5, c6, c7⟩ := q
  have ksA := KS5_le f16.1.1 z1
  have pq := f21.2
  unfold postb_62v at pq
  have pp : n8 = pPlc (pRead (pTx (hV H0 8) (hV H0 7 1))) := by
    by_cases c : hV H1 30 3 = 0
    · rw [if_pos c] at pq
      rw [pq, c3 (by omega)]
    · obtain ⟨d1, d2, d3, d4⟩ := c4 (by omega)
      rw [if_neg c, if_pos ⟨d1, by omega⟩] at pq
      rw [pq, d4]
  have kA := KM_le f16.1.1 km
  have e71 : hV H4 7 1 = n10 := uSame f26 7 1 (by rw [f0]; rfl) (by rw [f25]; rfl)
  have e72 : hV H4 7 2 = n8 := (uSlot f26 7 2 (by rw [f25]; decide)).trans (uSame f23 7 2 (by rw [f0]; rfl) (by rw [f22]; rfl))
  have e193 : hV H4 19 3 = hV H0 19 3 := (congrFun (uRowNe f26 19 (by rw [f0]; decide)) 3).trans ((congrFun (uRowNe f23 19 (by rw [f0]; decide)) 3).trans ((f21.1.2.1.1 19 3 (by decide +kernel)).trans (f16.1.2.1.1 19 3 (by decide +kernel))))
  have er : ERs H0 H4 := (ER_tr (ER_tr (ER_tr (ER_fr f16.1.2.1 (by decide +kernel)) (ER_fr f21.1.2.1 (by decide +kernel))) (ER_up f23 (by rw [f0]; decide) (by rw [f0]; decide) (by rw [f0]; decide))) (ER_up f26 (by rw [f0]; decide) (by rw [f0]; decide) (by rw [f0]; decide)))
  have kmE := (KM_up f26 (KM_up f23 (KM_le f21.1.1 (KM_le f16.1.1 km))))
  have e8 : hV H4 8 = hV H0 8 := (uRowNe f26 8 (by rw [f0]; decide)).trans ((uRowNe f23 8 (by rw [f0]; decide)).trans ((fRow f21.1.2.1 8 (by decide +kernel)).trans (fRow f16.1.2.1 8 (by decide +kernel))))
  have e34 : hV H4 34 = hV H1 34 := (uRowNe f26 34 (by rw [f0]; decide)).trans ((uRowNe f23 34 (by rw [f0]; decide)).trans (fRow f21.1.2.1 34 (by decide +kernel)))
  have e308 : hV H4 30 8 = hV H0 30 8 := (congrFun (uRowNe f26 30 (by rw [f0]; decide)) 8).trans ((congrFun (uRowNe f23 30 (by rw [f0]; decide)) 8).trans ((f21.1.2.1.1 30 8 (by decide +kernel)).trans (f16.1.2.1.1 30 8 (by decide +kernel))))
  have e75 : hV H4 7 5 = hV H0 7 5 := (uSlot f26 7 5 (by rw [f25]; decide)).trans ((uSlot f23 7 5 (by rw [f22]; decide)).trans ((f21.1.2.1.1 7 5 (by decide +kernel)).trans (f16.1.2.1.1 7 5 (by decide +kernel))))
  have d8 : DR H4 := ⟨by rw [e308]; exact z4.1, by rw [e308]; exact ((fun {q} (w : hK H3 q = 5) => kUp f26 w) ((fun {q} (w : hK H2 q = 5) => kUp f23 w) ((fun {q} (w : hK H1 q = 5) => kLe f21.1.1 w rfl) ((fun {q} (w : hK H0 q = 5) => kLe f16.1.1 w rfl) z4.2))))⟩
  have d7 : D7 H4 := ⟨by rw [e75]; exact z5.1, by rw [e75]; exact ((fun {q} (w : hK H3 q = 5) => kUp f26 w) ((fun {q} (w : hK H2 q = 5) => kUp f23 w) ((fun {q} (w : hK H1 q = 5) => kLe f21.1.1 w rfl) ((fun {q} (w : hK H0 q = 5) => kLe f16.1.1 w rfl) z5.2))))⟩
  have rdE : RDY H4 := ⟨(KS5_up f26 (KS5_up f23 (KS5_le f21.1.1 (KS5_le f16.1.1 z1)))), (KB_up f26 (KB_up f23 (KB_le f21.1.1 (KB_le f16.1.1 z2)))), (CU_upc f26 (by rw [f0]; decide) (CU_upc f23 (by rw [f0]; decide) (CU_fr f21.1.1 f21.1.2.1 (by decide +kernel) (CU_fr f16.1.1 f16.1.2.1 (by decide +kernel) z3)))), d8, d7, (WDS_up f26 (by rw [f0]; decide) (WDS_up f23 (by rw [f0]; decide) (WDS_fr f21.1.1 f21.1.2.1 (by decide +kernel) c7))), by unfold PBt; rw [e34]; exact c6⟩
  unfold postb_157v
  have e74 : hV H4 7 4 = hV H0 7 4 := (uSlot f26 7 4 (by rw [f25]; decide)).trans ((uSlot f23 7 4 (by rw [f22]; decide)).trans ((f21.1.2.1.1 7 4 (by decide +kernel)).trans (f16.1.2.1.1 7 4 (by decide +kernel))))
  have e194 : hV H4 19 4 = hV H0 19 4 := (congrFun (uRowNe f26 19 (by rw [f0]; decide)) 4).trans ((congrFun (uRowNe f23 19 (by rw [f0]; decide)) 4).trans ((f21.1.2.1.1 19 4 (by decide +kernel)).trans (f16.1.2.1.1 19 4 (by decide +kernel))))
  have cc : ¬ (pRes (pRead (pTx (hV H0 8) (hV H0 7 1))) = 0 ∧ ¬ (pTx (hV H0 8) (hV H0 7 1)).1 0 = 19) := fun w => by
    have w1 := w.1
    first
    | omega
    | (rcases c5 with v | v
       · exact w.2 v.2
       · have := v.1
         omega)
  refine ⟨rdE, kmE, ICm_of ⟨e193, e194⟩ ic, ?_⟩
  rw [mRead_0 (m := mC H0) (show ¬ 8 ≤ hV H0 7 4 by omega) cc, mC_read (p := pPlc (pRead (pTx (hV H0 8) (hV H0 7 1)))) (by omega) e8 (by omega) e74 er ⟨e193, e194⟩]
  exact Prod.ext rfl (by show n6 = pRes (pRead (pTx (hV H0 8) (hV H0 7 1))); omega)
theorem c_157v_s_2 : vOkm T0 (eP e_157v L_157v A_157v mu_157v none) 1 ([(31, [6], [], 0), (31, [6], [], 0), (80, [0, 11, 10], [4, 3], 0), (0, [11], [], 1), (0, [10], [], 0), (80, [0, 9, 8], [3, 2], 0), (0, [9], [], 2), (1062, [8, 7], [1, 2], 0), (90, [8], [], -2147483648), (91, [8], [], 2147483647), (20, [7, 0], [1], 8), (0, [7], [], 30), (1060, [6, 3, 4, 5], [0, 1], 0), (90, [6], [], -2147483648), (91, [6], [], 2147483647), (20, [5, 0], [0], 1), (90, [5], [], -2147483648), (91, [5], [], 2147483647), (20, [4, 0], [0], 0), (0, [4], [], 8), (20, [3, 0], [0], 8), (0, [3], [], 30), (42, [1, 2], [], 0), (0, [2], [], 8), (20, [1, 0], [0], 4), (90, [1], [], 0), (91, [1], [], 8), (6000, [0], [0], 0), (0, [0], [], 7)], (3000, [6], [4], 85)) := vOk_in fun ρ η h => by
  obtain ⟨f0, f1, f2, f3, f4, f5, f6, f7, f8, f9, f10, f11, f12, f13, f14, f15, f16, f17, f18, f19, f20, f21, f22, f23, f24, f25, f26, f27, f28, _⟩ := h
  exact q_157v_2 (n0 := ρ 0) (n1 := ρ 1) (n2 := ρ 2) (n3 := ρ 3) (n4 := ρ 4) (n5 := ρ 5) (n6 := ρ 6) (n7 := ρ 7) (n8 := ρ 8) (n9 := ρ 9) (n10 := ρ 10) (n11 := ρ 11) (H0 := η 0) (H1 := η 1) (H2 := η 2) (H3 := η 3) (H4 := η 4) f28 f27 f26 f25 f24 f23 f22 f21 f20 f19 f18 f17 f16 f15 f14 f13 f12 f11 f10 f9 f8 f7 f6 f5 f4 f3 f2 f1 f0
theorem q_157v_3 {n0 n1 n2 n3 n4 n5 n6 n7 n8 n9 n10 n11 : Int} {H0 H1 H2 H3 H4 : gH} (f0 : n0 = 7) (f1 : hWt T0 H0 ∧ preb_157v n0 H0) (f2 : n1 ≤ 8) (f3 : 0 ≤ n1) (f4 : n1 = hV H0 (n0).toNat 4) (f5 : n2 = 8) (f6 : n1 < n2) (f7 : n3 = 30) (f8 : n3 = hV H0 (n0).toNat 8) (f9 : n4 = 8) (f10 : n4 = hV H0 (n0).toNat 0) (f11 : n5 ≤ 2147483647) (f12 : (-2147483648) ≤ n5) (f13 : n5 = hV H0 (n0).toNat 1) (f14 : n6 ≤ 2147483647) (f15 : (-2147483648) ≤ n6) (f16 : (hLe T0 H0 H1 ∧ hFr s_60v.2.2.2.2 H0 H1 ∧ ((0 : Int) = 0 → H1.length = H0.length) ∧ hWt T0 H1) ∧ postb_60v n6 n3 n4 n5 H0 H1) (f17 : n7 = 30) (f18 : n7 = hV H1 (n0).toNat 8) (f19 : n8 ≤ 2147483647) (f20 : (-2147483648) ≤ n8) (f21 : (hLe T0 H1 H2 ∧ hFr s_62v.2.2.2.2 H1 H2 ∧ ((0 : Int) = 0 → H2.length = H1.length) ∧ hWt T0 H2) ∧ postb_62v n8 n7 H1 H2) (f22 : n9 = 2) (f23 : hUpd H3 H2 n0 n9 n8) (f24 : n10 = 0) (f25 : n11 = 1) (f26 : hUpd H4 H3 n0 n11 n10) (f27 : n6 ≠ 0) (f28 : n6 = 0) : preb_193v n0 H4 := by
  exfalso
  clear f0 f1 f2 f3 f4 f5 f6 f7 f8 f9 f10 f11 f12 f13 f14 f15 f16 f17 f18 f19 f20 f21 f22 f23 f24 f25 f26
  omega
theorem c_157v_s_3 : vOkm T0 (eP e_157v L_157v A_157v mu_157v none) 1 ([(30, [6], [], 0), (31, [6], [], 0), (80, [0, 11, 10], [4, 3], 0), (0, [11], [], 1), (0, [10], [], 0), (80, [0, 9, 8], [3, 2], 0), (0, [9], [], 2), (1062, [8, 7], [1, 2], 0), (90, [8], [], -2147483648), (91, [8], [], 2147483647), (20, [7, 0], [1], 8), (0, [7], [], 30), (1060, [6, 3, 4, 5], [0, 1], 0), (90, [6], [], -2147483648), (91, [6], [], 2147483647), (20, [5, 0], [0], 1), (90, [5], [], -2147483648), (91, [5], [], 2147483647), (20, [4, 0], [0], 0), (0, [4], [], 8), (20, [3, 0], [0], 8), (0, [3], [], 30), (42, [1, 2], [], 0), (0, [2], [], 8), (20, [1, 0], [0], 4), (90, [1], [], 0), (91, [1], [], 8), (6000, [0], [0], 0), (0, [0], [], 7)], (2193, [0], [4], 0)) := vOk_in fun ρ η h => by
  obtain ⟨f0, f1, f2, f3, f4, f5, f6, f7, f8, f9, f10, f11, f12, f13, f14, f15, f16, f17, f18, f19, f20, f21, f22, f23, f24, f25, f26, f27, f28, _⟩ := h
  exact q_157v_3 (n0 := ρ 0) (n1 := ρ 1) (n2 := ρ 2) (n3 := ρ 3) (n4 := ρ 4) (n5 := ρ 5) (n6 := ρ 6) (n7 := ρ 7) (n8 := ρ 8) (n9 := ρ 9) (n10 := ρ 10) (n11 := ρ 11) (H0 := η 0) (H1 := η 1) (H2 := η 2) (H3 := η 3) (H4 := η 4) f28 f27 f26 f25 f24 f23 f22 f21 f20 f19 f18 f17 f16 f15 f14 f13 f12 f11 f10 f9 f8 f7 f6 f5 f4 f3 f2 f1 f0
theorem q_157v_4 {n0 n1 n2 n3 n4 n5 n6 n7 n8 n9 n10 n11 : Int} {H0 H1 H2 H3 H4 H5 : gH} (f0 : n0 = 7) (f1 : hWt T0 H0 ∧ preb_157v n0 H0) (f2 : n1 ≤ 8) (f3 : 0 ≤ n1) (f4 : n1 = hV H0 (n0).toNat 4) (f5 : n2 = 8) (f6 : n1 < n2) (f7 : n3 = 30) (f8 : n3 = hV H0 (n0).toNat 8) (f9 : n4 = 8) (f10 : n4 = hV H0 (n0).toNat 0) (f11 : n5 ≤ 2147483647) (f12 : (-2147483648) ≤ n5) (f13 : n5 = hV H0 (n0).toNat 1) (f14 : n6 ≤ 2147483647) (f15 : (-2147483648) ≤ n6) (f16 : (hLe T0 H0 H1 ∧ hFr s_60v.2.2.2.2 H0 H1 ∧ ((0 : Int) = 0 → H1.length = H0.length) ∧ hWt T0 H1) ∧ postb_60v n6 n3 n4 n5 H0 H1) (f17 : n7 = 30) (f18 : n7 = hV H1 (n0).toNat 8) (f19 : n8 ≤ 2147483647) (f20 : (-2147483648) ≤ n8) (f21 : (hLe T0 H1 H2 ∧ hFr s_62v.2.2.2.2 H1 H2 ∧ ((0 : Int) = 0 → H2.length = H1.length) ∧ hWt T0 H2) ∧ postb_62v n8 n7 H1 H2) (f22 : n9 = 2) (f23 : hUpd H3 H2 n0 n9 n8) (f24 : n10 = 0) (f25 : n11 = 1) (f26 : hUpd H4 H3 n0 n11 n10) (f27 : n6 ≠ 0) (f28 : n6 = 0) (f29 : (hLe T0 H4 H5 ∧ hFr s_193v.2.2.2.2 H4 H5 ∧ ((1 : Int) = 0 → H5.length = H4.length) ∧ hWt T0 H5) ∧ postb_193v n0 H4 H5) : postb_157v n6 n0 H0 H5 := by
  exfalso
  clear f0 f1 f2 f3 f4 f5 f6 f7 f8 f9 f10 f11 f12 f13 f14 f15 f16 f17 f18 f19 f20 f21 f22 f23 f24 f25 f26 f29
  omega
theorem c_157v_s_4 : vOkm T0 (eP e_157v L_157v A_157v mu_157v none) 1 ([(1193, [0], [4, 5], 1), (30, [6], [], 0), (31, [6], [], 0), (80, [0, 11, 10], [4, 3], 0), (0, [11], [], 1), (0, [10], [], 0), (80, [0, 9, 8], [3, 2], 0), (0, [9], [], 2), (1062, [8, 7], [1, 2], 0), (90, [8], [], -2147483648), (91, [8], [], 2147483647), (20, [7, 0], [1], 8), (0, [7], [], 30), (1060, [6, 3, 4, 5], [0, 1], 0), (90, [6], [], -2147483648), (91, [6], [], 2147483647), (20, [5, 0], [0], 1), (90, [5], [], -2147483648), (91, [5], [], 2147483647), (20, [4, 0], [0], 0), (0, [4], [], 8), (20, [3, 0], [0], 8), (0, [3], [], 30), (42, [1, 2], [], 0), (0, [2], [], 8), (20, [1, 0], [0], 4), (90, [1], [], 0), (91, [1], [], 8), (6000, [0], [0], 0), (0, [0], [], 7)], (3000, [6], [5], 85)) := vOk_in fun ρ η h => by
  obtain ⟨f0, f1, f2, f3, f4, f5, f6, f7, f8, f9, f10, f11, f12, f13, f14, f15, f16, f17, f18, f19, f20, f21, f22, f23, f24, f25, f26, f27, f28, f29, _⟩ := h
  exact q_157v_4 (n0 := ρ 0) (n1 := ρ 1) (n2 := ρ 2) (n3 := ρ 3) (n4 := ρ 4) (n5 := ρ 5) (n6 := ρ 6) (n7 := ρ 7) (n8 := ρ 8) (n9 := ρ 9) (n10 := ρ 10) (n11 := ρ 11) (H0 := η 0) (H1 := η 1) (H2 := η 2) (H3 := η 3) (H4 := η 4) (H5 := η 5) f29 f28 f27 f26 f25 f24 f23 f22 f21 f20 f19 f18 f17 f16 f15 f14 f13 f12 f11 f10 f9 f8 f7 f6 f5 f4 f3 f2 f1 f0
theorem q_157v_5 {n0 n1 n2 n3 n4 n5 n6 n7 n8 n9 n10 n11 n12 n13 : Int} {H0 H1 H2 H3 H4 : gH} (f0 : n0 = 7) (f1 : hWt T0 H0 ∧ preb_157v n0 H0) (f2 : n1 ≤ 8) (f3 : 0 ≤ n1) (f4 : n1 = hV H0 (n0).toNat 4) (f5 : n2 = 8) (f6 : n1 < n2) (f7 : n3 = 30) (f8 : n3 = hV H0 (n0).toNat 8) (f9 : n4 = 8) (f10 : n4 = hV H0 (n0).toNat 0) (f11 : n5 ≤ 2147483647) (f12 : (-2147483648) ≤ n5) (f13 : n5 = hV H0 (n0).toNat 1) (f14 : n6 ≤ 2147483647) (f15 : (-2147483648) ≤ n6) (f16 : (hLe T0 H0 H1 ∧ hFr s_60v.2.2.2.2 H0 H1 ∧ ((0 : Int) = 0 → H1.length = H0.length) ∧ hWt T0 H1) ∧ postb_60v n6 n3 n4 n5 H0 H1) (f17 : n7 = 30) (f18 : n7 = hV H1 (n0).toNat 8) (f19 : n8 ≤ 2147483647) (f20 : (-2147483648) ≤ n8) (f21 : (hLe T0 H1 H2 ∧ hFr s_62v.2.2.2.2 H1 H2 ∧ ((0 : Int) = 0 → H2.length = H1.length) ∧ hWt T0 H2) ∧ postb_62v n8 n7 H1 H2) (f22 : n9 = 2) (f23 : hUpd H3 H2 n0 n9 n8) (f24 : n10 = 0) (f25 : n11 = 1) (f26 : hUpd H4 H3 n0 n11 n10) (f27 : n6 = 0) (f28 : n12 = 30) (f29 : n12 = hV H4 (n0).toNat 8) (f30 : n13 ≤ 1) (f31 : 0 ≤ n13) (f32 : n13 = hV H4 (n12).toNat 7) (f33 : n13 = 0) (f34 : n6 ≠ 0) : postb_157v n6 n0 H0 H4 := by
  exfalso
  clear f0 f1 f2 f3 f4 f5 f6 f7 f8 f9 f10 f11 f12 f13 f14 f15 f16 f17 f18 f19 f20 f21 f22 f23 f24 f25 f26 f28 f29 f30 f31 f32 f33
  omega
theorem c_157v_s_5 : vOkm T0 (eP e_157v L_157v A_157v mu_157v none) 1 ([(31, [6], [], 0), (30, [13], [], 0), (20, [13, 12], [4], 7), (90, [13], [], 0), (91, [13], [], 1), (20, [12, 0], [4], 8), (0, [12], [], 30), (30, [6], [], 0), (80, [0, 11, 10], [4, 3], 0), (0, [11], [], 1), (0, [10], [], 0), (80, [0, 9, 8], [3, 2], 0), (0, [9], [], 2), (1062, [8, 7], [1, 2], 0), (90, [8], [], -2147483648), (91, [8], [], 2147483647), (20, [7, 0], [1], 8), (0, [7], [], 30), (1060, [6, 3, 4, 5], [0, 1], 0), (90, [6], [], -2147483648), (91, [6], [], 2147483647), (20, [5, 0], [0], 1), (90, [5], [], -2147483648), (91, [5], [], 2147483647), (20, [4, 0], [0], 0), (0, [4], [], 8), (20, [3, 0], [0], 8), (0, [3], [], 30), (42, [1, 2], [], 0), (0, [2], [], 8), (20, [1, 0], [0], 4), (90, [1], [], 0), (91, [1], [], 8), (6000, [0], [0], 0), (0, [0], [], 7)], (3000, [6], [4], 85)) := vOk_in fun ρ η h => by
  obtain ⟨f0, f1, f2, f3, f4, f5, f6, f7, f8, f9, f10, f11, f12, f13, f14, f15, f16, f17, f18, f19, f20, f21, f22, f23, f24, f25, f26, f27, f28, f29, f30, f31, f32, f33, f34, _⟩ := h
  exact q_157v_5 (n0 := ρ 0) (n1 := ρ 1) (n2 := ρ 2) (n3 := ρ 3) (n4 := ρ 4) (n5 := ρ 5) (n6 := ρ 6) (n7 := ρ 7) (n8 := ρ 8) (n9 := ρ 9) (n10 := ρ 10) (n11 := ρ 11) (n12 := ρ 12) (n13 := ρ 13) (H0 := η 0) (H1 := η 1) (H2 := η 2) (H3 := η 3) (H4 := η 4) f34 f33 f32 f31 f30 f29 f28 f27 f26 f25 f24 f23 f22 f21 f20 f19 f18 f17 f16 f15 f14 f13 f12 f11 f10 f9 f8 f7 f6 f5 f4 f3 f2 f1 f0
theorem q_157v_6 {n0 n1 n2 n3 n4 n5 n6 n7 n8 n9 n10 n11 n12 n13 : Int} {H0 H1 H2 H3 H4 : gH} (f0 : n0 = 7) (f1 : hWt T0 H0 ∧ preb_157v n0 H0) (f2 : n1 ≤ 8) (f3 : 0 ≤ n1) (f4 : n1 = hV H0 (n0).toNat 4) (f5 : n2 = 8) (f6 : n1 < n2) (f7 : n3 = 30) (f8 : n3 = hV H0 (n0).toNat 8) (f9 : n4 = 8) (f10 : n4 = hV H0 (n0).toNat 0) (f11 : n5 ≤ 2147483647) (f12 : (-2147483648) ≤ n5) (f13 : n5 = hV H0 (n0).toNat 1) (f14 : n6 ≤ 2147483647) (f15 : (-2147483648) ≤ n6) (f16 : (hLe T0 H0 H1 ∧ hFr s_60v.2.2.2.2 H0 H1 ∧ ((0 : Int) = 0 → H1.length = H0.length) ∧ hWt T0 H1) ∧ postb_60v n6 n3 n4 n5 H0 H1) (f17 : n7 = 30) (f18 : n7 = hV H1 (n0).toNat 8) (f19 : n8 ≤ 2147483647) (f20 : (-2147483648) ≤ n8) (f21 : (hLe T0 H1 H2 ∧ hFr s_62v.2.2.2.2 H1 H2 ∧ ((0 : Int) = 0 → H2.length = H1.length) ∧ hWt T0 H2) ∧ postb_62v n8 n7 H1 H2) (f22 : n9 = 2) (f23 : hUpd H3 H2 n0 n9 n8) (f24 : n10 = 0) (f25 : n11 = 1) (f26 : hUpd H4 H3 n0 n11 n10) (f27 : n6 = 0) (f28 : n12 = 30) (f29 : n12 = hV H4 (n0).toNat 8) (f30 : n13 ≤ 1) (f31 : 0 ≤ n13) (f32 : n13 = hV H4 (n12).toNat 7) (f33 : n13 = 0) (f34 : n6 = 0) : preb_193v n0 H4 := by
  have pz := f1.2
  unfold preb_157v at pz
  obtain ⟨rd, km, ic, mt⟩ := pz
  have rd2 := rd
  obtain ⟨z1, z2, z3, z4, z5, z6, z7⟩ := rd2
  obtain ⟨mf, ms, me, m20, m21, m22, mz⟩ := MTc mt
  have r4 := f4
  rw [f0] at r4
  rw [show ((7 : Int)).toNat = 7 from rfl] at r4
  have r8 := f8
  rw [f0] at r8
  rw [show ((7 : Int)).toNat = 7 from rfl] at r8
  have r10 := f10
  rw [f0] at r10
  rw [show ((7 : Int)).toNat = 7 from rfl] at r10
  have r13 := f13
  rw [f0] at r13
  rw [show ((7 : Int)).toNat = 7 from rfl] at r13
  have r18 := f18
  rw [f0] at r18
  rw [show ((7 : Int)).toNat = 7 from rfl] at r18
  have r29 := f29
  rw [f0] at r29
  rw [show ((7 : Int)).toNat = 7 from rfl] at r29
  have r32 := f32
  rw [f28] at r32
  rw [show ((30 : Int)).toNat = 30 from rfl] at r32
  have q := f16.2
  unfold postb_60v at q
  rw [show n5 = hV H0 7 1 by omega] at q
  obtain ⟨c1, c2, c3, c4, c5, c6, c7⟩ := q
  have ksA := KS5_le f16.1.1 z1
  have pq := f21.2
  unfold postb_62v at pq
  have pp : n8 = pPlc (pRead (pTx (hV H0 8) (hV H0 7 1))) := by
    by_cases c : hV H1 30 3 = 0
    · rw [if_pos c] at pq
      rw [pq, c3 (by omega)]
    · obtain ⟨d1, d2, d3, d4⟩ := c4 (by omega)
      rw [if_neg c, if_pos ⟨d1, by omega⟩] at pq
      rw [pq, d4]
  have kA := KM_le f16.1.1 km
  have e3 : hV H4 19 3 = hV H0 19 3 := (congrFun (uRowNe f26 19 (by rw [f0]; decide)) 3).trans ((congrFun (uRowNe f23 19 (by rw [f0]; decide)) 3).trans ((f21.1.2.1.1 19 3 (by decide +kernel)).trans (f16.1.2.1.1 19 3 (by decide +kernel))))
  unfold preb_193v
  omega
theorem c_157v_s_6 : vOkm T0 (eP e_157v L_157v A_157v mu_157v none) 1 ([(30, [6], [], 0), (30, [13], [], 0), (20, [13, 12], [4], 7), (90, [13], [], 0), (91, [13], [], 1), (20, [12, 0], [4], 8), (0, [12], [], 30), (30, [6], [], 0), (80, [0, 11, 10], [4, 3], 0), (0, [11], [], 1), (0, [10], [], 0), (80, [0, 9, 8], [3, 2], 0), (0, [9], [], 2), (1062, [8, 7], [1, 2], 0), (90, [8], [], -2147483648), (91, [8], [], 2147483647), (20, [7, 0], [1], 8), (0, [7], [], 30), (1060, [6, 3, 4, 5], [0, 1], 0), (90, [6], [], -2147483648), (91, [6], [], 2147483647), (20, [5, 0], [0], 1), (90, [5], [], -2147483648), (91, [5], [], 2147483647), (20, [4, 0], [0], 0), (0, [4], [], 8), (20, [3, 0], [0], 8), (0, [3], [], 30), (42, [1, 2], [], 0), (0, [2], [], 8), (20, [1, 0], [0], 4), (90, [1], [], 0), (91, [1], [], 8), (6000, [0], [0], 0), (0, [0], [], 7)], (2193, [0], [4], 0)) := vOk_in fun ρ η h => by
  obtain ⟨f0, f1, f2, f3, f4, f5, f6, f7, f8, f9, f10, f11, f12, f13, f14, f15, f16, f17, f18, f19, f20, f21, f22, f23, f24, f25, f26, f27, f28, f29, f30, f31, f32, f33, f34, _⟩ := h
  exact q_157v_6 (n0 := ρ 0) (n1 := ρ 1) (n2 := ρ 2) (n3 := ρ 3) (n4 := ρ 4) (n5 := ρ 5) (n6 := ρ 6) (n7 := ρ 7) (n8 := ρ 8) (n9 := ρ 9) (n10 := ρ 10) (n11 := ρ 11) (n12 := ρ 12) (n13 := ρ 13) (H0 := η 0) (H1 := η 1) (H2 := η 2) (H3 := η 3) (H4 := η 4) f34 f33 f32 f31 f30 f29 f28 f27 f26 f25 f24 f23 f22 f21 f20 f19 f18 f17 f16 f15 f14 f13 f12 f11 f10 f9 f8 f7 f6 f5 f4 f3 f2 f1 f0
theorem q_157v_7 {n0 n1 n2 n3 n4 n5 n6 n7 n8 n9 n10 n11 n12 n13 : Int} {H0 H1 H2 H3 H4 H5 : gH} (f0 : n0 = 7) (f1 : hWt T0 H0 ∧ preb_157v n0 H0) (f2 : n1 ≤ 8) (f3 : 0 ≤ n1) (f4 : n1 = hV H0 (n0).toNat 4) (f5 : n2 = 8) (f6 : n1 < n2) (f7 : n3 = 30) (f8 : n3 = hV H0 (n0).toNat 8) (f9 : n4 = 8) (f10 : n4 = hV H0 (n0).toNat 0) (f11 : n5 ≤ 2147483647) (f12 : (-2147483648) ≤ n5) (f13 : n5 = hV H0 (n0).toNat 1) (f14 : n6 ≤ 2147483647) (f15 : (-2147483648) ≤ n6) (f16 : (hLe T0 H0 H1 ∧ hFr s_60v.2.2.2.2 H0 H1 ∧ ((0 : Int) = 0 → H1.length = H0.length) ∧ hWt T0 H1) ∧ postb_60v n6 n3 n4 n5 H0 H1) (f17 : n7 = 30) (f18 : n7 = hV H1 (n0).toNat 8) (f19 : n8 ≤ 2147483647) (f20 : (-2147483648) ≤ n8) (f21 : (hLe T0 H1 H2 ∧ hFr s_62v.2.2.2.2 H1 H2 ∧ ((0 : Int) = 0 → H2.length = H1.length) ∧ hWt T0 H2) ∧ postb_62v n8 n7 H1 H2) (f22 : n9 = 2) (f23 : hUpd H3 H2 n0 n9 n8) (f24 : n10 = 0) (f25 : n11 = 1) (f26 : hUpd H4 H3 n0 n11 n10) (f27 : n6 = 0) (f28 : n12 = 30) (f29 : n12 = hV H4 (n0).toNat 8) (f30 : n13 ≤ 1) (f31 : 0 ≤ n13) (f32 : n13 = hV H4 (n12).toNat 7) (f33 : n13 = 0) (f34 : n6 = 0) (f35 : (hLe T0 H4 H5 ∧ hFr s_193v.2.2.2.2 H4 H5 ∧ ((1 : Int) = 0 → H5.length = H4.length) ∧ hWt T0 H5) ∧ postb_193v n0 H4 H5) : postb_157v n6 n0 H0 H5 := by
  have pz := f1.2
  unfold preb_157v at pz
  obtain ⟨rd, km, ic, mt⟩ := pz
  have rd2 := rd
  obtain ⟨z1, z2, z3, z4, z5, z6, z7⟩ := rd2
  obtain ⟨mf, ms, me, m20, m21, m22, mz⟩ := MTc mt
  have r4 := f4
  rw [f0] at r4
  rw [show ((7 : Int)).toNat = 7 from rfl] at r4
  have r8 := f8
  rw [f0] at r8
  rw [show ((7 : Int)).toNat = 7 from rfl] at r8
  have r10 := f10
  rw [f0] at r10
  rw [show ((7 : Int)).toNat = 7 from rfl] at r10
  have r13 := f13
  rw [f0] at r13
  rw [show ((7 : Int)).toNat = 7 from rfl] at r13
  have r18 := f18
  rw [f0] at r18
  rw [show ((7 : Int)).toNat = 7 from rfl] at r18
  have r29 := f29
  rw [f0] at r29
  rw [show ((7 : Int)).toNat = 7 from rfl] at r29
  have r32 := f32
  rw [f28] at r32
  rw [show ((30 : Int)).toNat = 30 from rfl] at r32
  have q := f16.2
  unfold postb_60v at q
  rw [show n5 = hV H0 7 1 by omega] at q
  obtain ⟨c1, c2, c3, c4, c5, c6, c7⟩ := q
  have ksA := KS5_le f16.1.1 z1
  have pq := f21.2
  unfold postb_62v at pq
  have pp : n8 = pPlc (pRead (pTx (hV H0 8) (hV H0 7 1))) := by
    by_cases c : hV H1 30 3 = 0
    · rw [if_pos c] at pq
      rw [pq, c3 (by omega)]
    · obtain ⟨d1, d2, d3, d4⟩ := c4 (by omega)
      rw [if_neg c, if_pos ⟨d1, by omega⟩] at pq
      rw [pq, d4]
  have kA := KM_le f16.1.1 km
  have e71 : hV H5 7 1 = n10 := (f35.1.2.1.1 7 1 (by decide +kernel)).trans (uSame f26 7 1 (by rw [f0]; rfl) (by rw [f25]; rfl))
  have e72 : hV H5 7 2 = n8 := (f35.1.2.1.1 7 2 (by decide +kernel)).trans ((uSlot f26 7 2 (by rw [f25]; decide)).trans (uSame f23 7 2 (by rw [f0]; rfl) (by rw [f22]; rfl)))
  have e193 : hV H5 19 3 = hV H0 19 3 := (f35.1.2.1.1 19 3 (by decide +kernel)).trans ((congrFun (uRowNe f26 19 (by rw [f0]; decide)) 3).trans ((congrFun (uRowNe f23 19 (by rw [f0]; decide)) 3).trans ((f21.1.2.1.1 19 3 (by decide +kernel)).trans (f16.1.2.1.1 19 3 (by decide +kernel)))))
  have er : ERs H0 H5 := (ER_tr (ER_tr (ER_tr (ER_tr (ER_fr f16.1.2.1 (by decide +kernel)) (ER_fr f21.1.2.1 (by decide +kernel))) (ER_up f23 (by rw [f0]; decide) (by rw [f0]; decide) (by rw [f0]; decide))) (ER_up f26 (by rw [f0]; decide) (by rw [f0]; decide) (by rw [f0]; decide))) (ER_fr f35.1.2.1 (by decide +kernel)))
  have kmE := (KM_le f35.1.1 (KM_up f26 (KM_up f23 (KM_le f21.1.1 (KM_le f16.1.1 km)))))
  have e8 : hV H5 8 = hV H0 8 := (fRow f35.1.2.1 8 (by decide +kernel)).trans ((uRowNe f26 8 (by rw [f0]; decide)).trans ((uRowNe f23 8 (by rw [f0]; decide)).trans ((fRow f21.1.2.1 8 (by decide +kernel)).trans (fRow f16.1.2.1 8 (by decide +kernel)))))
  have e34 : hV H5 34 = hV H1 34 := (fRow f35.1.2.1 34 (by decide +kernel)).trans ((uRowNe f26 34 (by rw [f0]; decide)).trans ((uRowNe f23 34 (by rw [f0]; decide)).trans (fRow f21.1.2.1 34 (by decide +kernel))))
  have e308 : hV H5 30 8 = hV H0 30 8 := (f35.1.2.1.1 30 8 (by decide +kernel)).trans ((congrFun (uRowNe f26 30 (by rw [f0]; decide)) 8).trans ((congrFun (uRowNe f23 30 (by rw [f0]; decide)) 8).trans ((f21.1.2.1.1 30 8 (by decide +kernel)).trans (f16.1.2.1.1 30 8 (by decide +kernel)))))
  have e75 : hV H5 7 5 = hV H0 7 5 := (f35.1.2.1.1 7 5 (by decide +kernel)).trans ((uSlot f26 7 5 (by rw [f25]; decide)).trans ((uSlot f23 7 5 (by rw [f22]; decide)).trans ((f21.1.2.1.1 7 5 (by decide +kernel)).trans (f16.1.2.1.1 7 5 (by decide +kernel)))))
  have d8 : DR H5 := ⟨by rw [e308]; exact z4.1, by rw [e308]; exact ((fun {q} (w : hK H4 q = 5) => kLe f35.1.1 w rfl) ((fun {q} (w : hK H3 q = 5) => kUp f26 w) ((fun {q} (w : hK H2 q = 5) => kUp f23 w) ((fun {q} (w : hK H1 q = 5) => kLe f21.1.1 w rfl) ((fun {q} (w : hK H0 q = 5) => kLe f16.1.1 w rfl) z4.2)))))⟩
  have d7 : D7 H5 := ⟨by rw [e75]; exact z5.1, by rw [e75]; exact ((fun {q} (w : hK H4 q = 5) => kLe f35.1.1 w rfl) ((fun {q} (w : hK H3 q = 5) => kUp f26 w) ((fun {q} (w : hK H2 q = 5) => kUp f23 w) ((fun {q} (w : hK H1 q = 5) => kLe f21.1.1 w rfl) ((fun {q} (w : hK H0 q = 5) => kLe f16.1.1 w rfl) z5.2)))))⟩
  have rdE : RDY H5 := ⟨(KS5_le f35.1.1 (KS5_up f26 (KS5_up f23 (KS5_le f21.1.1 (KS5_le f16.1.1 z1))))), (KB_le f35.1.1 (KB_up f26 (KB_up f23 (KB_le f21.1.1 (KB_le f16.1.1 z2))))), (CU_fr f35.1.1 f35.1.2.1 (by decide +kernel) (CU_upc f26 (by rw [f0]; decide) (CU_upc f23 (by rw [f0]; decide) (CU_fr f21.1.1 f21.1.2.1 (by decide +kernel) (CU_fr f16.1.1 f16.1.2.1 (by decide +kernel) z3))))), d8, d7, (WDS_fr f35.1.1 f35.1.2.1 (by decide +kernel) (WDS_up f26 (by rw [f0]; decide) (WDS_up f23 (by rw [f0]; decide) (WDS_fr f21.1.1 f21.1.2.1 (by decide +kernel) c7)))), by unfold PBt; rw [e34]; exact c6⟩
  unfold postb_157v
  have s7 : hV H4 30 7 = hV H1 30 7 := (congrFun (uRowNe f26 30 (by rw [f0]; decide)) 7).trans ((congrFun (uRowNe f23 30 (by rw [f0]; decide)) 7).trans (f21.1.2.1.1 30 7 (by decide +kernel)))
  have t := f35.2
  unfold postb_193v at t
  have ta : hV H4 7 4 = hV H0 7 4 := (uSlot f26 7 4 (by rw [f25]; decide)).trans ((uSlot f23 7 4 (by rw [f22]; decide)).trans ((f21.1.2.1.1 7 4 (by decide +kernel)).trans (f16.1.2.1.1 7 4 (by decide +kernel))))
  have tb : hV H4 19 3 = hV H0 19 3 := (congrFun (uRowNe f26 19 (by rw [f0]; decide)) 3).trans ((congrFun (uRowNe f23 19 (by rw [f0]; decide)) 3).trans ((f21.1.2.1.1 19 3 (by decide +kernel)).trans (f16.1.2.1.1 19 3 (by decide +kernel))))
  have tt := t.2 (by omega)
  rw [ta, tb] at tt
  first
  | (refine ⟨rdE, kmE, by unfold ICm; omega, ?_⟩
     have cc : pRes (pRead (pTx (hV H0 8) (hV H0 7 1))) = 0 ∧ ¬ (pTx (hV H0 8) (hV H0 7 1)).1 0 = 19 := ⟨by omega, by rcases c5 with w | w; exact absurd w.1 (by omega); exact w.2⟩
     rw [mRead_1 (m := mC H0) (show ¬ 8 ≤ hV H0 7 4 by omega) cc, mC_told (p := pPlc (pRead (pTx (hV H0 8) (hV H0 7 1)))) (by omega) e8 (by omega) tt.1 er e193 tt.2]
     exact Prod.ext rfl (by show n6 = pRes (pRead (pTx (hV H0 8) (hV H0 7 1))); omega))
  | (exfalso; omega)
theorem c_157v_s_7 : vOkm T0 (eP e_157v L_157v A_157v mu_157v none) 1 ([(1193, [0], [4, 5], 1), (30, [6], [], 0), (30, [13], [], 0), (20, [13, 12], [4], 7), (90, [13], [], 0), (91, [13], [], 1), (20, [12, 0], [4], 8), (0, [12], [], 30), (30, [6], [], 0), (80, [0, 11, 10], [4, 3], 0), (0, [11], [], 1), (0, [10], [], 0), (80, [0, 9, 8], [3, 2], 0), (0, [9], [], 2), (1062, [8, 7], [1, 2], 0), (90, [8], [], -2147483648), (91, [8], [], 2147483647), (20, [7, 0], [1], 8), (0, [7], [], 30), (1060, [6, 3, 4, 5], [0, 1], 0), (90, [6], [], -2147483648), (91, [6], [], 2147483647), (20, [5, 0], [0], 1), (90, [5], [], -2147483648), (91, [5], [], 2147483647), (20, [4, 0], [0], 0), (0, [4], [], 8), (20, [3, 0], [0], 8), (0, [3], [], 30), (42, [1, 2], [], 0), (0, [2], [], 8), (20, [1, 0], [0], 4), (90, [1], [], 0), (91, [1], [], 8), (6000, [0], [0], 0), (0, [0], [], 7)], (3000, [6], [5], 85)) := vOk_in fun ρ η h => by
  obtain ⟨f0, f1, f2, f3, f4, f5, f6, f7, f8, f9, f10, f11, f12, f13, f14, f15, f16, f17, f18, f19, f20, f21, f22, f23, f24, f25, f26, f27, f28, f29, f30, f31, f32, f33, f34, f35, _⟩ := h
  exact q_157v_7 (n0 := ρ 0) (n1 := ρ 1) (n2 := ρ 2) (n3 := ρ 3) (n4 := ρ 4) (n5 := ρ 5) (n6 := ρ 6) (n7 := ρ 7) (n8 := ρ 8) (n9 := ρ 9) (n10 := ρ 10) (n11 := ρ 11) (n12 := ρ 12) (n13 := ρ 13) (H0 := η 0) (H1 := η 1) (H2 := η 2) (H3 := η 3) (H4 := η 4) (H5 := η 5) f35 f34 f33 f32 f31 f30 f29 f28 f27 f26 f25 f24 f23 f22 f21 f20 f19 f18 f17 f16 f15 f14 f13 f12 f11 f10 f9 f8 f7 f6 f5 f4 f3 f2 f1 f0
theorem q_157v_8 {n0 n1 n2 n3 n4 n5 n6 n7 n8 n9 n10 n11 n12 n13 n14 n15 n16 n17 : Int} {H0 H1 H2 H3 H4 H5 H6 : gH} (f0 : n0 = 7) (f1 : hWt T0 H0 ∧ preb_157v n0 H0) (f2 : n1 ≤ 8) (f3 : 0 ≤ n1) (f4 : n1 = hV H0 (n0).toNat 4) (f5 : n2 = 8) (f6 : n1 < n2) (f7 : n3 = 30) (f8 : n3 = hV H0 (n0).toNat 8) (f9 : n4 = 8) (f10 : n4 = hV H0 (n0).toNat 0) (f11 : n5 ≤ 2147483647) (f12 : (-2147483648) ≤ n5) (f13 : n5 = hV H0 (n0).toNat 1) (f14 : n6 ≤ 2147483647) (f15 : (-2147483648) ≤ n6) (f16 : (hLe T0 H0 H1 ∧ hFr s_60v.2.2.2.2 H0 H1 ∧ ((0 : Int) = 0 → H1.length = H0.length) ∧ hWt T0 H1) ∧ postb_60v n6 n3 n4 n5 H0 H1) (f17 : n7 = 30) (f18 : n7 = hV H1 (n0).toNat 8) (f19 : n8 ≤ 2147483647) (f20 : (-2147483648) ≤ n8) (f21 : (hLe T0 H1 H2 ∧ hFr s_62v.2.2.2.2 H1 H2 ∧ ((0 : Int) = 0 → H2.length = H1.length) ∧ hWt T0 H2) ∧ postb_62v n8 n7 H1 H2) (f22 : n9 = 2) (f23 : hUpd H3 H2 n0 n9 n8) (f24 : n10 = 0) (f25 : n11 = 1) (f26 : hUpd H4 H3 n0 n11 n10) (f27 : n6 = 0) (f28 : n12 = 30) (f29 : n12 = hV H4 (n0).toNat 8) (f30 : n13 ≤ 1) (f31 : 0 ≤ n13) (f32 : n13 = hV H4 (n12).toNat 7) (f33 : n13 ≠ 0) (f34 : n14 = 30) (f35 : n14 = hV H4 (n0).toNat 8) (f36 : 0 ≤ n15) (f37 : n15 = hV H4 (n0).toNat 5) (f38 : 0 ≤ n16) (f39 : (hLe T0 H4 H5 ∧ hFr s_63v.2.2.2.2 H4 H5 ∧ ((0 : Int) = 0 → H5.length = H4.length) ∧ hWt T0 H5) ∧ postb_63v n16 n14 n15 H4 H5) (f40 : n17 = 5) (f41 : hUpd H6 H5 n0 n17 n16) : postb_157v n6 n0 H0 H6 := by
  have pz := f1.2
  unfold preb_157v at pz
  obtain ⟨rd, km, ic, mt⟩ := pz
  have rd2 := rd
  obtain ⟨z1, z2, z3, z4, z5, z6, z7⟩ := rd2
  obtain ⟨mf, ms, me, m20, m21, m22, mz⟩ := MTc mt
  have r4 := f4
  rw [f0] at r4
  rw [show ((7 : Int)).toNat = 7 from rfl] at r4
  have r8 := f8
  rw [f0] at r8
  rw [show ((7 : Int)).toNat = 7 from rfl] at r8
  have r10 := f10
  rw [f0] at r10
  rw [show ((7 : Int)).toNat = 7 from rfl] at r10
  have r13 := f13
  rw [f0] at r13
  rw [show ((7 : Int)).toNat = 7 from rfl] at r13
  have r18 := f18
  rw [f0] at r18
  rw [show ((7 : Int)).toNat = 7 from rfl] at r18
  have r29 := f29
  rw [f0] at r29
  rw [show ((7 : Int)).toNat = 7 from rfl] at r29
  have r32 := f32
  rw [f28] at r32
  rw [show ((30 : Int)).toNat = 30 from rfl] at r32
  have r35 := f35
  rw [f0] at r35
  rw [show ((7 : Int)).toNat = 7 from rfl] at r35
  have r37 := f37
  rw [f0] at r37
  rw [show ((7 : Int)).toNat = 7 from rfl] at r37
  have q := f16.2
  unfold postb_60v at q
  rw [show n5 = hV H0 7 1 by omega] at q
  obtain ⟨c1, c2, c3, c4, c5, c6, c7⟩ := q
  have ksA := KS5_le f16.1.1 z1
  have pq := f21.2
  unfold postb_62v at pq
  have pp : n8 = pPlc (pRead (pTx (hV H0 8) (hV H0 7 1))) := by
    by_cases c : hV H1 30 3 = 0
    · rw [if_pos c] at pq
      rw [pq, c3 (by omega)]
    · obtain ⟨d1, d2, d3, d4⟩ := c4 (by omega)
      rw [if_neg c, if_pos ⟨d1, by omega⟩] at pq
      rw [pq, d4]
  have kA := KM_le f16.1.1 km
  have e71 : hV H6 7 1 = n10 := (uSlot f41 7 1 (by rw [f40]; decide)).trans ((f39.1.2.1.1 7 1 (by decide +kernel)).trans (uSame f26 7 1 (by rw [f0]; rfl) (by rw [f25]; rfl)))
  have e72 : hV H6 7 2 = n8 := (uSlot f41 7 2 (by rw [f40]; decide)).trans ((f39.1.2.1.1 7 2 (by decide +kernel)).trans ((uSlot f26 7 2 (by rw [f25]; decide)).trans (uSame f23 7 2 (by rw [f0]; rfl) (by rw [f22]; rfl))))
  have e193 : hV H6 19 3 = hV H0 19 3 := (congrFun (uRowNe f41 19 (by rw [f0]; decide)) 3).trans ((f39.1.2.1.1 19 3 (by decide +kernel)).trans ((congrFun (uRowNe f26 19 (by rw [f0]; decide)) 3).trans ((congrFun (uRowNe f23 19 (by rw [f0]; decide)) 3).trans ((f21.1.2.1.1 19 3 (by decide +kernel)).trans (f16.1.2.1.1 19 3 (by decide +kernel))))))
  have er : ERs H0 H6 := (ER_tr (ER_tr (ER_tr (ER_tr (ER_tr (ER_fr f16.1.2.1 (by decide +kernel)) (ER_fr f21.1.2.1 (by decide +kernel))) (ER_up f23 (by rw [f0]; decide) (by rw [f0]; decide) (by rw [f0]; decide))) (ER_up f26 (by rw [f0]; decide) (by rw [f0]; decide) (by rw [f0]; decide))) (ER_fr f39.1.2.1 (by decide +kernel))) (ER_up f41 (by rw [f0]; decide) (by rw [f0]; decide) (by rw [f0]; decide)))
  have kmE := (KM_up f41 (KM_le f39.1.1 (KM_up f26 (KM_up f23 (KM_le f21.1.1 (KM_le f16.1.1 km))))))
  have e8 : hV H6 8 = hV H0 8 := (uRowNe f41 8 (by rw [f0]; decide)).trans ((fRow f39.1.2.1 8 (by decide +kernel)).trans ((uRowNe f26 8 (by rw [f0]; decide)).trans ((uRowNe f23 8 (by rw [f0]; decide)).trans ((fRow f21.1.2.1 8 (by decide +kernel)).trans (fRow f16.1.2.1 8 (by decide +kernel))))))
  have e34 : hV H6 34 = hV H1 34 := (uRowNe f41 34 (by rw [f0]; decide)).trans ((fRow f39.1.2.1 34 (by decide +kernel)).trans ((uRowNe f26 34 (by rw [f0]; decide)).trans ((uRowNe f23 34 (by rw [f0]; decide)).trans (fRow f21.1.2.1 34 (by decide +kernel)))))
  have xq := f39.2
  unfold postb_63v at xq
  obtain ⟨x1, x2⟩ := xq
  have y75 : hV H4 7 5 = hV H0 7 5 := (uSlot f26 7 5 (by rw [f25]; decide)).trans ((uSlot f23 7 5 (by rw [f22]; decide)).trans ((f21.1.2.1.1 7 5 (by decide +kernel)).trans (f16.1.2.1.1 7 5 (by decide +kernel))))
  have y308 : hV H4 30 8 = hV H0 30 8 := (congrFun (uRowNe f26 30 (by rw [f0]; decide)) 8).trans ((congrFun (uRowNe f23 30 (by rw [f0]; decide)) 8).trans ((f21.1.2.1.1 30 8 (by decide +kernel)).trans (f16.1.2.1.1 30 8 (by decide +kernel))))
  have e308 : hV H6 30 8 = n15 := (congrFun (uRowNe f41 30 (by rw [f0]; decide)) 8).trans (x2)
  have e75 : hV H6 7 5 = n16 := uSame f41 7 5 (by rw [f0]; rfl) (by rw [f40]; rfl)
  have w4 := z4.1
  have w5 := z5.1
  have d8 : DR H6 := ⟨by rw [e308]; omega, by rw [e308, show n15 = hV H0 7 5 by omega]; exact ((fun {q} (w : hK H5 q = 5) => kUp f41 w) ((fun {q} (w : hK H4 q = 5) => kLe f39.1.1 w rfl) ((fun {q} (w : hK H3 q = 5) => kUp f26 w) ((fun {q} (w : hK H2 q = 5) => kUp f23 w) ((fun {q} (w : hK H1 q = 5) => kLe f21.1.1 w rfl) ((fun {q} (w : hK H0 q = 5) => kLe f16.1.1 w rfl) z5.2))))))⟩
  have d7 : D7 H6 := ⟨by rw [e75]; omega, by rw [e75, show n16 = hV H0 30 8 by omega]; exact ((fun {q} (w : hK H5 q = 5) => kUp f41 w) ((fun {q} (w : hK H4 q = 5) => kLe f39.1.1 w rfl) ((fun {q} (w : hK H3 q = 5) => kUp f26 w) ((fun {q} (w : hK H2 q = 5) => kUp f23 w) ((fun {q} (w : hK H1 q = 5) => kLe f21.1.1 w rfl) ((fun {q} (w : hK H0 q = 5) => kLe f16.1.1 w rfl) z4.2))))))⟩
  have rdE : RDY H6 := ⟨(KS5_up f41 (KS5_le f39.1.1 (KS5_up f26 (KS5_up f23 (KS5_le f21.1.1 (KS5_le f16.1.1 z1)))))), (KB_up f41 (KB_le f39.1.1 (KB_up f26 (KB_up f23 (KB_le f21.1.1 (KB_le f16.1.1 z2)))))), (CU_upc f41 (by rw [f0]; decide) (CU_fr f39.1.1 f39.1.2.1 (by decide +kernel) (CU_upc f26 (by rw [f0]; decide) (CU_upc f23 (by rw [f0]; decide) (CU_fr f21.1.1 f21.1.2.1 (by decide +kernel) (CU_fr f16.1.1 f16.1.2.1 (by decide +kernel) z3)))))), d8, d7, (WDS_up f41 (by rw [f0]; decide) (WDS_fr f39.1.1 f39.1.2.1 (by decide +kernel) (WDS_up f26 (by rw [f0]; decide) (WDS_up f23 (by rw [f0]; decide) (WDS_fr f21.1.1 f21.1.2.1 (by decide +kernel) c7))))), by unfold PBt; rw [e34]; exact c6⟩
  unfold postb_157v
  have s7 : hV H4 30 7 = hV H1 30 7 := (congrFun (uRowNe f26 30 (by rw [f0]; decide)) 7).trans ((congrFun (uRowNe f23 30 (by rw [f0]; decide)) 7).trans (f21.1.2.1.1 30 7 (by decide +kernel)))
  have e74 : hV H6 7 4 = hV H0 7 4 := (uSlot f41 7 4 (by rw [f40]; decide)).trans ((f39.1.2.1.1 7 4 (by decide +kernel)).trans ((uSlot f26 7 4 (by rw [f25]; decide)).trans ((uSlot f23 7 4 (by rw [f22]; decide)).trans ((f21.1.2.1.1 7 4 (by decide +kernel)).trans (f16.1.2.1.1 7 4 (by decide +kernel))))))
  have e194 : hV H6 19 4 = hV H0 19 4 := (congrFun (uRowNe f41 19 (by rw [f0]; decide)) 4).trans ((f39.1.2.1.1 19 4 (by decide +kernel)).trans ((congrFun (uRowNe f26 19 (by rw [f0]; decide)) 4).trans ((congrFun (uRowNe f23 19 (by rw [f0]; decide)) 4).trans ((f21.1.2.1.1 19 4 (by decide +kernel)).trans (f16.1.2.1.1 19 4 (by decide +kernel))))))
  have cc : ¬ (pRes (pRead (pTx (hV H0 8) (hV H0 7 1))) = 0 ∧ ¬ (pTx (hV H0 8) (hV H0 7 1)).1 0 = 19) := fun w => by
    have w1 := w.1
    first
    | omega
    | (rcases c5 with v | v
       · exact w.2 v.2
       · have := v.1
         omega)
  refine ⟨rdE, kmE, ICm_of ⟨e193, e194⟩ ic, ?_⟩
  rw [mRead_0 (m := mC H0) (show ¬ 8 ≤ hV H0 7 4 by omega) cc, mC_read (p := pPlc (pRead (pTx (hV H0 8) (hV H0 7 1)))) (by omega) e8 (by omega) e74 er ⟨e193, e194⟩]
  exact Prod.ext rfl (by show n6 = pRes (pRead (pTx (hV H0 8) (hV H0 7 1))); omega)
theorem c_157v_s_8 : vOkm T0 (eP e_157v L_157v A_157v mu_157v none) 1 ([(80, [0, 17, 16], [6, 5], 2), (0, [17], [], 5), (1063, [16, 14, 15], [4, 5], 0), (51, [16], [], 0), (20, [15, 0], [4], 5), (51, [15], [], 0), (20, [14, 0], [4], 8), (0, [14], [], 30), (31, [13], [], 0), (20, [13, 12], [4], 7), (90, [13], [], 0), (91, [13], [], 1), (20, [12, 0], [4], 8), (0, [12], [], 30), (30, [6], [], 0), (80, [0, 11, 10], [4, 3], 0), (0, [11], [], 1), (0, [10], [], 0), (80, [0, 9, 8], [3, 2], 0), (0, [9], [], 2), (1062, [8, 7], [1, 2], 0), (90, [8], [], -2147483648), (91, [8], [], 2147483647), (20, [7, 0], [1], 8), (0, [7], [], 30), (1060, [6, 3, 4, 5], [0, 1], 0), (90, [6], [], -2147483648), (91, [6], [], 2147483647), (20, [5, 0], [0], 1), (90, [5], [], -2147483648), (91, [5], [], 2147483647), (20, [4, 0], [0], 0), (0, [4], [], 8), (20, [3, 0], [0], 8), (0, [3], [], 30), (42, [1, 2], [], 0), (0, [2], [], 8), (20, [1, 0], [0], 4), (90, [1], [], 0), (91, [1], [], 8), (6000, [0], [0], 0), (0, [0], [], 7)], (3000, [6], [6], 85)) := vOk_in fun ρ η h => by
  obtain ⟨f0, f1, f2, f3, f4, f5, f6, f7, f8, f9, f10, f11, f12, f13, f14, f15, f16, f17, f18, f19, f20, f21, f22, f23, f24, f25, f26, f27, f28, f29, f30, f31, f32, f33, f34, f35, f36, f37, f38, f39, f40, f41, _⟩ := h
  exact q_157v_8 (n0 := ρ 0) (n1 := ρ 1) (n2 := ρ 2) (n3 := ρ 3) (n4 := ρ 4) (n5 := ρ 5) (n6 := ρ 6) (n7 := ρ 7) (n8 := ρ 8) (n9 := ρ 9) (n10 := ρ 10) (n11 := ρ 11) (n12 := ρ 12) (n13 := ρ 13) (n14 := ρ 14) (n15 := ρ 15) (n16 := ρ 16) (n17 := ρ 17) (H0 := η 0) (H1 := η 1) (H2 := η 2) (H3 := η 3) (H4 := η 4) (H5 := η 5) (H6 := η 6) f41 f40 f39 f38 f37 f36 f35 f34 f33 f32 f31 f30 f29 f28 f27 f26 f25 f24 f23 f22 f21 f20 f19 f18 f17 f16 f15 f14 f13 f12 f11 f10 f9 f8 f7 f6 f5 f4 f3 f2 f1 f0
theorem q_157v_9 {n0 n1 n2 n3 : Int} {H0 : gH} (f0 : n0 = 7) (f1 : hWt T0 H0 ∧ preb_157v n0 H0) (f2 : n1 ≤ 8) (f3 : 0 ≤ n1) (f4 : n1 = hV H0 (n0).toNat 4) (f5 : n2 = 8) (f6 : n2 ≤ n1) (f7 : n3 = (-2)) : postb_157v n3 n0 H0 H0 := by
  have pz := f1.2
  unfold preb_157v at pz
  obtain ⟨rd, km, ic, mt⟩ := pz
  have rd2 := rd
  obtain ⟨z1, z2, z3, z4, z5, z6, z7⟩ := rd2
  obtain ⟨mf, ms, me, m20, m21, m22, mz⟩ := MTc mt
  have r4 := f4
  rw [f0] at r4
  rw [show ((7 : Int)).toNat = 7 from rfl] at r4
  unfold postb_157v
  refine ⟨rd, km, ic, ?_⟩
  rw [show mRead (mC H0) = _ from if_pos (show 8 ≤ hV H0 7 4 by omega), show n3 = -2 by omega]
theorem c_157v_s_9 : vOkm T0 (eP e_157v L_157v A_157v mu_157v none) 1 ([(0, [3], [], -2), (43, [1, 2], [], 0), (0, [2], [], 8), (20, [1, 0], [0], 4), (90, [1], [], 0), (91, [1], [], 8), (6000, [0], [0], 0), (0, [0], [], 7)], (3000, [3], [0], 11)) := vOk_in fun ρ η h => by
  obtain ⟨f0, f1, f2, f3, f4, f5, f6, f7, _⟩ := h
  exact q_157v_9 (n0 := ρ 0) (n1 := ρ 1) (n2 := ρ 2) (n3 := ρ 3) (H0 := η 0) f7 f6 f5 f4 f3 f2 f1 f0
def p_157v_s : List vG := [([(20, [5, 0], [0], 1), (90, [5], [], -2147483648), (91, [5], [], 2147483647), (20, [4, 0], [0], 0), (0, [4], [], 8), (20, [3, 0], [0], 8), (0, [3], [], 30), (42, [1, 2], [], 0), (0, [2], [], 8), (20, [1, 0], [0], 4), (90, [1], [], 0), (91, [1], [], 8), (6000, [0], [0], 0), (0, [0], [], 7)], (2060, [3, 4, 5], [0], 0)),
  ([(20, [7, 0], [1], 8), (0, [7], [], 30), (1060, [6, 3, 4, 5], [0, 1], 0), (90, [6], [], -2147483648), (91, [6], [], 2147483647), (20, [5, 0], [0], 1), (90, [5], [], -2147483648), (91, [5], [], 2147483647), (20, [4, 0], [0], 0), (0, [4], [], 8), (20, [3, 0], [0], 8), (0, [3], [], 30), (42, [1, 2], [], 0), (0, [2], [], 8), (20, [1, 0], [0], 4), (90, [1], [], 0), (91, [1], [], 8), (6000, [0], [0], 0), (0, [0], [], 7)], (2062, [7], [1], 0)),
  ([(31, [6], [], 0), (31, [6], [], 0), (80, [0, 11, 10], [4, 3], 0), (0, [11], [], 1), (0, [10], [], 0), (80, [0, 9, 8], [3, 2], 0), (0, [9], [], 2), (1062, [8, 7], [1, 2], 0), (90, [8], [], -2147483648), (91, [8], [], 2147483647), (20, [7, 0], [1], 8), (0, [7], [], 30), (1060, [6, 3, 4, 5], [0, 1], 0), (90, [6], [], -2147483648), (91, [6], [], 2147483647), (20, [5, 0], [0], 1), (90, [5], [], -2147483648), (91, [5], [], 2147483647), (20, [4, 0], [0], 0), (0, [4], [], 8), (20, [3, 0], [0], 8), (0, [3], [], 30), (42, [1, 2], [], 0), (0, [2], [], 8), (20, [1, 0], [0], 4), (90, [1], [], 0), (91, [1], [], 8), (6000, [0], [0], 0), (0, [0], [], 7)], (3000, [6], [4], 85)),
  ([(30, [6], [], 0), (31, [6], [], 0), (80, [0, 11, 10], [4, 3], 0), (0, [11], [], 1), (0, [10], [], 0), (80, [0, 9, 8], [3, 2], 0), (0, [9], [], 2), (1062, [8, 7], [1, 2], 0), (90, [8], [], -2147483648), (91, [8], [], 2147483647), (20, [7, 0], [1], 8), (0, [7], [], 30), (1060, [6, 3, 4, 5], [0, 1], 0), (90, [6], [], -2147483648), (91, [6], [], 2147483647), (20, [5, 0], [0], 1), (90, [5], [], -2147483648), (91, [5], [], 2147483647), (20, [4, 0], [0], 0), (0, [4], [], 8), (20, [3, 0], [0], 8), (0, [3], [], 30), (42, [1, 2], [], 0), (0, [2], [], 8), (20, [1, 0], [0], 4), (90, [1], [], 0), (91, [1], [], 8), (6000, [0], [0], 0), (0, [0], [], 7)], (2193, [0], [4], 0)),
  ([(1193, [0], [4, 5], 1), (30, [6], [], 0), (31, [6], [], 0), (80, [0, 11, 10], [4, 3], 0), (0, [11], [], 1), (0, [10], [], 0), (80, [0, 9, 8], [3, 2], 0), (0, [9], [], 2), (1062, [8, 7], [1, 2], 0), (90, [8], [], -2147483648), (91, [8], [], 2147483647), (20, [7, 0], [1], 8), (0, [7], [], 30), (1060, [6, 3, 4, 5], [0, 1], 0), (90, [6], [], -2147483648), (91, [6], [], 2147483647), (20, [5, 0], [0], 1), (90, [5], [], -2147483648), (91, [5], [], 2147483647), (20, [4, 0], [0], 0), (0, [4], [], 8), (20, [3, 0], [0], 8), (0, [3], [], 30), (42, [1, 2], [], 0), (0, [2], [], 8), (20, [1, 0], [0], 4), (90, [1], [], 0), (91, [1], [], 8), (6000, [0], [0], 0), (0, [0], [], 7)], (3000, [6], [5], 85)),
  ([(31, [6], [], 0), (30, [13], [], 0), (20, [13, 12], [4], 7), (90, [13], [], 0), (91, [13], [], 1), (20, [12, 0], [4], 8), (0, [12], [], 30), (30, [6], [], 0), (80, [0, 11, 10], [4, 3], 0), (0, [11], [], 1), (0, [10], [], 0), (80, [0, 9, 8], [3, 2], 0), (0, [9], [], 2), (1062, [8, 7], [1, 2], 0), (90, [8], [], -2147483648), (91, [8], [], 2147483647), (20, [7, 0], [1], 8), (0, [7], [], 30), (1060, [6, 3, 4, 5], [0, 1], 0), (90, [6], [], -2147483648), (91, [6], [], 2147483647), (20, [5, 0], [0], 1), (90, [5], [], -2147483648), (91, [5], [], 2147483647), (20, [4, 0], [0], 0), (0, [4], [], 8), (20, [3, 0], [0], 8), (0, [3], [], 30), (42, [1, 2], [], 0), (0, [2], [], 8), (20, [1, 0], [0], 4), (90, [1], [], 0), (91, [1], [], 8), (6000, [0], [0], 0), (0, [0], [], 7)], (3000, [6], [4], 85)),
  ([(30, [6], [], 0), (30, [13], [], 0), (20, [13, 12], [4], 7), (90, [13], [], 0), (91, [13], [], 1), (20, [12, 0], [4], 8), (0, [12], [], 30), (30, [6], [], 0), (80, [0, 11, 10], [4, 3], 0), (0, [11], [], 1), (0, [10], [], 0), (80, [0, 9, 8], [3, 2], 0), (0, [9], [], 2), (1062, [8, 7], [1, 2], 0), (90, [8], [], -2147483648), (91, [8], [], 2147483647), (20, [7, 0], [1], 8), (0, [7], [], 30), (1060, [6, 3, 4, 5], [0, 1], 0), (90, [6], [], -2147483648), (91, [6], [], 2147483647), (20, [5, 0], [0], 1), (90, [5], [], -2147483648), (91, [5], [], 2147483647), (20, [4, 0], [0], 0), (0, [4], [], 8), (20, [3, 0], [0], 8), (0, [3], [], 30), (42, [1, 2], [], 0), (0, [2], [], 8), (20, [1, 0], [0], 4), (90, [1], [], 0), (91, [1], [], 8), (6000, [0], [0], 0), (0, [0], [], 7)], (2193, [0], [4], 0)),
  ([(1193, [0], [4, 5], 1), (30, [6], [], 0), (30, [13], [], 0), (20, [13, 12], [4], 7), (90, [13], [], 0), (91, [13], [], 1), (20, [12, 0], [4], 8), (0, [12], [], 30), (30, [6], [], 0), (80, [0, 11, 10], [4, 3], 0), (0, [11], [], 1), (0, [10], [], 0), (80, [0, 9, 8], [3, 2], 0), (0, [9], [], 2), (1062, [8, 7], [1, 2], 0), (90, [8], [], -2147483648), (91, [8], [], 2147483647), (20, [7, 0], [1], 8), (0, [7], [], 30), (1060, [6, 3, 4, 5], [0, 1], 0), (90, [6], [], -2147483648), (91, [6], [], 2147483647), (20, [5, 0], [0], 1), (90, [5], [], -2147483648), (91, [5], [], 2147483647), (20, [4, 0], [0], 0), (0, [4], [], 8), (20, [3, 0], [0], 8), (0, [3], [], 30), (42, [1, 2], [], 0), (0, [2], [], 8), (20, [1, 0], [0], 4), (90, [1], [], 0), (91, [1], [], 8), (6000, [0], [0], 0), (0, [0], [], 7)], (3000, [6], [5], 85)),
  ([(80, [0, 17, 16], [6, 5], 2), (0, [17], [], 5), (1063, [16, 14, 15], [4, 5], 0), (51, [16], [], 0), (20, [15, 0], [4], 5), (51, [15], [], 0), (20, [14, 0], [4], 8), (0, [14], [], 30), (31, [13], [], 0), (20, [13, 12], [4], 7), (90, [13], [], 0), (91, [13], [], 1), (20, [12, 0], [4], 8), (0, [12], [], 30), (30, [6], [], 0), (80, [0, 11, 10], [4, 3], 0), (0, [11], [], 1), (0, [10], [], 0), (80, [0, 9, 8], [3, 2], 0), (0, [9], [], 2), (1062, [8, 7], [1, 2], 0), (90, [8], [], -2147483648), (91, [8], [], 2147483647), (20, [7, 0], [1], 8), (0, [7], [], 30), (1060, [6, 3, 4, 5], [0, 1], 0), (90, [6], [], -2147483648), (91, [6], [], 2147483647), (20, [5, 0], [0], 1), (90, [5], [], -2147483648), (91, [5], [], 2147483647), (20, [4, 0], [0], 0), (0, [4], [], 8), (20, [3, 0], [0], 8), (0, [3], [], 30), (42, [1, 2], [], 0), (0, [2], [], 8), (20, [1, 0], [0], 4), (90, [1], [], 0), (91, [1], [], 8), (6000, [0], [0], 0), (0, [0], [], 7)], (3000, [6], [6], 85)),
  ([(0, [3], [], -2), (43, [1, 2], [], 0), (0, [2], [], 8), (20, [1, 0], [0], 4), (90, [1], [], 0), (91, [1], [], 8), (6000, [0], [0], 0), (0, [0], [], 7)], (3000, [3], [0], 11))]
theorem r_157v_s : vCovO false (eR0 e_157v L_157v cs_157v 2000) p_157v_s = true := by decide +kernel
theorem m_157v (d : Nat) : eC e_157v (d + 15) := eC_ok (e := e_157v) (L := L_157v) (cs := cs_157v) (n := 2000) (d := d + 14) (A := A_157v) (μ := mu_157v) (tp := false) (p0 := p_157v_s) rfl ⟨m_60v (d + 7), ⟨m_62v (d + 11), ⟨m_63v (d + 13), ⟨m_193v d, trivial⟩⟩⟩⟩ rfl (.inl rfl) (by decide +kernel) (fun z => nomatch z) r_157v_s (allC c_157v_s_0 (allC c_157v_s_1 (allC c_157v_s_2 (allC c_157v_s_3 (allC c_157v_s_4 (allC c_157v_s_5 (allC c_157v_s_6 (allC c_157v_s_7 (allC c_157v_s_8 (allC c_157v_s_9 allN)))))))))) allN
