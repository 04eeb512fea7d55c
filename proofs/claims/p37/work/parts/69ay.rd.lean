def postb_60q (r a0 a1 a2 : Int) (h0 h : gH) : Prop := postb_60v r a0 a1 a2 h0 h ∧ nbo_60 r a0 a1 a2 h0 h
def postb_63q (r a0 a1 : Int) (h0 h : gH) : Prop := True ∧ nbo_63 r a0 a1 h0 h
/- MixStage.read ()I -/
noncomputable def s_157o : vM := ([(3, 11, 7, 0)], (0, -2147483648, 2147483647, 0), 1, 1, [(1, 0), (1, 1), (1, 2), (1, 3), (1, 4), (1, 5), (1, 6), (1, 7), (1, 8), (1, 9), (1, 10), (1, 11), (1, 12), (1, 13), (1, 14), (1, 15), (1, 16), (1, 18), (3, 4), (4, 1), (4, 2), (4, 3), (4, 4), (4, 5), (4, 6), (4, 7), (4, 8), (4, 13), (4, 15), (5, 0), (5, 2), (6, 2), (6, 3), (6, 4), (8, 4), (11, 1), (11, 2), (11, 4), (11, 5), (100, 0), (104, 0), (106, 0), (716, 0), (725, 0), (733, 0), (740, 0), (796, 0)])
def preb_157o (a0 : Int) (h : gH) : Prop := RDY h ∧ KM h ∧ ICm h ∧ MT (mC h)
def pre_157o : List Int → gH → Prop := fun xs h => match xs with
  | [a0] => preb_157o a0 h
  | _ => False
def postb_157o (r a0 : Int) (h0 h : gH) : Prop := RX h0 → RXr (pTx (hV h0 8) (hV h0 7 1)) r h0 h
def post_157o : List Int → gH → gH → Prop := fun xs h0 h => match xs with
  | [r, a0] => postb_157o r a0 h0 h
  | _ => True
noncomputable def e_157o : vE := (157, s_157o, pre_157o, post_157o)
noncomputable def L_157o : List vE := [e_60o, e_62, e_63o, e_193]
def cs_157o : List vC := []
def A_157o : Int → List Int → gH → gH → Prop := fun c xs h0 h => True
def mu_157o : Int → List Int → gH → gH → Nat := fun c xs h0 h => 0
theorem q_157o_0 {n0 n1 n2 n3 n4 n5 : Int} {H0 : gH} (f0 : n0 = 7) (f1 : hWt T0 H0 ∧ preb_157o n0 H0) (f2 : n1 ≤ 8) (f3 : 0 ≤ n1) (f4 : n1 = hV H0 (n0).toNat 4) (f5 : n2 = 8) (f6 : n1 < n2) (f7 : n3 = 30) (f8 : n3 = hV H0 (n0).toNat 8) (f9 : n4 = 8) (f10 : n4 = hV H0 (n0).toNat 0) (f11 : n5 ≤ 2147483647) (f12 : (-2147483648) ≤ n5) (f13 : n5 = hV H0 (n0).toNat 1) : preb_60v n3 n4 n5 H0 := by
  have pz := f1.2
  unfold preb_157o at pz
  obtain ⟨rd, km, ic, mt⟩ := pz
  have rd2 := rd
  obtain ⟨z1, z2, z3, z4, z5, z6, z7⟩ := rd2
  obtain ⟨mf, ms, me, m20, m21, m22, mz⟩ := MTc mt
  have r4 := f4
  rw [f0] at r4
  rw [show ((7 : Int)).toNat = 7 from rfl] at r4
  have r8 := f8
  rw [f0] at r8
  rw [show ((7 : Int)).toNat = 7 from rfl] at r8
  have r10 := f10
  rw [f0] at r10
  rw [show ((7 : Int)).toNat = 7 from rfl] at r10
  have r13 := f13
  rw [f0] at r13
  rw [show ((7 : Int)).toNat = 7 from rfl] at r13
  unfold preb_60v
  exact ⟨z1, z2, z3, z4, z6, by omega, by omega, by omega, km.1, z7⟩
theorem c_157o_s_0 : vOkm T0 (eP e_157o L_157o A_157o mu_157o none) 1 ([(20, [5, 0], [0], 1), (90, [5], [], -2147483648), (91, [5], [], 2147483647), (20, [4, 0], [0], 0), (0, [4], [], 8), (20, [3, 0], [0], 8), (0, [3], [], 30), (42, [1, 2], [], 0), (0, [2], [], 8), (20, [1, 0], [0], 4), (90, [1], [], 0), (91, [1], [], 8), (6000, [0], [0], 0), (0, [0], [], 7)], (2060, [3, 4, 5], [0], 0)) := vOk_in fun ρ η h => by
  obtain ⟨f0, f1, f2, f3, f4, f5, f6, f7, f8, f9, f10, f11, f12, f13, _⟩ := h
  exact q_157o_0 (n0 := ρ 0) (n1 := ρ 1) (n2 := ρ 2) (n3 := ρ 3) (n4 := ρ 4) (n5 := ρ 5) (H0 := η 0) f13 f12 f11 f10 f9 f8 f7 f6 f5 f4 f3 f2 f1 f0
theorem q_157o_1 {n0 n1 n2 n3 n4 n5 n6 n7 n8 n9 n10 n11 : Int} {H0 H1 H2 H3 H4 : gH} (f0 : n0 = 7) (f1 : hWt T0 H0 ∧ preb_157o n0 H0) (f2 : n1 ≤ 8) (f3 : 0 ≤ n1) (f4 : n1 = hV H0 (n0).toNat 4) (f5 : n2 = 8) (f6 : n1 < n2) (f7 : n3 = 30) (f8 : n3 = hV H0 (n0).toNat 8) (f9 : n4 = 8) (f10 : n4 = hV H0 (n0).toNat 0) (f11 : n5 ≤ 2147483647) (f12 : (-2147483648) ≤ n5) (f13 : n5 = hV H0 (n0).toNat 1) (f14 : n6 ≤ 2147483647) (f15 : (-2147483648) ≤ n6) (f16 : (hLe T0 H0 H1 ∧ hFr s_60.2.2.2.2 H0 H1 ∧ ((0 : Int) = 0 → H1.length = H0.length) ∧ hWt T0 H1) ∧ postb_60q n6 n3 n4 n5 H0 H1) (f17 : n7 = 30) (f18 : n7 = hV H1 (n0).toNat 8) (f19 : n8 ≤ 2147483647) (f20 : (-2147483648) ≤ n8) (f21 : (hLe T0 H1 H2 ∧ hFr s_62.2.2.2.2 H1 H2 ∧ ((0 : Int) = 0 → H2.length = H1.length) ∧ hWt T0 H2) ∧ True) (f22 : n9 = 2) (f23 : hUpd H3 H2 n0 n9 n8) (f24 : n10 = 0) (f25 : n11 = 1) (f26 : hUpd H4 H3 n0 n11 n10) (f27 : n6 ≠ 0) (f28 : n6 ≠ 0) : postb_157o n6 n0 H0 H4 := by
  have pz := f1.2
  unfold preb_157o at pz
  obtain ⟨rd, km, ic, mt⟩ := pz
  have rd2 := rd
  obtain ⟨z1, z2, z3, z4, z5, z6, z7⟩ := rd2
  obtain ⟨mf, ms, me, m20, m21, m22, mz⟩ := MTc mt
  have r4 := f4
  rw [f0] at r4
  rw [show ((7 : Int)).toNat = 7 from rfl] at r4
  have r8 := f8
  rw [f0] at r8
  rw [show ((7 : Int)).toNat = 7 from rfl] at r8
  have r10 := f10
  rw [f0] at r10
  rw [show ((7 : Int)).toNat = 7 from rfl] at r10
  have r13 := f13
  rw [f0] at r13
  rw [show ((7 : Int)).toNat = 7 from rfl] at r13
  have r18 := f18
  rw [f0] at r18
  rw [show ((7 : Int)).toNat = 7 from rfl] at r18
  unfold postb_157o RXr
  intro rx
  have q := f16.2.1
  unfold postb_60v at q
  have qn := f16.2.2
  unfold nbo_60 at qn
  rw [show n5 = hV H0 7 1 by omega] at q qn
  obtain ⟨c1, c2, c3, c4, c5, c6, c7⟩ := q
  obtain ⟨d1, d2, d3, d4⟩ := qn _ rfl (RX_l rx).2 rx.1
  obtain ⟨x1, l1⟩ := RX_ck rx f16.1.1 (f16.1.2.1.1 7 5 (by decide +kernel)) (f16.1.2.1.1 30 8 (by decide +kernel)) ⟨d1, d2, d3⟩
  have h8 : hV H1 30 8 = hV H0 30 8 := f16.1.2.1.1 30 8 (by decide +kernel)
  obtain ⟨y0, m0, k0⟩ := RX_go x1 (RXs_fr x1 f21.1.1 f21.1.2.1 (by decide +kernel) (by decide +kernel) (by decide +kernel) (by decide +kernel))
  obtain ⟨y1, m1, k1⟩ := RX_go y0 (RXs_up y0 f23 f0 (by rw [f22]; decide))
  obtain ⟨y2, m2, k2⟩ := RX_go y1 (RXs_up y1 f26 f0 (by rw [f25]; decide))
  exact ⟨y2, .inr ⟨fun w => by
    have w1 := w.1
    first
    | omega
    | (rcases c5 with v | v
       · have := v.1
         omega
       · exact v.2 w.2), fun R q => m2 R (m1 R (m0 R (l1 R q)))⟩⟩
theorem c_157o_s_1 : vOkm T0 (eP e_157o L_157o A_157o mu_157o none) 1 ([(31, [6], [], 0), (31, [6], [], 0), (80, [0, 11, 10], [4, 3], 0), (0, [11], [], 1), (0, [10], [], 0), (80, [0, 9, 8], [3, 2], 0), (0, [9], [], 2), (1062, [8, 7], [1, 2], 0), (90, [8], [], -2147483648), (91, [8], [], 2147483647), (20, [7, 0], [1], 8), (0, [7], [], 30), (1060, [6, 3, 4, 5], [0, 1], 0), (90, [6], [], -2147483648), (91, [6], [], 2147483647), (20, [5, 0], [0], 1), (90, [5], [], -2147483648), (91, [5], [], 2147483647), (20, [4, 0], [0], 0), (0, [4], [], 8), (20, [3, 0], [0], 8), (0, [3], [], 30), (42, [1, 2], [], 0), (0, [2], [], 8), (20, [1, 0], [0], 4), (90, [1], [], 0), (91, [1], [], 8), (6000, [0], [0], 0), (0, [0], [], 7)], (3000, [6], [4], 85)) := vOk_in fun ρ η h => by
  obtain ⟨f0, f1, f2, f3, f4, f5, f6, f7, f8, f9, f10, f11, f12, f13, f14, f15, f16, f17, f18, f19, f20, f21, f22, f23, f24, f25, f26, f27, f28, _⟩ := h
  exact q_157o_1 (n0 := ρ 0) (n1 := ρ 1) (n2 := ρ 2) (n3 := ρ 3) (n4 := ρ 4) (n5 := ρ 5) (n6 := ρ 6) (n7 := ρ 7) (n8 := ρ 8) (n9 := ρ 9) (n10 := ρ 10) (n11 := ρ 11) (H0 := η 0) (H1 := η 1) (H2 := η 2) (H3 := η 3) (H4 := η 4) f28 f27 f26 f25 f24 f23 f22 f21 f20 f19 f18 f17 f16 f15 f14 f13 f12 f11 f10 f9 f8 f7 f6 f5 f4 f3 f2 f1 f0
theorem q_157o_2 {n0 n1 n2 n3 n4 n5 n6 n7 n8 n9 n10 n11 : Int} {H0 H1 H2 H3 H4 : gH} (f0 : n0 = 7) (f1 : hWt T0 H0 ∧ preb_157o n0 H0) (f2 : n1 ≤ 8) (f3 : 0 ≤ n1) (f4 : n1 = hV H0 (n0).toNat 4) (f5 : n2 = 8) (f6 : n1 < n2) (f7 : n3 = 30) (f8 : n3 = hV H0 (n0).toNat 8) (f9 : n4 = 8) (f10 : n4 = hV H0 (n0).toNat 0) (f11 : n5 ≤ 2147483647) (f12 : (-2147483648) ≤ n5) (f13 : n5 = hV H0 (n0).toNat 1) (f14 : n6 ≤ 2147483647) (f15 : (-2147483648) ≤ n6) (f16 : (hLe T0 H0 H1 ∧ hFr s_60.2.2.2.2 H0 H1 ∧ ((0 : Int) = 0 → H1.length = H0.length) ∧ hWt T0 H1) ∧ postb_60q n6 n3 n4 n5 H0 H1) (f17 : n7 = 30) (f18 : n7 = hV H1 (n0).toNat 8) (f19 : n8 ≤ 2147483647) (f20 : (-2147483648) ≤ n8) (f21 : (hLe T0 H1 H2 ∧ hFr s_62.2.2.2.2 H1 H2 ∧ ((0 : Int) = 0 → H2.length = H1.length) ∧ hWt T0 H2) ∧ True) (f22 : n9 = 2) (f23 : hUpd H3 H2 n0 n9 n8) (f24 : n10 = 0) (f25 : n11 = 1) (f26 : hUpd H4 H3 n0 n11 n10) (f27 : n6 ≠ 0) (f28 : n6 = 0) : preb_193 n0 H4 := by
  exact trivial
theorem c_157o_s_2 : vOkm T0 (eP e_157o L_157o A_157o mu_157o none) 1 ([(30, [6], [], 0), (31, [6], [], 0), (80, [0, 11, 10], [4, 3], 0), (0, [11], [], 1), (0, [10], [], 0), (80, [0, 9, 8], [3, 2], 0), (0, [9], [], 2), (1062, [8, 7], [1, 2], 0), (90, [8], [], -2147483648), (91, [8], [], 2147483647), (20, [7, 0], [1], 8), (0, [7], [], 30), (1060, [6, 3, 4, 5], [0, 1], 0), (90, [6], [], -2147483648), (91, [6], [], 2147483647), (20, [5, 0], [0], 1), (90, [5], [], -2147483648), (91, [5], [], 2147483647), (20, [4, 0], [0], 0), (0, [4], [], 8), (20, [3, 0], [0], 8), (0, [3], [], 30), (42, [1, 2], [], 0), (0, [2], [], 8), (20, [1, 0], [0], 4), (90, [1], [], 0), (91, [1], [], 8), (6000, [0], [0], 0), (0, [0], [], 7)], (2193, [0], [4], 0)) := vOk_in fun ρ η h => by
  obtain ⟨f0, f1, f2, f3, f4, f5, f6, f7, f8, f9, f10, f11, f12, f13, f14, f15, f16, f17, f18, f19, f20, f21, f22, f23, f24, f25, f26, f27, f28, _⟩ := h
  exact q_157o_2 (n0 := ρ 0) (n1 := ρ 1) (n2 := ρ 2) (n3 := ρ 3) (n4 := ρ 4) (n5 := ρ 5) (n6 := ρ 6) (n7 := ρ 7) (n8 := ρ 8) (n9 := ρ 9) (n10 := ρ 10) (n11 := ρ 11) (H0 := η 0) (H1 := η 1) (H2 := η 2) (H3 := η 3) (H4 := η 4) f28 f27 f26 f25 f24 f23 f22 f21 f20 f19 f18 f17 f16 f15 f14 f13 f12 f11 f10 f9 f8 f7 f6 f5 f4 f3 f2 f1 f0
theorem q_157o_3 {n0 n1 n2 n3 n4 n5 n6 n7 n8 n9 n10 n11 : Int} {H0 H1 H2 H3 H4 H5 : gH} (f0 : n0 = 7) (f1 : hWt T0 H0 ∧ preb_157o n0 H0) (f2 : n1 ≤ 8) (f3 : 0 ≤ n1) (f4 : n1 = hV H0 (n0).toNat 4) (f5 : n2 = 8) (f6 : n1 < n2) (f7 : n3 = 30) (f8 : n3 = hV H0 (n0).toNat 8) (f9 : n4 = 8) (f10 : n4 = hV H0 (n0).toNat 0) (f11 : n5 ≤ 2147483647) (f12 : (-2147483648) ≤ n5) (f13 : n5 = hV H0 (n0).toNat 1) (f14 : n6 ≤ 2147483647) (f15 : (-2147483648) ≤ n6) (f16 : (hLe T0 H0 H1 ∧ hFr s_60.2.2.2.2 H0 H1 ∧ ((0 : Int) = 0 → H1.length = H0.length) ∧ hWt T0 H1) ∧ postb_60q n6 n3 n4 n5 H0 H1) (f17 : n7 = 30) (f18 : n7 = hV H1 (n0).toNat 8) (f19 : n8 ≤ 2147483647) (f20 : (-2147483648) ≤ n8) (f21 : (hLe T0 H1 H2 ∧ hFr s_62.2.2.2.2 H1 H2 ∧ ((0 : Int) = 0 → H2.length = H1.length) ∧ hWt T0 H2) ∧ True) (f22 : n9 = 2) (f23 : hUpd H3 H2 n0 n9 n8) (f24 : n10 = 0) (f25 : n11 = 1) (f26 : hUpd H4 H3 n0 n11 n10) (f27 : n6 ≠ 0) (f28 : n6 = 0) (f29 : (hLe T0 H4 H5 ∧ hFr s_193.2.2.2.2 H4 H5 ∧ ((1 : Int) = 0 → H5.length = H4.length) ∧ hWt T0 H5) ∧ postb_193 n0 H4 H5) : postb_157o n6 n0 H0 H5 := by
  have pz := f1.2
  unfold preb_157o at pz
  obtain ⟨rd, km, ic, mt⟩ := pz
  have rd2 := rd
  obtain ⟨z1, z2, z3, z4, z5, z6, z7⟩ := rd2
  obtain ⟨mf, ms, me, m20, m21, m22, mz⟩ := MTc mt
  have r4 := f4
  rw [f0] at r4
  rw [show ((7 : Int)).toNat = 7 from rfl] at r4
  have r8 := f8
  rw [f0] at r8
  rw [show ((7 : Int)).toNat = 7 from rfl] at r8
  have r10 := f10
  rw [f0] at r10
  rw [show ((7 : Int)).toNat = 7 from rfl] at r10
  have r13 := f13
  rw [f0] at r13
  rw [show ((7 : Int)).toNat = 7 from rfl] at r13
  have r18 := f18
  rw [f0] at r18
  rw [show ((7 : Int)).toNat = 7 from rfl] at r18
  unfold postb_157o RXr
  intro rx
  have q := f16.2.1
  unfold postb_60v at q
  have qn := f16.2.2
  unfold nbo_60 at qn
  rw [show n5 = hV H0 7 1 by omega] at q qn
  obtain ⟨c1, c2, c3, c4, c5, c6, c7⟩ := q
  obtain ⟨d1, d2, d3, d4⟩ := qn _ rfl (RX_l rx).2 rx.1
  obtain ⟨x1, l1⟩ := RX_ck rx f16.1.1 (f16.1.2.1.1 7 5 (by decide +kernel)) (f16.1.2.1.1 30 8 (by decide +kernel)) ⟨d1, d2, d3⟩
  have h8 : hV H1 30 8 = hV H0 30 8 := f16.1.2.1.1 30 8 (by decide +kernel)
  obtain ⟨y0, m0, k0⟩ := RX_go x1 (RXs_fr x1 f21.1.1 f21.1.2.1 (by decide +kernel) (by decide +kernel) (by decide +kernel) (by decide +kernel))
  obtain ⟨y1, m1, k1⟩ := RX_go y0 (RXs_up y0 f23 f0 (by rw [f22]; decide))
  obtain ⟨y2, m2, k2⟩ := RX_go y1 (RXs_up y1 f26 f0 (by rw [f25]; decide))
  obtain ⟨y3, m3, k3⟩ := RX_go y2 (RXs_fr y2 f29.1.1 f29.1.2.1 (by decide +kernel) (by decide +kernel) (by decide +kernel) (by decide +kernel))
  exact ⟨y3, .inr ⟨fun w => by
    have w1 := w.1
    first
    | omega
    | (rcases c5 with v | v
       · have := v.1
         omega
       · exact v.2 w.2), fun R q => m3 R (m2 R (m1 R (m0 R (l1 R q))))⟩⟩
theorem c_157o_s_3 : vOkm T0 (eP e_157o L_157o A_157o mu_157o none) 1 ([(1193, [0], [4, 5], 1), (30, [6], [], 0), (31, [6], [], 0), (80, [0, 11, 10], [4, 3], 0), (0, [11], [], 1), (0, [10], [], 0), (80, [0, 9, 8], [3, 2], 0), (0, [9], [], 2), (1062, [8, 7], [1, 2], 0), (90, [8], [], -2147483648), (91, [8], [], 2147483647), (20, [7, 0], [1], 8), (0, [7], [], 30), (1060, [6, 3, 4, 5], [0, 1], 0), (90, [6], [], -2147483648), (91, [6], [], 2147483647), (20, [5, 0], [0], 1), (90, [5], [], -2147483648), (91, [5], [], 2147483647), (20, [4, 0], [0], 0), (0, [4], [], 8), (20, [3, 0], [0], 8), (0, [3], [], 30), (42, [1, 2], [], 0), (0, [2], [], 8), (20, [1, 0], [0], 4), (90, [1], [], 0), (91, [1], [], 8), (6000, [0], [0], 0), (0, [0], [], 7)], (3000, [6], [5], 85)) := vOk_in fun ρ η h => by
  obtain ⟨f0, f1, f2, f3, f4, f5, f6, f7, f8, f9, f10, f11, f12, f13, f14, f15, f16, f17, f18, f19, f20, f21, f22, f23, f24, f25, f26, f27, f28, f29, _⟩ := h
  exact q_157o_3 (n0 := ρ 0) (n1 := ρ 1) (n2 := ρ 2) (n3 := ρ 3) (n4 := ρ 4) (n5 := ρ 5) (n6 := ρ 6) (n7 := ρ 7) (n8 := ρ 8) (n9 := ρ 9) (n10 := ρ 10) (n11 := ρ 11) (H0 := η 0) (H1 := η 1) (H2 := η 2) (H3 := η 3) (H4 := η 4) (H5 := η 5) f29 f28 f27 f26 f25 f24 f23 f22 f21 f20 f19 f18 f17 f16 f15 f14 f13 f12 f11 f10 f9 f8 f7 f6 f5 f4 f3 f2 f1 f0
theorem q_157o_4 {n0 n1 n2 n3 n4 n5 n6 n7 n8 n9 n10 n11 n12 n13 : Int} {H0 H1 H2 H3 H4 : gH} (f0 : n0 = 7) (f1 : hWt T0 H0 ∧ preb_157o n0 H0) (f2 : n1 ≤ 8) (f3 : 0 ≤ n1) (f4 : n1 = hV H0 (n0).toNat 4) (f5 : n2 = 8) (f6 : n1 < n2) (f7 : n3 = 30) (f8 : n3 = hV H0 (n0).toNat 8) (f9 : n4 = 8) (f10 : n4 = hV H0 (n0).toNat 0) (f11 : n5 ≤ 2147483647) (f12 : (-2147483648) ≤ n5) (f13 : n5 = hV H0 (n0).toNat 1) (f14 : n6 ≤ 2147483647) (f15 : (-2147483648) ≤ n6) (f16 : (hLe T0 H0 H1 ∧ hFr s_60.2.2.2.2 H0 H1 ∧ ((0 : Int) = 0 → H1.length = H0.length) ∧ hWt T0 H1) ∧ postb_60q n6 n3 n4 n5 H0 H1) (f17 : n7 = 30) (f18 : n7 = hV H1 (n0).toNat 8) (f19 : n8 ≤ 2147483647) (f20 : (-2147483648) ≤ n8) (f21 : (hLe T0 H1 H2 ∧ hFr s_62.2.2.2.2 H1 H2 ∧ ((0 : Int) = 0 → H2.length = H1.length) ∧ hWt T0 H2) ∧ True) (f22 : n9 = 2) (f23 : hUpd H3 H2 n0 n9 n8) (f24 : n10 = 0) (f25 : n11 = 1) (f26 : hUpd H4 H3 n0 n11 n10) (f27 : n6 = 0) (f28 : n12 = 30) (f29 : n12 = hV H4 (n0).toNat 8) (f30 : n13 ≤ 1) (f31 : 0 ≤ n13) (f32 : n13 = hV H4 (n12).toNat 7) (f33 : n13 = 0) (f34 : n6 ≠ 0) : postb_157o n6 n0 H0 H4 := by
  have pz := f1.2
  unfold preb_157o at pz
  obtain ⟨rd, km, ic, mt⟩ := pz
  have rd2 := rd
  obtain ⟨z1, z2, z3, z4, z5, z6, z7⟩ := rd2
  obtain ⟨mf, ms, me, m20, m21, m22, mz⟩ := MTc mt
  have r4 := f4
  rw [f0] at r4
  rw [show ((7 : Int)).toNat = 7 from rfl] at r4
  have r8 := f8
  rw [f0] at r8
  rw [show ((7 : Int)).toNat = 7 from rfl] at r8
  have r10 := f10
  rw [f0] at r10
  rw [show ((7 : Int)).toNat = 7 from rfl] at r10
  have r13 := f13
  rw [f0] at r13
  rw [show ((7 : Int)).toNat = 7 from rfl] at r13
  have r18 := f18
  rw [f0] at r18
  rw [show ((7 : Int)).toNat = 7 from rfl] at r18
  have r29 := f29
  rw [f0] at r29
  rw [show ((7 : Int)).toNat = 7 from rfl] at r29
  have r32 := f32
  rw [f28] at r32
  rw [show ((30 : Int)).toNat = 30 from rfl] at r32
  unfold postb_157o RXr
  intro rx
  have q := f16.2.1
  unfold postb_60v at q
  have qn := f16.2.2
  unfold nbo_60 at qn
  rw [show n5 = hV H0 7 1 by omega] at q qn
  obtain ⟨c1, c2, c3, c4, c5, c6, c7⟩ := q
  obtain ⟨d1, d2, d3, d4⟩ := qn _ rfl (RX_l rx).2 rx.1
  obtain ⟨x1, l1⟩ := RX_ck rx f16.1.1 (f16.1.2.1.1 7 5 (by decide +kernel)) (f16.1.2.1.1 30 8 (by decide +kernel)) ⟨d1, d2, d3⟩
  have h8 : hV H1 30 8 = hV H0 30 8 := f16.1.2.1.1 30 8 (by decide +kernel)
  have s7 : hV H4 30 7 = hV H1 30 7 := (congrFun (uRowNe f26 30 (by rw [f0]; decide)) 7).trans ((congrFun (uRowNe f23 30 (by rw [f0]; decide)) 7).trans (f21.1.2.1.1 30 7 (by decide +kernel)))
  obtain ⟨y0, m0, k0⟩ := RX_go x1 (RXs_fr x1 f21.1.1 f21.1.2.1 (by decide +kernel) (by decide +kernel) (by decide +kernel) (by decide +kernel))
  obtain ⟨y1, m1, k1⟩ := RX_go y0 (RXs_up y0 f23 f0 (by rw [f22]; decide))
  obtain ⟨y2, m2, k2⟩ := RX_go y1 (RXs_up y1 f26 f0 (by rw [f25]; decide))
  exact ⟨y2, .inr ⟨fun w => by
    have w1 := w.1
    first
    | omega
    | (rcases c5 with v | v
       · have := v.1
         omega
       · exact v.2 w.2), fun R q => m2 R (m1 R (m0 R (l1 R q)))⟩⟩
theorem c_157o_s_4 : vOkm T0 (eP e_157o L_157o A_157o mu_157o none) 1 ([(31, [6], [], 0), (30, [13], [], 0), (20, [13, 12], [4], 7), (90, [13], [], 0), (91, [13], [], 1), (20, [12, 0], [4], 8), (0, [12], [], 30), (30, [6], [], 0), (80, [0, 11, 10], [4, 3], 0), (0, [11], [], 1), (0, [10], [], 0), (80, [0, 9, 8], [3, 2], 0), (0, [9], [], 2), (1062, [8, 7], [1, 2], 0), (90, [8], [], -2147483648), (91, [8], [], 2147483647), (20, [7, 0], [1], 8), (0, [7], [], 30), (1060, [6, 3, 4, 5], [0, 1], 0), (90, [6], [], -2147483648), (91, [6], [], 2147483647), (20, [5, 0], [0], 1), (90, [5], [], -2147483648), (91, [5], [], 2147483647), (20, [4, 0], [0], 0), (0, [4], [], 8), (20, [3, 0], [0], 8), (0, [3], [], 30), (42, [1, 2], [], 0), (0, [2], [], 8), (20, [1, 0], [0], 4), (90, [1], [], 0), (91, [1], [], 8), (6000, [0], [0], 0), (0, [0], [], 7)], (3000, [6], [4], 85)) := vOk_in fun ρ η h => by
  obtain ⟨f0, f1, f2, f3, f4, f5, f6, f7, f8, f9, f10, f11, f12, f13, f14, f15, f16, f17, f18, f19, f20, f21, f22, f23, f24, f25, f26, f27, f28, f29, f30, f31, f32, f33, f34, _⟩ := h
  exact q_157o_4 (n0 := ρ 0) (n1 := ρ 1) (n2 := ρ 2) (n3 := ρ 3) (n4 := ρ 4) (n5 := ρ 5) (n6 := ρ 6) (n7 := ρ 7) (n8 := ρ 8) (n9 := ρ 9) (n10 := ρ 10) (n11 := ρ 11) (n12 := ρ 12) (n13 := ρ 13) (H0 := η 0) (H1 := η 1) (H2 := η 2) (H3 := η 3) (H4 := η 4) f34 f33 f32 f31 f30 f29 f28 f27 f26 f25 f24 f23 f22 f21 f20 f19 f18 f17 f16 f15 f14 f13 f12 f11 f10 f9 f8 f7 f6 f5 f4 f3 f2 f1 f0
theorem q_157o_5 {n0 n1 n2 n3 n4 n5 n6 n7 n8 n9 n10 n11 n12 n13 : Int} {H0 H1 H2 H3 H4 : gH} (f0 : n0 = 7) (f1 : hWt T0 H0 ∧ preb_157o n0 H0) (f2 : n1 ≤ 8) (f3 : 0 ≤ n1) (f4 : n1 = hV H0 (n0).toNat 4) (f5 : n2 = 8) (f6 : n1 < n2) (f7 : n3 = 30) (f8 : n3 = hV H0 (n0).toNat 8) (f9 : n4 = 8) (f10 : n4 = hV H0 (n0).toNat 0) (f11 : n5 ≤ 2147483647) (f12 : (-2147483648) ≤ n5) (f13 : n5 = hV H0 (n0).toNat 1) (f14 : n6 ≤ 2147483647) (f15 : (-2147483648) ≤ n6) (f16 : (hLe T0 H0 H1 ∧ hFr s_60.2.2.2.2 H0 H1 ∧ ((0 : Int) = 0 → H1.length = H0.length) ∧ hWt T0 H1) ∧ postb_60q n6 n3 n4 n5 H0 H1) (f17 : n7 = 30) (f18 : n7 = hV H1 (n0).toNat 8) (f19 : n8 ≤ 2147483647) (f20 : (-2147483648) ≤ n8) (f21 : (hLe T0 H1 H2 ∧ hFr s_62.2.2.2.2 H1 H2 ∧ ((0 : Int) = 0 → H2.length = H1.length) ∧ hWt T0 H2) ∧ True) (f22 : n9 = 2) (f23 : hUpd H3 H2 n0 n9 n8) (f24 : n10 = 0) (f25 : n11 = 1) (f26 : hUpd H4 H3 n0 n11 n10) (f27 : n6 = 0) (f28 : n12 = 30) (f29 : n12 = hV H4 (n0).toNat 8) (f30 : n13 ≤ 1) (f31 : 0 ≤ n13) (f32 : n13 = hV H4 (n12).toNat 7) (f33 : n13 = 0) (f34 : n6 = 0) : preb_193 n0 H4 := by
  exact trivial
theorem c_157o_s_5 : vOkm T0 (eP e_157o L_157o A_157o mu_157o none) 1 ([(30, [6], [], 0), (30, [13], [], 0), (20, [13, 12], [4], 7), (90, [13], [], 0), (91, [13], [], 1), (20, [12, 0], [4], 8), (0, [12], [], 30), (30, [6], [], 0), (80, [0, 11, 10], [4, 3], 0), (0, [11], [], 1), (0, [10], [], 0), (80, [0, 9, 8], [3, 2], 0), (0, [9], [], 2), (1062, [8, 7], [1, 2], 0), (90, [8], [], -2147483648), (91, [8], [], 2147483647), (20, [7, 0], [1], 8), (0, [7], [], 30), (1060, [6, 3, 4, 5], [0, 1], 0), (90, [6], [], -2147483648), (91, [6], [], 2147483647), (20, [5, 0], [0], 1), (90, [5], [], -2147483648), (91, [5], [], 2147483647), (20, [4, 0], [0], 0), (0, [4], [], 8), (20, [3, 0], [0], 8), (0, [3], [], 30), (42, [1, 2], [], 0), (0, [2], [], 8), (20, [1, 0], [0], 4), (90, [1], [], 0), (91, [1], [], 8), (6000, [0], [0], 0), (0, [0], [], 7)], (2193, [0], [4], 0)) := vOk_in fun ρ η h => by
  obtain ⟨f0, f1, f2, f3, f4, f5, f6, f7, f8, f9, f10, f11, f12, f13, f14, f15, f16, f17, f18, f19, f20, f21, f22, f23, f24, f25, f26, f27, f28, f29, f30, f31, f32, f33, f34, _⟩ := h
  exact q_157o_5 (n0 := ρ 0) (n1 := ρ 1) (n2 := ρ 2) (n3 := ρ 3) (n4 := ρ 4) (n5 := ρ 5) (n6 := ρ 6) (n7 := ρ 7) (n8 := ρ 8) (n9 := ρ 9) (n10 := ρ 10) (n11 := ρ 11) (n12 := ρ 12) (n13 := ρ 13) (H0 := η 0) (H1 := η 1) (H2 := η 2) (H3 := η 3) (H4 := η 4) f34 f33 f32 f31 f30 f29 f28 f27 f26 f25 f24 f23 f22 f21 f20 f19 f18 f17 f16 f15 f14 f13 f12 f11 f10 f9 f8 f7 f6 f5 f4 f3 f2 f1 f0
theorem q_157o_6 {n0 n1 n2 n3 n4 n5 n6 n7 n8 n9 n10 n11 n12 n13 : Int} {H0 H1 H2 H3 H4 H5 : gH} (f0 : n0 = 7) (f1 : hWt T0 H0 ∧ preb_157o n0 H0) (f2 : n1 ≤ 8) (f3 : 0 ≤ n1) (f4 : n1 = hV H0 (n0).toNat 4) (f5 : n2 = 8) (f6 : n1 < n2) (f7 : n3 = 30) (f8 : n3 = hV H0 (n0).toNat 8) (f9 : n4 = 8) (f10 : n4 = hV H0 (n0).toNat 0) (f11 : n5 ≤ 2147483647) (f12 : (-2147483648) ≤ n5) (f13 : n5 = hV H0 (n0).toNat 1) (f14 : n6 ≤ 2147483647) (f15 : (-2147483648) ≤ n6) (f16 : (hLe T0 H0 H1 ∧ hFr s_60.2.2.2.2 H0 H1 ∧ ((0 : Int) = 0 → H1.length = H0.length) ∧ hWt T0 H1) ∧ postb_60q n6 n3 n4 n5 H0 H1) (f17 : n7 = 30) (f18 : n7 = hV H1 (n0).toNat 8) (f19 : n8 ≤ 2147483647) (f20 : (-2147483648) ≤ n8) (f21 : (hLe T0 H1 H2 ∧ hFr s_62.2.2.2.2 H1 H2 ∧ ((0 : Int) = 0 → H2.length = H1.length) ∧ hWt T0 H2) ∧ True) (f22 : n9 = 2) (f23 : hUpd H3 H2 n0 n9 n8) (f24 : n10 = 0) (f25 : n11 = 1) (f26 : hUpd H4 H3 n0 n11 n10) (f27 : n6 = 0) (f28 : n12 = 30) (f29 : n12 = hV H4 (n0).toNat 8) (f30 : n13 ≤ 1) (f31 : 0 ≤ n13) (f32 : n13 = hV H4 (n12).toNat 7) (f33 : n13 = 0) (f34 : n6 = 0) (f35 : (hLe T0 H4 H5 ∧ hFr s_193.2.2.2.2 H4 H5 ∧ ((1 : Int) = 0 → H5.length = H4.length) ∧ hWt T0 H5) ∧ postb_193 n0 H4 H5) : postb_157o n6 n0 H0 H5 := by
  have pz := f1.2
  unfold preb_157o at pz
  obtain ⟨rd, km, ic, mt⟩ := pz
  have rd2 := rd
  obtain ⟨z1, z2, z3, z4, z5, z6, z7⟩ := rd2
  obtain ⟨mf, ms, me, m20, m21, m22, mz⟩ := MTc mt
  have r4 := f4
  rw [f0] at r4
  rw [show ((7 : Int)).toNat = 7 from rfl] at r4
  have r8 := f8
  rw [f0] at r8
  rw [show ((7 : Int)).toNat = 7 from rfl] at r8
  have r10 := f10
  rw [f0] at r10
  rw [show ((7 : Int)).toNat = 7 from rfl] at r10
  have r13 := f13
  rw [f0] at r13
  rw [show ((7 : Int)).toNat = 7 from rfl] at r13
  have r18 := f18
  rw [f0] at r18
  rw [show ((7 : Int)).toNat = 7 from rfl] at r18
  have r29 := f29
  rw [f0] at r29
  rw [show ((7 : Int)).toNat = 7 from rfl] at r29
  have r32 := f32
  rw [f28] at r32
  rw [show ((30 : Int)).toNat = 30 from rfl] at r32
  unfold postb_157o RXr
  intro rx
  have q := f16.2.1
  unfold postb_60v at q
  have qn := f16.2.2
  unfold nbo_60 at qn
  rw [show n5 = hV H0 7 1 by omega] at q qn
  obtain ⟨c1, c2, c3, c4, c5, c6, c7⟩ := q
  obtain ⟨d1, d2, d3, d4⟩ := qn _ rfl (RX_l rx).2 rx.1
  obtain ⟨x1, l1⟩ := RX_ck rx f16.1.1 (f16.1.2.1.1 7 5 (by decide +kernel)) (f16.1.2.1.1 30 8 (by decide +kernel)) ⟨d1, d2, d3⟩
  have h8 : hV H1 30 8 = hV H0 30 8 := f16.1.2.1.1 30 8 (by decide +kernel)
  have s7 : hV H4 30 7 = hV H1 30 7 := (congrFun (uRowNe f26 30 (by rw [f0]; decide)) 7).trans ((congrFun (uRowNe f23 30 (by rw [f0]; decide)) 7).trans (f21.1.2.1.1 30 7 (by decide +kernel)))
  obtain ⟨y0, m0, k0⟩ := RX_go x1 (RXs_fr x1 f21.1.1 f21.1.2.1 (by decide +kernel) (by decide +kernel) (by decide +kernel) (by decide +kernel))
  obtain ⟨y1, m1, k1⟩ := RX_go y0 (RXs_up y0 f23 f0 (by rw [f22]; decide))
  obtain ⟨y2, m2, k2⟩ := RX_go y1 (RXs_up y1 f26 f0 (by rw [f25]; decide))
  obtain ⟨y3, m3, k3⟩ := RX_go y2 (RXs_fr y2 f35.1.1 f35.1.2.1 (by decide +kernel) (by decide +kernel) (by decide +kernel) (by decide +kernel))
  exact ⟨y3, .inr ⟨fun w => by
    have w1 := w.1
    first
    | omega
    | (rcases c5 with v | v
       · have := v.1
         omega
       · exact v.2 w.2), fun R q => m3 R (m2 R (m1 R (m0 R (l1 R q))))⟩⟩
theorem c_157o_s_6 : vOkm T0 (eP e_157o L_157o A_157o mu_157o none) 1 ([(1193, [0], [4, 5], 1), (30, [6], [], 0), (30, [13], [], 0), (20, [13, 12], [4], 7), (90, [13], [], 0), (91, [13], [], 1), (20, [12, 0], [4], 8), (0, [12], [], 30), (30, [6], [], 0), (80, [0, 11, 10], [4, 3], 0), (0, [11], [], 1), (0, [10], [], 0), (80, [0, 9, 8], [3, 2], 0), (0, [9], [], 2), (1062, [8, 7], [1, 2], 0), (90, [8], [], -2147483648), (91, [8], [], 2147483647), (20, [7, 0], [1], 8), (0, [7], [], 30), (1060, [6, 3, 4, 5], [0, 1], 0), (90, [6], [], -2147483648), (91, [6], [], 2147483647), (20, [5, 0], [0], 1), (90, [5], [], -2147483648), (91, [5], [], 2147483647), (20, [4, 0], [0], 0), (0, [4], [], 8), (20, [3, 0], [0], 8), (0, [3], [], 30), (42, [1, 2], [], 0), (0, [2], [], 8), (20, [1, 0], [0], 4), (90, [1], [], 0), (91, [1], [], 8), (6000, [0], [0], 0), (0, [0], [], 7)], (3000, [6], [5], 85)) := vOk_in fun ρ η h => by
  obtain ⟨f0, f1, f2, f3, f4, f5, f6, f7, f8, f9, f10, f11, f12, f13, f14, f15, f16, f17, f18, f19, f20, f21, f22, f23, f24, f25, f26, f27, f28, f29, f30, f31, f32, f33, f34, f35, _⟩ := h
  exact q_157o_6 (n0 := ρ 0) (n1 := ρ 1) (n2 := ρ 2) (n3 := ρ 3) (n4 := ρ 4) (n5 := ρ 5) (n6 := ρ 6) (n7 := ρ 7) (n8 := ρ 8) (n9 := ρ 9) (n10 := ρ 10) (n11 := ρ 11) (n12 := ρ 12) (n13 := ρ 13) (H0 := η 0) (H1 := η 1) (H2 := η 2) (H3 := η 3) (H4 := η 4) (H5 := η 5) f35 f34 f33 f32 f31 f30 f29 f28 f27 f26 f25 f24 f23 f22 f21 f20 f19 f18 f17 f16 f15 f14 f13 f12 f11 f10 f9 f8 f7 f6 f5 f4 f3 f2 f1 f0
theorem q_157o_7 {n0 n1 n2 n3 n4 n5 n6 n7 n8 n9 n10 n11 n12 n13 n14 n15 n16 n17 : Int} {H0 H1 H2 H3 H4 H5 H6 : gH} (f0 : n0 = 7) (f1 : hWt T0 H0 ∧ preb_157o n0 H0) (f2 : n1 ≤ 8) (f3 : 0 ≤ n1) (f4 : n1 = hV H0 (n0).toNat 4) (f5 : n2 = 8) (f6 : n1 < n2) (f7 : n3 = 30) (f8 : n3 = hV H0 (n0).toNat 8) (f9 : n4 = 8) (f10 : n4 = hV H0 (n0).toNat 0) (f11 : n5 ≤ 2147483647) (f12 : (-2147483648) ≤ n5) (f13 : n5 = hV H0 (n0).toNat 1) (f14 : n6 ≤ 2147483647) (f15 : (-2147483648) ≤ n6) (f16 : (hLe T0 H0 H1 ∧ hFr s_60.2.2.2.2 H0 H1 ∧ ((0 : Int) = 0 → H1.length = H0.length) ∧ hWt T0 H1) ∧ postb_60q n6 n3 n4 n5 H0 H1) (f17 : n7 = 30) (f18 : n7 = hV H1 (n0).toNat 8) (f19 : n8 ≤ 2147483647) (f20 : (-2147483648) ≤ n8) (f21 : (hLe T0 H1 H2 ∧ hFr s_62.2.2.2.2 H1 H2 ∧ ((0 : Int) = 0 → H2.length = H1.length) ∧ hWt T0 H2) ∧ True) (f22 : n9 = 2) (f23 : hUpd H3 H2 n0 n9 n8) (f24 : n10 = 0) (f25 : n11 = 1) (f26 : hUpd H4 H3 n0 n11 n10) (f27 : n6 = 0) (f28 : n12 = 30) (f29 : n12 = hV H4 (n0).toNat 8) (f30 : n13 ≤ 1) (f31 : 0 ≤ n13) (f32 : n13 = hV H4 (n12).toNat 7) (f33 : n13 ≠ 0) (f34 : n14 = 30) (f35 : n14 = hV H4 (n0).toNat 8) (f36 : 0 ≤ n15) (f37 : n15 = hV H4 (n0).toNat 5) (f38 : 0 ≤ n16) (f39 : (hLe T0 H4 H5 ∧ hFr s_63.2.2.2.2 H4 H5 ∧ ((0 : Int) = 0 → H5.length = H4.length) ∧ hWt T0 H5) ∧ postb_63q n16 n14 n15 H4 H5) (f40 : n17 = 5) (f41 : hUpd H6 H5 n0 n17 n16) : postb_157o n6 n0 H0 H6 := by
  have pz := f1.2
  unfold preb_157o at pz
  obtain ⟨rd, km, ic, mt⟩ := pz
  have rd2 := rd
  obtain ⟨z1, z2, z3, z4, z5, z6, z7⟩ := rd2
  obtain ⟨mf, ms, me, m20, m21, m22, mz⟩ := MTc mt
  have r4 := f4
  rw [f0] at r4
  rw [show ((7 : Int)).toNat = 7 from rfl] at r4
  have r8 := f8
  rw [f0] at r8
  rw [show ((7 : Int)).toNat = 7 from rfl] at r8
  have r10 := f10
  rw [f0] at r10
  rw [show ((7 : Int)).toNat = 7 from rfl] at r10
  have r13 := f13
  rw [f0] at r13
  rw [show ((7 : Int)).toNat = 7 from rfl] at r13
  have r18 := f18
  rw [f0] at r18
  rw [show ((7 : Int)).toNat = 7 from rfl] at r18
  have r29 := f29
  rw [f0] at r29
  rw [show ((7 : Int)).toNat = 7 from rfl] at r29
  have r32 := f32
  rw [f28] at r32
  rw [show ((30 : Int)).toNat = 30 from rfl] at r32
  have r35 := f35
  rw [f0] at r35
  rw [show ((7 : Int)).toNat = 7 from rfl] at r35
  have r37 := f37
  rw [f0] at r37
  rw [show ((7 : Int)).toNat = 7 from rfl] at r37
  unfold postb_157o RXr
  intro rx
  have q := f16.2.1
  unfold postb_60v at q
  have qn := f16.2.2
  unfold nbo_60 at qn
  rw [show n5 = hV H0 7 1 by omega] at q qn
  obtain ⟨c1, c2, c3, c4, c5, c6, c7⟩ := q
  obtain ⟨d1, d2, d3, d4⟩ := qn _ rfl (RX_l rx).2 rx.1
  obtain ⟨x1, l1⟩ := RX_ck rx f16.1.1 (f16.1.2.1.1 7 5 (by decide +kernel)) (f16.1.2.1.1 30 8 (by decide +kernel)) ⟨d1, d2, d3⟩
  have h8 : hV H1 30 8 = hV H0 30 8 := f16.1.2.1.1 30 8 (by decide +kernel)
  have s7 : hV H4 30 7 = hV H1 30 7 := (congrFun (uRowNe f26 30 (by rw [f0]; decide)) 7).trans ((congrFun (uRowNe f23 30 (by rw [f0]; decide)) 7).trans (f21.1.2.1.1 30 7 (by decide +kernel)))
  obtain ⟨y0, m0, k0⟩ := RX_go x1 (RXs_fr x1 f21.1.1 f21.1.2.1 (by decide +kernel) (by decide +kernel) (by decide +kernel) (by decide +kernel))
  obtain ⟨y1, m1, k1⟩ := RX_go y0 (RXs_up y0 f23 f0 (by rw [f22]; decide))
  obtain ⟨y2, m2, k2⟩ := RX_go y1 (RXs_up y1 f26 f0 (by rw [f25]; decide))
  have ee := f39.2
  unfold postb_63q at ee
  obtain ⟨_, ee⟩ := ee
  unfold nbo_63 at ee
  obtain ⟨ee1, ee2⟩ := ee
  have h5 : n15 = hV H4 7 5 := by
    have w := f37
    rw [f0] at w
    exact w
  have sm : SMf H4 H5 := (SMf_fr f39.1.1 f39.1.2.1 (by decide +kernel) (by decide +kernel))
  obtain ⟨xx, tt⟩ := RX_ex y2 sm ee2 h5 ee1 f41 f0 f40
  have k19 : (pTx (hV H0 8) (hV H0 7 1)).1 0 = 19 := by
    rcases c5 with v | v
    · exact v.2
    · exfalso
      have := v.1
      omega
  have re := d4 (by omega) k19
  rw [← h8] at re
  exact ⟨xx, .inl ⟨by omega, k19, tt _ _ (k2 _ _ (k1 _ _ (k0 _ _ (re))))⟩⟩
theorem c_157o_s_7 : vOkm T0 (eP e_157o L_157o A_157o mu_157o none) 1 ([(80, [0, 17, 16], [6, 5], 2), (0, [17], [], 5), (1063, [16, 14, 15], [4, 5], 0), (51, [16], [], 0), (20, [15, 0], [4], 5), (51, [15], [], 0), (20, [14, 0], [4], 8), (0, [14], [], 30), (31, [13], [], 0), (20, [13, 12], [4], 7), (90, [13], [], 0), (91, [13], [], 1), (20, [12, 0], [4], 8), (0, [12], [], 30), (30, [6], [], 0), (80, [0, 11, 10], [4, 3], 0), (0, [11], [], 1), (0, [10], [], 0), (80, [0, 9, 8], [3, 2], 0), (0, [9], [], 2), (1062, [8, 7], [1, 2], 0), (90, [8], [], -2147483648), (91, [8], [], 2147483647), (20, [7, 0], [1], 8), (0, [7], [], 30), (1060, [6, 3, 4, 5], [0, 1], 0), (90, [6], [], -2147483648), (91, [6], [], 2147483647), (20, [5, 0], [0], 1), (90, [5], [], -2147483648), (91, [5], [], 2147483647), (20, [4, 0], [0], 0), (0, [4], [], 8), (20, [3, 0], [0], 8), (0, [3], [], 30), (42, [1, 2], [], 0), (0, [2], [], 8), (20, [1, 0], [0], 4), (90, [1], [], 0), (91, [1], [], 8), (6000, [0], [0], 0), (0, [0], [], 7)], (3000, [6], [6], 85)) := vOk_in fun ρ η h => by
  obtain ⟨f0, f1, f2, f3, f4, f5, f6, f7, f8, f9, f10, f11, f12, f13, f14, f15, f16, f17, f18, f19, f20, f21, f22, f23, f24, f25, f26, f27, f28, f29, f30, f31, f32, f33, f34, f35, f36, f37, f38, f39, f40, f41, _⟩ := h
  exact q_157o_7 (n0 := ρ 0) (n1 := ρ 1) (n2 := ρ 2) (n3 := ρ 3) (n4 := ρ 4) (n5 := ρ 5) (n6 := ρ 6) (n7 := ρ 7) (n8 := ρ 8) (n9 := ρ 9) (n10 := ρ 10) (n11 := ρ 11) (n12 := ρ 12) (n13 := ρ 13) (n14 := ρ 14) (n15 := ρ 15) (n16 := ρ 16) (n17 := ρ 17) (H0 := η 0) (H1 := η 1) (H2 := η 2) (H3 := η 3) (H4 := η 4) (H5 := η 5) (H6 := η 6) f41 f40 f39 f38 f37 f36 f35 f34 f33 f32 f31 f30 f29 f28 f27 f26 f25 f24 f23 f22 f21 f20 f19 f18 f17 f16 f15 f14 f13 f12 f11 f10 f9 f8 f7 f6 f5 f4 f3 f2 f1 f0
theorem q_157o_8 {n0 n1 n2 n3 : Int} {H0 : gH} (f0 : n0 = 7) (f1 : hWt T0 H0 ∧ preb_157o n0 H0) (f2 : n1 ≤ 8) (f3 : 0 ≤ n1) (f4 : n1 = hV H0 (n0).toNat 4) (f5 : n2 = 8) (f6 : n2 ≤ n1) (f7 : n3 = (-2)) : postb_157o n3 n0 H0 H0 := by
  have pz := f1.2
  unfold preb_157o at pz
  obtain ⟨rd, km, ic, mt⟩ := pz
  have rd2 := rd
  obtain ⟨z1, z2, z3, z4, z5, z6, z7⟩ := rd2
  obtain ⟨mf, ms, me, m20, m21, m22, mz⟩ := MTc mt
  have r4 := f4
  rw [f0] at r4
  rw [show ((7 : Int)).toNat = 7 from rfl] at r4
  unfold postb_157o RXr
  intro rx
  exact ⟨rx, .inr ⟨fun w => by have := w.1; omega, fun R q => q⟩⟩
theorem c_157o_s_8 : vOkm T0 (eP e_157o L_157o A_157o mu_157o none) 1 ([(0, [3], [], -2), (43, [1, 2], [], 0), (0, [2], [], 8), (20, [1, 0], [0], 4), (90, [1], [], 0), (91, [1], [], 8), (6000, [0], [0], 0), (0, [0], [], 7)], (3000, [3], [0], 11)) := vOk_in fun ρ η h => by
  obtain ⟨f0, f1, f2, f3, f4, f5, f6, f7, _⟩ := h
  exact q_157o_8 (n0 := ρ 0) (n1 := ρ 1) (n2 := ρ 2) (n3 := ρ 3) (H0 := η 0) f7 f6 f5 f4 f3 f2 f1 f0
def p_157o_s : List vG := [([(20, [5, 0], [0], 1), (90, [5], [], -2147483648), (91, [5], [], 2147483647), (20, [4, 0], [0], 0), (0, [4], [], 8), (20, [3, 0], [0], 8), (0, [3], [], 30), (42, [1, 2], [], 0), (0, [2], [], 8), (20, [1, 0], [0], 4), (90, [1], [], 0), (91, [1], [], 8), (6000, [0], [0], 0), (0, [0], [], 7)], (2060, [3, 4, 5], [0], 0)),
  ([(31, [6], [], 0), (31, [6], [], 0), (80, [0, 11, 10], [4, 3], 0), (0, [11], [], 1), (0, [10], [], 0), (80, [0, 9, 8], [3, 2], 0), (0, [9], [], 2), (1062, [8, 7], [1, 2], 0), (90, [8], [], -2147483648), (91, [8], [], 2147483647), (20, [7, 0], [1], 8), (0, [7], [], 30), (1060, [6, 3, 4, 5], [0, 1], 0), (90, [6], [], -2147483648), (91, [6], [], 2147483647), (20, [5, 0], [0], 1), (90, [5], [], -2147483648), (91, [5], [], 2147483647), (20, [4, 0], [0], 0), (0, [4], [], 8), (20, [3, 0], [0], 8), (0, [3], [], 30), (42, [1, 2], [], 0), (0, [2], [], 8), (20, [1, 0], [0], 4), (90, [1], [], 0), (91, [1], [], 8), (6000, [0], [0], 0), (0, [0], [], 7)], (3000, [6], [4], 85)),
  ([(30, [6], [], 0), (31, [6], [], 0), (80, [0, 11, 10], [4, 3], 0), (0, [11], [], 1), (0, [10], [], 0), (80, [0, 9, 8], [3, 2], 0), (0, [9], [], 2), (1062, [8, 7], [1, 2], 0), (90, [8], [], -2147483648), (91, [8], [], 2147483647), (20, [7, 0], [1], 8), (0, [7], [], 30), (1060, [6, 3, 4, 5], [0, 1], 0), (90, [6], [], -2147483648), (91, [6], [], 2147483647), (20, [5, 0], [0], 1), (90, [5], [], -2147483648), (91, [5], [], 2147483647), (20, [4, 0], [0], 0), (0, [4], [], 8), (20, [3, 0], [0], 8), (0, [3], [], 30), (42, [1, 2], [], 0), (0, [2], [], 8), (20, [1, 0], [0], 4), (90, [1], [], 0), (91, [1], [], 8), (6000, [0], [0], 0), (0, [0], [], 7)], (2193, [0], [4], 0)),
  ([(1193, [0], [4, 5], 1), (30, [6], [], 0), (31, [6], [], 0), (80, [0, 11, 10], [4, 3], 0), (0, [11], [], 1), (0, [10], [], 0), (80, [0, 9, 8], [3, 2], 0), (0, [9], [], 2), (1062, [8, 7], [1, 2], 0), (90, [8], [], -2147483648), (91, [8], [], 2147483647), (20, [7, 0], [1], 8), (0, [7], [], 30), (1060, [6, 3, 4, 5], [0, 1], 0), (90, [6], [], -2147483648), (91, [6], [], 2147483647), (20, [5, 0], [0], 1), (90, [5], [], -2147483648), (91, [5], [], 2147483647), (20, [4, 0], [0], 0), (0, [4], [], 8), (20, [3, 0], [0], 8), (0, [3], [], 30), (42, [1, 2], [], 0), (0, [2], [], 8), (20, [1, 0], [0], 4), (90, [1], [], 0), (91, [1], [], 8), (6000, [0], [0], 0), (0, [0], [], 7)], (3000, [6], [5], 85)),
  ([(31, [6], [], 0), (30, [13], [], 0), (20, [13, 12], [4], 7), (90, [13], [], 0), (91, [13], [], 1), (20, [12, 0], [4], 8), (0, [12], [], 30), (30, [6], [], 0), (80, [0, 11, 10], [4, 3], 0), (0, [11], [], 1), (0, [10], [], 0), (80, [0, 9, 8], [3, 2], 0), (0, [9], [], 2), (1062, [8, 7], [1, 2], 0), (90, [8], [], -2147483648), (91, [8], [], 2147483647), (20, [7, 0], [1], 8), (0, [7], [], 30), (1060, [6, 3, 4, 5], [0, 1], 0), (90, [6], [], -2147483648), (91, [6], [], 2147483647), (20, [5, 0], [0], 1), (90, [5], [], -2147483648), (91, [5], [], 2147483647), (20, [4, 0], [0], 0), (0, [4], [], 8), (20, [3, 0], [0], 8), (0, [3], [], 30), (42, [1, 2], [], 0), (0, [2], [], 8), (20, [1, 0], [0], 4), (90, [1], [], 0), (91, [1], [], 8), (6000, [0], [0], 0), (0, [0], [], 7)], (3000, [6], [4], 85)),
  ([(30, [6], [], 0), (30, [13], [], 0), (20, [13, 12], [4], 7), (90, [13], [], 0), (91, [13], [], 1), (20, [12, 0], [4], 8), (0, [12], [], 30), (30, [6], [], 0), (80, [0, 11, 10], [4, 3], 0), (0, [11], [], 1), (0, [10], [], 0), (80, [0, 9, 8], [3, 2], 0), (0, [9], [], 2), (1062, [8, 7], [1, 2], 0), (90, [8], [], -2147483648), (91, [8], [], 2147483647), (20, [7, 0], [1], 8), (0, [7], [], 30), (1060, [6, 3, 4, 5], [0, 1], 0), (90, [6], [], -2147483648), (91, [6], [], 2147483647), (20, [5, 0], [0], 1), (90, [5], [], -2147483648), (91, [5], [], 2147483647), (20, [4, 0], [0], 0), (0, [4], [], 8), (20, [3, 0], [0], 8), (0, [3], [], 30), (42, [1, 2], [], 0), (0, [2], [], 8), (20, [1, 0], [0], 4), (90, [1], [], 0), (91, [1], [], 8), (6000, [0], [0], 0), (0, [0], [], 7)], (2193, [0], [4], 0)),
  ([(1193, [0], [4, 5], 1), (30, [6], [], 0), (30, [13], [], 0), (20, [13, 12], [4], 7), (90, [13], [], 0), (91, [13], [], 1), (20, [12, 0], [4], 8), (0, [12], [], 30), (30, [6], [], 0), (80, [0, 11, 10], [4, 3], 0), (0, [11], [], 1), (0, [10], [], 0), (80, [0, 9, 8], [3, 2], 0), (0, [9], [], 2), (1062, [8, 7], [1, 2], 0), (90, [8], [], -2147483648), (91, [8], [], 2147483647), (20, [7, 0], [1], 8), (0, [7], [], 30), (1060, [6, 3, 4, 5], [0, 1], 0), (90, [6], [], -2147483648), (91, [6], [], 2147483647), (20, [5, 0], [0], 1), (90, [5], [], -2147483648), (91, [5], [], 2147483647), (20, [4, 0], [0], 0), (0, [4], [], 8), (20, [3, 0], [0], 8), (0, [3], [], 30), (42, [1, 2], [], 0), (0, [2], [], 8), (20, [1, 0], [0], 4), (90, [1], [], 0), (91, [1], [], 8), (6000, [0], [0], 0), (0, [0], [], 7)], (3000, [6], [5], 85)),
  ([(80, [0, 17, 16], [6, 5], 2), (0, [17], [], 5), (1063, [16, 14, 15], [4, 5], 0), (51, [16], [], 0), (20, [15, 0], [4], 5), (51, [15], [], 0), (20, [14, 0], [4], 8), (0, [14], [], 30), (31, [13], [], 0), (20, [13, 12], [4], 7), (90, [13], [], 0), (91, [13], [], 1), (20, [12, 0], [4], 8), (0, [12], [], 30), (30, [6], [], 0), (80, [0, 11, 10], [4, 3], 0), (0, [11], [], 1), (0, [10], [], 0), (80, [0, 9, 8], [3, 2], 0), (0, [9], [], 2), (1062, [8, 7], [1, 2], 0), (90, [8], [], -2147483648), (91, [8], [], 2147483647), (20, [7, 0], [1], 8), (0, [7], [], 30), (1060, [6, 3, 4, 5], [0, 1], 0), (90, [6], [], -2147483648), (91, [6], [], 2147483647), (20, [5, 0], [0], 1), (90, [5], [], -2147483648), (91, [5], [], 2147483647), (20, [4, 0], [0], 0), (0, [4], [], 8), (20, [3, 0], [0], 8), (0, [3], [], 30), (42, [1, 2], [], 0), (0, [2], [], 8), (20, [1, 0], [0], 4), (90, [1], [], 0), (91, [1], [], 8), (6000, [0], [0], 0), (0, [0], [], 7)], (3000, [6], [6], 85)),
  ([(0, [3], [], -2), (43, [1, 2], [], 0), (0, [2], [], 8), (20, [1, 0], [0], 4), (90, [1], [], 0), (91, [1], [], 8), (6000, [0], [0], 0), (0, [0], [], 7)], (3000, [3], [0], 11))]
theorem r_157o_s : vCovO false (eR0 e_157o L_157o cs_157o 2000) p_157o_s = true := by decide +kernel
theorem m_157o (d : Nat) : eC e_157o (d + 15) := eC_ok (e := e_157o) (L := L_157o) (cs := cs_157o) (n := 2000) (d := d + 14) (A := A_157o) (μ := mu_157o) (tp := false) (p0 := p_157o_s) rfl ⟨m_60o (d + 7), ⟨m_62 (d + 11), ⟨m_63o (d + 13), ⟨m_193 d, trivial⟩⟩⟩⟩ rfl (.inl rfl) (by decide +kernel) (fun z => nomatch z) r_157o_s (allC c_157o_s_0 (allC c_157o_s_1 (allC c_157o_s_2 (allC c_157o_s_3 (allC c_157o_s_4 (allC c_157o_s_5 (allC c_157o_s_6 (allC c_157o_s_7 (allC c_157o_s_8 allN))))))))) allN
