/- MixStageModel.put (I)V, more fully -/
def nb_206 (a0 a1 : Int) (h0 h : gH) : Prop := BT h = pW a1 (BT h0) (hV h0 285 2) 4
def n_206 : List Int → gH → gH → Prop := fun xs h0 h => match xs with
  | [a0, a1] => nb_206 a0 a1 h0 h
  | _ => True
noncomputable def e_206w : vE := eV e_206 n_206
noncomputable def L_206w : List vE := []
def Bb_206_3 (a0 a1 x0 x1 x2 : Int) (h0 h : gH) : Prop := BT h = pW a1 (BT h0) (hV h0 285 2) (hV h 285 2 - hV h0 285 2).toNat
def B_206 : Int → List Int → gH → gH → Prop := fun c xs h0 h => match c.toNat with
  | 3 => (match xs with
    | [a0, a1, x0, x1, x2] => Bb_206_3 a0 a1 x0 x1 x2 h0 h
    | _ => False)
  | _ => True
theorem q_206w_0 {n0 n1 n2 : Int} {H0 : gH} (f0 : n0 ≤ 2147483647) (f1 : (-2147483648) ≤ n0) (f2 : n1 = 285) (f3 : hWt T0 H0 ∧ preb_206 n1 n0 H0) (f4 : n2 = 24) : Bb_206_3 n1 n0 n1 n0 n2 H0 H0 := by
  unfold Bb_206_3
  rw [Int.sub_self]
  rfl
def g_206w_s_0 : vG := ([(0, [2], [], 24), (6000, [0, 1], [0], 0), (0, [0], [], 285), (90, [1], [], -2147483648), (91, [1], [], 2147483647)], (4000, [0, 1, 2], [0], 3))
theorem c_206w_s_0 : vOkm T0 (eN e_206 L_206w A_206 mu_206 n_206 B_206 none) 2 g_206w_s_0 := vOk_inI fun ρ η f0 f1 f2 f3 f4 => q_206w_0 (n0 := ρ 1) (n1 := ρ 0) (n2 := ρ 2) (H0 := η 0) f4 f3 f2 f1 f0
def p_206w_s : List vG := [g_206w_s_0]
theorem r_206w_s : vCovBO (eR0 e_206 L_206 cs_206 2000) p_206w_s = true := by decide +kernel
theorem q_206w_1 {q0 : Nat} {n0 n1 n2 n3 n4 : Int} {H0 H1 : gH} (f0 : n0 ≤ 2147483647) (f1 : (-2147483648) ≤ n0) (f2 : n1 ≤ 2147483647) (f3 : (-2147483648) ≤ n1) (f4 : n2 = 285) (f5 : n3 ≤ 2147483647) (f6 : (-2147483648) ≤ n3) (f7 : n4 = 285) (f8 : (hLe T0 H0 H1 ∧ hFr s_206.2.2.2.2 H0 H1 ∧ hWt T0 H1) ∧ ((Ab_206_3 n4 n3 n2 n1 n0 H0 H1 ∧ Bb_206_3 n4 n3 n2 n1 n0 H0 H1) ∧ preb_206 n4 n3 H0) ∧ some q0 = some (mub_206_3 n4 n3 n2 n1 n0 H0 H1)) (f9 : n0 < 0) : nb_206 n4 n3 H0 H1 := by
  have ga := f8.2.1.1.1
  unfold Ab_206_3 at ga
  have gb := f8.2.1.1.2
  unfold Bb_206_3 at gb
  obtain ⟨x1, y3, y1, y2⟩ := ga
  have pz := f8.2.1.2
  unfold preb_206 at pz
  unfold nb_206
  rw [gb, show (hV H1 285 2 - hV H0 285 2).toNat = 4 by omega]
def g_206w_3_0 : vG := ([(32, [4], [], 0), (5000, [0, 1, 2, 3, 4], [0, 1], 3), (0, [0], [], 285), (90, [1], [], -2147483648), (91, [1], [], 2147483647), (0, [2], [], 285), (90, [3], [], -2147483648), (91, [3], [], 2147483647), (90, [4], [], -2147483648), (91, [4], [], 2147483647)], (3000, [], [1], 36))
theorem c_206w_3_0 {q0 : Nat} : vOkm T0 (eN e_206 L_206w A_206 mu_206 n_206 B_206 (some q0)) 2 g_206w_3_0 := vOk_inI fun ρ η f0 f1 f2 f3 f4 f5 f6 f7 f8 f9 => q_206w_1 (q0 := q0) (n0 := ρ 4) (n1 := ρ 3) (n2 := ρ 2) (n3 := ρ 1) (n4 := ρ 0) (H0 := η 0) (H1 := η 1) f9 f8 f7 f6 f5 f4 f3 f2 f1 f0
theorem q_206w_2 {q0 : Nat} {n0 n1 n2 n3 n4 n5 n6 n7 n8 n9 n10 n11 n12 n13 n14 : Int} {H0 H1 H2 H3 : gH} (f0 : n0 ≤ 2147483647) (f1 : (-2147483648) ≤ n0) (f2 : n1 ≤ 2147483647) (f3 : (-2147483648) ≤ n1) (f4 : n2 = 285) (f5 : n3 ≤ 2147483647) (f6 : (-2147483648) ≤ n3) (f7 : n4 = 285) (f8 : (hLe T0 H0 H1 ∧ hFr s_206.2.2.2.2 H0 H1 ∧ hWt T0 H1) ∧ ((Ab_206_3 n4 n3 n2 n1 n0 H0 H1 ∧ Bb_206_3 n4 n3 n2 n1 n0 H0 H1) ∧ preb_206 n4 n3 H0) ∧ some q0 = some (mub_206_3 n4 n3 n2 n1 n0 H0 H1)) (f9 : 0 ≤ n0) (f10 : n5 = 286) (f11 : hK H1 (n2).toNat = 12) (f12 : n5 = hV H1 (n2).toNat 1) (f13 : n6 ≤ 2000) (f14 : 0 ≤ n6) (f15 : hK H1 (n2).toNat = 12) (f16 : n6 = hV H1 (n2).toNat 2) (f17 : n7 = o32 (fun x y => x >>> (y &&& 31)) n1 n0) (f18 : n8 = o32 (fun x _ => x.toInt8.toInt32) n7 0) (f19 : n9 = o32 (fun x _ => x.toInt8.toInt32) n8 0) (f20 : hK H1 (n5).toNat = 118) (f21 : hUpd H2 H1 n5 n6 n9) (f22 : n10 ≤ 2000) (f23 : 0 ≤ n10) (f24 : hK H2 (n2).toNat = 12) (f25 : n10 = hV H2 (n2).toNat 2) (f26 : n11 = 1) (f27 : n12 = w32 (n10 + n11)) (f28 : hK H2 (n2).toNat = 12) (f29 : n13 = 2) (f30 : hUpd H3 H2 n2 n13 n12) (f31 : n14 = w32 (n0 + (-8))) : Bb_206_3 n4 n3 n2 n1 n14 H0 H3 := by
  have ga := f8.2.1.1.1
  unfold Ab_206_3 at ga
  have gb := f8.2.1.1.2
  unfold Bb_206_3 at gb
  obtain ⟨x1, y3, y1, y2⟩ := ga
  have pz := f8.2.1.2
  unfold preb_206 at pz
  have d16 := rdS (q := 285) f16 f4
  have d25 := rdS (q := 285) f25 f4
  have e_27 : n12 = n10 + (1) := by
    have w := f27
    rw [f26] at w
    rw [w]
    exact w32_id (by omega) (by omega)
  have e_31 : n14 = n0 + (-8) := by
    have w := f31
    rw [w]
    exact w32_id (by omega) (by omega)
  have bt : o32 (fun x y => x &&& y) n9 255 = byteF n1 n0 := by
    rw [f19, f18, f17]
    exact byteR
  have e2 := BT_put (uRowQ f21 286 f10) bt
  have e3 : BT H3 = BT H2 := BT_same (uRowNe f30 286 (by rw [f4]; decide))
  have c2 : hV H3 285 2 = n12 := uSame f30 285 2 (by rw [f4]; rfl) (by rw [f29]; rfl)
  have c2a : hV H2 285 2 = hV H1 285 2 := uPlace f21 285 2 (by rw [f10]; decide)
  unfold Bb_206_3
  rw [e3, e2, gb, show (hV H3 285 2 - hV H0 285 2).toNat = (hV H1 285 2 - hV H0 285 2).toNat + 1 by omega]
  show _ = uF (pW _ _ _ _) _ _
  rw [x1, show n6 = hV H0 285 2 + (((hV H1 285 2 - hV H0 285 2).toNat : Nat) : Int) by omega, show n0 = 24 - 8 * (((hV H1 285 2 - hV H0 285 2).toNat : Nat) : Int) by omega]
def g_206w_3_1 : vG := ([(10, [14, 4], [], -8), (80, [2, 13, 12], [3, 2], 0), (0, [13], [], 2), (23, [2], [2], 12), (1, [12, 10, 11], [], 0), (0, [11], [], 1), (20, [10, 2], [2], 2), (23, [2], [2], 12), (90, [10], [], 0), (91, [10], [], 2000), (80, [5, 6, 9], [2, 1], 0), (23, [5], [1], 118), (15, [9, 8], [], 0), (15, [8, 7], [], 0), (8, [7, 3, 4], [], 0), (20, [6, 2], [1], 2), (23, [2], [1], 12), (90, [6], [], 0), (91, [6], [], 2000), (20, [5, 2], [1], 1), (23, [2], [1], 12), (0, [5], [], 286), (33, [4], [], 0), (5000, [0, 1, 2, 3, 4], [0, 1], 3), (0, [0], [], 285), (90, [1], [], -2147483648), (91, [1], [], 2147483647), (0, [2], [], 285), (90, [3], [], -2147483648), (91, [3], [], 2147483647), (90, [4], [], -2147483648), (91, [4], [], 2147483647)], (4000, [2, 3, 14], [3], 3))
theorem c_206w_3_1 {q0 : Nat} : vOkm T0 (eN e_206 L_206w A_206 mu_206 n_206 B_206 (some q0)) 2 g_206w_3_1 := vOk_inI fun ρ η f0 f1 f2 f3 f4 f5 f6 f7 f8 f9 f10 f11 f12 f13 f14 f15 f16 f17 f18 f19 f20 f21 f22 f23 f24 f25 f26 f27 f28 f29 f30 f31 => q_206w_2 (q0 := q0) (n0 := ρ 4) (n1 := ρ 3) (n2 := ρ 2) (n3 := ρ 1) (n4 := ρ 0) (n5 := ρ 5) (n6 := ρ 6) (n7 := ρ 7) (n8 := ρ 8) (n9 := ρ 9) (n10 := ρ 10) (n11 := ρ 11) (n12 := ρ 12) (n13 := ρ 13) (n14 := ρ 14) (H0 := η 0) (H1 := η 1) (H2 := η 2) (H3 := η 3) f31 f30 f29 f28 f27 f26 f25 f24 f23 f22 f21 f20 f19 f18 f17 f16 f15 f14 f13 f12 f11 f10 f9 f8 f7 f6 f5 f4 f3 f2 f1 f0
def p_206w_3 : List vG := [g_206w_3_0,
  g_206w_3_1]
theorem r_206w_3 : vCovBO (eRc e_206 L_206 cs_206 2000 (3, [(0, (3, 12, 285, 0)), (1, (0, -2147483648, 2147483647, 0)), (2, (0, -2147483648, 2147483647, 0))])) p_206w_3 = true := by decide +kernel
theorem m_206w (d : Nat) : eC e_206w (d + 1) := eC_ref (e := e_206) (L := L_206) (L' := L_206w) (cs := cs_206) (n := 2000) (d := d + 0) (A := A_206) (μ := mu_206) (tp := false) (p0 := p_206_s) (p1 := p_206w_s) (N := n_206) (B := B_206) rfl trivial rfl (.inl rfl) (by decide +kernel) (fun z => nomatch z) r_206_s (allC c_206_s_0 allN) (allC (.inl ⟨p_206_3, r_206_3, fun q0 => (allC c_206_3_0 (allC c_206_3_1 (allC c_206_3_2 (allC c_206_3_3 (allC c_206_3_4 allN)))))⟩) allN) trivial r_206w_s (allC c_206w_s_0 allN) (allC ⟨p_206w_3, r_206w_3, fun q0 => (allC c_206w_3_0 (allC c_206w_3_1 allN))⟩ allN)
/- MixStageModel.feed (IIIII)I, more fully -/
def nb_205 (r a0 a1 a2 a3 a4 a5 : Int) (h0 h : gH) : Prop := IRm h0 → MT (mR h0) → IRm h ∧ (mR h, r) = mFeed a1 a2 a3 a4 a5 (mR h0)
def n_205 : List Int → gH → gH → Prop := fun xs h0 h => match xs with
  | [r, a0, a1, a2, a3, a4, a5] => nb_205 r a0 a1 a2 a3 a4 a5 h0 h
  | _ => True
noncomputable def e_205w : vE := eV e_205 n_205
noncomputable def L_205w : List vE := [e_206w]
def B_205 : Int → List Int → gH → gH → Prop := fun c xs h0 h => True
theorem q_205w_0 {n0 n1 n2 n3 n4 n5 n6 n7 n8 n9 n10 : Int} {H0 H1 H2 H3 H4 H5 : gH} (f0 : n0 ≤ 2147483647) (f1 : (-2147483648) ≤ n0) (f2 : n1 ≤ 2147483647) (f3 : (-2147483648) ≤ n1) (f4 : n2 ≤ 2147483647) (f5 : (-2147483648) ≤ n2) (f6 : n3 ≤ 2147483647) (f7 : (-2147483648) ≤ n3) (f8 : n4 ≤ 2147483647) (f9 : (-2147483648) ≤ n4) (f10 : n5 = 285) (f11 : hWt T0 H0 ∧ True) (f12 : n6 ≤ 2000) (f13 : 0 ≤ n6) (f14 : hK H0 (n5).toNat = 12) (f15 : n6 = hV H0 (n5).toNat 2) (f16 : n7 = 20) (f17 : n8 = w32 (n6 + n7)) (f18 : n9 = 2000) (f19 : n8 ≤ n9) (f20 : (hLe T0 H0 H1 ∧ hFr s_206.2.2.2.2 H0 H1 ∧ ((0 : Int) = 0 → H1.length = H0.length) ∧ hWt T0 H1) ∧ (postb_206 n5 n4 H0 H1 ∧ nb_206 n5 n4 H0 H1)) (f21 : (hLe T0 H1 H2 ∧ hFr s_206.2.2.2.2 H1 H2 ∧ ((0 : Int) = 0 → H2.length = H1.length) ∧ hWt T0 H2) ∧ (postb_206 n5 n3 H1 H2 ∧ nb_206 n5 n3 H1 H2)) (f22 : (hLe T0 H2 H3 ∧ hFr s_206.2.2.2.2 H2 H3 ∧ ((0 : Int) = 0 → H3.length = H2.length) ∧ hWt T0 H3) ∧ (postb_206 n5 n2 H2 H3 ∧ nb_206 n5 n2 H2 H3)) (f23 : (hLe T0 H3 H4 ∧ hFr s_206.2.2.2.2 H3 H4 ∧ ((0 : Int) = 0 → H4.length = H3.length) ∧ hWt T0 H4) ∧ (postb_206 n5 n1 H3 H4 ∧ nb_206 n5 n1 H3 H4)) (f24 : (hLe T0 H4 H5 ∧ hFr s_206.2.2.2.2 H4 H5 ∧ ((0 : Int) = 0 → H5.length = H4.length) ∧ hWt T0 H5) ∧ (postb_206 n5 n0 H4 H5 ∧ nb_206 n5 n0 H4 H5)) (f25 : n10 ≤ 2000) (f26 : 0 ≤ n10) (f27 : hK H5 (n5).toNat = 12) (f28 : n10 = hV H5 (n5).toNat 2) : nb_205 n10 n5 n4 n3 n2 n1 n0 H0 H5 := by
  unfold nb_205
  intro ir mt
  obtain ⟨mf, ms, me, m5, m6, m7, mz⟩ := MTr mt
  have d15 := rdS (q := 285) f15 f10
  have d28 := rdS (q := 285) f28 f10
  have e_17 : n8 = n6 + (20) := by
    have w := f17
    rw [f16] at w
    rw [w]
    exact w32_id (by omega) (by omega)
  have q0 := f20.2
  unfold nb_206 postb_206 at q0
  have m0 := mR_put f20.1.2.1 (by decide +kernel) q0.1 q0.2
  have t0 := q0.1
  have q1 := f21.2
  unfold nb_206 postb_206 at q1
  have m1 := mR_put f21.1.2.1 (by decide +kernel) q1.1 q1.2
  have t1 := q1.1
  have q2 := f22.2
  unfold nb_206 postb_206 at q2
  have m2 := mR_put f22.1.2.1 (by decide +kernel) q2.1 q2.2
  have t2 := q2.1
  have q3 := f23.2
  unfold nb_206 postb_206 at q3
  have m3 := mR_put f23.1.2.1 (by decide +kernel) q3.1 q3.2
  have t3 := q3.1
  have q4 := f24.2
  unfold nb_206 postb_206 at q4
  have m4 := mR_put f24.1.2.1 (by decide +kernel) q4.1 q4.2
  have t4 := q4.1
  refine ⟨(m4.2 (m3.2 (m2.2 (m1.2 (m0.2 ir))))), ?_⟩
  rw [show mFeed n4 n3 n2 n1 n0 (mR H0) = _ from if_neg (by show ¬ 2000 < hV H0 285 2 + 20; omega), m4.1, m3.1, m2.1, m1.1, m0.1]
  exact Prod.ext rfl (by show n10 = hV H0 285 2 + 20; omega)
def g_205w_s_0 : vG := ([(20, [10, 0], [5], 2), (23, [0], [5], 12), (90, [10], [], 0), (91, [10], [], 2000), (1206, [0, 5], [4, 5], 0), (1206, [0, 4], [3, 4], 0), (1206, [0, 3], [2, 3], 0), (1206, [0, 2], [1, 2], 0), (1206, [0, 1], [0, 1], 0), (45, [8, 9], [], 0), (0, [9], [], 2000), (1, [8, 6, 7], [], 0), (0, [7], [], 20), (20, [6, 0], [0], 2), (23, [0], [0], 12), (90, [6], [], 0), (91, [6], [], 2000), (6000, [0, 1, 2, 3, 4, 5], [0], 0), (0, [0], [], 285), (90, [1], [], -2147483648), (91, [1], [], 2147483647), (90, [2], [], -2147483648), (91, [2], [], 2147483647), (90, [3], [], -2147483648), (91, [3], [], 2147483647), (90, [4], [], -2147483648), (91, [4], [], 2147483647), (90, [5], [], -2147483648), (91, [5], [], 2147483647)], (3000, [10], [5], 46))
theorem c_205w_s_0 : vOkm T0 (eN e_205 L_205w A_205 mu_205 n_205 B_205 none) 6 g_205w_s_0 := vOk_inI fun ρ η f0 f1 f2 f3 f4 f5 f6 f7 f8 f9 f10 f11 f12 f13 f14 f15 f16 f17 f18 f19 f20 f21 f22 f23 f24 f25 f26 f27 f28 => q_205w_0 (n0 := ρ 5) (n1 := ρ 4) (n2 := ρ 3) (n3 := ρ 2) (n4 := ρ 1) (n5 := ρ 0) (n6 := ρ 6) (n7 := ρ 7) (n8 := ρ 8) (n9 := ρ 9) (n10 := ρ 10) (H0 := η 0) (H1 := η 1) (H2 := η 2) (H3 := η 3) (H4 := η 4) (H5 := η 5) f28 f27 f26 f25 f24 f23 f22 f21 f20 f19 f18 f17 f16 f15 f14 f13 f12 f11 f10 f9 f8 f7 f6 f5 f4 f3 f2 f1 f0
theorem q_205w_1 {n0 n1 n2 n3 n4 n5 n6 n7 n8 n9 n10 : Int} {H0 : gH} (f0 : n0 ≤ 2147483647) (f1 : (-2147483648) ≤ n0) (f2 : n1 ≤ 2147483647) (f3 : (-2147483648) ≤ n1) (f4 : n2 ≤ 2147483647) (f5 : (-2147483648) ≤ n2) (f6 : n3 ≤ 2147483647) (f7 : (-2147483648) ≤ n3) (f8 : n4 ≤ 2147483647) (f9 : (-2147483648) ≤ n4) (f10 : n5 = 285) (f11 : hWt T0 H0 ∧ True) (f12 : n6 ≤ 2000) (f13 : 0 ≤ n6) (f14 : hK H0 (n5).toNat = 12) (f15 : n6 = hV H0 (n5).toNat 2) (f16 : n7 = 20) (f17 : n8 = w32 (n6 + n7)) (f18 : n9 = 2000) (f19 : n9 < n8) (f20 : n10 = (-1)) : nb_205 n10 n5 n4 n3 n2 n1 n0 H0 H0 := by
  unfold nb_205
  intro ir mt
  obtain ⟨mf, ms, me, m5, m6, m7, mz⟩ := MTr mt
  have d15 := rdS (q := 285) f15 f10
  have e_17 : n8 = n6 + (20) := by
    have w := f17
    rw [f16] at w
    rw [w]
    exact w32_id (by omega) (by omega)
  refine ⟨ir, ?_⟩
  rw [show n10 = -1 by omega]
  exact (if_pos (by show 2000 < hV H0 285 2 + 20; omega)).symm
def g_205w_s_1 : vG := ([(0, [10], [], -1), (44, [8, 9], [], 0), (0, [9], [], 2000), (1, [8, 6, 7], [], 0), (0, [7], [], 20), (20, [6, 0], [0], 2), (23, [0], [0], 12), (90, [6], [], 0), (91, [6], [], 2000), (6000, [0, 1, 2, 3, 4, 5], [0], 0), (0, [0], [], 285), (90, [1], [], -2147483648), (91, [1], [], 2147483647), (90, [2], [], -2147483648), (91, [2], [], 2147483647), (90, [3], [], -2147483648), (91, [3], [], 2147483647), (90, [4], [], -2147483648), (91, [4], [], 2147483647), (90, [5], [], -2147483648), (91, [5], [], 2147483647)], (3000, [10], [0], 14))
theorem c_205w_s_1 : vOkm T0 (eN e_205 L_205w A_205 mu_205 n_205 B_205 none) 6 g_205w_s_1 := vOk_inI fun ρ η f0 f1 f2 f3 f4 f5 f6 f7 f8 f9 f10 f11 f12 f13 f14 f15 f16 f17 f18 f19 f20 => q_205w_1 (n0 := ρ 5) (n1 := ρ 4) (n2 := ρ 3) (n3 := ρ 2) (n4 := ρ 1) (n5 := ρ 0) (n6 := ρ 6) (n7 := ρ 7) (n8 := ρ 8) (n9 := ρ 9) (n10 := ρ 10) (H0 := η 0) f20 f19 f18 f17 f16 f15 f14 f13 f12 f11 f10 f9 f8 f7 f6 f5 f4 f3 f2 f1 f0
def p_205w_s : List vG := [g_205w_s_0,
  g_205w_s_1]
theorem r_205w_s : vCovBO (eR0 e_205 L_205 cs_205 2000) p_205w_s = true := by decide +kernel
theorem m_205w (d : Nat) : eC e_205w (d + 2) := eC_ref (e := e_205) (L := L_205) (L' := L_205w) (cs := cs_205) (n := 2000) (d := d + 1) (A := A_205) (μ := mu_205) (tp := true) (p0 := p_205_s) (p1 := p_205w_s) (N := n_205) (B := B_205) rfl ⟨m_206w d, trivial⟩ rfl (.inr pre0_ok) (by decide +kernel) (fun _ => post0_ok) r_205_s (allC c_205_s_0 (allC c_205_s_1 (allC c_205_s_2 (allC c_205_s_3 (allC c_205_s_4 allN))))) allN (sub1 trivial) r_205w_s (allC c_205w_s_0 (allC c_205w_s_1 allN)) allN
/- MixStageModel.back (I)I, more fully -/
def nb_207 (r a0 a1 : Int) (h0 h : gH) : Prop := IRm h0 → MT (mR h0) → IRm h ∧ (mR h, r) = mBack a1 (mR h0)
def n_207 : List Int → gH → gH → Prop := fun xs h0 h => match xs with
  | [r, a0, a1] => nb_207 r a0 a1 h0 h
  | _ => True
noncomputable def e_207w : vE := eV e_207 n_207
noncomputable def L_207w : List vE := []
def B_207 : Int → List Int → gH → gH → Prop := fun c xs h0 h => True
theorem q_207w_0 {n0 n1 n2 : Int} {H0 : gH} (f0 : n0 ≤ 2147483647) (f1 : (-2147483648) ≤ n0) (f2 : n1 = 285) (f3 : hWt T0 H0 ∧ True) (f4 : n0 < 0) (f5 : n2 = (-1)) : nb_207 n2 n1 n0 H0 H0 := by
  unfold nb_207
  intro ir mt
  obtain ⟨mf, ms, me, m5, m6, m7, mz⟩ := MTr mt
  refine ⟨ir, ?_⟩
  rw [show n2 = -1 by omega]
  exact (if_pos (by show n0 < 0 ∨ hV H0 285 2 < n0; omega)).symm
def g_207w_s_0 : vG := ([(0, [2], [], -1), (32, [1], [], 0), (6000, [0, 1], [0], 0), (0, [0], [], 285), (90, [1], [], -2147483648), (91, [1], [], 2147483647)], (3000, [2], [0], 13))
theorem c_207w_s_0 : vOkm T0 (eN e_207 L_207w A_207 mu_207 n_207 B_207 none) 2 g_207w_s_0 := vOk_inI fun ρ η f0 f1 f2 f3 f4 f5 => q_207w_0 (n0 := ρ 1) (n1 := ρ 0) (n2 := ρ 2) (H0 := η 0) f5 f4 f3 f2 f1 f0
theorem q_207w_1 {n0 n1 n2 n3 n4 n5 n6 : Int} {H0 H1 : gH} (f0 : n0 ≤ 2147483647) (f1 : (-2147483648) ≤ n0) (f2 : n1 = 285) (f3 : hWt T0 H0 ∧ True) (f4 : 0 ≤ n0) (f5 : n2 ≤ 2000) (f6 : 0 ≤ n2) (f7 : hK H0 (n1).toNat = 12) (f8 : n2 = hV H0 (n1).toNat 2) (f9 : n0 ≤ n2) (f10 : n3 ≤ 2000) (f11 : 0 ≤ n3) (f12 : hK H0 (n1).toNat = 12) (f13 : n3 = hV H0 (n1).toNat 2) (f14 : n4 = w32 (n3 - n0)) (f15 : hK H0 (n1).toNat = 12) (f16 : n5 = 2) (f17 : hUpd H1 H0 n1 n5 n4) (f18 : n6 ≤ 2000) (f19 : 0 ≤ n6) (f20 : hK H1 (n1).toNat = 12) (f21 : n6 = hV H1 (n1).toNat 2) : nb_207 n6 n1 n0 H0 H1 := by
  unfold nb_207
  intro ir mt
  obtain ⟨mf, ms, me, m5, m6, m7, mz⟩ := MTr mt
  have d8 := rdS (q := 285) f8 f2
  have d13 := rdS (q := 285) f13 f2
  have d21 := rdS (q := 285) f21 f2
  have e_14 : n4 = n3 - n0 := by
    have w := f14
    rw [w]
    exact w32_id (by omega) (by omega)
  have c2 : hV H1 285 2 = n4 := uSame f17 285 2 (by rw [f2]; rfl) (by rw [f16]; rfl)
  have c17 : hV H1 285 17 = hV H0 285 17 := uSlot f17 285 17 (by rw [f16]; decide)
  have c18 : hV H1 285 18 = hV H0 285 18 := uSlot f17 285 18 (by rw [f16]; decide)
  have c60 : hV H1 285 60 = hV H0 285 60 := uSlot f17 285 60 (by rw [f16]; decide)
  have r286 : hV H1 286 = hV H0 286 := uRowNe f17 286 (by rw [f2]; decide)
  have r325 : hV H1 325 = hV H0 325 := uRowNe f17 325 (by rw [f2]; decide)
  have r326 : hV H1 326 = hV H0 326 := uRowNe f17 326 (by rw [f2]; decide)
  have r327 : hV H1 327 = hV H0 327 := uRowNe f17 327 (by rw [f2]; decide)
  have r293 : hV H1 293 = hV H0 293 := uRowNe f17 293 (by rw [f2]; decide)
  refine ⟨IRm_same c18 c60 r293 ir, ?_⟩
  rw [mR_mk (a := H0) (c2.trans (show _ = hV H0 285 2 - n0 by omega)) (BT_same r286) c17 c18 c60 r325 r326 r327 (tdR_same c18 c60 r293), show mBack n0 (mR H0) = _ from if_neg (by show ¬ (n0 < 0 ∨ hV H0 285 2 < n0); omega)]
  exact Prod.ext rfl (by show n6 = hV H0 285 2 - n0; omega)
def g_207w_s_1 : vG := ([(20, [6, 0], [1], 2), (23, [0], [1], 12), (90, [6], [], 0), (91, [6], [], 2000), (80, [0, 5, 4], [1, 0], 0), (0, [5], [], 2), (23, [0], [0], 12), (2, [4, 3, 1], [], 0), (20, [3, 0], [0], 2), (23, [0], [0], 12), (90, [3], [], 0), (91, [3], [], 2000), (45, [1, 2], [], 0), (20, [2, 0], [0], 2), (23, [0], [0], 12), (90, [2], [], 0), (91, [2], [], 2000), (33, [1], [], 0), (6000, [0, 1], [0], 0), (0, [0], [], 285), (90, [1], [], -2147483648), (91, [1], [], 2147483647)], (3000, [6], [1], 28))
theorem c_207w_s_1 : vOkm T0 (eN e_207 L_207w A_207 mu_207 n_207 B_207 none) 2 g_207w_s_1 := vOk_inI fun ρ η f0 f1 f2 f3 f4 f5 f6 f7 f8 f9 f10 f11 f12 f13 f14 f15 f16 f17 f18 f19 f20 f21 => q_207w_1 (n0 := ρ 1) (n1 := ρ 0) (n2 := ρ 2) (n3 := ρ 3) (n4 := ρ 4) (n5 := ρ 5) (n6 := ρ 6) (H0 := η 0) (H1 := η 1) f21 f20 f19 f18 f17 f16 f15 f14 f13 f12 f11 f10 f9 f8 f7 f6 f5 f4 f3 f2 f1 f0
theorem q_207w_2 {n0 n1 n2 n3 : Int} {H0 : gH} (f0 : n0 ≤ 2147483647) (f1 : (-2147483648) ≤ n0) (f2 : n1 = 285) (f3 : hWt T0 H0 ∧ True) (f4 : 0 ≤ n0) (f5 : n2 ≤ 2000) (f6 : 0 ≤ n2) (f7 : hK H0 (n1).toNat = 12) (f8 : n2 = hV H0 (n1).toNat 2) (f9 : n2 < n0) (f10 : n3 = (-1)) : nb_207 n3 n1 n0 H0 H0 := by
  unfold nb_207
  intro ir mt
  obtain ⟨mf, ms, me, m5, m6, m7, mz⟩ := MTr mt
  have d8 := rdS (q := 285) f8 f2
  refine ⟨ir, ?_⟩
  rw [show n3 = -1 by omega]
  exact (if_pos (by show n0 < 0 ∨ hV H0 285 2 < n0; omega)).symm
def g_207w_s_2 : vG := ([(0, [3], [], -1), (44, [1, 2], [], 0), (20, [2, 0], [0], 2), (23, [0], [0], 12), (90, [2], [], 0), (91, [2], [], 2000), (33, [1], [], 0), (6000, [0, 1], [0], 0), (0, [0], [], 285), (90, [1], [], -2147483648), (91, [1], [], 2147483647)], (3000, [3], [0], 13))
theorem c_207w_s_2 : vOkm T0 (eN e_207 L_207w A_207 mu_207 n_207 B_207 none) 2 g_207w_s_2 := vOk_inI fun ρ η f0 f1 f2 f3 f4 f5 f6 f7 f8 f9 f10 => q_207w_2 (n0 := ρ 1) (n1 := ρ 0) (n2 := ρ 2) (n3 := ρ 3) (H0 := η 0) f10 f9 f8 f7 f6 f5 f4 f3 f2 f1 f0
def p_207w_s : List vG := [g_207w_s_0,
  g_207w_s_1,
  g_207w_s_2]
theorem r_207w_s : vCovBO (eR0 e_207 L_207 cs_207 2000) p_207w_s = true := by decide +kernel
theorem m_207w (d : Nat) : eC e_207w (d + 1) := eC_ref (e := e_207) (L := L_207) (L' := L_207w) (cs := cs_207) (n := 2000) (d := d + 0) (A := A_207) (μ := mu_207) (tp := true) (p0 := p_207_s) (p1 := p_207w_s) (N := n_207) (B := B_207) rfl trivial rfl (.inr pre0_ok) (by decide +kernel) (fun _ => post0_ok) r_207_s (allC c_207_s_0 (allC c_207_s_1 allN)) allN trivial r_207w_s (allC c_207w_s_0 (allC c_207w_s_1 (allC c_207w_s_2 allN))) allN
