/-! CONTRACTS of methods told more fully. -/
/- MixStageModel.again ()I, more fully -/
def nb_290 (r a0 : Int) (h0 h : gH) : Prop := KSm (hV h0 285 64) (hV h0 328) (hV h0 337) (hV h 337)
def n_290 : List Int → gH → gH → Prop := fun xs h0 h => match xs with
  | [r, a0] => nb_290 r a0 h0 h
  | _ => True
noncomputable def e_290vw : vE := eV e_290v n_290
noncomputable def L_290vw : List vE := [e_283vw, e_288, e_289]
def Bb_290_4 (a0 x0 x1 x2 : Int) (h0 h : gH) : Prop := KSm (hV h0 285 64) (hV h0 328) (hV h0 337) (hV h 337)
def Bb_290_16 (a0 x0 x1 x2 x3 : Int) (h0 h : gH) : Prop := KSm (hV h0 285 64) (hV h0 328) (hV h0 337) (hV h 337)
def B_290 : Int → List Int → gH → gH → Prop := fun c xs h0 h => match c.toNat with
  | 4 => (match xs with
    | [a0, x0, x1, x2] => Bb_290_4 a0 x0 x1 x2 h0 h
    | _ => False)
  | 16 => (match xs with
    | [a0, x0, x1, x2, x3] => Bb_290_16 a0 x0 x1 x2 x3 h0 h
    | _ => False)
  | _ => True
theorem q_290vw_0 {n0 n1 n2 : Int} {H0 : gH} (f0 : n0 = 285) (f1 : hWt T0 H0 ∧ preb_290v n0 H0) (f2 : n1 = 0) (f3 : n2 = 1) : Bb_290_4 n0 n0 n1 n2 H0 H0 := by
  unfold Bb_290_4
  exact fun _ _ => rfl
def g_290vw_s_0 : vG := ([(0, [2], [], 1), (0, [1], [], 0), (6000, [0], [0], 0), (0, [0], [], 285)], (4000, [0, 1, 2], [0], 4))
theorem c_290vw_s_0 : vOkm T0 (eN e_290v L_290vw A_290v mu_290v n_290 B_290 none) 1 g_290vw_s_0 := vOk_inI fun ρ η f0 f1 f2 f3 => q_290vw_0 (n0 := ρ 0) (n1 := ρ 1) (n2 := ρ 2) (H0 := η 0) f3 f2 f1 f0
def p_290vw_s : List vG := [g_290vw_s_0]
theorem r_290vw_s : vCovBO (eR0 e_290v L_290v cs_290v 2000) p_290vw_s = true := by decide +kernel
theorem q_290vw_1 {q0 : Nat} {n0 n1 n2 n3 : Int} {H0 H1 : gH} (f0 : n0 ≤ 1) (f1 : 0 ≤ n0) (f2 : n1 ≤ 2147483647) (f3 : (-2147483648) ≤ n1) (f4 : n2 = 285) (f5 : n3 = 285) (f6 : (hLe T0 H0 H1 ∧ hFr s_290v.2.2.2.2 H0 H1 ∧ hWt T0 H1) ∧ ((Ab_290v_4 n3 n2 n1 n0 H0 H1 ∧ Bb_290_4 n3 n2 n1 n0 H0 H1) ∧ preb_290v n3 H0) ∧ some q0 = some (mub_290v_4 n3 n2 n1 n0 H0 H1)) (f7 : n0 = 0) : nb_290 n1 n3 H0 H1 := by
  have gb := f6.2.1.1.2
  unfold Bb_290_4 at gb
  unfold nb_290
  exact gb
def g_290vw_4_0 : vG := ([(30, [3], [], 0), (5000, [0, 1, 2, 3], [0, 1], 4), (0, [0], [], 285), (0, [1], [], 285), (90, [2], [], -2147483648), (91, [2], [], 2147483647), (90, [3], [], 0), (91, [3], [], 1)], (3000, [2], [1], 92))
theorem c_290vw_4_0 {q0 : Nat} : vOkm T0 (eN e_290v L_290vw A_290v mu_290v n_290 B_290 (some q0)) 1 g_290vw_4_0 := vOk_inI fun ρ η f0 f1 f2 f3 f4 f5 f6 f7 => q_290vw_1 (q0 := q0) (n0 := ρ 3) (n1 := ρ 2) (n2 := ρ 1) (n3 := ρ 0) (H0 := η 0) (H1 := η 1) f7 f6 f5 f4 f3 f2 f1 f0
theorem q_290vw_2 {q0 : Nat} {n0 n1 n2 n3 n4 n5 : Int} {H0 H1 H2 : gH} (f0 : n0 ≤ 1) (f1 : 0 ≤ n0) (f2 : n1 ≤ 2147483647) (f3 : (-2147483648) ≤ n1) (f4 : n2 = 285) (f5 : n3 = 285) (f6 : (hLe T0 H0 H1 ∧ hFr s_290v.2.2.2.2 H0 H1 ∧ hWt T0 H1) ∧ ((Ab_290v_4 n3 n2 n1 n0 H0 H1 ∧ Bb_290_4 n3 n2 n1 n0 H0 H1) ∧ preb_290v n3 H0) ∧ some q0 = some (mub_290v_4 n3 n2 n1 n0 H0 H1)) (f7 : n0 ≠ 0) (f8 : (hLe T0 H1 H2 ∧ hFr s_288.2.2.2.2 H1 H2 ∧ ((0 : Int) = 0 → H2.length = H1.length) ∧ hWt T0 H2) ∧ postb_288 n2 H1 H2) (f9 : n4 = 0) (f10 : n5 = 0) : Bb_290_16 n3 n2 n1 n4 n5 H0 H2 := by
  have gb := f6.2.1.1.2
  unfold Bb_290_4 at gb
  unfold Bb_290_16
  rw [show hV H2 337 = hV H1 337 from fRow f8.1.2.1 337 (by decide +kernel)]
  exact gb
def g_290vw_4_1 : vG := ([(0, [5], [], 0), (0, [4], [], 0), (1288, [1], [1, 2], 0), (31, [3], [], 0), (5000, [0, 1, 2, 3], [0, 1], 4), (0, [0], [], 285), (0, [1], [], 285), (90, [2], [], -2147483648), (91, [2], [], 2147483647), (90, [3], [], 0), (91, [3], [], 1)], (4000, [1, 2, 4, 5], [2], 16))
theorem c_290vw_4_1 {q0 : Nat} : vOkm T0 (eN e_290v L_290vw A_290v mu_290v n_290 B_290 (some q0)) 1 g_290vw_4_1 := vOk_inI fun ρ η f0 f1 f2 f3 f4 f5 f6 f7 f8 f9 f10 => q_290vw_2 (q0 := q0) (n0 := ρ 3) (n1 := ρ 2) (n2 := ρ 1) (n3 := ρ 0) (n4 := ρ 4) (n5 := ρ 5) (H0 := η 0) (H1 := η 1) (H2 := η 2) f10 f9 f8 f7 f6 f5 f4 f3 f2 f1 f0
def p_290vw_4 : List vG := [g_290vw_4_0,
  g_290vw_4_1]
theorem r_290vw_4 : vCovBO (eRc e_290v L_290v cs_290v 2000 (4, [(0, (3, 12, 285, 0)), (1, (0, -2147483648, 2147483647, 0)), (2, (0, 0, 1, 0))])) p_290vw_4 = true := by decide +kernel
theorem q_290vw_3 {q0 : Nat} {n0 n1 n2 n3 n4 n5 : Int} {H0 H1 : gH} (f0 : n0 ≤ 20) (f1 : 0 ≤ n0) (f2 : n1 ≤ 1) (f3 : 0 ≤ n1) (f4 : n2 ≤ 2147483647) (f5 : (-2147483648) ≤ n2) (f6 : n3 = 285) (f7 : n4 = 285) (f8 : (hLe T0 H0 H1 ∧ hFr s_290v.2.2.2.2 H0 H1 ∧ hWt T0 H1) ∧ ((Ab_290v_16 n4 n3 n2 n1 n0 H0 H1 ∧ Bb_290_16 n4 n3 n2 n1 n0 H0 H1) ∧ preb_290v n4 H0) ∧ some q0 = some (mub_290v_16 n4 n3 n2 n1 n0 H0 H1)) (f9 : n5 ≤ 20) (f10 : 0 ≤ n5) (f11 : hK H1 (n3).toNat = 12) (f12 : n5 = hV H1 (n3).toNat 64) (f13 : n5 ≤ n0) : Bb_290_4 n4 n3 n2 n1 H0 H1 := by
  have gb := f8.2.1.1.2
  unfold Bb_290_16 at gb
  unfold Bb_290_4
  exact gb
def g_290vw_16_0 : vG := ([(43, [4, 5], [], 0), (20, [5, 1], [1], 64), (23, [1], [1], 12), (90, [5], [], 0), (91, [5], [], 20), (5000, [0, 1, 2, 3, 4], [0, 1], 16), (0, [0], [], 285), (0, [1], [], 285), (90, [2], [], -2147483648), (91, [2], [], 2147483647), (90, [3], [], 0), (91, [3], [], 1), (90, [4], [], 0), (91, [4], [], 20)], (4000, [1, 2, 3], [1], 4))
theorem c_290vw_16_0 {q0 : Nat} : vOkm T0 (eN e_290v L_290vw A_290v mu_290v n_290 B_290 (some q0)) 1 g_290vw_16_0 := vOk_inI fun ρ η f0 f1 f2 f3 f4 f5 f6 f7 f8 f9 f10 f11 f12 f13 => q_290vw_3 (q0 := q0) (n0 := ρ 4) (n1 := ρ 3) (n2 := ρ 2) (n3 := ρ 1) (n4 := ρ 0) (n5 := ρ 5) (H0 := η 0) (H1 := η 1) f13 f12 f11 f10 f9 f8 f7 f6 f5 f4 f3 f2 f1 f0
theorem q_290vw_4 {q0 : Nat} {n0 n1 n2 n3 n4 n5 : Int} {H0 H1 : gH} (f0 : n0 ≤ 20) (f1 : 0 ≤ n0) (f2 : n1 ≤ 1) (f3 : 0 ≤ n1) (f4 : n2 ≤ 2147483647) (f5 : (-2147483648) ≤ n2) (f6 : n3 = 285) (f7 : n4 = 285) (f8 : (hLe T0 H0 H1 ∧ hFr s_290v.2.2.2.2 H0 H1 ∧ hWt T0 H1) ∧ ((Ab_290v_16 n4 n3 n2 n1 n0 H0 H1 ∧ Bb_290_16 n4 n3 n2 n1 n0 H0 H1) ∧ preb_290v n4 H0) ∧ some q0 = some (mub_290v_16 n4 n3 n2 n1 n0 H0 H1)) (f9 : n5 ≤ 20) (f10 : 0 ≤ n5) (f11 : hK H1 (n3).toNat = 12) (f12 : n5 = hV H1 (n3).toNat 64) (f13 : n0 < n5) (f14 : n1 ≠ 0) : Bb_290_4 n4 n3 n2 n1 H0 H1 := by
  have gb := f8.2.1.1.2
  unfold Bb_290_16 at gb
  unfold Bb_290_4
  exact gb
def g_290vw_16_1 : vG := ([(31, [3], [], 0), (42, [4, 5], [], 0), (20, [5, 1], [1], 64), (23, [1], [1], 12), (90, [5], [], 0), (91, [5], [], 20), (5000, [0, 1, 2, 3, 4], [0, 1], 16), (0, [0], [], 285), (0, [1], [], 285), (90, [2], [], -2147483648), (91, [2], [], 2147483647), (90, [3], [], 0), (91, [3], [], 1), (90, [4], [], 0), (91, [4], [], 20)], (4000, [1, 2, 3], [1], 4))
theorem c_290vw_16_1 {q0 : Nat} : vOkm T0 (eN e_290v L_290vw A_290v mu_290v n_290 B_290 (some q0)) 1 g_290vw_16_1 := vOk_inI fun ρ η f0 f1 f2 f3 f4 f5 f6 f7 f8 f9 f10 f11 f12 f13 f14 => q_290vw_4 (q0 := q0) (n0 := ρ 4) (n1 := ρ 3) (n2 := ρ 2) (n3 := ρ 1) (n4 := ρ 0) (n5 := ρ 5) (H0 := η 0) (H1 := η 1) f14 f13 f12 f11 f10 f9 f8 f7 f6 f5 f4 f3 f2 f1 f0
theorem q_290vw_5 {q0 : Nat} {n0 n1 n2 n3 n4 n5 n6 n7 n8 : Int} {H0 H1 : gH} (f0 : n0 ≤ 20) (f1 : 0 ≤ n0) (f2 : n1 ≤ 1) (f3 : 0 ≤ n1) (f4 : n2 ≤ 2147483647) (f5 : (-2147483648) ≤ n2) (f6 : n3 = 285) (f7 : n4 = 285) (f8 : (hLe T0 H0 H1 ∧ hFr s_290v.2.2.2.2 H0 H1 ∧ hWt T0 H1) ∧ ((Ab_290v_16 n4 n3 n2 n1 n0 H0 H1 ∧ Bb_290_16 n4 n3 n2 n1 n0 H0 H1) ∧ preb_290v n4 H0) ∧ some q0 = some (mub_290v_16 n4 n3 n2 n1 n0 H0 H1)) (f9 : n5 ≤ 20) (f10 : 0 ≤ n5) (f11 : hK H1 (n3).toNat = 12) (f12 : n5 = hV H1 (n3).toNat 64) (f13 : n0 < n5) (f14 : n1 = 0) (f15 : n6 = 354) (f16 : hK H1 (n3).toNat = 12) (f17 : n6 = hV H1 (n3).toNat 96) (f18 : n7 ≤ 1) (f19 : 0 ≤ n7) (f20 : n7 = hV H1 (n6).toNat (n0).toNat) (f21 : n7 = 0) (f22 : n8 = w32 (n0 + 1)) : Bb_290_16 n4 n3 n2 n1 n8 H0 H1 := by
  have gb := f8.2.1.1.2
  unfold Bb_290_16 at gb
  unfold Bb_290_16
  exact gb
def g_290vw_16_2 : vG := ([(10, [8, 4], [], 1), (30, [7], [], 0), (22, [7, 6, 4], [1], 0), (90, [7], [], 0), (91, [7], [], 1), (20, [6, 1], [1], 96), (23, [1], [1], 12), (0, [6], [], 354), (30, [3], [], 0), (42, [4, 5], [], 0), (20, [5, 1], [1], 64), (23, [1], [1], 12), (90, [5], [], 0), (91, [5], [], 20), (5000, [0, 1, 2, 3, 4], [0, 1], 16), (0, [0], [], 285), (0, [1], [], 285), (90, [2], [], -2147483648), (91, [2], [], 2147483647), (90, [3], [], 0), (91, [3], [], 1), (90, [4], [], 0), (91, [4], [], 20)], (4000, [1, 2, 3, 8], [1], 16))
theorem c_290vw_16_2 {q0 : Nat} : vOkm T0 (eN e_290v L_290vw A_290v mu_290v n_290 B_290 (some q0)) 1 g_290vw_16_2 := vOk_inI fun ρ η f0 f1 f2 f3 f4 f5 f6 f7 f8 f9 f10 f11 f12 f13 f14 f15 f16 f17 f18 f19 f20 f21 f22 => q_290vw_5 (q0 := q0) (n0 := ρ 4) (n1 := ρ 3) (n2 := ρ 2) (n3 := ρ 1) (n4 := ρ 0) (n5 := ρ 5) (n6 := ρ 6) (n7 := ρ 7) (n8 := ρ 8) (H0 := η 0) (H1 := η 1) f22 f21 f20 f19 f18 f17 f16 f15 f14 f13 f12 f11 f10 f9 f8 f7 f6 f5 f4 f3 f2 f1 f0
theorem q_290vw_6 {q0 : Nat} {n0 n1 n2 n3 n4 n5 n6 n7 n8 n9 n10 n11 n12 n13 n14 n15 n16 n17 : Int} {H0 H1 H2 H3 : gH} (f0 : n0 ≤ 20) (f1 : 0 ≤ n0) (f2 : n1 ≤ 1) (f3 : 0 ≤ n1) (f4 : n2 ≤ 2147483647) (f5 : (-2147483648) ≤ n2) (f6 : n3 = 285) (f7 : n4 = 285) (f8 : (hLe T0 H0 H1 ∧ hFr s_290v.2.2.2.2 H0 H1 ∧ hWt T0 H1) ∧ ((Ab_290v_16 n4 n3 n2 n1 n0 H0 H1 ∧ Bb_290_16 n4 n3 n2 n1 n0 H0 H1) ∧ preb_290v n4 H0) ∧ some q0 = some (mub_290v_16 n4 n3 n2 n1 n0 H0 H1)) (f9 : n5 ≤ 20) (f10 : 0 ≤ n5) (f11 : hK H1 (n3).toNat = 12) (f12 : n5 = hV H1 (n3).toNat 64) (f13 : n0 < n5) (f14 : n1 = 0) (f15 : n6 = 354) (f16 : hK H1 (n3).toNat = 12) (f17 : n6 = hV H1 (n3).toNat 96) (f18 : n7 ≤ 1) (f19 : 0 ≤ n7) (f20 : n7 = hV H1 (n6).toNat (n0).toNat) (f21 : n7 ≠ 0) (f22 : n8 ≤ 1) (f23 : 0 ≤ n8) (f24 : (hLe T0 H1 H2 ∧ hFr s_289.2.2.2.2 H1 H2 ∧ ((0 : Int) = 0 → H2.length = H1.length) ∧ hWt T0 H2) ∧ postb_289 n8 n3 n0 H1 H2) (f25 : n8 = 0) (f26 : n9 = 335) (f27 : hK H2 (n3).toNat = 12) (f28 : n9 = hV H2 (n3).toNat 73) (f29 : n10 ≤ 7) (f30 : (-1) ≤ n10) (f31 : n10 = hV H2 (n9).toNat (n0).toNat) (f32 : n11 = 336) (f33 : hK H2 (n3).toNat = 12) (f34 : n11 = hV H2 (n3).toNat 74) (f35 : n12 ≤ 5) (f36 : (-1) ≤ n12) (f37 : n12 = hV H2 (n11).toNat (n0).toNat) (f38 : n13 ≤ 2147483647) (f39 : (-2147483648) ≤ n13) (f40 : (hLe T0 H2 H3 ∧ hFr s_283v.2.2.2.2 H2 H3 ∧ ((0 : Int) = 0 → H3.length = H2.length) ∧ hWt T0 H3) ∧ (postb_283v n13 n3 n0 n10 n12 H2 H3 ∧ nb_283 n13 n3 n0 n10 n12 H2 H3)) (f41 : n13 ≤ 0) (f42 : n14 = 0) (f43 : n15 = w32 (n2 + n14)) (f44 : n16 = 1) (f45 : n17 = w32 (n0 + 1)) : Bb_290_16 n4 n3 n15 n16 n17 H0 H3 := by
  have gb := f8.2.1.1.2
  unfold Bb_290_16 at gb
  unfold Bb_290_16
  have mq := f40.2.2
  unfold nb_283 at mq
  rw [show hV H2 328 = hV H0 328 from (fRow f24.1.2.1 328 (by decide +kernel)).trans (fRow f8.1.2.1 328 (by decide +kernel)), show hV H2 285 64 = hV H0 285 64 from (f24.1.2.1.1 285 64 (by decide +kernel)).trans (f8.1.2.1.1 285 64 (by decide +kernel))] at mq
  rw [show hV H2 337 = hV H1 337 from fRow f24.1.2.1 337 (by decide +kernel)] at mq
  exact KSm_of gb mq.2.2.2 mq.2.1 mq.2.2.1 mq.1
def g_290vw_16_3 : vG := ([(10, [17, 4], [], 1), (0, [16], [], 1), (1, [15, 2, 14], [], 0), (0, [14], [], 0), (35, [13], [], 0), (1283, [13, 1, 4, 10, 12], [2, 3], 0), (90, [13], [], -2147483648), (91, [13], [], 2147483647), (22, [12, 11, 4], [2], 0), (90, [12], [], -1), (91, [12], [], 5), (20, [11, 1], [2], 74), (23, [1], [2], 12), (0, [11], [], 336), (22, [10, 9, 4], [2], 0), (90, [10], [], -1), (91, [10], [], 7), (20, [9, 1], [2], 73), (23, [1], [2], 12), (0, [9], [], 335), (30, [8], [], 0), (1289, [8, 1, 4], [1, 2], 0), (90, [8], [], 0), (91, [8], [], 1), (31, [7], [], 0), (22, [7, 6, 4], [1], 0), (90, [7], [], 0), (91, [7], [], 1), (20, [6, 1], [1], 96), (23, [1], [1], 12), (0, [6], [], 354), (30, [3], [], 0), (42, [4, 5], [], 0), (20, [5, 1], [1], 64), (23, [1], [1], 12), (90, [5], [], 0), (91, [5], [], 20), (5000, [0, 1, 2, 3, 4], [0, 1], 16), (0, [0], [], 285), (0, [1], [], 285), (90, [2], [], -2147483648), (91, [2], [], 2147483647), (90, [3], [], 0), (91, [3], [], 1), (90, [4], [], 0), (91, [4], [], 20)], (4000, [1, 15, 16, 17], [3], 16))
theorem c_290vw_16_3 {q0 : Nat} : vOkm T0 (eN e_290v L_290vw A_290v mu_290v n_290 B_290 (some q0)) 1 g_290vw_16_3 := vOk_inI fun ρ η f0 f1 f2 f3 f4 f5 f6 f7 f8 f9 f10 f11 f12 f13 f14 f15 f16 f17 f18 f19 f20 f21 f22 f23 f24 f25 f26 f27 f28 f29 f30 f31 f32 f33 f34 f35 f36 f37 f38 f39 f40 f41 f42 f43 f44 f45 => q_290vw_6 (q0 := q0) (n0 := ρ 4) (n1 := ρ 3) (n2 := ρ 2) (n3 := ρ 1) (n4 := ρ 0) (n5 := ρ 5) (n6 := ρ 6) (n7 := ρ 7) (n8 := ρ 8) (n9 := ρ 9) (n10 := ρ 10) (n11 := ρ 11) (n12 := ρ 12) (n13 := ρ 13) (n14 := ρ 14) (n15 := ρ 15) (n16 := ρ 16) (n17 := ρ 17) (H0 := η 0) (H1 := η 1) (H2 := η 2) (H3 := η 3) f45 f44 f43 f42 f41 f40 f39 f38 f37 f36 f35 f34 f33 f32 f31 f30 f29 f28 f27 f26 f25 f24 f23 f22 f21 f20 f19 f18 f17 f16 f15 f14 f13 f12 f11 f10 f9 f8 f7 f6 f5 f4 f3 f2 f1 f0
theorem q_290vw_7 {q0 : Nat} {n0 n1 n2 n3 n4 n5 n6 n7 n8 n9 n10 n11 n12 n13 n14 n15 n16 n17 : Int} {H0 H1 H2 H3 : gH} (f0 : n0 ≤ 20) (f1 : 0 ≤ n0) (f2 : n1 ≤ 1) (f3 : 0 ≤ n1) (f4 : n2 ≤ 2147483647) (f5 : (-2147483648) ≤ n2) (f6 : n3 = 285) (f7 : n4 = 285) (f8 : (hLe T0 H0 H1 ∧ hFr s_290v.2.2.2.2 H0 H1 ∧ hWt T0 H1) ∧ ((Ab_290v_16 n4 n3 n2 n1 n0 H0 H1 ∧ Bb_290_16 n4 n3 n2 n1 n0 H0 H1) ∧ preb_290v n4 H0) ∧ some q0 = some (mub_290v_16 n4 n3 n2 n1 n0 H0 H1)) (f9 : n5 ≤ 20) (f10 : 0 ≤ n5) (f11 : hK H1 (n3).toNat = 12) (f12 : n5 = hV H1 (n3).toNat 64) (f13 : n0 < n5) (f14 : n1 = 0) (f15 : n6 = 354) (f16 : hK H1 (n3).toNat = 12) (f17 : n6 = hV H1 (n3).toNat 96) (f18 : n7 ≤ 1) (f19 : 0 ≤ n7) (f20 : n7 = hV H1 (n6).toNat (n0).toNat) (f21 : n7 ≠ 0) (f22 : n8 ≤ 1) (f23 : 0 ≤ n8) (f24 : (hLe T0 H1 H2 ∧ hFr s_289.2.2.2.2 H1 H2 ∧ ((0 : Int) = 0 → H2.length = H1.length) ∧ hWt T0 H2) ∧ postb_289 n8 n3 n0 H1 H2) (f25 : n8 = 0) (f26 : n9 = 335) (f27 : hK H2 (n3).toNat = 12) (f28 : n9 = hV H2 (n3).toNat 73) (f29 : n10 ≤ 7) (f30 : (-1) ≤ n10) (f31 : n10 = hV H2 (n9).toNat (n0).toNat) (f32 : n11 = 336) (f33 : hK H2 (n3).toNat = 12) (f34 : n11 = hV H2 (n3).toNat 74) (f35 : n12 ≤ 5) (f36 : (-1) ≤ n12) (f37 : n12 = hV H2 (n11).toNat (n0).toNat) (f38 : n13 ≤ 2147483647) (f39 : (-2147483648) ≤ n13) (f40 : (hLe T0 H2 H3 ∧ hFr s_283v.2.2.2.2 H2 H3 ∧ ((0 : Int) = 0 → H3.length = H2.length) ∧ hWt T0 H3) ∧ (postb_283v n13 n3 n0 n10 n12 H2 H3 ∧ nb_283 n13 n3 n0 n10 n12 H2 H3)) (f41 : 0 < n13) (f42 : n14 = 1) (f43 : n15 = w32 (n2 + n14)) (f44 : n16 = 1) (f45 : n17 = w32 (n0 + 1)) : Bb_290_16 n4 n3 n15 n16 n17 H0 H3 := by
  have gb := f8.2.1.1.2
  unfold Bb_290_16 at gb
  unfold Bb_290_16
  have mq := f40.2.2
  unfold nb_283 at mq
  rw [show hV H2 328 = hV H0 328 from (fRow f24.1.2.1 328 (by decide +kernel)).trans (fRow f8.1.2.1 328 (by decide +kernel)), show hV H2 285 64 = hV H0 285 64 from (f24.1.2.1.1 285 64 (by decide +kernel)).trans (f8.1.2.1.1 285 64 (by decide +kernel))] at mq
  rw [show hV H2 337 = hV H1 337 from fRow f24.1.2.1 337 (by decide +kernel)] at mq
  exact KSm_of gb mq.2.2.2 mq.2.1 mq.2.2.1 mq.1
def g_290vw_16_4 : vG := ([(10, [17, 4], [], 1), (0, [16], [], 1), (1, [15, 2, 14], [], 0), (0, [14], [], 1), (34, [13], [], 0), (1283, [13, 1, 4, 10, 12], [2, 3], 0), (90, [13], [], -2147483648), (91, [13], [], 2147483647), (22, [12, 11, 4], [2], 0), (90, [12], [], -1), (91, [12], [], 5), (20, [11, 1], [2], 74), (23, [1], [2], 12), (0, [11], [], 336), (22, [10, 9, 4], [2], 0), (90, [10], [], -1), (91, [10], [], 7), (20, [9, 1], [2], 73), (23, [1], [2], 12), (0, [9], [], 335), (30, [8], [], 0), (1289, [8, 1, 4], [1, 2], 0), (90, [8], [], 0), (91, [8], [], 1), (31, [7], [], 0), (22, [7, 6, 4], [1], 0), (90, [7], [], 0), (91, [7], [], 1), (20, [6, 1], [1], 96), (23, [1], [1], 12), (0, [6], [], 354), (30, [3], [], 0), (42, [4, 5], [], 0), (20, [5, 1], [1], 64), (23, [1], [1], 12), (90, [5], [], 0), (91, [5], [], 20), (5000, [0, 1, 2, 3, 4], [0, 1], 16), (0, [0], [], 285), (0, [1], [], 285), (90, [2], [], -2147483648), (91, [2], [], 2147483647), (90, [3], [], 0), (91, [3], [], 1), (90, [4], [], 0), (91, [4], [], 20)], (4000, [1, 15, 16, 17], [3], 16))
theorem c_290vw_16_4 {q0 : Nat} : vOkm T0 (eN e_290v L_290vw A_290v mu_290v n_290 B_290 (some q0)) 1 g_290vw_16_4 := vOk_inI fun ρ η f0 f1 f2 f3 f4 f5 f6 f7 f8 f9 f10 f11 f12 f13 f14 f15 f16 f17 f18 f19 f20 f21 f22 f23 f24 f25 f26 f27 f28 f29 f30 f31 f32 f33 f34 f35 f36 f37 f38 f39 f40 f41 f42 f43 f44 f45 => q_290vw_7 (q0 := q0) (n0 := ρ 4) (n1 := ρ 3) (n2 := ρ 2) (n3 := ρ 1) (n4 := ρ 0) (n5 := ρ 5) (n6 := ρ 6) (n7 := ρ 7) (n8 := ρ 8) (n9 := ρ 9) (n10 := ρ 10) (n11 := ρ 11) (n12 := ρ 12) (n13 := ρ 13) (n14 := ρ 14) (n15 := ρ 15) (n16 := ρ 16) (n17 := ρ 17) (H0 := η 0) (H1 := η 1) (H2 := η 2) (H3 := η 3) f45 f44 f43 f42 f41 f40 f39 f38 f37 f36 f35 f34 f33 f32 f31 f30 f29 f28 f27 f26 f25 f24 f23 f22 f21 f20 f19 f18 f17 f16 f15 f14 f13 f12 f11 f10 f9 f8 f7 f6 f5 f4 f3 f2 f1 f0
theorem q_290vw_8 {q0 : Nat} {n0 n1 n2 n3 n4 n5 n6 n7 n8 n9 : Int} {H0 H1 H2 : gH} (f0 : n0 ≤ 20) (f1 : 0 ≤ n0) (f2 : n1 ≤ 1) (f3 : 0 ≤ n1) (f4 : n2 ≤ 2147483647) (f5 : (-2147483648) ≤ n2) (f6 : n3 = 285) (f7 : n4 = 285) (f8 : (hLe T0 H0 H1 ∧ hFr s_290v.2.2.2.2 H0 H1 ∧ hWt T0 H1) ∧ ((Ab_290v_16 n4 n3 n2 n1 n0 H0 H1 ∧ Bb_290_16 n4 n3 n2 n1 n0 H0 H1) ∧ preb_290v n4 H0) ∧ some q0 = some (mub_290v_16 n4 n3 n2 n1 n0 H0 H1)) (f9 : n5 ≤ 20) (f10 : 0 ≤ n5) (f11 : hK H1 (n3).toNat = 12) (f12 : n5 = hV H1 (n3).toNat 64) (f13 : n0 < n5) (f14 : n1 = 0) (f15 : n6 = 354) (f16 : hK H1 (n3).toNat = 12) (f17 : n6 = hV H1 (n3).toNat 96) (f18 : n7 ≤ 1) (f19 : 0 ≤ n7) (f20 : n7 = hV H1 (n6).toNat (n0).toNat) (f21 : n7 ≠ 0) (f22 : n8 ≤ 1) (f23 : 0 ≤ n8) (f24 : (hLe T0 H1 H2 ∧ hFr s_289.2.2.2.2 H1 H2 ∧ ((0 : Int) = 0 → H2.length = H1.length) ∧ hWt T0 H2) ∧ postb_289 n8 n3 n0 H1 H2) (f25 : n8 ≠ 0) (f26 : n9 = w32 (n0 + 1)) : Bb_290_16 n4 n3 n2 n1 n9 H0 H2 := by
  have gb := f8.2.1.1.2
  unfold Bb_290_16 at gb
  unfold Bb_290_16
  rw [show hV H2 337 = hV H1 337 from fRow f24.1.2.1 337 (by decide +kernel)]
  exact gb
def g_290vw_16_5 : vG := ([(10, [9, 4], [], 1), (31, [8], [], 0), (1289, [8, 1, 4], [1, 2], 0), (90, [8], [], 0), (91, [8], [], 1), (31, [7], [], 0), (22, [7, 6, 4], [1], 0), (90, [7], [], 0), (91, [7], [], 1), (20, [6, 1], [1], 96), (23, [1], [1], 12), (0, [6], [], 354), (30, [3], [], 0), (42, [4, 5], [], 0), (20, [5, 1], [1], 64), (23, [1], [1], 12), (90, [5], [], 0), (91, [5], [], 20), (5000, [0, 1, 2, 3, 4], [0, 1], 16), (0, [0], [], 285), (0, [1], [], 285), (90, [2], [], -2147483648), (91, [2], [], 2147483647), (90, [3], [], 0), (91, [3], [], 1), (90, [4], [], 0), (91, [4], [], 20)], (4000, [1, 2, 3, 9], [2], 16))
theorem c_290vw_16_5 {q0 : Nat} : vOkm T0 (eN e_290v L_290vw A_290v mu_290v n_290 B_290 (some q0)) 1 g_290vw_16_5 := vOk_inI fun ρ η f0 f1 f2 f3 f4 f5 f6 f7 f8 f9 f10 f11 f12 f13 f14 f15 f16 f17 f18 f19 f20 f21 f22 f23 f24 f25 f26 => q_290vw_8 (q0 := q0) (n0 := ρ 4) (n1 := ρ 3) (n2 := ρ 2) (n3 := ρ 1) (n4 := ρ 0) (n5 := ρ 5) (n6 := ρ 6) (n7 := ρ 7) (n8 := ρ 8) (n9 := ρ 9) (H0 := η 0) (H1 := η 1) (H2 := η 2) f26 f25 f24 f23 f22 f21 f20 f19 f18 f17 f16 f15 f14 f13 f12 f11 f10 f9 f8 f7 f6 f5 f4 f3 f2 f1 f0
def p_290vw_16 : List vG := [g_290vw_16_0,
  g_290vw_16_1,
  g_290vw_16_2,
  g_290vw_16_3,
  g_290vw_16_4,
  g_290vw_16_5]
theorem r_290vw_16 : vCovBO (eRc e_290v L_290v cs_290v 2000 (16, [(0, (3, 12, 285, 0)), (1, (0, -2147483648, 2147483647, 0)), (2, (0, 0, 1, 0)), (3, (0, 0, 20, 0))])) p_290vw_16 = true := by decide +kernel
theorem m_290vw (d : Nat) : eC e_290vw (d + 8) := eC_ref (e := e_290v) (L := L_290v) (L' := L_290vw) (cs := cs_290v) (n := 2000) (d := d + 7) (A := A_290v) (μ := mu_290v) (tp := false) (p0 := p_290v_s) (p1 := p_290vw_s) (N := n_290) (B := B_290) rfl ⟨m_283vw (d + 2), ⟨m_288 d, ⟨m_289 (d + 1), trivial⟩⟩⟩ rfl (.inl rfl) (by decide +kernel) (fun z => nomatch z) r_290v_s (allC c_290v_s_0 allN) (allC (.inl ⟨p_290v_4, r_290v_4, fun q0 => (allC c_290v_4_0 (allC c_290v_4_1 (allC c_290v_4_2 allN)))⟩) (allC (.inl ⟨p_290v_16, r_290v_16, fun q0 => (allC c_290v_16_0 (allC c_290v_16_1 (allC c_290v_16_2 (allC c_290v_16_3 (allC c_290v_16_4 (allC c_290v_16_5 (allC c_290v_16_6 (allC c_290v_16_7 (allC c_290v_16_8 (allC c_290v_16_9 (allC c_290v_16_10 (allC c_290v_16_11 (allC c_290v_16_12 (allC c_290v_16_13 (allC c_290v_16_14 (allC c_290v_16_15 (allC c_290v_16_16 (allC c_290v_16_17 (allC c_290v_16_18 (allC c_290v_16_19 (allC c_290v_16_20 (allC c_290v_16_21 (allC c_290v_16_22 allN)))))))))))))))))))))))⟩) allN)) (sub1 (sub0 (sub0 trivial))) r_290vw_s (allC c_290vw_s_0 allN) (allC ⟨p_290vw_4, r_290vw_4, fun q0 => (allC c_290vw_4_0 (allC c_290vw_4_1 allN))⟩ (allC ⟨p_290vw_16, r_290vw_16, fun q0 => (allC c_290vw_16_0 (allC c_290vw_16_1 (allC c_290vw_16_2 (allC c_290vw_16_3 (allC c_290vw_16_4 (allC c_290vw_16_5 allN))))))⟩ allN))
/- MixStageModel.seam (I)I, more fully -/
def nb_305 (r a0 a1 : Int) (h0 h : gH) : Prop := (SEm h0 a1 ∧ r = smF (hV h0 337 (240 * a1 + hV h0 331 (a1).toNat - 1).toNat) (hV h0 337 (240 * a1 + hV h0 330 (a1).toNat).toNat)) ∨ (¬ SEm h0 a1 ∧ r = -1)
def n_305 : List Int → gH → gH → Prop := fun xs h0 h => match xs with
  | [r, a0, a1] => nb_305 r a0 a1 h0 h
  | _ => True
noncomputable def e_305w : vE := eV e_305 n_305
noncomputable def L_305w : List vE := [e_250]
def B_305 : Int → List Int → gH → gH → Prop := fun c xs h0 h => True
theorem q_305w_0 {n0 n1 n2 n3 : Int} {H0 H1 : gH} (f0 : n0 ≤ 2147483647) (f1 : (-2147483648) ≤ n0) (f2 : n1 = 285) (f3 : hWt T0 H0 ∧ preb_305 n1 n0 H0) (f4 : n2 ≤ 1) (f5 : 0 ≤ n2) (f6 : (hLe T0 H0 H1 ∧ hFr s_250.2.2.2.2 H0 H1 ∧ ((0 : Int) = 0 → H1.length = H0.length) ∧ hWt T0 H1) ∧ postb_250 n2 n1 n0 H0 H1) (f7 : n2 = 0) (f8 : n3 = (-1)) : nb_305 n3 n1 n0 H0 H1 := by
  unfold nb_305 SEm
  have is := f6.2
  unfold postb_250 at is
  rw [show hV H1 285 64 = hV H0 285 64 from f6.1.2.1.1 285 64 (by decide +kernel)] at is
  exact .inr ⟨fun w => by omega, by omega⟩
def g_305w_s_0 : vG := ([(0, [3], [], -1), (30, [2], [], 0), (1250, [2, 0, 1], [0, 1], 0), (90, [2], [], 0), (91, [2], [], 1), (6000, [0, 1], [0], 0), (0, [0], [], 285), (90, [1], [], -2147483648), (91, [1], [], 2147483647)], (3000, [3], [1], 29))
theorem c_305w_s_0 : vOkm T0 (eN e_305 L_305w A_305 mu_305 n_305 B_305 none) 2 g_305w_s_0 := vOk_inI fun ρ η f0 f1 f2 f3 f4 f5 f6 f7 f8 => q_305w_0 (n0 := ρ 1) (n1 := ρ 0) (n2 := ρ 2) (n3 := ρ 3) (H0 := η 0) (H1 := η 1) f8 f7 f6 f5 f4 f3 f2 f1 f0
theorem q_305w_1 {n0 n1 n2 n3 n4 n5 n6 : Int} {H0 H1 : gH} (f0 : n0 ≤ 2147483647) (f1 : (-2147483648) ≤ n0) (f2 : n1 = 285) (f3 : hWt T0 H0 ∧ preb_305 n1 n0 H0) (f4 : n2 ≤ 1) (f5 : 0 ≤ n2) (f6 : (hLe T0 H0 H1 ∧ hFr s_250.2.2.2.2 H0 H1 ∧ ((0 : Int) = 0 → H1.length = H0.length) ∧ hWt T0 H1) ∧ postb_250 n2 n1 n0 H0 H1) (f7 : n2 ≠ 0) (f8 : n3 = 328) (f9 : hK H1 (n1).toNat = 12) (f10 : n3 = hV H1 (n1).toNat 66) (f11 : n4 ≤ 6) (f12 : 0 ≤ n4) (f13 : n4 = hV H1 (n3).toNat (n0).toNat) (f14 : n5 = 1) (f15 : n4 ≠ n5) (f16 : n6 = (-1)) : nb_305 n6 n1 n0 H0 H1 := by
  unfold nb_305 SEm
  have is := f6.2
  unfold postb_250 at is
  rw [show hV H1 285 64 = hV H0 285 64 from f6.1.2.1.1 285 64 (by decide +kernel)] at is
  have d13 := rdW (q := 328) f13 f8
  rw [show hV H1 328 = hV H0 328 from fRow f6.1.2.1 328 (by decide +kernel)] at d13
  exact .inr ⟨fun w => by omega, by omega⟩
def g_305w_s_1 : vG := ([(0, [6], [], -1), (41, [4, 5], [], 0), (0, [5], [], 1), (22, [4, 3, 1], [1], 0), (90, [4], [], 0), (91, [4], [], 6), (20, [3, 0], [1], 66), (23, [0], [1], 12), (0, [3], [], 328), (31, [2], [], 0), (1250, [2, 0, 1], [0, 1], 0), (90, [2], [], 0), (91, [2], [], 1), (6000, [0, 1], [0], 0), (0, [0], [], 285), (90, [1], [], -2147483648), (91, [1], [], 2147483647)], (3000, [6], [1], 29))
theorem c_305w_s_1 : vOkm T0 (eN e_305 L_305w A_305 mu_305 n_305 B_305 none) 2 g_305w_s_1 := vOk_inI fun ρ η f0 f1 f2 f3 f4 f5 f6 f7 f8 f9 f10 f11 f12 f13 f14 f15 f16 => q_305w_1 (n0 := ρ 1) (n1 := ρ 0) (n2 := ρ 2) (n3 := ρ 3) (n4 := ρ 4) (n5 := ρ 5) (n6 := ρ 6) (H0 := η 0) (H1 := η 1) f16 f15 f14 f13 f12 f11 f10 f9 f8 f7 f6 f5 f4 f3 f2 f1 f0
theorem q_305w_2 {n0 n1 n2 n3 n4 n5 n6 n7 n8 n9 n10 n11 n12 n13 n14 n15 n16 n17 n18 n19 n20 n21 n22 n23 n24 n25 : Int} {H0 H1 : gH} (f0 : n0 ≤ 2147483647) (f1 : (-2147483648) ≤ n0) (f2 : n1 = 285) (f3 : hWt T0 H0 ∧ preb_305 n1 n0 H0) (f4 : n2 ≤ 1) (f5 : 0 ≤ n2) (f6 : (hLe T0 H0 H1 ∧ hFr s_250.2.2.2.2 H0 H1 ∧ ((0 : Int) = 0 → H1.length = H0.length) ∧ hWt T0 H1) ∧ postb_250 n2 n1 n0 H0 H1) (f7 : n2 ≠ 0) (f8 : n3 = 328) (f9 : hK H1 (n1).toNat = 12) (f10 : n3 = hV H1 (n1).toNat 66) (f11 : n4 ≤ 6) (f12 : 0 ≤ n4) (f13 : n4 = hV H1 (n3).toNat (n0).toNat) (f14 : n5 = 1) (f15 : n4 = n5) (f16 : n6 = 329) (f17 : hK H1 (n1).toNat = 12) (f18 : n6 = hV H1 (n1).toNat 67) (f19 : n7 ≤ 240) (f20 : (-1) ≤ n7) (f21 : n7 = hV H1 (n6).toNat (n0).toNat) (f22 : n8 = (-1)) (f23 : n7 ≠ n8) (f24 : n9 = 337) (f25 : hK H1 (n1).toNat = 12) (f26 : n9 = hV H1 (n1).toNat 75) (f27 : n10 = 240) (f28 : n11 = w32 (n10 * n0)) (f29 : n12 = 331) (f30 : hK H1 (n1).toNat = 12) (f31 : n12 = hV H1 (n1).toNat 69) (f32 : n13 ≤ 2147483647) (f33 : (-2147483648) ≤ n13) (f34 : n13 = hV H1 (n12).toNat (n0).toNat) (f35 : n14 = w32 (n11 + n13)) (f36 : n15 = 1) (f37 : n16 = w32 (n14 - n15)) (f38 : n17 ≤ 2147483647) (f39 : (-2147483648) ≤ n17) (f40 : n17 = hV H1 (n9).toNat (n16).toNat) (f41 : n18 = 337) (f42 : hK H1 (n1).toNat = 12) (f43 : n18 = hV H1 (n1).toNat 75) (f44 : n19 = 240) (f45 : n20 = w32 (n19 * n0)) (f46 : n21 = 330) (f47 : hK H1 (n1).toNat = 12) (f48 : n21 = hV H1 (n1).toNat 68) (f49 : n22 ≤ 2147483647) (f50 : (-2147483648) ≤ n22) (f51 : n22 = hV H1 (n21).toNat (n0).toNat) (f52 : n23 = w32 (n20 + n22)) (f53 : n24 ≤ 2147483647) (f54 : (-2147483648) ≤ n24) (f55 : n24 = hV H1 (n18).toNat (n23).toNat) (f56 : n25 = w32 (n17 - n24)) (f57 : 0 ≤ n25) : nb_305 n25 n1 n0 H0 H1 := by
  unfold nb_305 SEm
  have is := f6.2
  unfold postb_250 at is
  rw [show hV H1 285 64 = hV H0 285 64 from f6.1.2.1.1 285 64 (by decide +kernel)] at is
  have d13 := rdW (q := 328) f13 f8
  have d21 := rdW (q := 329) f21 f16
  have d34 := rdW (q := 331) f34 f29
  have d40 := rdW (q := 337) f40 f24
  have d51 := rdW (q := 330) f51 f46
  have d55 := rdW (q := 337) f55 f41
  rw [show hV H1 328 = hV H0 328 from fRow f6.1.2.1 328 (by decide +kernel)] at d13
  rw [show hV H1 329 = hV H0 329 from fRow f6.1.2.1 329 (by decide +kernel)] at d21
  rw [show hV H1 331 = hV H0 331 from fRow f6.1.2.1 331 (by decide +kernel)] at d34
  rw [show hV H1 337 = hV H0 337 from fRow f6.1.2.1 337 (by decide +kernel)] at d40
  rw [show hV H1 330 = hV H0 330 from fRow f6.1.2.1 330 (by decide +kernel)] at d51
  rw [show hV H1 337 = hV H0 337 from fRow f6.1.2.1 337 (by decide +kernel)] at d55
  have pz := f3.2
  unfold preb_305 at pz
  have sb := f3.1 285 64 0 20 (by decide +kernel)
  have l := SO1 pz (s := (n0).toNat) (by omega) (by omega)
  have u28 := f28
  rw [f27] at u28
  rw [w32_id (by omega) (by omega)] at u28
  have u45 := f45
  rw [f44] at u45
  rw [w32_id (by omega) (by omega)] at u45
  have u35 := f35
  rw [w32_id (by omega) (by omega)] at u35
  have u37 := f37
  rw [f36] at u37
  rw [w32_id (by omega) (by omega)] at u37
  have u52 := f52
  rw [w32_id (by omega) (by omega)] at u52
  have i1 : (n16).toNat = (240 * n0 + hV H0 331 (n0).toNat - 1).toNat := by omega
  have i2 : (n23).toNat = (240 * n0 + hV H0 330 (n0).toNat).toNat := by omega
  rw [i1] at d40
  rw [i2] at d55
  refine .inl ⟨by omega, ?_⟩
  rw [← d40, ← d55]
  unfold smF ngF
  rw [← f56]
  rw [if_neg (by omega)]
def g_305w_s_2 : vG := ([(33, [25], [], 0), (2, [25, 17, 24], [], 0), (22, [24, 18, 23], [1], 0), (90, [24], [], -2147483648), (91, [24], [], 2147483647), (1, [23, 20, 22], [], 0), (22, [22, 21, 1], [1], 0), (90, [22], [], -2147483648), (91, [22], [], 2147483647), (20, [21, 0], [1], 68), (23, [0], [1], 12), (0, [21], [], 330), (3, [20, 19, 1], [], 0), (0, [19], [], 240), (20, [18, 0], [1], 75), (23, [0], [1], 12), (0, [18], [], 337), (22, [17, 9, 16], [1], 0), (90, [17], [], -2147483648), (91, [17], [], 2147483647), (2, [16, 14, 15], [], 0), (0, [15], [], 1), (1, [14, 11, 13], [], 0), (22, [13, 12, 1], [1], 0), (90, [13], [], -2147483648), (91, [13], [], 2147483647), (20, [12, 0], [1], 69), (23, [0], [1], 12), (0, [12], [], 331), (3, [11, 10, 1], [], 0), (0, [10], [], 240), (20, [9, 0], [1], 75), (23, [0], [1], 12), (0, [9], [], 337), (41, [7, 8], [], 0), (0, [8], [], -1), (22, [7, 6, 1], [1], 0), (90, [7], [], -1), (91, [7], [], 240), (20, [6, 0], [1], 67), (23, [0], [1], 12), (0, [6], [], 329), (40, [4, 5], [], 0), (0, [5], [], 1), (22, [4, 3, 1], [1], 0), (90, [4], [], 0), (91, [4], [], 6), (20, [3, 0], [1], 66), (23, [0], [1], 12), (0, [3], [], 328), (31, [2], [], 0), (1250, [2, 0, 1], [0, 1], 0), (90, [2], [], 0), (91, [2], [], 1), (6000, [0, 1], [0], 0), (0, [0], [], 285), (90, [1], [], -2147483648), (91, [1], [], 2147483647)], (3000, [25], [1], 78))
theorem c_305w_s_2 : vOkm T0 (eN e_305 L_305w A_305 mu_305 n_305 B_305 none) 2 g_305w_s_2 := vOk_inI fun ρ η f0 f1 f2 f3 f4 f5 f6 f7 f8 f9 f10 f11 f12 f13 f14 f15 f16 f17 f18 f19 f20 f21 f22 f23 f24 f25 f26 f27 f28 f29 f30 f31 f32 f33 f34 f35 f36 f37 f38 f39 f40 f41 f42 f43 f44 f45 f46 f47 f48 f49 f50 f51 f52 f53 f54 f55 f56 f57 => q_305w_2 (n0 := ρ 1) (n1 := ρ 0) (n2 := ρ 2) (n3 := ρ 3) (n4 := ρ 4) (n5 := ρ 5) (n6 := ρ 6) (n7 := ρ 7) (n8 := ρ 8) (n9 := ρ 9) (n10 := ρ 10) (n11 := ρ 11) (n12 := ρ 12) (n13 := ρ 13) (n14 := ρ 14) (n15 := ρ 15) (n16 := ρ 16) (n17 := ρ 17) (n18 := ρ 18) (n19 := ρ 19) (n20 := ρ 20) (n21 := ρ 21) (n22 := ρ 22) (n23 := ρ 23) (n24 := ρ 24) (n25 := ρ 25) (H0 := η 0) (H1 := η 1) f57 f56 f55 f54 f53 f52 f51 f50 f49 f48 f47 f46 f45 f44 f43 f42 f41 f40 f39 f38 f37 f36 f35 f34 f33 f32 f31 f30 f29 f28 f27 f26 f25 f24 f23 f22 f21 f20 f19 f18 f17 f16 f15 f14 f13 f12 f11 f10 f9 f8 f7 f6 f5 f4 f3 f2 f1 f0
theorem q_305w_3 {n0 n1 n2 n3 n4 n5 n6 n7 n8 n9 n10 n11 n12 n13 n14 n15 n16 n17 n18 n19 n20 n21 n22 n23 n24 n25 n26 : Int} {H0 H1 : gH} (f0 : n0 ≤ 2147483647) (f1 : (-2147483648) ≤ n0) (f2 : n1 = 285) (f3 : hWt T0 H0 ∧ preb_305 n1 n0 H0) (f4 : n2 ≤ 1) (f5 : 0 ≤ n2) (f6 : (hLe T0 H0 H1 ∧ hFr s_250.2.2.2.2 H0 H1 ∧ ((0 : Int) = 0 → H1.length = H0.length) ∧ hWt T0 H1) ∧ postb_250 n2 n1 n0 H0 H1) (f7 : n2 ≠ 0) (f8 : n3 = 328) (f9 : hK H1 (n1).toNat = 12) (f10 : n3 = hV H1 (n1).toNat 66) (f11 : n4 ≤ 6) (f12 : 0 ≤ n4) (f13 : n4 = hV H1 (n3).toNat (n0).toNat) (f14 : n5 = 1) (f15 : n4 = n5) (f16 : n6 = 329) (f17 : hK H1 (n1).toNat = 12) (f18 : n6 = hV H1 (n1).toNat 67) (f19 : n7 ≤ 240) (f20 : (-1) ≤ n7) (f21 : n7 = hV H1 (n6).toNat (n0).toNat) (f22 : n8 = (-1)) (f23 : n7 ≠ n8) (f24 : n9 = 337) (f25 : hK H1 (n1).toNat = 12) (f26 : n9 = hV H1 (n1).toNat 75) (f27 : n10 = 240) (f28 : n11 = w32 (n10 * n0)) (f29 : n12 = 331) (f30 : hK H1 (n1).toNat = 12) (f31 : n12 = hV H1 (n1).toNat 69) (f32 : n13 ≤ 2147483647) (f33 : (-2147483648) ≤ n13) (f34 : n13 = hV H1 (n12).toNat (n0).toNat) (f35 : n14 = w32 (n11 + n13)) (f36 : n15 = 1) (f37 : n16 = w32 (n14 - n15)) (f38 : n17 ≤ 2147483647) (f39 : (-2147483648) ≤ n17) (f40 : n17 = hV H1 (n9).toNat (n16).toNat) (f41 : n18 = 337) (f42 : hK H1 (n1).toNat = 12) (f43 : n18 = hV H1 (n1).toNat 75) (f44 : n19 = 240) (f45 : n20 = w32 (n19 * n0)) (f46 : n21 = 330) (f47 : hK H1 (n1).toNat = 12) (f48 : n21 = hV H1 (n1).toNat 68) (f49 : n22 ≤ 2147483647) (f50 : (-2147483648) ≤ n22) (f51 : n22 = hV H1 (n21).toNat (n0).toNat) (f52 : n23 = w32 (n20 + n22)) (f53 : n24 ≤ 2147483647) (f54 : (-2147483648) ≤ n24) (f55 : n24 = hV H1 (n18).toNat (n23).toNat) (f56 : n25 = w32 (n17 - n24)) (f57 : n25 < 0) (f58 : n26 = w32 (-n25)) : nb_305 n26 n1 n0 H0 H1 := by
  unfold nb_305 SEm
  have is := f6.2
  unfold postb_250 at is
  rw [show hV H1 285 64 = hV H0 285 64 from f6.1.2.1.1 285 64 (by decide +kernel)] at is
  have d13 := rdW (q := 328) f13 f8
  have d21 := rdW (q := 329) f21 f16
  have d34 := rdW (q := 331) f34 f29
  have d40 := rdW (q := 337) f40 f24
  have d51 := rdW (q := 330) f51 f46
  have d55 := rdW (q := 337) f55 f41
  rw [show hV H1 328 = hV H0 328 from fRow f6.1.2.1 328 (by decide +kernel)] at d13
  rw [show hV H1 329 = hV H0 329 from fRow f6.1.2.1 329 (by decide +kernel)] at d21
  rw [show hV H1 331 = hV H0 331 from fRow f6.1.2.1 331 (by decide +kernel)] at d34
  rw [show hV H1 337 = hV H0 337 from fRow f6.1.2.1 337 (by decide +kernel)] at d40
  rw [show hV H1 330 = hV H0 330 from fRow f6.1.2.1 330 (by decide +kernel)] at d51
  rw [show hV H1 337 = hV H0 337 from fRow f6.1.2.1 337 (by decide +kernel)] at d55
  have pz := f3.2
  unfold preb_305 at pz
  have sb := f3.1 285 64 0 20 (by decide +kernel)
  have l := SO1 pz (s := (n0).toNat) (by omega) (by omega)
  have u28 := f28
  rw [f27] at u28
  rw [w32_id (by omega) (by omega)] at u28
  have u45 := f45
  rw [f44] at u45
  rw [w32_id (by omega) (by omega)] at u45
  have u35 := f35
  rw [w32_id (by omega) (by omega)] at u35
  have u37 := f37
  rw [f36] at u37
  rw [w32_id (by omega) (by omega)] at u37
  have u52 := f52
  rw [w32_id (by omega) (by omega)] at u52
  have i1 : (n16).toNat = (240 * n0 + hV H0 331 (n0).toNat - 1).toNat := by omega
  have i2 : (n23).toNat = (240 * n0 + hV H0 330 (n0).toNat).toNat := by omega
  rw [i1] at d40
  rw [i2] at d55
  refine .inl ⟨by omega, ?_⟩
  rw [← d40, ← d55]
  unfold smF ngF
  rw [← f56]
  rw [if_pos (by omega)]
  exact f58
def g_305w_s_3 : vG := ([(14, [26, 25], [], 0), (32, [25], [], 0), (2, [25, 17, 24], [], 0), (22, [24, 18, 23], [1], 0), (90, [24], [], -2147483648), (91, [24], [], 2147483647), (1, [23, 20, 22], [], 0), (22, [22, 21, 1], [1], 0), (90, [22], [], -2147483648), (91, [22], [], 2147483647), (20, [21, 0], [1], 68), (23, [0], [1], 12), (0, [21], [], 330), (3, [20, 19, 1], [], 0), (0, [19], [], 240), (20, [18, 0], [1], 75), (23, [0], [1], 12), (0, [18], [], 337), (22, [17, 9, 16], [1], 0), (90, [17], [], -2147483648), (91, [17], [], 2147483647), (2, [16, 14, 15], [], 0), (0, [15], [], 1), (1, [14, 11, 13], [], 0), (22, [13, 12, 1], [1], 0), (90, [13], [], -2147483648), (91, [13], [], 2147483647), (20, [12, 0], [1], 69), (23, [0], [1], 12), (0, [12], [], 331), (3, [11, 10, 1], [], 0), (0, [10], [], 240), (20, [9, 0], [1], 75), (23, [0], [1], 12), (0, [9], [], 337), (41, [7, 8], [], 0), (0, [8], [], -1), (22, [7, 6, 1], [1], 0), (90, [7], [], -1), (91, [7], [], 240), (20, [6, 0], [1], 67), (23, [0], [1], 12), (0, [6], [], 329), (40, [4, 5], [], 0), (0, [5], [], 1), (22, [4, 3, 1], [1], 0), (90, [4], [], 0), (91, [4], [], 6), (20, [3, 0], [1], 66), (23, [0], [1], 12), (0, [3], [], 328), (31, [2], [], 0), (1250, [2, 0, 1], [0, 1], 0), (90, [2], [], 0), (91, [2], [], 1), (6000, [0, 1], [0], 0), (0, [0], [], 285), (90, [1], [], -2147483648), (91, [1], [], 2147483647)], (3000, [26], [1], 78))
theorem c_305w_s_3 : vOkm T0 (eN e_305 L_305w A_305 mu_305 n_305 B_305 none) 2 g_305w_s_3 := vOk_inI fun ρ η f0 f1 f2 f3 f4 f5 f6 f7 f8 f9 f10 f11 f12 f13 f14 f15 f16 f17 f18 f19 f20 f21 f22 f23 f24 f25 f26 f27 f28 f29 f30 f31 f32 f33 f34 f35 f36 f37 f38 f39 f40 f41 f42 f43 f44 f45 f46 f47 f48 f49 f50 f51 f52 f53 f54 f55 f56 f57 f58 => q_305w_3 (n0 := ρ 1) (n1 := ρ 0) (n2 := ρ 2) (n3 := ρ 3) (n4 := ρ 4) (n5 := ρ 5) (n6 := ρ 6) (n7 := ρ 7) (n8 := ρ 8) (n9 := ρ 9) (n10 := ρ 10) (n11 := ρ 11) (n12 := ρ 12) (n13 := ρ 13) (n14 := ρ 14) (n15 := ρ 15) (n16 := ρ 16) (n17 := ρ 17) (n18 := ρ 18) (n19 := ρ 19) (n20 := ρ 20) (n21 := ρ 21) (n22 := ρ 22) (n23 := ρ 23) (n24 := ρ 24) (n25 := ρ 25) (n26 := ρ 26) (H0 := η 0) (H1 := η 1) f58 f57 f56 f55 f54 f53 f52 f51 f50 f49 f48 f47 f46 f45 f44 f43 f42 f41 f40 f39 f38 f37 f36 f35 f34 f33 f32 f31 f30 f29 f28 f27 f26 f25 f24 f23 f22 f21 f20 f19 f18 f17 f16 f15 f14 f13 f12 f11 f10 f9 f8 f7 f6 f5 f4 f3 f2 f1 f0
theorem q_305w_4 {n0 n1 n2 n3 n4 n5 n6 n7 n8 n9 : Int} {H0 H1 : gH} (f0 : n0 ≤ 2147483647) (f1 : (-2147483648) ≤ n0) (f2 : n1 = 285) (f3 : hWt T0 H0 ∧ preb_305 n1 n0 H0) (f4 : n2 ≤ 1) (f5 : 0 ≤ n2) (f6 : (hLe T0 H0 H1 ∧ hFr s_250.2.2.2.2 H0 H1 ∧ ((0 : Int) = 0 → H1.length = H0.length) ∧ hWt T0 H1) ∧ postb_250 n2 n1 n0 H0 H1) (f7 : n2 ≠ 0) (f8 : n3 = 328) (f9 : hK H1 (n1).toNat = 12) (f10 : n3 = hV H1 (n1).toNat 66) (f11 : n4 ≤ 6) (f12 : 0 ≤ n4) (f13 : n4 = hV H1 (n3).toNat (n0).toNat) (f14 : n5 = 1) (f15 : n4 = n5) (f16 : n6 = 329) (f17 : hK H1 (n1).toNat = 12) (f18 : n6 = hV H1 (n1).toNat 67) (f19 : n7 ≤ 240) (f20 : (-1) ≤ n7) (f21 : n7 = hV H1 (n6).toNat (n0).toNat) (f22 : n8 = (-1)) (f23 : n7 = n8) (f24 : n9 = (-1)) : nb_305 n9 n1 n0 H0 H1 := by
  unfold nb_305 SEm
  have is := f6.2
  unfold postb_250 at is
  rw [show hV H1 285 64 = hV H0 285 64 from f6.1.2.1.1 285 64 (by decide +kernel)] at is
  have d13 := rdW (q := 328) f13 f8
  have d21 := rdW (q := 329) f21 f16
  rw [show hV H1 328 = hV H0 328 from fRow f6.1.2.1 328 (by decide +kernel)] at d13
  rw [show hV H1 329 = hV H0 329 from fRow f6.1.2.1 329 (by decide +kernel)] at d21
  exact .inr ⟨fun w => by omega, by omega⟩
def g_305w_s_4 : vG := ([(0, [9], [], -1), (40, [7, 8], [], 0), (0, [8], [], -1), (22, [7, 6, 1], [1], 0), (90, [7], [], -1), (91, [7], [], 240), (20, [6, 0], [1], 67), (23, [0], [1], 12), (0, [6], [], 329), (40, [4, 5], [], 0), (0, [5], [], 1), (22, [4, 3, 1], [1], 0), (90, [4], [], 0), (91, [4], [], 6), (20, [3, 0], [1], 66), (23, [0], [1], 12), (0, [3], [], 328), (31, [2], [], 0), (1250, [2, 0, 1], [0, 1], 0), (90, [2], [], 0), (91, [2], [], 1), (6000, [0, 1], [0], 0), (0, [0], [], 285), (90, [1], [], -2147483648), (91, [1], [], 2147483647)], (3000, [9], [1], 29))
theorem c_305w_s_4 : vOkm T0 (eN e_305 L_305w A_305 mu_305 n_305 B_305 none) 2 g_305w_s_4 := vOk_inI fun ρ η f0 f1 f2 f3 f4 f5 f6 f7 f8 f9 f10 f11 f12 f13 f14 f15 f16 f17 f18 f19 f20 f21 f22 f23 f24 => q_305w_4 (n0 := ρ 1) (n1 := ρ 0) (n2 := ρ 2) (n3 := ρ 3) (n4 := ρ 4) (n5 := ρ 5) (n6 := ρ 6) (n7 := ρ 7) (n8 := ρ 8) (n9 := ρ 9) (H0 := η 0) (H1 := η 1) f24 f23 f22 f21 f20 f19 f18 f17 f16 f15 f14 f13 f12 f11 f10 f9 f8 f7 f6 f5 f4 f3 f2 f1 f0
def p_305w_s : List vG := [g_305w_s_0,
  g_305w_s_1,
  g_305w_s_2,
  g_305w_s_3,
  g_305w_s_4]
theorem r_305w_s : vCovBO (eR0 e_305 L_305 cs_305 2000) p_305w_s = true := by decide +kernel
theorem m_305w (d : Nat) : eC e_305w (d + 2) := eC_ref (e := e_305) (L := L_305) (L' := L_305w) (cs := cs_305) (n := 2000) (d := d + 1) (A := A_305) (μ := mu_305) (tp := true) (p0 := p_305_s) (p1 := p_305w_s) (N := n_305) (B := B_305) rfl ⟨m_250 d, trivial⟩ rfl (.inl rfl) (by decide +kernel) (fun _ => post0_ok) r_305_s (allC c_305_s_0 (allC c_305_s_1 (allC c_305_s_2 (allC c_305_s_3 (allC c_305_s_4 (allC c_305_s_5 allN)))))) allN (sub0 trivial) r_305w_s (allC c_305w_s_0 (allC c_305w_s_1 (allC c_305w_s_2 (allC c_305w_s_3 (allC c_305w_s_4 allN))))) allN
