/-! CONTRACTS of methods told more fully. -/
/- MixStageModel.quarrel (II)I, more fully -/
def nb_300 (r a0 a1 a2 : Int) (h0 h : gH) : Prop := (¬ ((0 ≤ a1 ∧ a1 < hV h0 285 18) ∧ 0 ≤ a2) → r = -1) ∧ ((0 ≤ a1 ∧ a1 < hV h0 285 18) → 0 ≤ a2 → r = qAns (nwL h0 (hV h0 340) (flS (hV h0 296) (hV h0 298) (hV h0 300) (hV h0 301) (hV h0 302) (hV h0 340) (7 * (a1).toNat) 7 6 0)) a2)
def n_300 : List Int → gH → gH → Prop := fun xs h0 h => match xs with
  | [r, a0, a1, a2] => nb_300 r a0 a1 a2 h0 h
  | _ => True
noncomputable def e_300w : vE := eV e_300 n_300
noncomputable def L_300w : List vE := [e_270w, e_271w, e_272w, e_282]
def Bb_300_24 (a0 a1 a2 x0 x1 x2 x3 x4 : Int) (h0 h : gH) : Prop := ((0 ≤ a1 ∧ a1 < hV h0 285 18) ∧ 0 ≤ a2) ∧ xsL (hV h 344) (hV h 345) (hV h 285 82) = (flS (hV h0 296) (hV h0 298) (hV h0 300) (hV h0 301) (hV h0 302) (hV h0 340) (7 * (a1).toNat) 7 6 0) ∧ QO (nwL h0 (hV h0 340) (flS (hV h0 296) (hV h0 298) (hV h0 300) (hV h0 301) (hV h0 302) (hV h0 340) (7 * (a1).toNat) 7 6 0)) x4 x3 (qAns (nwL h0 (hV h0 340) (flS (hV h0 296) (hV h0 298) (hV h0 300) (hV h0 301) (hV h0 302) (hV h0 340) (7 * (a1).toNat) 7 6 0)) a2)
def Bb_300_39 (a0 a1 a2 x0 x1 x2 x3 x4 x5 : Int) (h0 h : gH) : Prop := ((0 ≤ a1 ∧ a1 < hV h0 285 18) ∧ 0 ≤ a2) ∧ xsL (hV h 344) (hV h 345) (hV h 285 82) = (flS (hV h0 296) (hV h0 298) (hV h0 300) (hV h0 301) (hV h0 302) (hV h0 340) (7 * (a1).toNat) 7 6 0) ∧ QI (nwL h0 (hV h0 340) (flS (hV h0 296) (hV h0 298) (hV h0 300) (hV h0 301) (hV h0 302) (hV h0 340) (7 * (a1).toNat) 7 6 0)) x4 x5 x3 (qAns (nwL h0 (hV h0 340) (flS (hV h0 296) (hV h0 298) (hV h0 300) (hV h0 301) (hV h0 302) (hV h0 340) (7 * (a1).toNat) 7 6 0)) a2)
def B_300 : Int → List Int → gH → gH → Prop := fun c xs h0 h => match c.toNat with
  | 24 => (match xs with
    | [a0, a1, a2, x0, x1, x2, x3, x4] => Bb_300_24 a0 a1 a2 x0 x1 x2 x3 x4 h0 h
    | _ => False)
  | 39 => (match xs with
    | [a0, a1, a2, x0, x1, x2, x3, x4, x5] => Bb_300_39 a0 a1 a2 x0 x1 x2 x3 x4 x5 h0 h
    | _ => False)
  | _ => True
theorem q_300w_0 {n0 n1 n2 n3 n4 : Int} {H0 H1 : gH} (f0 : n0 ≤ 2147483647) (f1 : (-2147483648) ≤ n0) (f2 : n1 ≤ 2147483647) (f3 : (-2147483648) ≤ n1) (f4 : n2 = 285) (f5 : hWt T0 H0 ∧ preb_300 n2 n1 n0 H0) (f6 : n3 ≤ 1) (f7 : 0 ≤ n3) (f8 : (hLe T0 H0 H1 ∧ hFr s_282.2.2.2.2 H0 H1 ∧ ((0 : Int) = 0 → H1.length = H0.length) ∧ hWt T0 H1) ∧ postb_282 n3 n2 n1 H0 H1) (f9 : n3 = 0) (f10 : n4 = (-1)) : nb_300 n4 n2 n1 n0 H0 H1 := by
  unfold nb_300
  have si := f8.2
  unfold postb_282 at si
  have s18 : hV H1 285 18 = hV H0 285 18 := f8.1.2.1.1 285 18 (by decide +kernel)
  have q9 := f9
  have k4 := f4
  have k10 := f10
  exact ⟨fun _ => by omega, fun w v => by exfalso; omega⟩
def g_300w_s_0 : vG := ([(0, [4], [], -1), (30, [3], [], 0), (1282, [3, 0, 1], [0, 1], 0), (90, [3], [], 0), (91, [3], [], 1), (6000, [0, 1, 2], [0], 0), (0, [0], [], 285), (90, [1], [], -2147483648), (91, [1], [], 2147483647), (90, [2], [], -2147483648), (91, [2], [], 2147483647)], (3000, [4], [1], 13))
theorem c_300w_s_0 : vOkm T0 (eN e_300 L_300w A_300 mu_300 n_300 B_300 none) 3 g_300w_s_0 := vOk_inI fun ρ η f0 f1 f2 f3 f4 f5 f6 f7 f8 f9 f10 => q_300w_0 (n0 := ρ 2) (n1 := ρ 1) (n2 := ρ 0) (n3 := ρ 3) (n4 := ρ 4) (H0 := η 0) (H1 := η 1) f10 f9 f8 f7 f6 f5 f4 f3 f2 f1 f0
theorem q_300w_1 {n0 n1 n2 n3 n4 : Int} {H0 H1 H2 : gH} (f0 : n0 ≤ 2147483647) (f1 : (-2147483648) ≤ n0) (f2 : n1 ≤ 2147483647) (f3 : (-2147483648) ≤ n1) (f4 : n2 = 285) (f5 : hWt T0 H0 ∧ preb_300 n2 n1 n0 H0) (f6 : n3 ≤ 1) (f7 : 0 ≤ n3) (f8 : (hLe T0 H0 H1 ∧ hFr s_282.2.2.2.2 H0 H1 ∧ ((0 : Int) = 0 → H1.length = H0.length) ∧ hWt T0 H1) ∧ postb_282 n3 n2 n1 H0 H1) (f9 : n3 ≠ 0) (f10 : 0 ≤ n0) (f11 : (hLe T0 H1 H2 ∧ hFr s_270.2.2.2.2 H1 H2 ∧ ((0 : Int) = 0 → H2.length = H1.length) ∧ hWt T0 H2) ∧ (postb_270 n2 n1 H1 H2 ∧ nb_270 n2 n1 H1 H2)) (f12 : n4 = 0) : Bb_300_24 n2 n1 n0 n2 n1 n0 n0 n4 H0 H2 := by
  unfold Bb_300_24
  have si := f8.2
  unfold postb_282 at si
  have s18 : hV H1 285 18 = hV H0 285 18 := f8.1.2.1.1 285 18 (by decide +kernel)
  have q9 := f9
  have q10 := f10
  have k4 := f4
  have k12 := f12
  have un := f11.2.2
  unfold nb_270 at un
  rw [show hV H1 296 = hV H0 296 from fRow f8.1.2.1 296 (by decide +kernel)] at un
  rw [show hV H1 298 = hV H0 298 from fRow f8.1.2.1 298 (by decide +kernel)] at un
  rw [show hV H1 300 = hV H0 300 from fRow f8.1.2.1 300 (by decide +kernel)] at un
  rw [show hV H1 301 = hV H0 301 from fRow f8.1.2.1 301 (by decide +kernel)] at un
  rw [show hV H1 302 = hV H0 302 from fRow f8.1.2.1 302 (by decide +kernel)] at un
  rw [show hV H1 340 = hV H0 340 from fRow f8.1.2.1 340 (by decide +kernel)] at un
  have s0 : 0 ≤ n1 ∧ n1 < hV H0 285 18 := by omega
  exact ⟨⟨s0, by omega⟩, un, QO_0 (by omega) (by omega)⟩
def g_300w_s_1 : vG := ([(0, [4], [], 0), (1270, [0, 1], [1, 2], 0), (33, [2], [], 0), (31, [3], [], 0), (1282, [3, 0, 1], [0, 1], 0), (90, [3], [], 0), (91, [3], [], 1), (6000, [0, 1, 2], [0], 0), (0, [0], [], 285), (90, [1], [], -2147483648), (91, [1], [], 2147483647), (90, [2], [], -2147483648), (91, [2], [], 2147483647)], (4000, [0, 1, 2, 2, 4], [2], 24))
theorem c_300w_s_1 : vOkm T0 (eN e_300 L_300w A_300 mu_300 n_300 B_300 none) 3 g_300w_s_1 := vOk_inI fun ρ η f0 f1 f2 f3 f4 f5 f6 f7 f8 f9 f10 f11 f12 => q_300w_1 (n0 := ρ 2) (n1 := ρ 1) (n2 := ρ 0) (n3 := ρ 3) (n4 := ρ 4) (H0 := η 0) (H1 := η 1) (H2 := η 2) f12 f11 f10 f9 f8 f7 f6 f5 f4 f3 f2 f1 f0
theorem q_300w_2 {n0 n1 n2 n3 n4 : Int} {H0 H1 : gH} (f0 : n0 ≤ 2147483647) (f1 : (-2147483648) ≤ n0) (f2 : n1 ≤ 2147483647) (f3 : (-2147483648) ≤ n1) (f4 : n2 = 285) (f5 : hWt T0 H0 ∧ preb_300 n2 n1 n0 H0) (f6 : n3 ≤ 1) (f7 : 0 ≤ n3) (f8 : (hLe T0 H0 H1 ∧ hFr s_282.2.2.2.2 H0 H1 ∧ ((0 : Int) = 0 → H1.length = H0.length) ∧ hWt T0 H1) ∧ postb_282 n3 n2 n1 H0 H1) (f9 : n3 ≠ 0) (f10 : n0 < 0) (f11 : n4 = (-1)) : nb_300 n4 n2 n1 n0 H0 H1 := by
  unfold nb_300
  have si := f8.2
  unfold postb_282 at si
  have s18 : hV H1 285 18 = hV H0 285 18 := f8.1.2.1.1 285 18 (by decide +kernel)
  have q9 := f9
  have q10 := f10
  have k4 := f4
  have k11 := f11
  exact ⟨fun _ => by omega, fun w v => by exfalso; omega⟩
def g_300w_s_2 : vG := ([(0, [4], [], -1), (32, [2], [], 0), (31, [3], [], 0), (1282, [3, 0, 1], [0, 1], 0), (90, [3], [], 0), (91, [3], [], 1), (6000, [0, 1, 2], [0], 0), (0, [0], [], 285), (90, [1], [], -2147483648), (91, [1], [], 2147483647), (90, [2], [], -2147483648), (91, [2], [], 2147483647)], (3000, [4], [1], 13))
theorem c_300w_s_2 : vOkm T0 (eN e_300 L_300w A_300 mu_300 n_300 B_300 none) 3 g_300w_s_2 := vOk_inI fun ρ η f0 f1 f2 f3 f4 f5 f6 f7 f8 f9 f10 f11 => q_300w_2 (n0 := ρ 2) (n1 := ρ 1) (n2 := ρ 0) (n3 := ρ 3) (n4 := ρ 4) (H0 := η 0) (H1 := η 1) f11 f10 f9 f8 f7 f6 f5 f4 f3 f2 f1 f0
def p_300w_s : List vG := [g_300w_s_0,
  g_300w_s_1,
  g_300w_s_2]
theorem r_300w_s : vCovBO (eR0 e_300 L_300 cs_300 2000) p_300w_s = true := by decide +kernel
theorem q_300w_3 {q0 : Nat} {n0 n1 n2 n3 n4 n5 n6 n7 n8 n9 : Int} {H0 H1 : gH} (f0 : n0 ≤ 40) (f1 : 0 ≤ n0) (f2 : n1 ≤ 2147483647) (f3 : (-2147483648) ≤ n1) (f4 : n2 ≤ 2147483647) (f5 : (-2147483648) ≤ n2) (f6 : n3 ≤ 2147483647) (f7 : (-2147483648) ≤ n3) (f8 : n4 = 285) (f9 : n5 ≤ 2147483647) (f10 : (-2147483648) ≤ n5) (f11 : n6 ≤ 2147483647) (f12 : (-2147483648) ≤ n6) (f13 : n7 = 285) (f14 : (hLe T0 H0 H1 ∧ hFr s_300.2.2.2.2 H0 H1 ∧ hWt T0 H1) ∧ ((Ab_300_24 n7 n6 n5 n4 n3 n2 n1 n0 H0 H1 ∧ Bb_300_24 n7 n6 n5 n4 n3 n2 n1 n0 H0 H1) ∧ preb_300 n7 n6 n5 H0) ∧ some q0 = some (mub_300_24 n7 n6 n5 n4 n3 n2 n1 n0 H0 H1)) (f15 : n8 ≤ 40) (f16 : 0 ≤ n8) (f17 : hK H1 (n4).toNat = 12) (f18 : n8 = hV H1 (n4).toNat 82) (f19 : n8 ≤ n0) (f20 : n9 = (-1)) : nb_300 n9 n7 n6 n5 H0 H1 := by
  unfold nb_300
  have gb := f14.2.1.1.2
  unfold Bb_300_24 at gb
  obtain ⟨va, ex, qq⟩ := gb
  have q19 := f19
  have k8 := f8
  have k13 := f13
  have k20 := f20
  have ln := congrArg List.length ex
  rw [xsL_len] at ln
  have ll : ((nwL H0 (hV H0 340) (flS (hV H0 296) (hV H0 298) (hV H0 300) (hV H0 301) (hV H0 302) (hV H0 340) (7 * (n6).toNat) 7 6 0))).length = (flS (hV H0 296) (hV H0 298) (hV H0 300) (hV H0 301) (hV H0 302) (hV H0 340) (7 * (n6).toNat) 7 6 0).length := nwL_len
  have d18 := rdS (q := 285) f18 f8
  have rg15 := f15
  have rg16 := f16
  exact ⟨fun w => absurd va w, fun _ _ => by
    rw [QO_end qq (by omega)]
    omega⟩
def g_300w_24_0 : vG := ([(0, [9], [], -1), (43, [7, 8], [], 0), (20, [8, 3], [1], 82), (23, [3], [1], 12), (90, [8], [], 0), (91, [8], [], 40), (5000, [0, 1, 2, 3, 4, 5, 6, 7], [0, 1], 24), (0, [0], [], 285), (90, [1], [], -2147483648), (91, [1], [], 2147483647), (90, [2], [], -2147483648), (91, [2], [], 2147483647), (0, [3], [], 285), (90, [4], [], -2147483648), (91, [4], [], 2147483647), (90, [5], [], -2147483648), (91, [5], [], 2147483647), (90, [6], [], -2147483648), (91, [6], [], 2147483647), (90, [7], [], 0), (91, [7], [], 40)], (3000, [9], [1], 197))
theorem c_300w_24_0 {q0 : Nat} : vOkm T0 (eN e_300 L_300w A_300 mu_300 n_300 B_300 (some q0)) 3 g_300w_24_0 := vOk_inI fun ρ η f0 f1 f2 f3 f4 f5 f6 f7 f8 f9 f10 f11 f12 f13 f14 f15 f16 f17 f18 f19 f20 => q_300w_3 (q0 := q0) (n0 := ρ 7) (n1 := ρ 6) (n2 := ρ 5) (n3 := ρ 4) (n4 := ρ 3) (n5 := ρ 2) (n6 := ρ 1) (n7 := ρ 0) (n8 := ρ 8) (n9 := ρ 9) (H0 := η 0) (H1 := η 1) f20 f19 f18 f17 f16 f15 f14 f13 f12 f11 f10 f9 f8 f7 f6 f5 f4 f3 f2 f1 f0
theorem q_300w_4 {q0 : Nat} {n0 n1 n2 n3 n4 n5 n6 n7 n8 n9 n10 : Int} {H0 H1 : gH} (f0 : n0 ≤ 40) (f1 : 0 ≤ n0) (f2 : n1 ≤ 2147483647) (f3 : (-2147483648) ≤ n1) (f4 : n2 ≤ 2147483647) (f5 : (-2147483648) ≤ n2) (f6 : n3 ≤ 2147483647) (f7 : (-2147483648) ≤ n3) (f8 : n4 = 285) (f9 : n5 ≤ 2147483647) (f10 : (-2147483648) ≤ n5) (f11 : n6 ≤ 2147483647) (f12 : (-2147483648) ≤ n6) (f13 : n7 = 285) (f14 : (hLe T0 H0 H1 ∧ hFr s_300.2.2.2.2 H0 H1 ∧ hWt T0 H1) ∧ ((Ab_300_24 n7 n6 n5 n4 n3 n2 n1 n0 H0 H1 ∧ Bb_300_24 n7 n6 n5 n4 n3 n2 n1 n0 H0 H1) ∧ preb_300 n7 n6 n5 H0) ∧ some q0 = some (mub_300_24 n7 n6 n5 n4 n3 n2 n1 n0 H0 H1)) (f15 : n8 ≤ 40) (f16 : 0 ≤ n8) (f17 : hK H1 (n4).toNat = 12) (f18 : n8 = hV H1 (n4).toNat 82) (f19 : n0 < n8) (f20 : n9 = 1) (f21 : n10 = w32 (n0 + n9)) : Bb_300_39 n7 n6 n5 n4 n3 n2 n1 n0 n10 H0 H1 := by
  unfold Bb_300_39
  have gb := f14.2.1.1.2
  unfold Bb_300_24 at gb
  obtain ⟨va, ex, qq⟩ := gb
  have q19 := f19
  have k8 := f8
  have k13 := f13
  have k20 := f20
  have ln := congrArg List.length ex
  rw [xsL_len] at ln
  have ll : ((nwL H0 (hV H0 340) (flS (hV H0 296) (hV H0 298) (hV H0 300) (hV H0 301) (hV H0 302) (hV H0 340) (7 * (n6).toNat) 7 6 0))).length = (flS (hV H0 296) (hV H0 298) (hV H0 300) (hV H0 301) (hV H0 302) (hV H0 340) (7 * (n6).toNat) 7 6 0).length := nwL_len
  have w21 := f21
  unfold w32 at w21
  have d18 := rdS (q := 285) f18 f8
  have rg15 := f15
  have rg16 := f16
  have q1 := qq.2.1
  exact ⟨va, ex, QO_in qq (by omega) (by omega)⟩
def g_300w_24_1 : vG := ([(1, [10, 7, 9], [], 0), (0, [9], [], 1), (42, [7, 8], [], 0), (20, [8, 3], [1], 82), (23, [3], [1], 12), (90, [8], [], 0), (91, [8], [], 40), (5000, [0, 1, 2, 3, 4, 5, 6, 7], [0, 1], 24), (0, [0], [], 285), (90, [1], [], -2147483648), (91, [1], [], 2147483647), (90, [2], [], -2147483648), (91, [2], [], 2147483647), (0, [3], [], 285), (90, [4], [], -2147483648), (91, [4], [], 2147483647), (90, [5], [], -2147483648), (91, [5], [], 2147483647), (90, [6], [], -2147483648), (91, [6], [], 2147483647), (90, [7], [], 0), (91, [7], [], 40)], (4000, [3, 4, 5, 6, 7, 10], [1], 39))
theorem c_300w_24_1 {q0 : Nat} : vOkm T0 (eN e_300 L_300w A_300 mu_300 n_300 B_300 (some q0)) 3 g_300w_24_1 := vOk_inI fun ρ η f0 f1 f2 f3 f4 f5 f6 f7 f8 f9 f10 f11 f12 f13 f14 f15 f16 f17 f18 f19 f20 f21 => q_300w_4 (q0 := q0) (n0 := ρ 7) (n1 := ρ 6) (n2 := ρ 5) (n3 := ρ 4) (n4 := ρ 3) (n5 := ρ 2) (n6 := ρ 1) (n7 := ρ 0) (n8 := ρ 8) (n9 := ρ 9) (n10 := ρ 10) (H0 := η 0) (H1 := η 1) f21 f20 f19 f18 f17 f16 f15 f14 f13 f12 f11 f10 f9 f8 f7 f6 f5 f4 f3 f2 f1 f0
def p_300w_24 : List vG := [g_300w_24_0,
  g_300w_24_1]
theorem r_300w_24 : vCovBO (eRc e_300 L_300 cs_300 2000 (24, [(0, (3, 12, 285, 0)), (1, (0, -2147483648, 2147483647, 0)), (2, (0, -2147483648, 2147483647, 0)), (3, (0, -2147483648, 2147483647, 0)), (4, (0, 0, 40, 0))])) p_300w_24 = true := by decide +kernel
theorem q_300w_5 {q0 : Nat} {n0 n1 n2 n3 n4 n5 n6 n7 n8 n9 n10 : Int} {H0 H1 : gH} (f0 : n0 ≤ 40) (f1 : 0 ≤ n0) (f2 : n1 ≤ 39) (f3 : 0 ≤ n1) (f4 : n2 ≤ 2147483647) (f5 : (-2147483648) ≤ n2) (f6 : n3 ≤ 2147483647) (f7 : (-2147483648) ≤ n3) (f8 : n4 ≤ 2147483647) (f9 : (-2147483648) ≤ n4) (f10 : n5 = 285) (f11 : n6 ≤ 2147483647) (f12 : (-2147483648) ≤ n6) (f13 : n7 ≤ 2147483647) (f14 : (-2147483648) ≤ n7) (f15 : n8 = 285) (f16 : (hLe T0 H0 H1 ∧ hFr s_300.2.2.2.2 H0 H1 ∧ hWt T0 H1) ∧ ((Ab_300_39 n8 n7 n6 n5 n4 n3 n2 n1 n0 H0 H1 ∧ Bb_300_39 n8 n7 n6 n5 n4 n3 n2 n1 n0 H0 H1) ∧ preb_300 n8 n7 n6 H0) ∧ some q0 = some (mub_300_39 n8 n7 n6 n5 n4 n3 n2 n1 n0 H0 H1)) (f17 : n9 ≤ 40) (f18 : 0 ≤ n9) (f19 : hK H1 (n5).toNat = 12) (f20 : n9 = hV H1 (n5).toNat 82) (f21 : n9 ≤ n0) (f22 : n10 = w32 (n1 + 1)) : Bb_300_24 n8 n7 n6 n5 n4 n3 n2 n10 H0 H1 := by
  unfold Bb_300_24
  have gb := f16.2.1.1.2
  unfold Bb_300_39 at gb
  obtain ⟨va, ex, qq⟩ := gb
  have q21 := f21
  have q22 := f22
  unfold w32 at q22
  have k10 := f10
  have k15 := f15
  have ln := congrArg List.length ex
  rw [xsL_len] at ln
  have ll : ((nwL H0 (hV H0 340) (flS (hV H0 296) (hV H0 298) (hV H0 300) (hV H0 301) (hV H0 302) (hV H0 340) (7 * (n7).toNat) 7 6 0))).length = (flS (hV H0 296) (hV H0 298) (hV H0 300) (hV H0 301) (hV H0 302) (hV H0 340) (7 * (n7).toNat) 7 6 0).length := nwL_len
  have w22 := f22
  unfold w32 at w22
  have d20 := rdS (q := 285) f20 f10
  have rg17 := f17
  have rg18 := f18
  have qc := qq
  obtain ⟨q1, q2, q3, q4, q5⟩ := qc
  exact ⟨va, ex, QI_end qq (by omega) (by omega)⟩
def g_300w_39_0 : vG := ([(10, [10, 7], [], 1), (43, [8, 9], [], 0), (20, [9, 3], [1], 82), (23, [3], [1], 12), (90, [9], [], 0), (91, [9], [], 40), (5000, [0, 1, 2, 3, 4, 5, 6, 7, 8], [0, 1], 39), (0, [0], [], 285), (90, [1], [], -2147483648), (91, [1], [], 2147483647), (90, [2], [], -2147483648), (91, [2], [], 2147483647), (0, [3], [], 285), (90, [4], [], -2147483648), (91, [4], [], 2147483647), (90, [5], [], -2147483648), (91, [5], [], 2147483647), (90, [6], [], -2147483648), (91, [6], [], 2147483647), (90, [7], [], 0), (91, [7], [], 39), (90, [8], [], 0), (91, [8], [], 40)], (4000, [3, 4, 5, 6, 10], [1], 24))
theorem c_300w_39_0 {q0 : Nat} : vOkm T0 (eN e_300 L_300w A_300 mu_300 n_300 B_300 (some q0)) 3 g_300w_39_0 := vOk_inI fun ρ η f0 f1 f2 f3 f4 f5 f6 f7 f8 f9 f10 f11 f12 f13 f14 f15 f16 f17 f18 f19 f20 f21 f22 => q_300w_5 (q0 := q0) (n0 := ρ 8) (n1 := ρ 7) (n2 := ρ 6) (n3 := ρ 5) (n4 := ρ 4) (n5 := ρ 3) (n6 := ρ 2) (n7 := ρ 1) (n8 := ρ 0) (n9 := ρ 9) (n10 := ρ 10) (H0 := η 0) (H1 := η 1) f22 f21 f20 f19 f18 f17 f16 f15 f14 f13 f12 f11 f10 f9 f8 f7 f6 f5 f4 f3 f2 f1 f0
theorem q_300w_6 {q0 : Nat} {n0 n1 n2 n3 n4 n5 n6 n7 n8 n9 n10 n11 n12 n13 n14 n15 : Int} {H0 H1 : gH} (f0 : n0 ≤ 40) (f1 : 0 ≤ n0) (f2 : n1 ≤ 39) (f3 : 0 ≤ n1) (f4 : n2 ≤ 2147483647) (f5 : (-2147483648) ≤ n2) (f6 : n3 ≤ 2147483647) (f7 : (-2147483648) ≤ n3) (f8 : n4 ≤ 2147483647) (f9 : (-2147483648) ≤ n4) (f10 : n5 = 285) (f11 : n6 ≤ 2147483647) (f12 : (-2147483648) ≤ n6) (f13 : n7 ≤ 2147483647) (f14 : (-2147483648) ≤ n7) (f15 : n8 = 285) (f16 : (hLe T0 H0 H1 ∧ hFr s_300.2.2.2.2 H0 H1 ∧ hWt T0 H1) ∧ ((Ab_300_39 n8 n7 n6 n5 n4 n3 n2 n1 n0 H0 H1 ∧ Bb_300_39 n8 n7 n6 n5 n4 n3 n2 n1 n0 H0 H1) ∧ preb_300 n8 n7 n6 H0) ∧ some q0 = some (mub_300_39 n8 n7 n6 n5 n4 n3 n2 n1 n0 H0 H1)) (f17 : n9 ≤ 40) (f18 : 0 ≤ n9) (f19 : hK H1 (n5).toNat = 12) (f20 : n9 = hV H1 (n5).toNat 82) (f21 : n0 < n9) (f22 : n10 = 298) (f23 : hK H1 (n5).toNat = 12) (f24 : n10 = hV H1 (n5).toNat 24) (f25 : n11 = 344) (f26 : hK H1 (n5).toNat = 12) (f27 : n11 = hV H1 (n5).toNat 83) (f28 : n12 ≤ 1007) (f29 : 0 ≤ n12) (f30 : n12 = hV H1 (n11).toNat (n1).toNat) (f31 : n13 ≤ 5) (f32 : 0 ≤ n13) (f33 : n13 = hV H1 (n10).toNat (n12).toNat) (f34 : n14 = 1) (f35 : n13 ≠ n14) (f36 : n15 = w32 (n0 + 1)) : Bb_300_39 n8 n7 n6 n5 n4 n3 n2 n1 n15 H0 H1 := by
  unfold Bb_300_39
  have gb := f16.2.1.1.2
  unfold Bb_300_39 at gb
  obtain ⟨va, ex, qq⟩ := gb
  have q21 := f21
  have q35 := f35
  have qc34 := f34
  have q36 := f36
  unfold w32 at q36
  have k10 := f10
  have k15 := f15
  have k22 := f22
  have k25 := f25
  have k34 := f34
  have ln := congrArg List.length ex
  rw [xsL_len] at ln
  have ll : ((nwL H0 (hV H0 340) (flS (hV H0 296) (hV H0 298) (hV H0 300) (hV H0 301) (hV H0 302) (hV H0 340) (7 * (n7).toNat) 7 6 0))).length = (flS (hV H0 296) (hV H0 298) (hV H0 300) (hV H0 301) (hV H0 302) (hV H0 340) (7 * (n7).toNat) 7 6 0).length := nwL_len
  have w36 := f36
  unfold w32 at w36
  have d20 := rdS (q := 285) f20 f10
  have d30 := rdW (q := 344) f30 f25
  have d33 := rdW (q := 298) f33 f22
  have rg17 := f17
  have rg18 := f18
  have qc := qq
  obtain ⟨q1, q2, q3, q4, q5⟩ := qc
  obtain ⟨p0_, hp0⟩ : ∃ p, (flS (hV H0 296) (hV H0 298) (hV H0 300) (hV H0 301) (hV H0 302) (hV H0 340) (7 * (n7).toNat) 7 6 0)[(n1).toNat]? = some p := ⟨_, List.getElem?_eq_getElem (by omega)⟩
  have xa0 := xsL_at ex hp0
  have g0_ := nwL_at (h := H0) (mk := hV H0 340) hp0
  obtain ⟨p1_, hp1⟩ : ∃ p, (flS (hV H0 296) (hV H0 298) (hV H0 300) (hV H0 301) (hV H0 302) (hV H0 340) (7 * (n7).toNat) 7 6 0)[(n0).toNat]? = some p := ⟨_, List.getElem?_eq_getElem (by omega)⟩
  have xa1 := xsL_at ex hp1
  have g1_ := nwL_at (h := H0) (mk := hV H0 340) hp1
  have b298 : hV H1 298 = hV H0 298 := fRow f16.1.2.1 298 (by decide +kernel)
  have b300 : hV H1 300 = hV H0 300 := fRow f16.1.2.1 300 (by decide +kernel)
  have b301 : hV H1 301 = hV H0 301 := fRow f16.1.2.1 301 (by decide +kernel)
  have b302 : hV H1 302 = hV H0 302 := fRow f16.1.2.1 302 (by decide +kernel)
  have b303 : hV H1 303 = hV H0 303 := fRow f16.1.2.1 303 (by decide +kernel)
  have b304 : hV H1 304 = hV H0 304 := fRow f16.1.2.1 304 (by decide +kernel)
  have b340 : hV H1 340 = hV H0 340 := fRow f16.1.2.1 340 (by decide +kernel)
  have e30 : (n12).toNat = p0_.1 := by
    rw [d30]
    exact xa0.1
  have y33 : n13 = hV H0 298 p0_.1 := by
    rw [d33, e30, b298]
  exact ⟨va, ex, QI_no qq (by omega) (by rw [g0_, g1_]; exact qrN_k1 (show ¬ (nowR (hV H0 340) (recR H0 p0_.1, p0_.2)).1 = 1 from (by rw [nwR_k]; omega))) (by omega)⟩
def g_300w_39_1 : vG := ([(10, [15, 8], [], 1), (41, [13, 14], [], 0), (0, [14], [], 1), (22, [13, 10, 12], [1], 0), (90, [13], [], 0), (91, [13], [], 5), (22, [12, 11, 7], [1], 0), (90, [12], [], 0), (91, [12], [], 1007), (20, [11, 3], [1], 83), (23, [3], [1], 12), (0, [11], [], 344), (20, [10, 3], [1], 24), (23, [3], [1], 12), (0, [10], [], 298), (42, [8, 9], [], 0), (20, [9, 3], [1], 82), (23, [3], [1], 12), (90, [9], [], 0), (91, [9], [], 40), (5000, [0, 1, 2, 3, 4, 5, 6, 7, 8], [0, 1], 39), (0, [0], [], 285), (90, [1], [], -2147483648), (91, [1], [], 2147483647), (90, [2], [], -2147483648), (91, [2], [], 2147483647), (0, [3], [], 285), (90, [4], [], -2147483648), (91, [4], [], 2147483647), (90, [5], [], -2147483648), (91, [5], [], 2147483647), (90, [6], [], -2147483648), (91, [6], [], 2147483647), (90, [7], [], 0), (91, [7], [], 39), (90, [8], [], 0), (91, [8], [], 40)], (4000, [3, 4, 5, 6, 7, 15], [1], 39))
theorem c_300w_39_1 {q0 : Nat} : vOkm T0 (eN e_300 L_300w A_300 mu_300 n_300 B_300 (some q0)) 3 g_300w_39_1 := vOk_inI fun ρ η f0 f1 f2 f3 f4 f5 f6 f7 f8 f9 f10 f11 f12 f13 f14 f15 f16 f17 f18 f19 f20 f21 f22 f23 f24 f25 f26 f27 f28 f29 f30 f31 f32 f33 f34 f35 f36 => q_300w_6 (q0 := q0) (n0 := ρ 8) (n1 := ρ 7) (n2 := ρ 6) (n3 := ρ 5) (n4 := ρ 4) (n5 := ρ 3) (n6 := ρ 2) (n7 := ρ 1) (n8 := ρ 0) (n9 := ρ 9) (n10 := ρ 10) (n11 := ρ 11) (n12 := ρ 12) (n13 := ρ 13) (n14 := ρ 14) (n15 := ρ 15) (H0 := η 0) (H1 := η 1) f36 f35 f34 f33 f32 f31 f30 f29 f28 f27 f26 f25 f24 f23 f22 f21 f20 f19 f18 f17 f16 f15 f14 f13 f12 f11 f10 f9 f8 f7 f6 f5 f4 f3 f2 f1 f0
theorem q_300w_7 {q0 : Nat} {n0 n1 n2 n3 n4 n5 n6 n7 n8 n9 n10 n11 n12 n13 n14 n15 n16 n17 n18 n19 n20 : Int} {H0 H1 : gH} (f0 : n0 ≤ 40) (f1 : 0 ≤ n0) (f2 : n1 ≤ 39) (f3 : 0 ≤ n1) (f4 : n2 ≤ 2147483647) (f5 : (-2147483648) ≤ n2) (f6 : n3 ≤ 2147483647) (f7 : (-2147483648) ≤ n3) (f8 : n4 ≤ 2147483647) (f9 : (-2147483648) ≤ n4) (f10 : n5 = 285) (f11 : n6 ≤ 2147483647) (f12 : (-2147483648) ≤ n6) (f13 : n7 ≤ 2147483647) (f14 : (-2147483648) ≤ n7) (f15 : n8 = 285) (f16 : (hLe T0 H0 H1 ∧ hFr s_300.2.2.2.2 H0 H1 ∧ hWt T0 H1) ∧ ((Ab_300_39 n8 n7 n6 n5 n4 n3 n2 n1 n0 H0 H1 ∧ Bb_300_39 n8 n7 n6 n5 n4 n3 n2 n1 n0 H0 H1) ∧ preb_300 n8 n7 n6 H0) ∧ some q0 = some (mub_300_39 n8 n7 n6 n5 n4 n3 n2 n1 n0 H0 H1)) (f17 : n9 ≤ 40) (f18 : 0 ≤ n9) (f19 : hK H1 (n5).toNat = 12) (f20 : n9 = hV H1 (n5).toNat 82) (f21 : n0 < n9) (f22 : n10 = 298) (f23 : hK H1 (n5).toNat = 12) (f24 : n10 = hV H1 (n5).toNat 24) (f25 : n11 = 344) (f26 : hK H1 (n5).toNat = 12) (f27 : n11 = hV H1 (n5).toNat 83) (f28 : n12 ≤ 1007) (f29 : 0 ≤ n12) (f30 : n12 = hV H1 (n11).toNat (n1).toNat) (f31 : n13 ≤ 5) (f32 : 0 ≤ n13) (f33 : n13 = hV H1 (n10).toNat (n12).toNat) (f34 : n14 = 1) (f35 : n13 = n14) (f36 : n15 = 298) (f37 : hK H1 (n5).toNat = 12) (f38 : n15 = hV H1 (n5).toNat 24) (f39 : n16 = 344) (f40 : hK H1 (n5).toNat = 12) (f41 : n16 = hV H1 (n5).toNat 83) (f42 : n17 ≤ 1007) (f43 : 0 ≤ n17) (f44 : n17 = hV H1 (n16).toNat (n0).toNat) (f45 : n18 ≤ 5) (f46 : 0 ≤ n18) (f47 : n18 = hV H1 (n15).toNat (n17).toNat) (f48 : n19 = 1) (f49 : n18 ≠ n19) (f50 : n20 = w32 (n0 + 1)) : Bb_300_39 n8 n7 n6 n5 n4 n3 n2 n1 n20 H0 H1 := by
  unfold Bb_300_39
  have gb := f16.2.1.1.2
  unfold Bb_300_39 at gb
  obtain ⟨va, ex, qq⟩ := gb
  have q21 := f21
  have q35 := f35
  have qc34 := f34
  have q49 := f49
  have qc48 := f48
  have q50 := f50
  unfold w32 at q50
  have k10 := f10
  have k15 := f15
  have k22 := f22
  have k25 := f25
  have k34 := f34
  have k36 := f36
  have k39 := f39
  have k48 := f48
  have ln := congrArg List.length ex
  rw [xsL_len] at ln
  have ll : ((nwL H0 (hV H0 340) (flS (hV H0 296) (hV H0 298) (hV H0 300) (hV H0 301) (hV H0 302) (hV H0 340) (7 * (n7).toNat) 7 6 0))).length = (flS (hV H0 296) (hV H0 298) (hV H0 300) (hV H0 301) (hV H0 302) (hV H0 340) (7 * (n7).toNat) 7 6 0).length := nwL_len
  have w50 := f50
  unfold w32 at w50
  have d20 := rdS (q := 285) f20 f10
  have d30 := rdW (q := 344) f30 f25
  have d33 := rdW (q := 298) f33 f22
  have d44 := rdW (q := 344) f44 f39
  have d47 := rdW (q := 298) f47 f36
  have rg17 := f17
  have rg18 := f18
  have qc := qq
  obtain ⟨q1, q2, q3, q4, q5⟩ := qc
  obtain ⟨p0_, hp0⟩ : ∃ p, (flS (hV H0 296) (hV H0 298) (hV H0 300) (hV H0 301) (hV H0 302) (hV H0 340) (7 * (n7).toNat) 7 6 0)[(n1).toNat]? = some p := ⟨_, List.getElem?_eq_getElem (by omega)⟩
  have xa0 := xsL_at ex hp0
  have g0_ := nwL_at (h := H0) (mk := hV H0 340) hp0
  obtain ⟨p1_, hp1⟩ : ∃ p, (flS (hV H0 296) (hV H0 298) (hV H0 300) (hV H0 301) (hV H0 302) (hV H0 340) (7 * (n7).toNat) 7 6 0)[(n0).toNat]? = some p := ⟨_, List.getElem?_eq_getElem (by omega)⟩
  have xa1 := xsL_at ex hp1
  have g1_ := nwL_at (h := H0) (mk := hV H0 340) hp1
  have b298 : hV H1 298 = hV H0 298 := fRow f16.1.2.1 298 (by decide +kernel)
  have b300 : hV H1 300 = hV H0 300 := fRow f16.1.2.1 300 (by decide +kernel)
  have b301 : hV H1 301 = hV H0 301 := fRow f16.1.2.1 301 (by decide +kernel)
  have b302 : hV H1 302 = hV H0 302 := fRow f16.1.2.1 302 (by decide +kernel)
  have b303 : hV H1 303 = hV H0 303 := fRow f16.1.2.1 303 (by decide +kernel)
  have b304 : hV H1 304 = hV H0 304 := fRow f16.1.2.1 304 (by decide +kernel)
  have b340 : hV H1 340 = hV H0 340 := fRow f16.1.2.1 340 (by decide +kernel)
  have e30 : (n12).toNat = p0_.1 := by
    rw [d30]
    exact xa0.1
  have e44 : (n17).toNat = p1_.1 := by
    rw [d44]
    exact xa1.1
  have y33 : n13 = hV H0 298 p0_.1 := by
    rw [d33, e30, b298]
  have y47 : n18 = hV H0 298 p1_.1 := by
    rw [d47, e44, b298]
  exact ⟨va, ex, QI_no qq (by omega) (by rw [g0_, g1_]; exact qrN_k2 (show ¬ (nowR (hV H0 340) (recR H0 p1_.1, p1_.2)).1 = 1 from (by rw [nwR_k]; omega))) (by omega)⟩
def g_300w_39_2 : vG := ([(10, [20, 8], [], 1), (41, [18, 19], [], 0), (0, [19], [], 1), (22, [18, 15, 17], [1], 0), (90, [18], [], 0), (91, [18], [], 5), (22, [17, 16, 8], [1], 0), (90, [17], [], 0), (91, [17], [], 1007), (20, [16, 3], [1], 83), (23, [3], [1], 12), (0, [16], [], 344), (20, [15, 3], [1], 24), (23, [3], [1], 12), (0, [15], [], 298), (40, [13, 14], [], 0), (0, [14], [], 1), (22, [13, 10, 12], [1], 0), (90, [13], [], 0), (91, [13], [], 5), (22, [12, 11, 7], [1], 0), (90, [12], [], 0), (91, [12], [], 1007), (20, [11, 3], [1], 83), (23, [3], [1], 12), (0, [11], [], 344), (20, [10, 3], [1], 24), (23, [3], [1], 12), (0, [10], [], 298), (42, [8, 9], [], 0), (20, [9, 3], [1], 82), (23, [3], [1], 12), (90, [9], [], 0), (91, [9], [], 40), (5000, [0, 1, 2, 3, 4, 5, 6, 7, 8], [0, 1], 39), (0, [0], [], 285), (90, [1], [], -2147483648), (91, [1], [], 2147483647), (90, [2], [], -2147483648), (91, [2], [], 2147483647), (0, [3], [], 285), (90, [4], [], -2147483648), (91, [4], [], 2147483647), (90, [5], [], -2147483648), (91, [5], [], 2147483647), (90, [6], [], -2147483648), (91, [6], [], 2147483647), (90, [7], [], 0), (91, [7], [], 39), (90, [8], [], 0), (91, [8], [], 40)], (4000, [3, 4, 5, 6, 7, 20], [1], 39))
theorem c_300w_39_2 {q0 : Nat} : vOkm T0 (eN e_300 L_300w A_300 mu_300 n_300 B_300 (some q0)) 3 g_300w_39_2 := vOk_inI fun ρ η f0 f1 f2 f3 f4 f5 f6 f7 f8 f9 f10 f11 f12 f13 f14 f15 f16 f17 f18 f19 f20 f21 f22 f23 f24 f25 f26 f27 f28 f29 f30 f31 f32 f33 f34 f35 f36 f37 f38 f39 f40 f41 f42 f43 f44 f45 f46 f47 f48 f49 f50 => q_300w_7 (q0 := q0) (n0 := ρ 8) (n1 := ρ 7) (n2 := ρ 6) (n3 := ρ 5) (n4 := ρ 4) (n5 := ρ 3) (n6 := ρ 2) (n7 := ρ 1) (n8 := ρ 0) (n9 := ρ 9) (n10 := ρ 10) (n11 := ρ 11) (n12 := ρ 12) (n13 := ρ 13) (n14 := ρ 14) (n15 := ρ 15) (n16 := ρ 16) (n17 := ρ 17) (n18 := ρ 18) (n19 := ρ 19) (n20 := ρ 20) (H0 := η 0) (H1 := η 1) f50 f49 f48 f47 f46 f45 f44 f43 f42 f41 f40 f39 f38 f37 f36 f35 f34 f33 f32 f31 f30 f29 f28 f27 f26 f25 f24 f23 f22 f21 f20 f19 f18 f17 f16 f15 f14 f13 f12 f11 f10 f9 f8 f7 f6 f5 f4 f3 f2 f1 f0
theorem q_300w_8 {q0 : Nat} {n0 n1 n2 n3 n4 n5 n6 n7 n8 n9 n10 n11 n12 n13 n14 n15 n16 n17 n18 n19 n20 n21 n22 n23 n24 n25 n26 n27 n28 n29 n30 n31 n32 n33 : Int} {H0 H1 H2 H3 H4 H5 : gH} (f0 : n0 ≤ 40) (f1 : 0 ≤ n0) (f2 : n1 ≤ 39) (f3 : 0 ≤ n1) (f4 : n2 ≤ 2147483647) (f5 : (-2147483648) ≤ n2) (f6 : n3 ≤ 2147483647) (f7 : (-2147483648) ≤ n3) (f8 : n4 ≤ 2147483647) (f9 : (-2147483648) ≤ n4) (f10 : n5 = 285) (f11 : n6 ≤ 2147483647) (f12 : (-2147483648) ≤ n6) (f13 : n7 ≤ 2147483647) (f14 : (-2147483648) ≤ n7) (f15 : n8 = 285) (f16 : (hLe T0 H0 H1 ∧ hFr s_300.2.2.2.2 H0 H1 ∧ hWt T0 H1) ∧ ((Ab_300_39 n8 n7 n6 n5 n4 n3 n2 n1 n0 H0 H1 ∧ Bb_300_39 n8 n7 n6 n5 n4 n3 n2 n1 n0 H0 H1) ∧ preb_300 n8 n7 n6 H0) ∧ some q0 = some (mub_300_39 n8 n7 n6 n5 n4 n3 n2 n1 n0 H0 H1)) (f17 : n9 ≤ 40) (f18 : 0 ≤ n9) (f19 : hK H1 (n5).toNat = 12) (f20 : n9 = hV H1 (n5).toNat 82) (f21 : n0 < n9) (f22 : n10 = 298) (f23 : hK H1 (n5).toNat = 12) (f24 : n10 = hV H1 (n5).toNat 24) (f25 : n11 = 344) (f26 : hK H1 (n5).toNat = 12) (f27 : n11 = hV H1 (n5).toNat 83) (f28 : n12 ≤ 1007) (f29 : 0 ≤ n12) (f30 : n12 = hV H1 (n11).toNat (n1).toNat) (f31 : n13 ≤ 5) (f32 : 0 ≤ n13) (f33 : n13 = hV H1 (n10).toNat (n12).toNat) (f34 : n14 = 1) (f35 : n13 = n14) (f36 : n15 = 298) (f37 : hK H1 (n5).toNat = 12) (f38 : n15 = hV H1 (n5).toNat 24) (f39 : n16 = 344) (f40 : hK H1 (n5).toNat = 12) (f41 : n16 = hV H1 (n5).toNat 83) (f42 : n17 ≤ 1007) (f43 : 0 ≤ n17) (f44 : n17 = hV H1 (n16).toNat (n0).toNat) (f45 : n18 ≤ 5) (f46 : 0 ≤ n18) (f47 : n18 = hV H1 (n15).toNat (n17).toNat) (f48 : n19 = 1) (f49 : n18 = n19) (f50 : n20 = 300) (f51 : hK H1 (n5).toNat = 12) (f52 : n20 = hV H1 (n5).toNat 26) (f53 : n21 = 344) (f54 : hK H1 (n5).toNat = 12) (f55 : n21 = hV H1 (n5).toNat 83) (f56 : n22 ≤ 1007) (f57 : 0 ≤ n22) (f58 : n22 = hV H1 (n21).toNat (n1).toNat) (f59 : n23 ≤ 9999) (f60 : (-1) ≤ n23) (f61 : n23 = hV H1 (n20).toNat (n22).toNat) (f62 : n24 = 300) (f63 : hK H1 (n5).toNat = 12) (f64 : n24 = hV H1 (n5).toNat 26) (f65 : n25 = 344) (f66 : hK H1 (n5).toNat = 12) (f67 : n25 = hV H1 (n5).toNat 83) (f68 : n26 ≤ 1007) (f69 : 0 ≤ n26) (f70 : n26 = hV H1 (n25).toNat (n0).toNat) (f71 : n27 ≤ 9999) (f72 : (-1) ≤ n27) (f73 : n27 = hV H1 (n24).toNat (n26).toNat) (f74 : n23 = n27) (f75 : n28 ≤ 10999) (f76 : (-10999) ≤ n28) (f77 : (hLe T0 H1 H2 ∧ hFr s_271.2.2.2.2 H1 H2 ∧ ((0 : Int) = 0 → H2.length = H1.length) ∧ hWt T0 H2) ∧ (True ∧ nb_271 n28 n5 n0 H1 H2)) (f78 : n29 ≤ 10999) (f79 : (-10999) ≤ n29) (f80 : (hLe T0 H2 H3 ∧ hFr s_271.2.2.2.2 H2 H3 ∧ ((0 : Int) = 0 → H3.length = H2.length) ∧ hWt T0 H3) ∧ (True ∧ nb_271 n29 n5 n1 H2 H3)) (f81 : n29 ≤ n28) (f82 : n1 ≠ n1) (f83 : n30 ≤ 10999) (f84 : (-10999) ≤ n30) (f85 : (hLe T0 H3 H4 ∧ hFr s_271.2.2.2.2 H3 H4 ∧ ((0 : Int) = 0 → H4.length = H3.length) ∧ hWt T0 H4) ∧ (True ∧ nb_271 n30 n5 n1 H3 H4)) (f86 : n31 ≤ 10999) (f87 : (-10999) ≤ n31) (f88 : (hLe T0 H4 H5 ∧ hFr s_272.2.2.2.2 H4 H5 ∧ ((0 : Int) = 0 → H5.length = H4.length) ∧ hWt T0 H5) ∧ (True ∧ nb_272 n31 n5 n1 H4 H5)) (f89 : n30 < n31) (f90 : n2 ≠ 0) (f91 : n32 = w32 (n2 + (-1))) (f92 : n33 = w32 (n0 + 1)) : Bb_300_39 n8 n7 n6 n5 n4 n3 n32 n1 n33 H0 H5 := by
  unfold Bb_300_39
  have gb := f16.2.1.1.2
  unfold Bb_300_39 at gb
  obtain ⟨va, ex, qq⟩ := gb
  have q21 := f21
  have q35 := f35
  have qc34 := f34
  have q49 := f49
  have qc48 := f48
  have q74 := f74
  have q81 := f81
  have q82 := f82
  have q89 := f89
  have q90 := f90
  have q91 := f91
  unfold w32 at q91
  have q92 := f92
  unfold w32 at q92
  have k10 := f10
  have k15 := f15
  have k22 := f22
  have k25 := f25
  have k34 := f34
  have k36 := f36
  have k39 := f39
  have k48 := f48
  have k50 := f50
  have k53 := f53
  have k62 := f62
  have k65 := f65
  have ln := congrArg List.length ex
  rw [xsL_len] at ln
  have ll : ((nwL H0 (hV H0 340) (flS (hV H0 296) (hV H0 298) (hV H0 300) (hV H0 301) (hV H0 302) (hV H0 340) (7 * (n7).toNat) 7 6 0))).length = (flS (hV H0 296) (hV H0 298) (hV H0 300) (hV H0 301) (hV H0 302) (hV H0 340) (7 * (n7).toNat) 7 6 0).length := nwL_len
  have w91 := f91
  unfold w32 at w91
  have w92 := f92
  unfold w32 at w92
  have d20 := rdS (q := 285) f20 f10
  have d30 := rdW (q := 344) f30 f25
  have d33 := rdW (q := 298) f33 f22
  have d44 := rdW (q := 344) f44 f39
  have d47 := rdW (q := 298) f47 f36
  have d58 := rdW (q := 344) f58 f53
  have d61 := rdW (q := 300) f61 f50
  have d70 := rdW (q := 344) f70 f65
  have d73 := rdW (q := 300) f73 f62
  have rg17 := f17
  have rg18 := f18
  have qc := qq
  obtain ⟨q1, q2, q3, q4, q5⟩ := qc
  obtain ⟨p0_, hp0⟩ : ∃ p, (flS (hV H0 296) (hV H0 298) (hV H0 300) (hV H0 301) (hV H0 302) (hV H0 340) (7 * (n7).toNat) 7 6 0)[(n1).toNat]? = some p := ⟨_, List.getElem?_eq_getElem (by omega)⟩
  have xa0 := xsL_at ex hp0
  have g0_ := nwL_at (h := H0) (mk := hV H0 340) hp0
  obtain ⟨p1_, hp1⟩ : ∃ p, (flS (hV H0 296) (hV H0 298) (hV H0 300) (hV H0 301) (hV H0 302) (hV H0 340) (7 * (n7).toNat) 7 6 0)[(n0).toNat]? = some p := ⟨_, List.getElem?_eq_getElem (by omega)⟩
  have xa1 := xsL_at ex hp1
  have g1_ := nwL_at (h := H0) (mk := hV H0 340) hp1
  have b298 : hV H1 298 = hV H0 298 := fRow f16.1.2.1 298 (by decide +kernel)
  have b300 : hV H1 300 = hV H0 300 := fRow f16.1.2.1 300 (by decide +kernel)
  have b301 : hV H1 301 = hV H0 301 := fRow f16.1.2.1 301 (by decide +kernel)
  have b302 : hV H1 302 = hV H0 302 := fRow f16.1.2.1 302 (by decide +kernel)
  have b303 : hV H1 303 = hV H0 303 := fRow f16.1.2.1 303 (by decide +kernel)
  have b304 : hV H1 304 = hV H0 304 := fRow f16.1.2.1 304 (by decide +kernel)
  have b340 : hV H1 340 = hV H0 340 := fRow f16.1.2.1 340 (by decide +kernel)
  have e30 : (n12).toNat = p0_.1 := by
    rw [d30]
    exact xa0.1
  have e44 : (n17).toNat = p1_.1 := by
    rw [d44]
    exact xa1.1
  have e58 : (n22).toNat = p0_.1 := by
    rw [d58]
    exact xa0.1
  have e70 : (n26).toNat = p1_.1 := by
    rw [d70]
    exact xa1.1
  have y33 : n13 = hV H0 298 p0_.1 := by
    rw [d33, e30, b298]
  have y47 : n18 = hV H0 298 p1_.1 := by
    rw [d47, e44, b298]
  have y61 : n23 = hV H0 300 p0_.1 := by
    rw [d61, e58, b300]
  have y73 : n27 = hV H0 300 p1_.1 := by
    rw [d73, e70, b300]
  have qm := qrN_m (show (nowR (hV H0 340) (recR H0 p0_.1, p0_.2)).1 = 1 from (by rw [nwR_k]; omega)) (show (nowR (hV H0 340) (recR H0 p1_.1, p1_.2)).1 = 1 from (by rw [nwR_k]; omega))
  rw [nwR_s, nwR_s] at qm
  have kd0 : hV H0 298 p0_.1 = 1 := by omega
  have kd1 : hV H0 298 p1_.1 = 1 := by omega
  exact absurd rfl f82
def g_300w_39_3 : vG := ([(10, [33, 8], [], 1), (10, [32, 6], [], -1), (31, [6], [], 0), (42, [30, 31], [], 0), (1272, [31, 3, 7], [4, 5], 0), (90, [31], [], -10999), (91, [31], [], 10999), (1271, [30, 3, 7], [3, 4], 0), (90, [30], [], -10999), (91, [30], [], 10999), (41, [7, 7], [], 0), (43, [28, 29], [], 0), (1271, [29, 3, 7], [2, 3], 0), (90, [29], [], -10999), (91, [29], [], 10999), (1271, [28, 3, 8], [1, 2], 0), (90, [28], [], -10999), (91, [28], [], 10999), (40, [23, 27], [], 0), (22, [27, 24, 26], [1], 0), (90, [27], [], -1), (91, [27], [], 9999), (22, [26, 25, 8], [1], 0), (90, [26], [], 0), (91, [26], [], 1007), (20, [25, 3], [1], 83), (23, [3], [1], 12), (0, [25], [], 344), (20, [24, 3], [1], 26), (23, [3], [1], 12), (0, [24], [], 300), (22, [23, 20, 22], [1], 0), (90, [23], [], -1), (91, [23], [], 9999), (22, [22, 21, 7], [1], 0), (90, [22], [], 0), (91, [22], [], 1007), (20, [21, 3], [1], 83), (23, [3], [1], 12), (0, [21], [], 344), (20, [20, 3], [1], 26), (23, [3], [1], 12), (0, [20], [], 300), (40, [18, 19], [], 0), (0, [19], [], 1), (22, [18, 15, 17], [1], 0), (90, [18], [], 0), (91, [18], [], 5), (22, [17, 16, 8], [1], 0), (90, [17], [], 0), (91, [17], [], 1007), (20, [16, 3], [1], 83), (23, [3], [1], 12), (0, [16], [], 344), (20, [15, 3], [1], 24), (23, [3], [1], 12), (0, [15], [], 298), (40, [13, 14], [], 0), (0, [14], [], 1), (22, [13, 10, 12], [1], 0), (90, [13], [], 0), (91, [13], [], 5), (22, [12, 11, 7], [1], 0), (90, [12], [], 0), (91, [12], [], 1007), (20, [11, 3], [1], 83), (23, [3], [1], 12), (0, [11], [], 344), (20, [10, 3], [1], 24), (23, [3], [1], 12), (0, [10], [], 298), (42, [8, 9], [], 0), (20, [9, 3], [1], 82), (23, [3], [1], 12), (90, [9], [], 0), (91, [9], [], 40), (5000, [0, 1, 2, 3, 4, 5, 6, 7, 8], [0, 1], 39), (0, [0], [], 285), (90, [1], [], -2147483648), (91, [1], [], 2147483647), (90, [2], [], -2147483648), (91, [2], [], 2147483647), (0, [3], [], 285), (90, [4], [], -2147483648), (91, [4], [], 2147483647), (90, [5], [], -2147483648), (91, [5], [], 2147483647), (90, [6], [], -2147483648), (91, [6], [], 2147483647), (90, [7], [], 0), (91, [7], [], 39), (90, [8], [], 0), (91, [8], [], 40)], (4000, [3, 4, 5, 32, 7, 33], [5], 39))
theorem c_300w_39_3 {q0 : Nat} : vOkm T0 (eN e_300 L_300w A_300 mu_300 n_300 B_300 (some q0)) 3 g_300w_39_3 := vOk_inI fun ρ η f0 f1 f2 f3 f4 f5 f6 f7 f8 f9 f10 f11 f12 f13 f14 f15 f16 f17 f18 f19 f20 f21 f22 f23 f24 f25 f26 f27 f28 f29 f30 f31 f32 f33 f34 f35 f36 f37 f38 f39 f40 f41 f42 f43 f44 f45 f46 f47 f48 f49 f50 f51 f52 f53 f54 f55 f56 f57 f58 f59 f60 f61 f62 f63 f64 f65 f66 f67 f68 f69 f70 f71 f72 f73 f74 f75 f76 f77 f78 f79 f80 f81 f82 f83 f84 f85 f86 f87 f88 f89 f90 f91 f92 => q_300w_8 (q0 := q0) (n0 := ρ 8) (n1 := ρ 7) (n2 := ρ 6) (n3 := ρ 5) (n4 := ρ 4) (n5 := ρ 3) (n6 := ρ 2) (n7 := ρ 1) (n8 := ρ 0) (n9 := ρ 9) (n10 := ρ 10) (n11 := ρ 11) (n12 := ρ 12) (n13 := ρ 13) (n14 := ρ 14) (n15 := ρ 15) (n16 := ρ 16) (n17 := ρ 17) (n18 := ρ 18) (n19 := ρ 19) (n20 := ρ 20) (n21 := ρ 21) (n22 := ρ 22) (n23 := ρ 23) (n24 := ρ 24) (n25 := ρ 25) (n26 := ρ 26) (n27 := ρ 27) (n28 := ρ 28) (n29 := ρ 29) (n30 := ρ 30) (n31 := ρ 31) (n32 := ρ 32) (n33 := ρ 33) (H0 := η 0) (H1 := η 1) (H2 := η 2) (H3 := η 3) (H4 := η 4) (H5 := η 5) f92 f91 f90 f89 f88 f87 f86 f85 f84 f83 f82 f81 f80 f79 f78 f77 f76 f75 f74 f73 f72 f71 f70 f69 f68 f67 f66 f65 f64 f63 f62 f61 f60 f59 f58 f57 f56 f55 f54 f53 f52 f51 f50 f49 f48 f47 f46 f45 f44 f43 f42 f41 f40 f39 f38 f37 f36 f35 f34 f33 f32 f31 f30 f29 f28 f27 f26 f25 f24 f23 f22 f21 f20 f19 f18 f17 f16 f15 f14 f13 f12 f11 f10 f9 f8 f7 f6 f5 f4 f3 f2 f1 f0
theorem q_300w_9 {q0 : Nat} {n0 n1 n2 n3 n4 n5 n6 n7 n8 n9 n10 n11 n12 n13 n14 n15 n16 n17 n18 n19 n20 n21 n22 n23 n24 n25 n26 n27 n28 n29 n30 n31 n32 n33 n34 : Int} {H0 H1 H2 H3 H4 H5 : gH} (f0 : n0 ≤ 40) (f1 : 0 ≤ n0) (f2 : n1 ≤ 39) (f3 : 0 ≤ n1) (f4 : n2 ≤ 2147483647) (f5 : (-2147483648) ≤ n2) (f6 : n3 ≤ 2147483647) (f7 : (-2147483648) ≤ n3) (f8 : n4 ≤ 2147483647) (f9 : (-2147483648) ≤ n4) (f10 : n5 = 285) (f11 : n6 ≤ 2147483647) (f12 : (-2147483648) ≤ n6) (f13 : n7 ≤ 2147483647) (f14 : (-2147483648) ≤ n7) (f15 : n8 = 285) (f16 : (hLe T0 H0 H1 ∧ hFr s_300.2.2.2.2 H0 H1 ∧ hWt T0 H1) ∧ ((Ab_300_39 n8 n7 n6 n5 n4 n3 n2 n1 n0 H0 H1 ∧ Bb_300_39 n8 n7 n6 n5 n4 n3 n2 n1 n0 H0 H1) ∧ preb_300 n8 n7 n6 H0) ∧ some q0 = some (mub_300_39 n8 n7 n6 n5 n4 n3 n2 n1 n0 H0 H1)) (f17 : n9 ≤ 40) (f18 : 0 ≤ n9) (f19 : hK H1 (n5).toNat = 12) (f20 : n9 = hV H1 (n5).toNat 82) (f21 : n0 < n9) (f22 : n10 = 298) (f23 : hK H1 (n5).toNat = 12) (f24 : n10 = hV H1 (n5).toNat 24) (f25 : n11 = 344) (f26 : hK H1 (n5).toNat = 12) (f27 : n11 = hV H1 (n5).toNat 83) (f28 : n12 ≤ 1007) (f29 : 0 ≤ n12) (f30 : n12 = hV H1 (n11).toNat (n1).toNat) (f31 : n13 ≤ 5) (f32 : 0 ≤ n13) (f33 : n13 = hV H1 (n10).toNat (n12).toNat) (f34 : n14 = 1) (f35 : n13 = n14) (f36 : n15 = 298) (f37 : hK H1 (n5).toNat = 12) (f38 : n15 = hV H1 (n5).toNat 24) (f39 : n16 = 344) (f40 : hK H1 (n5).toNat = 12) (f41 : n16 = hV H1 (n5).toNat 83) (f42 : n17 ≤ 1007) (f43 : 0 ≤ n17) (f44 : n17 = hV H1 (n16).toNat (n0).toNat) (f45 : n18 ≤ 5) (f46 : 0 ≤ n18) (f47 : n18 = hV H1 (n15).toNat (n17).toNat) (f48 : n19 = 1) (f49 : n18 = n19) (f50 : n20 = 300) (f51 : hK H1 (n5).toNat = 12) (f52 : n20 = hV H1 (n5).toNat 26) (f53 : n21 = 344) (f54 : hK H1 (n5).toNat = 12) (f55 : n21 = hV H1 (n5).toNat 83) (f56 : n22 ≤ 1007) (f57 : 0 ≤ n22) (f58 : n22 = hV H1 (n21).toNat (n1).toNat) (f59 : n23 ≤ 9999) (f60 : (-1) ≤ n23) (f61 : n23 = hV H1 (n20).toNat (n22).toNat) (f62 : n24 = 300) (f63 : hK H1 (n5).toNat = 12) (f64 : n24 = hV H1 (n5).toNat 26) (f65 : n25 = 344) (f66 : hK H1 (n5).toNat = 12) (f67 : n25 = hV H1 (n5).toNat 83) (f68 : n26 ≤ 1007) (f69 : 0 ≤ n26) (f70 : n26 = hV H1 (n25).toNat (n0).toNat) (f71 : n27 ≤ 9999) (f72 : (-1) ≤ n27) (f73 : n27 = hV H1 (n24).toNat (n26).toNat) (f74 : n23 = n27) (f75 : n28 ≤ 10999) (f76 : (-10999) ≤ n28) (f77 : (hLe T0 H1 H2 ∧ hFr s_271.2.2.2.2 H1 H2 ∧ ((0 : Int) = 0 → H2.length = H1.length) ∧ hWt T0 H2) ∧ (True ∧ nb_271 n28 n5 n0 H1 H2)) (f78 : n29 ≤ 10999) (f79 : (-10999) ≤ n29) (f80 : (hLe T0 H2 H3 ∧ hFr s_271.2.2.2.2 H2 H3 ∧ ((0 : Int) = 0 → H3.length = H2.length) ∧ hWt T0 H3) ∧ (True ∧ nb_271 n29 n5 n1 H2 H3)) (f81 : n29 ≤ n28) (f82 : n1 ≠ n1) (f83 : n30 ≤ 10999) (f84 : (-10999) ≤ n30) (f85 : (hLe T0 H3 H4 ∧ hFr s_271.2.2.2.2 H3 H4 ∧ ((0 : Int) = 0 → H4.length = H3.length) ∧ hWt T0 H4) ∧ (True ∧ nb_271 n30 n5 n1 H3 H4)) (f86 : n31 ≤ 10999) (f87 : (-10999) ≤ n31) (f88 : (hLe T0 H4 H5 ∧ hFr s_272.2.2.2.2 H4 H5 ∧ ((0 : Int) = 0 → H5.length = H4.length) ∧ hWt T0 H5) ∧ (True ∧ nb_272 n31 n5 n1 H4 H5)) (f89 : n30 < n31) (f90 : n2 = 0) (f91 : n32 = 64) (f92 : n33 = w32 (n32 * n1)) (f93 : n34 = w32 (n33 + n0)) : nb_300 n34 n8 n7 n6 H0 H5 := by
  unfold nb_300
  have gb := f16.2.1.1.2
  unfold Bb_300_39 at gb
  obtain ⟨va, ex, qq⟩ := gb
  have q21 := f21
  have q35 := f35
  have qc34 := f34
  have q49 := f49
  have qc48 := f48
  have q74 := f74
  have q81 := f81
  have q82 := f82
  have q89 := f89
  have q90 := f90
  have k10 := f10
  have k15 := f15
  have k22 := f22
  have k25 := f25
  have k34 := f34
  have k36 := f36
  have k39 := f39
  have k48 := f48
  have k50 := f50
  have k53 := f53
  have k62 := f62
  have k65 := f65
  have k91 := f91
  have ln := congrArg List.length ex
  rw [xsL_len] at ln
  have ll : ((nwL H0 (hV H0 340) (flS (hV H0 296) (hV H0 298) (hV H0 300) (hV H0 301) (hV H0 302) (hV H0 340) (7 * (n7).toNat) 7 6 0))).length = (flS (hV H0 296) (hV H0 298) (hV H0 300) (hV H0 301) (hV H0 302) (hV H0 340) (7 * (n7).toNat) 7 6 0).length := nwL_len
  have w92 := f92
  unfold w32 at w92
  rw [f91] at w92
  have w93 := f93
  unfold w32 at w93
  have d20 := rdS (q := 285) f20 f10
  have d30 := rdW (q := 344) f30 f25
  have d33 := rdW (q := 298) f33 f22
  have d44 := rdW (q := 344) f44 f39
  have d47 := rdW (q := 298) f47 f36
  have d58 := rdW (q := 344) f58 f53
  have d61 := rdW (q := 300) f61 f50
  have d70 := rdW (q := 344) f70 f65
  have d73 := rdW (q := 300) f73 f62
  have rg17 := f17
  have rg18 := f18
  have qc := qq
  obtain ⟨q1, q2, q3, q4, q5⟩ := qc
  obtain ⟨p0_, hp0⟩ : ∃ p, (flS (hV H0 296) (hV H0 298) (hV H0 300) (hV H0 301) (hV H0 302) (hV H0 340) (7 * (n7).toNat) 7 6 0)[(n1).toNat]? = some p := ⟨_, List.getElem?_eq_getElem (by omega)⟩
  have xa0 := xsL_at ex hp0
  have g0_ := nwL_at (h := H0) (mk := hV H0 340) hp0
  obtain ⟨p1_, hp1⟩ : ∃ p, (flS (hV H0 296) (hV H0 298) (hV H0 300) (hV H0 301) (hV H0 302) (hV H0 340) (7 * (n7).toNat) 7 6 0)[(n0).toNat]? = some p := ⟨_, List.getElem?_eq_getElem (by omega)⟩
  have xa1 := xsL_at ex hp1
  have g1_ := nwL_at (h := H0) (mk := hV H0 340) hp1
  have b298 : hV H1 298 = hV H0 298 := fRow f16.1.2.1 298 (by decide +kernel)
  have b300 : hV H1 300 = hV H0 300 := fRow f16.1.2.1 300 (by decide +kernel)
  have b301 : hV H1 301 = hV H0 301 := fRow f16.1.2.1 301 (by decide +kernel)
  have b302 : hV H1 302 = hV H0 302 := fRow f16.1.2.1 302 (by decide +kernel)
  have b303 : hV H1 303 = hV H0 303 := fRow f16.1.2.1 303 (by decide +kernel)
  have b304 : hV H1 304 = hV H0 304 := fRow f16.1.2.1 304 (by decide +kernel)
  have b340 : hV H1 340 = hV H0 340 := fRow f16.1.2.1 340 (by decide +kernel)
  have e30 : (n12).toNat = p0_.1 := by
    rw [d30]
    exact xa0.1
  have e44 : (n17).toNat = p1_.1 := by
    rw [d44]
    exact xa1.1
  have e58 : (n22).toNat = p0_.1 := by
    rw [d58]
    exact xa0.1
  have e70 : (n26).toNat = p1_.1 := by
    rw [d70]
    exact xa1.1
  have y33 : n13 = hV H0 298 p0_.1 := by
    rw [d33, e30, b298]
  have y47 : n18 = hV H0 298 p1_.1 := by
    rw [d47, e44, b298]
  have y61 : n23 = hV H0 300 p0_.1 := by
    rw [d61, e58, b300]
  have y73 : n27 = hV H0 300 p1_.1 := by
    rw [d73, e70, b300]
  have qm := qrN_m (show (nowR (hV H0 340) (recR H0 p0_.1, p0_.2)).1 = 1 from (by rw [nwR_k]; omega)) (show (nowR (hV H0 340) (recR H0 p1_.1, p1_.2)).1 = 1 from (by rw [nwR_k]; omega))
  rw [nwR_s, nwR_s] at qm
  have kd0 : hV H0 298 p0_.1 = 1 := by omega
  have kd1 : hV H0 298 p1_.1 = 1 := by omega
  exact absurd rfl f82
def g_300w_39_4 : vG := ([(1, [34, 33, 8], [], 0), (3, [33, 32, 7], [], 0), (0, [32], [], 64), (30, [6], [], 0), (42, [30, 31], [], 0), (1272, [31, 3, 7], [4, 5], 0), (90, [31], [], -10999), (91, [31], [], 10999), (1271, [30, 3, 7], [3, 4], 0), (90, [30], [], -10999), (91, [30], [], 10999), (41, [7, 7], [], 0), (43, [28, 29], [], 0), (1271, [29, 3, 7], [2, 3], 0), (90, [29], [], -10999), (91, [29], [], 10999), (1271, [28, 3, 8], [1, 2], 0), (90, [28], [], -10999), (91, [28], [], 10999), (40, [23, 27], [], 0), (22, [27, 24, 26], [1], 0), (90, [27], [], -1), (91, [27], [], 9999), (22, [26, 25, 8], [1], 0), (90, [26], [], 0), (91, [26], [], 1007), (20, [25, 3], [1], 83), (23, [3], [1], 12), (0, [25], [], 344), (20, [24, 3], [1], 26), (23, [3], [1], 12), (0, [24], [], 300), (22, [23, 20, 22], [1], 0), (90, [23], [], -1), (91, [23], [], 9999), (22, [22, 21, 7], [1], 0), (90, [22], [], 0), (91, [22], [], 1007), (20, [21, 3], [1], 83), (23, [3], [1], 12), (0, [21], [], 344), (20, [20, 3], [1], 26), (23, [3], [1], 12), (0, [20], [], 300), (40, [18, 19], [], 0), (0, [19], [], 1), (22, [18, 15, 17], [1], 0), (90, [18], [], 0), (91, [18], [], 5), (22, [17, 16, 8], [1], 0), (90, [17], [], 0), (91, [17], [], 1007), (20, [16, 3], [1], 83), (23, [3], [1], 12), (0, [16], [], 344), (20, [15, 3], [1], 24), (23, [3], [1], 12), (0, [15], [], 298), (40, [13, 14], [], 0), (0, [14], [], 1), (22, [13, 10, 12], [1], 0), (90, [13], [], 0), (91, [13], [], 5), (22, [12, 11, 7], [1], 0), (90, [12], [], 0), (91, [12], [], 1007), (20, [11, 3], [1], 83), (23, [3], [1], 12), (0, [11], [], 344), (20, [10, 3], [1], 24), (23, [3], [1], 12), (0, [10], [], 298), (42, [8, 9], [], 0), (20, [9, 3], [1], 82), (23, [3], [1], 12), (90, [9], [], 0), (91, [9], [], 40), (5000, [0, 1, 2, 3, 4, 5, 6, 7, 8], [0, 1], 39), (0, [0], [], 285), (90, [1], [], -2147483648), (91, [1], [], 2147483647), (90, [2], [], -2147483648), (91, [2], [], 2147483647), (0, [3], [], 285), (90, [4], [], -2147483648), (91, [4], [], 2147483647), (90, [5], [], -2147483648), (91, [5], [], 2147483647), (90, [6], [], -2147483648), (91, [6], [], 2147483647), (90, [7], [], 0), (91, [7], [], 39), (90, [8], [], 0), (91, [8], [], 40)], (3000, [34], [5], 180))
theorem c_300w_39_4 {q0 : Nat} : vOkm T0 (eN e_300 L_300w A_300 mu_300 n_300 B_300 (some q0)) 3 g_300w_39_4 := vOk_inI fun ρ η f0 f1 f2 f3 f4 f5 f6 f7 f8 f9 f10 f11 f12 f13 f14 f15 f16 f17 f18 f19 f20 f21 f22 f23 f24 f25 f26 f27 f28 f29 f30 f31 f32 f33 f34 f35 f36 f37 f38 f39 f40 f41 f42 f43 f44 f45 f46 f47 f48 f49 f50 f51 f52 f53 f54 f55 f56 f57 f58 f59 f60 f61 f62 f63 f64 f65 f66 f67 f68 f69 f70 f71 f72 f73 f74 f75 f76 f77 f78 f79 f80 f81 f82 f83 f84 f85 f86 f87 f88 f89 f90 f91 f92 f93 => q_300w_9 (q0 := q0) (n0 := ρ 8) (n1 := ρ 7) (n2 := ρ 6) (n3 := ρ 5) (n4 := ρ 4) (n5 := ρ 3) (n6 := ρ 2) (n7 := ρ 1) (n8 := ρ 0) (n9 := ρ 9) (n10 := ρ 10) (n11 := ρ 11) (n12 := ρ 12) (n13 := ρ 13) (n14 := ρ 14) (n15 := ρ 15) (n16 := ρ 16) (n17 := ρ 17) (n18 := ρ 18) (n19 := ρ 19) (n20 := ρ 20) (n21 := ρ 21) (n22 := ρ 22) (n23 := ρ 23) (n24 := ρ 24) (n25 := ρ 25) (n26 := ρ 26) (n27 := ρ 27) (n28 := ρ 28) (n29 := ρ 29) (n30 := ρ 30) (n31 := ρ 31) (n32 := ρ 32) (n33 := ρ 33) (n34 := ρ 34) (H0 := η 0) (H1 := η 1) (H2 := η 2) (H3 := η 3) (H4 := η 4) (H5 := η 5) f93 f92 f91 f90 f89 f88 f87 f86 f85 f84 f83 f82 f81 f80 f79 f78 f77 f76 f75 f74 f73 f72 f71 f70 f69 f68 f67 f66 f65 f64 f63 f62 f61 f60 f59 f58 f57 f56 f55 f54 f53 f52 f51 f50 f49 f48 f47 f46 f45 f44 f43 f42 f41 f40 f39 f38 f37 f36 f35 f34 f33 f32 f31 f30 f29 f28 f27 f26 f25 f24 f23 f22 f21 f20 f19 f18 f17 f16 f15 f14 f13 f12 f11 f10 f9 f8 f7 f6 f5 f4 f3 f2 f1 f0
theorem q_300w_10 {q0 : Nat} {n0 n1 n2 n3 n4 n5 n6 n7 n8 n9 n10 n11 n12 n13 n14 n15 n16 n17 n18 n19 n20 n21 n22 n23 n24 n25 n26 n27 n28 n29 n30 n31 n32 : Int} {H0 H1 H2 H3 H4 H5 : gH} (f0 : n0 ≤ 40) (f1 : 0 ≤ n0) (f2 : n1 ≤ 39) (f3 : 0 ≤ n1) (f4 : n2 ≤ 2147483647) (f5 : (-2147483648) ≤ n2) (f6 : n3 ≤ 2147483647) (f7 : (-2147483648) ≤ n3) (f8 : n4 ≤ 2147483647) (f9 : (-2147483648) ≤ n4) (f10 : n5 = 285) (f11 : n6 ≤ 2147483647) (f12 : (-2147483648) ≤ n6) (f13 : n7 ≤ 2147483647) (f14 : (-2147483648) ≤ n7) (f15 : n8 = 285) (f16 : (hLe T0 H0 H1 ∧ hFr s_300.2.2.2.2 H0 H1 ∧ hWt T0 H1) ∧ ((Ab_300_39 n8 n7 n6 n5 n4 n3 n2 n1 n0 H0 H1 ∧ Bb_300_39 n8 n7 n6 n5 n4 n3 n2 n1 n0 H0 H1) ∧ preb_300 n8 n7 n6 H0) ∧ some q0 = some (mub_300_39 n8 n7 n6 n5 n4 n3 n2 n1 n0 H0 H1)) (f17 : n9 ≤ 40) (f18 : 0 ≤ n9) (f19 : hK H1 (n5).toNat = 12) (f20 : n9 = hV H1 (n5).toNat 82) (f21 : n0 < n9) (f22 : n10 = 298) (f23 : hK H1 (n5).toNat = 12) (f24 : n10 = hV H1 (n5).toNat 24) (f25 : n11 = 344) (f26 : hK H1 (n5).toNat = 12) (f27 : n11 = hV H1 (n5).toNat 83) (f28 : n12 ≤ 1007) (f29 : 0 ≤ n12) (f30 : n12 = hV H1 (n11).toNat (n1).toNat) (f31 : n13 ≤ 5) (f32 : 0 ≤ n13) (f33 : n13 = hV H1 (n10).toNat (n12).toNat) (f34 : n14 = 1) (f35 : n13 = n14) (f36 : n15 = 298) (f37 : hK H1 (n5).toNat = 12) (f38 : n15 = hV H1 (n5).toNat 24) (f39 : n16 = 344) (f40 : hK H1 (n5).toNat = 12) (f41 : n16 = hV H1 (n5).toNat 83) (f42 : n17 ≤ 1007) (f43 : 0 ≤ n17) (f44 : n17 = hV H1 (n16).toNat (n0).toNat) (f45 : n18 ≤ 5) (f46 : 0 ≤ n18) (f47 : n18 = hV H1 (n15).toNat (n17).toNat) (f48 : n19 = 1) (f49 : n18 = n19) (f50 : n20 = 300) (f51 : hK H1 (n5).toNat = 12) (f52 : n20 = hV H1 (n5).toNat 26) (f53 : n21 = 344) (f54 : hK H1 (n5).toNat = 12) (f55 : n21 = hV H1 (n5).toNat 83) (f56 : n22 ≤ 1007) (f57 : 0 ≤ n22) (f58 : n22 = hV H1 (n21).toNat (n1).toNat) (f59 : n23 ≤ 9999) (f60 : (-1) ≤ n23) (f61 : n23 = hV H1 (n20).toNat (n22).toNat) (f62 : n24 = 300) (f63 : hK H1 (n5).toNat = 12) (f64 : n24 = hV H1 (n5).toNat 26) (f65 : n25 = 344) (f66 : hK H1 (n5).toNat = 12) (f67 : n25 = hV H1 (n5).toNat 83) (f68 : n26 ≤ 1007) (f69 : 0 ≤ n26) (f70 : n26 = hV H1 (n25).toNat (n0).toNat) (f71 : n27 ≤ 9999) (f72 : (-1) ≤ n27) (f73 : n27 = hV H1 (n24).toNat (n26).toNat) (f74 : n23 = n27) (f75 : n28 ≤ 10999) (f76 : (-10999) ≤ n28) (f77 : (hLe T0 H1 H2 ∧ hFr s_271.2.2.2.2 H1 H2 ∧ ((0 : Int) = 0 → H2.length = H1.length) ∧ hWt T0 H2) ∧ (True ∧ nb_271 n28 n5 n0 H1 H2)) (f78 : n29 ≤ 10999) (f79 : (-10999) ≤ n29) (f80 : (hLe T0 H2 H3 ∧ hFr s_271.2.2.2.2 H2 H3 ∧ ((0 : Int) = 0 → H3.length = H2.length) ∧ hWt T0 H3) ∧ (True ∧ nb_271 n29 n5 n1 H2 H3)) (f81 : n29 ≤ n28) (f82 : n1 ≠ n1) (f83 : n30 ≤ 10999) (f84 : (-10999) ≤ n30) (f85 : (hLe T0 H3 H4 ∧ hFr s_271.2.2.2.2 H3 H4 ∧ ((0 : Int) = 0 → H4.length = H3.length) ∧ hWt T0 H4) ∧ (True ∧ nb_271 n30 n5 n1 H3 H4)) (f86 : n31 ≤ 10999) (f87 : (-10999) ≤ n31) (f88 : (hLe T0 H4 H5 ∧ hFr s_272.2.2.2.2 H4 H5 ∧ ((0 : Int) = 0 → H5.length = H4.length) ∧ hWt T0 H5) ∧ (True ∧ nb_272 n31 n5 n1 H4 H5)) (f89 : n31 ≤ n30) (f90 : n32 = w32 (n0 + 1)) : Bb_300_39 n8 n7 n6 n5 n4 n3 n2 n1 n32 H0 H5 := by
  unfold Bb_300_39
  have gb := f16.2.1.1.2
  unfold Bb_300_39 at gb
  obtain ⟨va, ex, qq⟩ := gb
  have q21 := f21
  have q35 := f35
  have qc34 := f34
  have q49 := f49
  have qc48 := f48
  have q74 := f74
  have q81 := f81
  have q82 := f82
  have q89 := f89
  have q90 := f90
  unfold w32 at q90
  have k10 := f10
  have k15 := f15
  have k22 := f22
  have k25 := f25
  have k34 := f34
  have k36 := f36
  have k39 := f39
  have k48 := f48
  have k50 := f50
  have k53 := f53
  have k62 := f62
  have k65 := f65
  have ln := congrArg List.length ex
  rw [xsL_len] at ln
  have ll : ((nwL H0 (hV H0 340) (flS (hV H0 296) (hV H0 298) (hV H0 300) (hV H0 301) (hV H0 302) (hV H0 340) (7 * (n7).toNat) 7 6 0))).length = (flS (hV H0 296) (hV H0 298) (hV H0 300) (hV H0 301) (hV H0 302) (hV H0 340) (7 * (n7).toNat) 7 6 0).length := nwL_len
  have w90 := f90
  unfold w32 at w90
  have d20 := rdS (q := 285) f20 f10
  have d30 := rdW (q := 344) f30 f25
  have d33 := rdW (q := 298) f33 f22
  have d44 := rdW (q := 344) f44 f39
  have d47 := rdW (q := 298) f47 f36
  have d58 := rdW (q := 344) f58 f53
  have d61 := rdW (q := 300) f61 f50
  have d70 := rdW (q := 344) f70 f65
  have d73 := rdW (q := 300) f73 f62
  have rg17 := f17
  have rg18 := f18
  have qc := qq
  obtain ⟨q1, q2, q3, q4, q5⟩ := qc
  obtain ⟨p0_, hp0⟩ : ∃ p, (flS (hV H0 296) (hV H0 298) (hV H0 300) (hV H0 301) (hV H0 302) (hV H0 340) (7 * (n7).toNat) 7 6 0)[(n1).toNat]? = some p := ⟨_, List.getElem?_eq_getElem (by omega)⟩
  have xa0 := xsL_at ex hp0
  have g0_ := nwL_at (h := H0) (mk := hV H0 340) hp0
  obtain ⟨p1_, hp1⟩ : ∃ p, (flS (hV H0 296) (hV H0 298) (hV H0 300) (hV H0 301) (hV H0 302) (hV H0 340) (7 * (n7).toNat) 7 6 0)[(n0).toNat]? = some p := ⟨_, List.getElem?_eq_getElem (by omega)⟩
  have xa1 := xsL_at ex hp1
  have g1_ := nwL_at (h := H0) (mk := hV H0 340) hp1
  have b298 : hV H1 298 = hV H0 298 := fRow f16.1.2.1 298 (by decide +kernel)
  have b300 : hV H1 300 = hV H0 300 := fRow f16.1.2.1 300 (by decide +kernel)
  have b301 : hV H1 301 = hV H0 301 := fRow f16.1.2.1 301 (by decide +kernel)
  have b302 : hV H1 302 = hV H0 302 := fRow f16.1.2.1 302 (by decide +kernel)
  have b303 : hV H1 303 = hV H0 303 := fRow f16.1.2.1 303 (by decide +kernel)
  have b304 : hV H1 304 = hV H0 304 := fRow f16.1.2.1 304 (by decide +kernel)
  have b340 : hV H1 340 = hV H0 340 := fRow f16.1.2.1 340 (by decide +kernel)
  have e30 : (n12).toNat = p0_.1 := by
    rw [d30]
    exact xa0.1
  have e44 : (n17).toNat = p1_.1 := by
    rw [d44]
    exact xa1.1
  have e58 : (n22).toNat = p0_.1 := by
    rw [d58]
    exact xa0.1
  have e70 : (n26).toNat = p1_.1 := by
    rw [d70]
    exact xa1.1
  have y33 : n13 = hV H0 298 p0_.1 := by
    rw [d33, e30, b298]
  have y47 : n18 = hV H0 298 p1_.1 := by
    rw [d47, e44, b298]
  have y61 : n23 = hV H0 300 p0_.1 := by
    rw [d61, e58, b300]
  have y73 : n27 = hV H0 300 p1_.1 := by
    rw [d73, e70, b300]
  have qm := qrN_m (show (nowR (hV H0 340) (recR H0 p0_.1, p0_.2)).1 = 1 from (by rw [nwR_k]; omega)) (show (nowR (hV H0 340) (recR H0 p1_.1, p1_.2)).1 = 1 from (by rw [nwR_k]; omega))
  rw [nwR_s, nwR_s] at qm
  have kd0 : hV H0 298 p0_.1 = 1 := by omega
  have kd1 : hV H0 298 p1_.1 = 1 := by omega
  exact absurd rfl f82
def g_300w_39_5 : vG := ([(10, [32, 8], [], 1), (43, [30, 31], [], 0), (1272, [31, 3, 7], [4, 5], 0), (90, [31], [], -10999), (91, [31], [], 10999), (1271, [30, 3, 7], [3, 4], 0), (90, [30], [], -10999), (91, [30], [], 10999), (41, [7, 7], [], 0), (43, [28, 29], [], 0), (1271, [29, 3, 7], [2, 3], 0), (90, [29], [], -10999), (91, [29], [], 10999), (1271, [28, 3, 8], [1, 2], 0), (90, [28], [], -10999), (91, [28], [], 10999), (40, [23, 27], [], 0), (22, [27, 24, 26], [1], 0), (90, [27], [], -1), (91, [27], [], 9999), (22, [26, 25, 8], [1], 0), (90, [26], [], 0), (91, [26], [], 1007), (20, [25, 3], [1], 83), (23, [3], [1], 12), (0, [25], [], 344), (20, [24, 3], [1], 26), (23, [3], [1], 12), (0, [24], [], 300), (22, [23, 20, 22], [1], 0), (90, [23], [], -1), (91, [23], [], 9999), (22, [22, 21, 7], [1], 0), (90, [22], [], 0), (91, [22], [], 1007), (20, [21, 3], [1], 83), (23, [3], [1], 12), (0, [21], [], 344), (20, [20, 3], [1], 26), (23, [3], [1], 12), (0, [20], [], 300), (40, [18, 19], [], 0), (0, [19], [], 1), (22, [18, 15, 17], [1], 0), (90, [18], [], 0), (91, [18], [], 5), (22, [17, 16, 8], [1], 0), (90, [17], [], 0), (91, [17], [], 1007), (20, [16, 3], [1], 83), (23, [3], [1], 12), (0, [16], [], 344), (20, [15, 3], [1], 24), (23, [3], [1], 12), (0, [15], [], 298), (40, [13, 14], [], 0), (0, [14], [], 1), (22, [13, 10, 12], [1], 0), (90, [13], [], 0), (91, [13], [], 5), (22, [12, 11, 7], [1], 0), (90, [12], [], 0), (91, [12], [], 1007), (20, [11, 3], [1], 83), (23, [3], [1], 12), (0, [11], [], 344), (20, [10, 3], [1], 24), (23, [3], [1], 12), (0, [10], [], 298), (42, [8, 9], [], 0), (20, [9, 3], [1], 82), (23, [3], [1], 12), (90, [9], [], 0), (91, [9], [], 40), (5000, [0, 1, 2, 3, 4, 5, 6, 7, 8], [0, 1], 39), (0, [0], [], 285), (90, [1], [], -2147483648), (91, [1], [], 2147483647), (90, [2], [], -2147483648), (91, [2], [], 2147483647), (0, [3], [], 285), (90, [4], [], -2147483648), (91, [4], [], 2147483647), (90, [5], [], -2147483648), (91, [5], [], 2147483647), (90, [6], [], -2147483648), (91, [6], [], 2147483647), (90, [7], [], 0), (91, [7], [], 39), (90, [8], [], 0), (91, [8], [], 40)], (4000, [3, 4, 5, 6, 7, 32], [5], 39))
theorem c_300w_39_5 {q0 : Nat} : vOkm T0 (eN e_300 L_300w A_300 mu_300 n_300 B_300 (some q0)) 3 g_300w_39_5 := vOk_inI fun ρ η f0 f1 f2 f3 f4 f5 f6 f7 f8 f9 f10 f11 f12 f13 f14 f15 f16 f17 f18 f19 f20 f21 f22 f23 f24 f25 f26 f27 f28 f29 f30 f31 f32 f33 f34 f35 f36 f37 f38 f39 f40 f41 f42 f43 f44 f45 f46 f47 f48 f49 f50 f51 f52 f53 f54 f55 f56 f57 f58 f59 f60 f61 f62 f63 f64 f65 f66 f67 f68 f69 f70 f71 f72 f73 f74 f75 f76 f77 f78 f79 f80 f81 f82 f83 f84 f85 f86 f87 f88 f89 f90 => q_300w_10 (q0 := q0) (n0 := ρ 8) (n1 := ρ 7) (n2 := ρ 6) (n3 := ρ 5) (n4 := ρ 4) (n5 := ρ 3) (n6 := ρ 2) (n7 := ρ 1) (n8 := ρ 0) (n9 := ρ 9) (n10 := ρ 10) (n11 := ρ 11) (n12 := ρ 12) (n13 := ρ 13) (n14 := ρ 14) (n15 := ρ 15) (n16 := ρ 16) (n17 := ρ 17) (n18 := ρ 18) (n19 := ρ 19) (n20 := ρ 20) (n21 := ρ 21) (n22 := ρ 22) (n23 := ρ 23) (n24 := ρ 24) (n25 := ρ 25) (n26 := ρ 26) (n27 := ρ 27) (n28 := ρ 28) (n29 := ρ 29) (n30 := ρ 30) (n31 := ρ 31) (n32 := ρ 32) (H0 := η 0) (H1 := η 1) (H2 := η 2) (H3 := η 3) (H4 := η 4) (H5 := η 5) f90 f89 f88 f87 f86 f85 f84 f83 f82 f81 f80 f79 f78 f77 f76 f75 f74 f73 f72 f71 f70 f69 f68 f67 f66 f65 f64 f63 f62 f61 f60 f59 f58 f57 f56 f55 f54 f53 f52 f51 f50 f49 f48 f47 f46 f45 f44 f43 f42 f41 f40 f39 f38 f37 f36 f35 f34 f33 f32 f31 f30 f29 f28 f27 f26 f25 f24 f23 f22 f21 f20 f19 f18 f17 f16 f15 f14 f13 f12 f11 f10 f9 f8 f7 f6 f5 f4 f3 f2 f1 f0
theorem q_300w_11 {q0 : Nat} {n0 n1 n2 n3 n4 n5 n6 n7 n8 n9 n10 n11 n12 n13 n14 n15 n16 n17 n18 n19 n20 n21 n22 n23 n24 n25 n26 n27 n28 n29 n30 n31 n32 n33 : Int} {H0 H1 H2 H3 H4 H5 : gH} (f0 : n0 ≤ 40) (f1 : 0 ≤ n0) (f2 : n1 ≤ 39) (f3 : 0 ≤ n1) (f4 : n2 ≤ 2147483647) (f5 : (-2147483648) ≤ n2) (f6 : n3 ≤ 2147483647) (f7 : (-2147483648) ≤ n3) (f8 : n4 ≤ 2147483647) (f9 : (-2147483648) ≤ n4) (f10 : n5 = 285) (f11 : n6 ≤ 2147483647) (f12 : (-2147483648) ≤ n6) (f13 : n7 ≤ 2147483647) (f14 : (-2147483648) ≤ n7) (f15 : n8 = 285) (f16 : (hLe T0 H0 H1 ∧ hFr s_300.2.2.2.2 H0 H1 ∧ hWt T0 H1) ∧ ((Ab_300_39 n8 n7 n6 n5 n4 n3 n2 n1 n0 H0 H1 ∧ Bb_300_39 n8 n7 n6 n5 n4 n3 n2 n1 n0 H0 H1) ∧ preb_300 n8 n7 n6 H0) ∧ some q0 = some (mub_300_39 n8 n7 n6 n5 n4 n3 n2 n1 n0 H0 H1)) (f17 : n9 ≤ 40) (f18 : 0 ≤ n9) (f19 : hK H1 (n5).toNat = 12) (f20 : n9 = hV H1 (n5).toNat 82) (f21 : n0 < n9) (f22 : n10 = 298) (f23 : hK H1 (n5).toNat = 12) (f24 : n10 = hV H1 (n5).toNat 24) (f25 : n11 = 344) (f26 : hK H1 (n5).toNat = 12) (f27 : n11 = hV H1 (n5).toNat 83) (f28 : n12 ≤ 1007) (f29 : 0 ≤ n12) (f30 : n12 = hV H1 (n11).toNat (n1).toNat) (f31 : n13 ≤ 5) (f32 : 0 ≤ n13) (f33 : n13 = hV H1 (n10).toNat (n12).toNat) (f34 : n14 = 1) (f35 : n13 = n14) (f36 : n15 = 298) (f37 : hK H1 (n5).toNat = 12) (f38 : n15 = hV H1 (n5).toNat 24) (f39 : n16 = 344) (f40 : hK H1 (n5).toNat = 12) (f41 : n16 = hV H1 (n5).toNat 83) (f42 : n17 ≤ 1007) (f43 : 0 ≤ n17) (f44 : n17 = hV H1 (n16).toNat (n0).toNat) (f45 : n18 ≤ 5) (f46 : 0 ≤ n18) (f47 : n18 = hV H1 (n15).toNat (n17).toNat) (f48 : n19 = 1) (f49 : n18 = n19) (f50 : n20 = 300) (f51 : hK H1 (n5).toNat = 12) (f52 : n20 = hV H1 (n5).toNat 26) (f53 : n21 = 344) (f54 : hK H1 (n5).toNat = 12) (f55 : n21 = hV H1 (n5).toNat 83) (f56 : n22 ≤ 1007) (f57 : 0 ≤ n22) (f58 : n22 = hV H1 (n21).toNat (n1).toNat) (f59 : n23 ≤ 9999) (f60 : (-1) ≤ n23) (f61 : n23 = hV H1 (n20).toNat (n22).toNat) (f62 : n24 = 300) (f63 : hK H1 (n5).toNat = 12) (f64 : n24 = hV H1 (n5).toNat 26) (f65 : n25 = 344) (f66 : hK H1 (n5).toNat = 12) (f67 : n25 = hV H1 (n5).toNat 83) (f68 : n26 ≤ 1007) (f69 : 0 ≤ n26) (f70 : n26 = hV H1 (n25).toNat (n0).toNat) (f71 : n27 ≤ 9999) (f72 : (-1) ≤ n27) (f73 : n27 = hV H1 (n24).toNat (n26).toNat) (f74 : n23 = n27) (f75 : n28 ≤ 10999) (f76 : (-10999) ≤ n28) (f77 : (hLe T0 H1 H2 ∧ hFr s_271.2.2.2.2 H1 H2 ∧ ((0 : Int) = 0 → H2.length = H1.length) ∧ hWt T0 H2) ∧ (True ∧ nb_271 n28 n5 n0 H1 H2)) (f78 : n29 ≤ 10999) (f79 : (-10999) ≤ n29) (f80 : (hLe T0 H2 H3 ∧ hFr s_271.2.2.2.2 H2 H3 ∧ ((0 : Int) = 0 → H3.length = H2.length) ∧ hWt T0 H3) ∧ (True ∧ nb_271 n29 n5 n1 H2 H3)) (f81 : n29 ≤ n28) (f82 : n1 = n1) (f83 : n30 ≤ 10999) (f84 : (-10999) ≤ n30) (f85 : (hLe T0 H3 H4 ∧ hFr s_271.2.2.2.2 H3 H4 ∧ ((0 : Int) = 0 → H4.length = H3.length) ∧ hWt T0 H4) ∧ (True ∧ nb_271 n30 n5 n0 H3 H4)) (f86 : n31 ≤ 10999) (f87 : (-10999) ≤ n31) (f88 : (hLe T0 H4 H5 ∧ hFr s_272.2.2.2.2 H4 H5 ∧ ((0 : Int) = 0 → H5.length = H4.length) ∧ hWt T0 H5) ∧ (True ∧ nb_272 n31 n5 n1 H4 H5)) (f89 : n30 < n31) (f90 : n2 ≠ 0) (f91 : n32 = w32 (n2 + (-1))) (f92 : n33 = w32 (n0 + 1)) : Bb_300_39 n8 n7 n6 n5 n4 n3 n32 n1 n33 H0 H5 := by
  unfold Bb_300_39
  have gb := f16.2.1.1.2
  unfold Bb_300_39 at gb
  obtain ⟨va, ex, qq⟩ := gb
  have q21 := f21
  have q35 := f35
  have qc34 := f34
  have q49 := f49
  have qc48 := f48
  have q74 := f74
  have q81 := f81
  have q82 := f82
  have q89 := f89
  have q90 := f90
  have q91 := f91
  unfold w32 at q91
  have q92 := f92
  unfold w32 at q92
  have k10 := f10
  have k15 := f15
  have k22 := f22
  have k25 := f25
  have k34 := f34
  have k36 := f36
  have k39 := f39
  have k48 := f48
  have k50 := f50
  have k53 := f53
  have k62 := f62
  have k65 := f65
  have ln := congrArg List.length ex
  rw [xsL_len] at ln
  have ll : ((nwL H0 (hV H0 340) (flS (hV H0 296) (hV H0 298) (hV H0 300) (hV H0 301) (hV H0 302) (hV H0 340) (7 * (n7).toNat) 7 6 0))).length = (flS (hV H0 296) (hV H0 298) (hV H0 300) (hV H0 301) (hV H0 302) (hV H0 340) (7 * (n7).toNat) 7 6 0).length := nwL_len
  have w91 := f91
  unfold w32 at w91
  have w92 := f92
  unfold w32 at w92
  have d20 := rdS (q := 285) f20 f10
  have d30 := rdW (q := 344) f30 f25
  have d33 := rdW (q := 298) f33 f22
  have d44 := rdW (q := 344) f44 f39
  have d47 := rdW (q := 298) f47 f36
  have d58 := rdW (q := 344) f58 f53
  have d61 := rdW (q := 300) f61 f50
  have d70 := rdW (q := 344) f70 f65
  have d73 := rdW (q := 300) f73 f62
  have rg17 := f17
  have rg18 := f18
  have qc := qq
  obtain ⟨q1, q2, q3, q4, q5⟩ := qc
  obtain ⟨p0_, hp0⟩ : ∃ p, (flS (hV H0 296) (hV H0 298) (hV H0 300) (hV H0 301) (hV H0 302) (hV H0 340) (7 * (n7).toNat) 7 6 0)[(n1).toNat]? = some p := ⟨_, List.getElem?_eq_getElem (by omega)⟩
  have xa0 := xsL_at ex hp0
  have g0_ := nwL_at (h := H0) (mk := hV H0 340) hp0
  obtain ⟨p1_, hp1⟩ : ∃ p, (flS (hV H0 296) (hV H0 298) (hV H0 300) (hV H0 301) (hV H0 302) (hV H0 340) (7 * (n7).toNat) 7 6 0)[(n0).toNat]? = some p := ⟨_, List.getElem?_eq_getElem (by omega)⟩
  have xa1 := xsL_at ex hp1
  have g1_ := nwL_at (h := H0) (mk := hV H0 340) hp1
  have b298 : hV H1 298 = hV H0 298 := fRow f16.1.2.1 298 (by decide +kernel)
  have b300 : hV H1 300 = hV H0 300 := fRow f16.1.2.1 300 (by decide +kernel)
  have b301 : hV H1 301 = hV H0 301 := fRow f16.1.2.1 301 (by decide +kernel)
  have b302 : hV H1 302 = hV H0 302 := fRow f16.1.2.1 302 (by decide +kernel)
  have b303 : hV H1 303 = hV H0 303 := fRow f16.1.2.1 303 (by decide +kernel)
  have b304 : hV H1 304 = hV H0 304 := fRow f16.1.2.1 304 (by decide +kernel)
  have b340 : hV H1 340 = hV H0 340 := fRow f16.1.2.1 340 (by decide +kernel)
  have e30 : (n12).toNat = p0_.1 := by
    rw [d30]
    exact xa0.1
  have e44 : (n17).toNat = p1_.1 := by
    rw [d44]
    exact xa1.1
  have e58 : (n22).toNat = p0_.1 := by
    rw [d58]
    exact xa0.1
  have e70 : (n26).toNat = p1_.1 := by
    rw [d70]
    exact xa1.1
  have y33 : n13 = hV H0 298 p0_.1 := by
    rw [d33, e30, b298]
  have y47 : n18 = hV H0 298 p1_.1 := by
    rw [d47, e44, b298]
  have y61 : n23 = hV H0 300 p0_.1 := by
    rw [d61, e58, b300]
  have y73 : n27 = hV H0 300 p1_.1 := by
    rw [d73, e70, b300]
  have qm := qrN_m (show (nowR (hV H0 340) (recR H0 p0_.1, p0_.2)).1 = 1 from (by rw [nwR_k]; omega)) (show (nowR (hV H0 340) (recR H0 p1_.1, p1_.2)).1 = 1 from (by rw [nwR_k]; omega))
  rw [nwR_s, nwR_s] at qm
  have kd0 : hV H0 298 p0_.1 = 1 := by omega
  have kd1 : hV H0 298 p1_.1 = 1 := by omega
  rw [decide_eq_true (by omega), Bool.true_and, nwR_a kd0, nwR_a kd1, nwR_t kd0, nwR_t kd1] at qm
  have fr77 := f77.2.2
  unfold nb_271 at fr77
  rw [b340, b301, b302, xa1.1, xa1.2] at fr77
  have fr80 := f80.2.2
  unfold nb_271 at fr80
  rw [show hV H2 340 = hV H1 340 from fRow f77.1.2.1 340 (by decide +kernel), b340, show hV H2 301 = hV H1 301 from fRow f77.1.2.1 301 (by decide +kernel), b301, show hV H2 302 = hV H1 302 from fRow f77.1.2.1 302 (by decide +kernel), b302, show hV H2 344 = hV H1 344 from fRow f77.1.2.1 344 (by decide +kernel), show hV H2 345 = hV H1 345 from fRow f77.1.2.1 345 (by decide +kernel), xa0.1, xa0.2] at fr80
  have fr85 := f85.2.2
  unfold nb_271 at fr85
  rw [show hV H3 340 = hV H1 340 from (fRow f80.1.2.1 340 (by decide +kernel)).trans (fRow f77.1.2.1 340 (by decide +kernel)), b340, show hV H3 301 = hV H1 301 from (fRow f80.1.2.1 301 (by decide +kernel)).trans (fRow f77.1.2.1 301 (by decide +kernel)), b301, show hV H3 302 = hV H1 302 from (fRow f80.1.2.1 302 (by decide +kernel)).trans (fRow f77.1.2.1 302 (by decide +kernel)), b302, show hV H3 344 = hV H1 344 from (fRow f80.1.2.1 344 (by decide +kernel)).trans (fRow f77.1.2.1 344 (by decide +kernel)), show hV H3 345 = hV H1 345 from (fRow f80.1.2.1 345 (by decide +kernel)).trans (fRow f77.1.2.1 345 (by decide +kernel)), xa1.1, xa1.2] at fr85
  have fr88 := f88.2.2
  unfold nb_272 at fr88
  rw [show hV H4 340 = hV H1 340 from (fRow f85.1.2.1 340 (by decide +kernel)).trans ((fRow f80.1.2.1 340 (by decide +kernel)).trans (fRow f77.1.2.1 340 (by decide +kernel))), b340, show hV H4 303 = hV H1 303 from (fRow f85.1.2.1 303 (by decide +kernel)).trans ((fRow f80.1.2.1 303 (by decide +kernel)).trans (fRow f77.1.2.1 303 (by decide +kernel))), b303, show hV H4 304 = hV H1 304 from (fRow f85.1.2.1 304 (by decide +kernel)).trans ((fRow f80.1.2.1 304 (by decide +kernel)).trans (fRow f77.1.2.1 304 (by decide +kernel))), b304, show hV H4 344 = hV H1 344 from (fRow f85.1.2.1 344 (by decide +kernel)).trans ((fRow f80.1.2.1 344 (by decide +kernel)).trans (fRow f77.1.2.1 344 (by decide +kernel))), show hV H4 345 = hV H1 345 from (fRow f85.1.2.1 345 (by decide +kernel)).trans ((fRow f80.1.2.1 345 (by decide +kernel)).trans (fRow f77.1.2.1 345 (by decide +kernel))), xa0.1, xa0.2] at fr88
  rw [← fr77, ← fr80] at qm
  rw [← fr88] at qm
  have sl : n30 = n28 := fr85.trans fr77.symm
  rw [decide_eq_false (show ¬ n28 < n29 by omega), cond_false] at qm
  rw [decide_eq_true (show n28 < n31 by omega)] at qm
  have yy : qrB (qg ((nwL H0 (hV H0 340) (flS (hV H0 296) (hV H0 298) (hV H0 300) (hV H0 301) (hV H0 302) (hV H0 340) (7 * (n7).toNat) 7 6 0))) (n1).toNat) (qg ((nwL H0 (hV H0 340) (flS (hV H0 296) (hV H0 298) (hV H0 300) (hV H0 301) (hV H0 302) (hV H0 340) (7 * (n7).toNat) 7 6 0))) (n0).toNat) = true := by
    rw [g0_, g1_]
    exact qm
  have ey : hV H5 344 = hV H1 344 ∧ hV H5 345 = hV H1 345 ∧ hV H5 285 82 = hV H1 285 82 := ⟨(fRow f88.1.2.1 344 (by decide +kernel)).trans ((fRow f85.1.2.1 344 (by decide +kernel)).trans ((fRow f80.1.2.1 344 (by decide +kernel)).trans (fRow f77.1.2.1 344 (by decide +kernel)))), (fRow f88.1.2.1 345 (by decide +kernel)).trans ((fRow f85.1.2.1 345 (by decide +kernel)).trans ((fRow f80.1.2.1 345 (by decide +kernel)).trans (fRow f77.1.2.1 345 (by decide +kernel)))), (f88.1.2.1.1 285 82 (by decide +kernel)).trans ((f85.1.2.1.1 285 82 (by decide +kernel)).trans ((f80.1.2.1.1 285 82 (by decide +kernel)).trans (f77.1.2.1.1 285 82 (by decide +kernel))))⟩
  exact ⟨va, (by rw [ey.1, ey.2.1, ey.2.2]; exact ex), QI_hit qq (by omega) yy (by omega) (by omega) (by omega)⟩
def g_300w_39_6 : vG := ([(10, [33, 8], [], 1), (10, [32, 6], [], -1), (31, [6], [], 0), (42, [30, 31], [], 0), (1272, [31, 3, 7], [4, 5], 0), (90, [31], [], -10999), (91, [31], [], 10999), (1271, [30, 3, 8], [3, 4], 0), (90, [30], [], -10999), (91, [30], [], 10999), (40, [7, 7], [], 0), (43, [28, 29], [], 0), (1271, [29, 3, 7], [2, 3], 0), (90, [29], [], -10999), (91, [29], [], 10999), (1271, [28, 3, 8], [1, 2], 0), (90, [28], [], -10999), (91, [28], [], 10999), (40, [23, 27], [], 0), (22, [27, 24, 26], [1], 0), (90, [27], [], -1), (91, [27], [], 9999), (22, [26, 25, 8], [1], 0), (90, [26], [], 0), (91, [26], [], 1007), (20, [25, 3], [1], 83), (23, [3], [1], 12), (0, [25], [], 344), (20, [24, 3], [1], 26), (23, [3], [1], 12), (0, [24], [], 300), (22, [23, 20, 22], [1], 0), (90, [23], [], -1), (91, [23], [], 9999), (22, [22, 21, 7], [1], 0), (90, [22], [], 0), (91, [22], [], 1007), (20, [21, 3], [1], 83), (23, [3], [1], 12), (0, [21], [], 344), (20, [20, 3], [1], 26), (23, [3], [1], 12), (0, [20], [], 300), (40, [18, 19], [], 0), (0, [19], [], 1), (22, [18, 15, 17], [1], 0), (90, [18], [], 0), (91, [18], [], 5), (22, [17, 16, 8], [1], 0), (90, [17], [], 0), (91, [17], [], 1007), (20, [16, 3], [1], 83), (23, [3], [1], 12), (0, [16], [], 344), (20, [15, 3], [1], 24), (23, [3], [1], 12), (0, [15], [], 298), (40, [13, 14], [], 0), (0, [14], [], 1), (22, [13, 10, 12], [1], 0), (90, [13], [], 0), (91, [13], [], 5), (22, [12, 11, 7], [1], 0), (90, [12], [], 0), (91, [12], [], 1007), (20, [11, 3], [1], 83), (23, [3], [1], 12), (0, [11], [], 344), (20, [10, 3], [1], 24), (23, [3], [1], 12), (0, [10], [], 298), (42, [8, 9], [], 0), (20, [9, 3], [1], 82), (23, [3], [1], 12), (90, [9], [], 0), (91, [9], [], 40), (5000, [0, 1, 2, 3, 4, 5, 6, 7, 8], [0, 1], 39), (0, [0], [], 285), (90, [1], [], -2147483648), (91, [1], [], 2147483647), (90, [2], [], -2147483648), (91, [2], [], 2147483647), (0, [3], [], 285), (90, [4], [], -2147483648), (91, [4], [], 2147483647), (90, [5], [], -2147483648), (91, [5], [], 2147483647), (90, [6], [], -2147483648), (91, [6], [], 2147483647), (90, [7], [], 0), (91, [7], [], 39), (90, [8], [], 0), (91, [8], [], 40)], (4000, [3, 4, 5, 32, 7, 33], [5], 39))
theorem c_300w_39_6 {q0 : Nat} : vOkm T0 (eN e_300 L_300w A_300 mu_300 n_300 B_300 (some q0)) 3 g_300w_39_6 := vOk_inI fun ρ η f0 f1 f2 f3 f4 f5 f6 f7 f8 f9 f10 f11 f12 f13 f14 f15 f16 f17 f18 f19 f20 f21 f22 f23 f24 f25 f26 f27 f28 f29 f30 f31 f32 f33 f34 f35 f36 f37 f38 f39 f40 f41 f42 f43 f44 f45 f46 f47 f48 f49 f50 f51 f52 f53 f54 f55 f56 f57 f58 f59 f60 f61 f62 f63 f64 f65 f66 f67 f68 f69 f70 f71 f72 f73 f74 f75 f76 f77 f78 f79 f80 f81 f82 f83 f84 f85 f86 f87 f88 f89 f90 f91 f92 => q_300w_11 (q0 := q0) (n0 := ρ 8) (n1 := ρ 7) (n2 := ρ 6) (n3 := ρ 5) (n4 := ρ 4) (n5 := ρ 3) (n6 := ρ 2) (n7 := ρ 1) (n8 := ρ 0) (n9 := ρ 9) (n10 := ρ 10) (n11 := ρ 11) (n12 := ρ 12) (n13 := ρ 13) (n14 := ρ 14) (n15 := ρ 15) (n16 := ρ 16) (n17 := ρ 17) (n18 := ρ 18) (n19 := ρ 19) (n20 := ρ 20) (n21 := ρ 21) (n22 := ρ 22) (n23 := ρ 23) (n24 := ρ 24) (n25 := ρ 25) (n26 := ρ 26) (n27 := ρ 27) (n28 := ρ 28) (n29 := ρ 29) (n30 := ρ 30) (n31 := ρ 31) (n32 := ρ 32) (n33 := ρ 33) (H0 := η 0) (H1 := η 1) (H2 := η 2) (H3 := η 3) (H4 := η 4) (H5 := η 5) f92 f91 f90 f89 f88 f87 f86 f85 f84 f83 f82 f81 f80 f79 f78 f77 f76 f75 f74 f73 f72 f71 f70 f69 f68 f67 f66 f65 f64 f63 f62 f61 f60 f59 f58 f57 f56 f55 f54 f53 f52 f51 f50 f49 f48 f47 f46 f45 f44 f43 f42 f41 f40 f39 f38 f37 f36 f35 f34 f33 f32 f31 f30 f29 f28 f27 f26 f25 f24 f23 f22 f21 f20 f19 f18 f17 f16 f15 f14 f13 f12 f11 f10 f9 f8 f7 f6 f5 f4 f3 f2 f1 f0
theorem q_300w_12 {q0 : Nat} {n0 n1 n2 n3 n4 n5 n6 n7 n8 n9 n10 n11 n12 n13 n14 n15 n16 n17 n18 n19 n20 n21 n22 n23 n24 n25 n26 n27 n28 n29 n30 n31 n32 n33 n34 : Int} {H0 H1 H2 H3 H4 H5 : gH} (f0 : n0 ≤ 40) (f1 : 0 ≤ n0) (f2 : n1 ≤ 39) (f3 : 0 ≤ n1) (f4 : n2 ≤ 2147483647) (f5 : (-2147483648) ≤ n2) (f6 : n3 ≤ 2147483647) (f7 : (-2147483648) ≤ n3) (f8 : n4 ≤ 2147483647) (f9 : (-2147483648) ≤ n4) (f10 : n5 = 285) (f11 : n6 ≤ 2147483647) (f12 : (-2147483648) ≤ n6) (f13 : n7 ≤ 2147483647) (f14 : (-2147483648) ≤ n7) (f15 : n8 = 285) (f16 : (hLe T0 H0 H1 ∧ hFr s_300.2.2.2.2 H0 H1 ∧ hWt T0 H1) ∧ ((Ab_300_39 n8 n7 n6 n5 n4 n3 n2 n1 n0 H0 H1 ∧ Bb_300_39 n8 n7 n6 n5 n4 n3 n2 n1 n0 H0 H1) ∧ preb_300 n8 n7 n6 H0) ∧ some q0 = some (mub_300_39 n8 n7 n6 n5 n4 n3 n2 n1 n0 H0 H1)) (f17 : n9 ≤ 40) (f18 : 0 ≤ n9) (f19 : hK H1 (n5).toNat = 12) (f20 : n9 = hV H1 (n5).toNat 82) (f21 : n0 < n9) (f22 : n10 = 298) (f23 : hK H1 (n5).toNat = 12) (f24 : n10 = hV H1 (n5).toNat 24) (f25 : n11 = 344) (f26 : hK H1 (n5).toNat = 12) (f27 : n11 = hV H1 (n5).toNat 83) (f28 : n12 ≤ 1007) (f29 : 0 ≤ n12) (f30 : n12 = hV H1 (n11).toNat (n1).toNat) (f31 : n13 ≤ 5) (f32 : 0 ≤ n13) (f33 : n13 = hV H1 (n10).toNat (n12).toNat) (f34 : n14 = 1) (f35 : n13 = n14) (f36 : n15 = 298) (f37 : hK H1 (n5).toNat = 12) (f38 : n15 = hV H1 (n5).toNat 24) (f39 : n16 = 344) (f40 : hK H1 (n5).toNat = 12) (f41 : n16 = hV H1 (n5).toNat 83) (f42 : n17 ≤ 1007) (f43 : 0 ≤ n17) (f44 : n17 = hV H1 (n16).toNat (n0).toNat) (f45 : n18 ≤ 5) (f46 : 0 ≤ n18) (f47 : n18 = hV H1 (n15).toNat (n17).toNat) (f48 : n19 = 1) (f49 : n18 = n19) (f50 : n20 = 300) (f51 : hK H1 (n5).toNat = 12) (f52 : n20 = hV H1 (n5).toNat 26) (f53 : n21 = 344) (f54 : hK H1 (n5).toNat = 12) (f55 : n21 = hV H1 (n5).toNat 83) (f56 : n22 ≤ 1007) (f57 : 0 ≤ n22) (f58 : n22 = hV H1 (n21).toNat (n1).toNat) (f59 : n23 ≤ 9999) (f60 : (-1) ≤ n23) (f61 : n23 = hV H1 (n20).toNat (n22).toNat) (f62 : n24 = 300) (f63 : hK H1 (n5).toNat = 12) (f64 : n24 = hV H1 (n5).toNat 26) (f65 : n25 = 344) (f66 : hK H1 (n5).toNat = 12) (f67 : n25 = hV H1 (n5).toNat 83) (f68 : n26 ≤ 1007) (f69 : 0 ≤ n26) (f70 : n26 = hV H1 (n25).toNat (n0).toNat) (f71 : n27 ≤ 9999) (f72 : (-1) ≤ n27) (f73 : n27 = hV H1 (n24).toNat (n26).toNat) (f74 : n23 = n27) (f75 : n28 ≤ 10999) (f76 : (-10999) ≤ n28) (f77 : (hLe T0 H1 H2 ∧ hFr s_271.2.2.2.2 H1 H2 ∧ ((0 : Int) = 0 → H2.length = H1.length) ∧ hWt T0 H2) ∧ (True ∧ nb_271 n28 n5 n0 H1 H2)) (f78 : n29 ≤ 10999) (f79 : (-10999) ≤ n29) (f80 : (hLe T0 H2 H3 ∧ hFr s_271.2.2.2.2 H2 H3 ∧ ((0 : Int) = 0 → H3.length = H2.length) ∧ hWt T0 H3) ∧ (True ∧ nb_271 n29 n5 n1 H2 H3)) (f81 : n29 ≤ n28) (f82 : n1 = n1) (f83 : n30 ≤ 10999) (f84 : (-10999) ≤ n30) (f85 : (hLe T0 H3 H4 ∧ hFr s_271.2.2.2.2 H3 H4 ∧ ((0 : Int) = 0 → H4.length = H3.length) ∧ hWt T0 H4) ∧ (True ∧ nb_271 n30 n5 n0 H3 H4)) (f86 : n31 ≤ 10999) (f87 : (-10999) ≤ n31) (f88 : (hLe T0 H4 H5 ∧ hFr s_272.2.2.2.2 H4 H5 ∧ ((0 : Int) = 0 → H5.length = H4.length) ∧ hWt T0 H5) ∧ (True ∧ nb_272 n31 n5 n1 H4 H5)) (f89 : n30 < n31) (f90 : n2 = 0) (f91 : n32 = 64) (f92 : n33 = w32 (n32 * n1)) (f93 : n34 = w32 (n33 + n0)) : nb_300 n34 n8 n7 n6 H0 H5 := by
  unfold nb_300
  have gb := f16.2.1.1.2
  unfold Bb_300_39 at gb
  obtain ⟨va, ex, qq⟩ := gb
  have q21 := f21
  have q35 := f35
  have qc34 := f34
  have q49 := f49
  have qc48 := f48
  have q74 := f74
  have q81 := f81
  have q82 := f82
  have q89 := f89
  have q90 := f90
  have k10 := f10
  have k15 := f15
  have k22 := f22
  have k25 := f25
  have k34 := f34
  have k36 := f36
  have k39 := f39
  have k48 := f48
  have k50 := f50
  have k53 := f53
  have k62 := f62
  have k65 := f65
  have k91 := f91
  have ln := congrArg List.length ex
  rw [xsL_len] at ln
  have ll : ((nwL H0 (hV H0 340) (flS (hV H0 296) (hV H0 298) (hV H0 300) (hV H0 301) (hV H0 302) (hV H0 340) (7 * (n7).toNat) 7 6 0))).length = (flS (hV H0 296) (hV H0 298) (hV H0 300) (hV H0 301) (hV H0 302) (hV H0 340) (7 * (n7).toNat) 7 6 0).length := nwL_len
  have w92 := f92
  unfold w32 at w92
  rw [f91] at w92
  have w93 := f93
  unfold w32 at w93
  have d20 := rdS (q := 285) f20 f10
  have d30 := rdW (q := 344) f30 f25
  have d33 := rdW (q := 298) f33 f22
  have d44 := rdW (q := 344) f44 f39
  have d47 := rdW (q := 298) f47 f36
  have d58 := rdW (q := 344) f58 f53
  have d61 := rdW (q := 300) f61 f50
  have d70 := rdW (q := 344) f70 f65
  have d73 := rdW (q := 300) f73 f62
  have rg17 := f17
  have rg18 := f18
  have qc := qq
  obtain ⟨q1, q2, q3, q4, q5⟩ := qc
  obtain ⟨p0_, hp0⟩ : ∃ p, (flS (hV H0 296) (hV H0 298) (hV H0 300) (hV H0 301) (hV H0 302) (hV H0 340) (7 * (n7).toNat) 7 6 0)[(n1).toNat]? = some p := ⟨_, List.getElem?_eq_getElem (by omega)⟩
  have xa0 := xsL_at ex hp0
  have g0_ := nwL_at (h := H0) (mk := hV H0 340) hp0
  obtain ⟨p1_, hp1⟩ : ∃ p, (flS (hV H0 296) (hV H0 298) (hV H0 300) (hV H0 301) (hV H0 302) (hV H0 340) (7 * (n7).toNat) 7 6 0)[(n0).toNat]? = some p := ⟨_, List.getElem?_eq_getElem (by omega)⟩
  have xa1 := xsL_at ex hp1
  have g1_ := nwL_at (h := H0) (mk := hV H0 340) hp1
  have b298 : hV H1 298 = hV H0 298 := fRow f16.1.2.1 298 (by decide +kernel)
  have b300 : hV H1 300 = hV H0 300 := fRow f16.1.2.1 300 (by decide +kernel)
  have b301 : hV H1 301 = hV H0 301 := fRow f16.1.2.1 301 (by decide +kernel)
  have b302 : hV H1 302 = hV H0 302 := fRow f16.1.2.1 302 (by decide +kernel)
  have b303 : hV H1 303 = hV H0 303 := fRow f16.1.2.1 303 (by decide +kernel)
  have b304 : hV H1 304 = hV H0 304 := fRow f16.1.2.1 304 (by decide +kernel)
  have b340 : hV H1 340 = hV H0 340 := fRow f16.1.2.1 340 (by decide +kernel)
  have e30 : (n12).toNat = p0_.1 := by
    rw [d30]
    exact xa0.1
  have e44 : (n17).toNat = p1_.1 := by
    rw [d44]
    exact xa1.1
  have e58 : (n22).toNat = p0_.1 := by
    rw [d58]
    exact xa0.1
  have e70 : (n26).toNat = p1_.1 := by
    rw [d70]
    exact xa1.1
  have y33 : n13 = hV H0 298 p0_.1 := by
    rw [d33, e30, b298]
  have y47 : n18 = hV H0 298 p1_.1 := by
    rw [d47, e44, b298]
  have y61 : n23 = hV H0 300 p0_.1 := by
    rw [d61, e58, b300]
  have y73 : n27 = hV H0 300 p1_.1 := by
    rw [d73, e70, b300]
  have qm := qrN_m (show (nowR (hV H0 340) (recR H0 p0_.1, p0_.2)).1 = 1 from (by rw [nwR_k]; omega)) (show (nowR (hV H0 340) (recR H0 p1_.1, p1_.2)).1 = 1 from (by rw [nwR_k]; omega))
  rw [nwR_s, nwR_s] at qm
  have kd0 : hV H0 298 p0_.1 = 1 := by omega
  have kd1 : hV H0 298 p1_.1 = 1 := by omega
  rw [decide_eq_true (by omega), Bool.true_and, nwR_a kd0, nwR_a kd1, nwR_t kd0, nwR_t kd1] at qm
  have fr77 := f77.2.2
  unfold nb_271 at fr77
  rw [b340, b301, b302, xa1.1, xa1.2] at fr77
  have fr80 := f80.2.2
  unfold nb_271 at fr80
  rw [show hV H2 340 = hV H1 340 from fRow f77.1.2.1 340 (by decide +kernel), b340, show hV H2 301 = hV H1 301 from fRow f77.1.2.1 301 (by decide +kernel), b301, show hV H2 302 = hV H1 302 from fRow f77.1.2.1 302 (by decide +kernel), b302, show hV H2 344 = hV H1 344 from fRow f77.1.2.1 344 (by decide +kernel), show hV H2 345 = hV H1 345 from fRow f77.1.2.1 345 (by decide +kernel), xa0.1, xa0.2] at fr80
  have fr85 := f85.2.2
  unfold nb_271 at fr85
  rw [show hV H3 340 = hV H1 340 from (fRow f80.1.2.1 340 (by decide +kernel)).trans (fRow f77.1.2.1 340 (by decide +kernel)), b340, show hV H3 301 = hV H1 301 from (fRow f80.1.2.1 301 (by decide +kernel)).trans (fRow f77.1.2.1 301 (by decide +kernel)), b301, show hV H3 302 = hV H1 302 from (fRow f80.1.2.1 302 (by decide +kernel)).trans (fRow f77.1.2.1 302 (by decide +kernel)), b302, show hV H3 344 = hV H1 344 from (fRow f80.1.2.1 344 (by decide +kernel)).trans (fRow f77.1.2.1 344 (by decide +kernel)), show hV H3 345 = hV H1 345 from (fRow f80.1.2.1 345 (by decide +kernel)).trans (fRow f77.1.2.1 345 (by decide +kernel)), xa1.1, xa1.2] at fr85
  have fr88 := f88.2.2
  unfold nb_272 at fr88
  rw [show hV H4 340 = hV H1 340 from (fRow f85.1.2.1 340 (by decide +kernel)).trans ((fRow f80.1.2.1 340 (by decide +kernel)).trans (fRow f77.1.2.1 340 (by decide +kernel))), b340, show hV H4 303 = hV H1 303 from (fRow f85.1.2.1 303 (by decide +kernel)).trans ((fRow f80.1.2.1 303 (by decide +kernel)).trans (fRow f77.1.2.1 303 (by decide +kernel))), b303, show hV H4 304 = hV H1 304 from (fRow f85.1.2.1 304 (by decide +kernel)).trans ((fRow f80.1.2.1 304 (by decide +kernel)).trans (fRow f77.1.2.1 304 (by decide +kernel))), b304, show hV H4 344 = hV H1 344 from (fRow f85.1.2.1 344 (by decide +kernel)).trans ((fRow f80.1.2.1 344 (by decide +kernel)).trans (fRow f77.1.2.1 344 (by decide +kernel))), show hV H4 345 = hV H1 345 from (fRow f85.1.2.1 345 (by decide +kernel)).trans ((fRow f80.1.2.1 345 (by decide +kernel)).trans (fRow f77.1.2.1 345 (by decide +kernel))), xa0.1, xa0.2] at fr88
  rw [← fr77, ← fr80] at qm
  rw [← fr88] at qm
  have sl : n30 = n28 := fr85.trans fr77.symm
  rw [decide_eq_false (show ¬ n28 < n29 by omega), cond_false] at qm
  rw [decide_eq_true (show n28 < n31 by omega)] at qm
  have yy : qrB (qg ((nwL H0 (hV H0 340) (flS (hV H0 296) (hV H0 298) (hV H0 300) (hV H0 301) (hV H0 302) (hV H0 340) (7 * (n7).toNat) 7 6 0))) (n1).toNat) (qg ((nwL H0 (hV H0 340) (flS (hV H0 296) (hV H0 298) (hV H0 300) (hV H0 301) (hV H0 302) (hV H0 340) (7 * (n7).toNat) 7 6 0))) (n0).toNat) = true := by
    rw [g0_, g1_]
    exact qm
  have fi := QI_fin qq (by omega) yy (by omega)
  exact ⟨fun w => absurd va w, fun _ _ => by
    rw [fi]
    omega⟩
def g_300w_39_7 : vG := ([(1, [34, 33, 8], [], 0), (3, [33, 32, 7], [], 0), (0, [32], [], 64), (30, [6], [], 0), (42, [30, 31], [], 0), (1272, [31, 3, 7], [4, 5], 0), (90, [31], [], -10999), (91, [31], [], 10999), (1271, [30, 3, 8], [3, 4], 0), (90, [30], [], -10999), (91, [30], [], 10999), (40, [7, 7], [], 0), (43, [28, 29], [], 0), (1271, [29, 3, 7], [2, 3], 0), (90, [29], [], -10999), (91, [29], [], 10999), (1271, [28, 3, 8], [1, 2], 0), (90, [28], [], -10999), (91, [28], [], 10999), (40, [23, 27], [], 0), (22, [27, 24, 26], [1], 0), (90, [27], [], -1), (91, [27], [], 9999), (22, [26, 25, 8], [1], 0), (90, [26], [], 0), (91, [26], [], 1007), (20, [25, 3], [1], 83), (23, [3], [1], 12), (0, [25], [], 344), (20, [24, 3], [1], 26), (23, [3], [1], 12), (0, [24], [], 300), (22, [23, 20, 22], [1], 0), (90, [23], [], -1), (91, [23], [], 9999), (22, [22, 21, 7], [1], 0), (90, [22], [], 0), (91, [22], [], 1007), (20, [21, 3], [1], 83), (23, [3], [1], 12), (0, [21], [], 344), (20, [20, 3], [1], 26), (23, [3], [1], 12), (0, [20], [], 300), (40, [18, 19], [], 0), (0, [19], [], 1), (22, [18, 15, 17], [1], 0), (90, [18], [], 0), (91, [18], [], 5), (22, [17, 16, 8], [1], 0), (90, [17], [], 0), (91, [17], [], 1007), (20, [16, 3], [1], 83), (23, [3], [1], 12), (0, [16], [], 344), (20, [15, 3], [1], 24), (23, [3], [1], 12), (0, [15], [], 298), (40, [13, 14], [], 0), (0, [14], [], 1), (22, [13, 10, 12], [1], 0), (90, [13], [], 0), (91, [13], [], 5), (22, [12, 11, 7], [1], 0), (90, [12], [], 0), (91, [12], [], 1007), (20, [11, 3], [1], 83), (23, [3], [1], 12), (0, [11], [], 344), (20, [10, 3], [1], 24), (23, [3], [1], 12), (0, [10], [], 298), (42, [8, 9], [], 0), (20, [9, 3], [1], 82), (23, [3], [1], 12), (90, [9], [], 0), (91, [9], [], 40), (5000, [0, 1, 2, 3, 4, 5, 6, 7, 8], [0, 1], 39), (0, [0], [], 285), (90, [1], [], -2147483648), (91, [1], [], 2147483647), (90, [2], [], -2147483648), (91, [2], [], 2147483647), (0, [3], [], 285), (90, [4], [], -2147483648), (91, [4], [], 2147483647), (90, [5], [], -2147483648), (91, [5], [], 2147483647), (90, [6], [], -2147483648), (91, [6], [], 2147483647), (90, [7], [], 0), (91, [7], [], 39), (90, [8], [], 0), (91, [8], [], 40)], (3000, [34], [5], 180))
theorem c_300w_39_7 {q0 : Nat} : vOkm T0 (eN e_300 L_300w A_300 mu_300 n_300 B_300 (some q0)) 3 g_300w_39_7 := vOk_inI fun ρ η f0 f1 f2 f3 f4 f5 f6 f7 f8 f9 f10 f11 f12 f13 f14 f15 f16 f17 f18 f19 f20 f21 f22 f23 f24 f25 f26 f27 f28 f29 f30 f31 f32 f33 f34 f35 f36 f37 f38 f39 f40 f41 f42 f43 f44 f45 f46 f47 f48 f49 f50 f51 f52 f53 f54 f55 f56 f57 f58 f59 f60 f61 f62 f63 f64 f65 f66 f67 f68 f69 f70 f71 f72 f73 f74 f75 f76 f77 f78 f79 f80 f81 f82 f83 f84 f85 f86 f87 f88 f89 f90 f91 f92 f93 => q_300w_12 (q0 := q0) (n0 := ρ 8) (n1 := ρ 7) (n2 := ρ 6) (n3 := ρ 5) (n4 := ρ 4) (n5 := ρ 3) (n6 := ρ 2) (n7 := ρ 1) (n8 := ρ 0) (n9 := ρ 9) (n10 := ρ 10) (n11 := ρ 11) (n12 := ρ 12) (n13 := ρ 13) (n14 := ρ 14) (n15 := ρ 15) (n16 := ρ 16) (n17 := ρ 17) (n18 := ρ 18) (n19 := ρ 19) (n20 := ρ 20) (n21 := ρ 21) (n22 := ρ 22) (n23 := ρ 23) (n24 := ρ 24) (n25 := ρ 25) (n26 := ρ 26) (n27 := ρ 27) (n28 := ρ 28) (n29 := ρ 29) (n30 := ρ 30) (n31 := ρ 31) (n32 := ρ 32) (n33 := ρ 33) (n34 := ρ 34) (H0 := η 0) (H1 := η 1) (H2 := η 2) (H3 := η 3) (H4 := η 4) (H5 := η 5) f93 f92 f91 f90 f89 f88 f87 f86 f85 f84 f83 f82 f81 f80 f79 f78 f77 f76 f75 f74 f73 f72 f71 f70 f69 f68 f67 f66 f65 f64 f63 f62 f61 f60 f59 f58 f57 f56 f55 f54 f53 f52 f51 f50 f49 f48 f47 f46 f45 f44 f43 f42 f41 f40 f39 f38 f37 f36 f35 f34 f33 f32 f31 f30 f29 f28 f27 f26 f25 f24 f23 f22 f21 f20 f19 f18 f17 f16 f15 f14 f13 f12 f11 f10 f9 f8 f7 f6 f5 f4 f3 f2 f1 f0
theorem q_300w_13 {q0 : Nat} {n0 n1 n2 n3 n4 n5 n6 n7 n8 n9 n10 n11 n12 n13 n14 n15 n16 n17 n18 n19 n20 n21 n22 n23 n24 n25 n26 n27 n28 n29 n30 n31 n32 : Int} {H0 H1 H2 H3 H4 H5 : gH} (f0 : n0 ≤ 40) (f1 : 0 ≤ n0) (f2 : n1 ≤ 39) (f3 : 0 ≤ n1) (f4 : n2 ≤ 2147483647) (f5 : (-2147483648) ≤ n2) (f6 : n3 ≤ 2147483647) (f7 : (-2147483648) ≤ n3) (f8 : n4 ≤ 2147483647) (f9 : (-2147483648) ≤ n4) (f10 : n5 = 285) (f11 : n6 ≤ 2147483647) (f12 : (-2147483648) ≤ n6) (f13 : n7 ≤ 2147483647) (f14 : (-2147483648) ≤ n7) (f15 : n8 = 285) (f16 : (hLe T0 H0 H1 ∧ hFr s_300.2.2.2.2 H0 H1 ∧ hWt T0 H1) ∧ ((Ab_300_39 n8 n7 n6 n5 n4 n3 n2 n1 n0 H0 H1 ∧ Bb_300_39 n8 n7 n6 n5 n4 n3 n2 n1 n0 H0 H1) ∧ preb_300 n8 n7 n6 H0) ∧ some q0 = some (mub_300_39 n8 n7 n6 n5 n4 n3 n2 n1 n0 H0 H1)) (f17 : n9 ≤ 40) (f18 : 0 ≤ n9) (f19 : hK H1 (n5).toNat = 12) (f20 : n9 = hV H1 (n5).toNat 82) (f21 : n0 < n9) (f22 : n10 = 298) (f23 : hK H1 (n5).toNat = 12) (f24 : n10 = hV H1 (n5).toNat 24) (f25 : n11 = 344) (f26 : hK H1 (n5).toNat = 12) (f27 : n11 = hV H1 (n5).toNat 83) (f28 : n12 ≤ 1007) (f29 : 0 ≤ n12) (f30 : n12 = hV H1 (n11).toNat (n1).toNat) (f31 : n13 ≤ 5) (f32 : 0 ≤ n13) (f33 : n13 = hV H1 (n10).toNat (n12).toNat) (f34 : n14 = 1) (f35 : n13 = n14) (f36 : n15 = 298) (f37 : hK H1 (n5).toNat = 12) (f38 : n15 = hV H1 (n5).toNat 24) (f39 : n16 = 344) (f40 : hK H1 (n5).toNat = 12) (f41 : n16 = hV H1 (n5).toNat 83) (f42 : n17 ≤ 1007) (f43 : 0 ≤ n17) (f44 : n17 = hV H1 (n16).toNat (n0).toNat) (f45 : n18 ≤ 5) (f46 : 0 ≤ n18) (f47 : n18 = hV H1 (n15).toNat (n17).toNat) (f48 : n19 = 1) (f49 : n18 = n19) (f50 : n20 = 300) (f51 : hK H1 (n5).toNat = 12) (f52 : n20 = hV H1 (n5).toNat 26) (f53 : n21 = 344) (f54 : hK H1 (n5).toNat = 12) (f55 : n21 = hV H1 (n5).toNat 83) (f56 : n22 ≤ 1007) (f57 : 0 ≤ n22) (f58 : n22 = hV H1 (n21).toNat (n1).toNat) (f59 : n23 ≤ 9999) (f60 : (-1) ≤ n23) (f61 : n23 = hV H1 (n20).toNat (n22).toNat) (f62 : n24 = 300) (f63 : hK H1 (n5).toNat = 12) (f64 : n24 = hV H1 (n5).toNat 26) (f65 : n25 = 344) (f66 : hK H1 (n5).toNat = 12) (f67 : n25 = hV H1 (n5).toNat 83) (f68 : n26 ≤ 1007) (f69 : 0 ≤ n26) (f70 : n26 = hV H1 (n25).toNat (n0).toNat) (f71 : n27 ≤ 9999) (f72 : (-1) ≤ n27) (f73 : n27 = hV H1 (n24).toNat (n26).toNat) (f74 : n23 = n27) (f75 : n28 ≤ 10999) (f76 : (-10999) ≤ n28) (f77 : (hLe T0 H1 H2 ∧ hFr s_271.2.2.2.2 H1 H2 ∧ ((0 : Int) = 0 → H2.length = H1.length) ∧ hWt T0 H2) ∧ (True ∧ nb_271 n28 n5 n0 H1 H2)) (f78 : n29 ≤ 10999) (f79 : (-10999) ≤ n29) (f80 : (hLe T0 H2 H3 ∧ hFr s_271.2.2.2.2 H2 H3 ∧ ((0 : Int) = 0 → H3.length = H2.length) ∧ hWt T0 H3) ∧ (True ∧ nb_271 n29 n5 n1 H2 H3)) (f81 : n29 ≤ n28) (f82 : n1 = n1) (f83 : n30 ≤ 10999) (f84 : (-10999) ≤ n30) (f85 : (hLe T0 H3 H4 ∧ hFr s_271.2.2.2.2 H3 H4 ∧ ((0 : Int) = 0 → H4.length = H3.length) ∧ hWt T0 H4) ∧ (True ∧ nb_271 n30 n5 n0 H3 H4)) (f86 : n31 ≤ 10999) (f87 : (-10999) ≤ n31) (f88 : (hLe T0 H4 H5 ∧ hFr s_272.2.2.2.2 H4 H5 ∧ ((0 : Int) = 0 → H5.length = H4.length) ∧ hWt T0 H5) ∧ (True ∧ nb_272 n31 n5 n1 H4 H5)) (f89 : n31 ≤ n30) (f90 : n32 = w32 (n0 + 1)) : Bb_300_39 n8 n7 n6 n5 n4 n3 n2 n1 n32 H0 H5 := by
  unfold Bb_300_39
  have gb := f16.2.1.1.2
  unfold Bb_300_39 at gb
  obtain ⟨va, ex, qq⟩ := gb
  have q21 := f21
  have q35 := f35
  have qc34 := f34
  have q49 := f49
  have qc48 := f48
  have q74 := f74
  have q81 := f81
  have q82 := f82
  have q89 := f89
  have q90 := f90
  unfold w32 at q90
  have k10 := f10
  have k15 := f15
  have k22 := f22
  have k25 := f25
  have k34 := f34
  have k36 := f36
  have k39 := f39
  have k48 := f48
  have k50 := f50
  have k53 := f53
  have k62 := f62
  have k65 := f65
  have ln := congrArg List.length ex
  rw [xsL_len] at ln
  have ll : ((nwL H0 (hV H0 340) (flS (hV H0 296) (hV H0 298) (hV H0 300) (hV H0 301) (hV H0 302) (hV H0 340) (7 * (n7).toNat) 7 6 0))).length = (flS (hV H0 296) (hV H0 298) (hV H0 300) (hV H0 301) (hV H0 302) (hV H0 340) (7 * (n7).toNat) 7 6 0).length := nwL_len
  have w90 := f90
  unfold w32 at w90
  have d20 := rdS (q := 285) f20 f10
  have d30 := rdW (q := 344) f30 f25
  have d33 := rdW (q := 298) f33 f22
  have d44 := rdW (q := 344) f44 f39
  have d47 := rdW (q := 298) f47 f36
  have d58 := rdW (q := 344) f58 f53
  have d61 := rdW (q := 300) f61 f50
  have d70 := rdW (q := 344) f70 f65
  have d73 := rdW (q := 300) f73 f62
  have rg17 := f17
  have rg18 := f18
  have qc := qq
  obtain ⟨q1, q2, q3, q4, q5⟩ := qc
  obtain ⟨p0_, hp0⟩ : ∃ p, (flS (hV H0 296) (hV H0 298) (hV H0 300) (hV H0 301) (hV H0 302) (hV H0 340) (7 * (n7).toNat) 7 6 0)[(n1).toNat]? = some p := ⟨_, List.getElem?_eq_getElem (by omega)⟩
  have xa0 := xsL_at ex hp0
  have g0_ := nwL_at (h := H0) (mk := hV H0 340) hp0
  obtain ⟨p1_, hp1⟩ : ∃ p, (flS (hV H0 296) (hV H0 298) (hV H0 300) (hV H0 301) (hV H0 302) (hV H0 340) (7 * (n7).toNat) 7 6 0)[(n0).toNat]? = some p := ⟨_, List.getElem?_eq_getElem (by omega)⟩
  have xa1 := xsL_at ex hp1
  have g1_ := nwL_at (h := H0) (mk := hV H0 340) hp1
  have b298 : hV H1 298 = hV H0 298 := fRow f16.1.2.1 298 (by decide +kernel)
  have b300 : hV H1 300 = hV H0 300 := fRow f16.1.2.1 300 (by decide +kernel)
  have b301 : hV H1 301 = hV H0 301 := fRow f16.1.2.1 301 (by decide +kernel)
  have b302 : hV H1 302 = hV H0 302 := fRow f16.1.2.1 302 (by decide +kernel)
  have b303 : hV H1 303 = hV H0 303 := fRow f16.1.2.1 303 (by decide +kernel)
  have b304 : hV H1 304 = hV H0 304 := fRow f16.1.2.1 304 (by decide +kernel)
  have b340 : hV H1 340 = hV H0 340 := fRow f16.1.2.1 340 (by decide +kernel)
  have e30 : (n12).toNat = p0_.1 := by
    rw [d30]
    exact xa0.1
  have e44 : (n17).toNat = p1_.1 := by
    rw [d44]
    exact xa1.1
  have e58 : (n22).toNat = p0_.1 := by
    rw [d58]
    exact xa0.1
  have e70 : (n26).toNat = p1_.1 := by
    rw [d70]
    exact xa1.1
  have y33 : n13 = hV H0 298 p0_.1 := by
    rw [d33, e30, b298]
  have y47 : n18 = hV H0 298 p1_.1 := by
    rw [d47, e44, b298]
  have y61 : n23 = hV H0 300 p0_.1 := by
    rw [d61, e58, b300]
  have y73 : n27 = hV H0 300 p1_.1 := by
    rw [d73, e70, b300]
  have qm := qrN_m (show (nowR (hV H0 340) (recR H0 p0_.1, p0_.2)).1 = 1 from (by rw [nwR_k]; omega)) (show (nowR (hV H0 340) (recR H0 p1_.1, p1_.2)).1 = 1 from (by rw [nwR_k]; omega))
  rw [nwR_s, nwR_s] at qm
  have kd0 : hV H0 298 p0_.1 = 1 := by omega
  have kd1 : hV H0 298 p1_.1 = 1 := by omega
  rw [decide_eq_true (by omega), Bool.true_and, nwR_a kd0, nwR_a kd1, nwR_t kd0, nwR_t kd1] at qm
  have fr77 := f77.2.2
  unfold nb_271 at fr77
  rw [b340, b301, b302, xa1.1, xa1.2] at fr77
  have fr80 := f80.2.2
  unfold nb_271 at fr80
  rw [show hV H2 340 = hV H1 340 from fRow f77.1.2.1 340 (by decide +kernel), b340, show hV H2 301 = hV H1 301 from fRow f77.1.2.1 301 (by decide +kernel), b301, show hV H2 302 = hV H1 302 from fRow f77.1.2.1 302 (by decide +kernel), b302, show hV H2 344 = hV H1 344 from fRow f77.1.2.1 344 (by decide +kernel), show hV H2 345 = hV H1 345 from fRow f77.1.2.1 345 (by decide +kernel), xa0.1, xa0.2] at fr80
  have fr85 := f85.2.2
  unfold nb_271 at fr85
  rw [show hV H3 340 = hV H1 340 from (fRow f80.1.2.1 340 (by decide +kernel)).trans (fRow f77.1.2.1 340 (by decide +kernel)), b340, show hV H3 301 = hV H1 301 from (fRow f80.1.2.1 301 (by decide +kernel)).trans (fRow f77.1.2.1 301 (by decide +kernel)), b301, show hV H3 302 = hV H1 302 from (fRow f80.1.2.1 302 (by decide +kernel)).trans (fRow f77.1.2.1 302 (by decide +kernel)), b302, show hV H3 344 = hV H1 344 from (fRow f80.1.2.1 344 (by decide +kernel)).trans (fRow f77.1.2.1 344 (by decide +kernel)), show hV H3 345 = hV H1 345 from (fRow f80.1.2.1 345 (by decide +kernel)).trans (fRow f77.1.2.1 345 (by decide +kernel)), xa1.1, xa1.2] at fr85
  have fr88 := f88.2.2
  unfold nb_272 at fr88
  rw [show hV H4 340 = hV H1 340 from (fRow f85.1.2.1 340 (by decide +kernel)).trans ((fRow f80.1.2.1 340 (by decide +kernel)).trans (fRow f77.1.2.1 340 (by decide +kernel))), b340, show hV H4 303 = hV H1 303 from (fRow f85.1.2.1 303 (by decide +kernel)).trans ((fRow f80.1.2.1 303 (by decide +kernel)).trans (fRow f77.1.2.1 303 (by decide +kernel))), b303, show hV H4 304 = hV H1 304 from (fRow f85.1.2.1 304 (by decide +kernel)).trans ((fRow f80.1.2.1 304 (by decide +kernel)).trans (fRow f77.1.2.1 304 (by decide +kernel))), b304, show hV H4 344 = hV H1 344 from (fRow f85.1.2.1 344 (by decide +kernel)).trans ((fRow f80.1.2.1 344 (by decide +kernel)).trans (fRow f77.1.2.1 344 (by decide +kernel))), show hV H4 345 = hV H1 345 from (fRow f85.1.2.1 345 (by decide +kernel)).trans ((fRow f80.1.2.1 345 (by decide +kernel)).trans (fRow f77.1.2.1 345 (by decide +kernel))), xa0.1, xa0.2] at fr88
  rw [← fr77, ← fr80] at qm
  rw [← fr88] at qm
  have sl : n30 = n28 := fr85.trans fr77.symm
  rw [decide_eq_false (show ¬ n28 < n29 by omega), cond_false] at qm
  rw [decide_eq_false (show ¬ n28 < n31 by omega)] at qm
  have ey : hV H5 344 = hV H1 344 ∧ hV H5 345 = hV H1 345 ∧ hV H5 285 82 = hV H1 285 82 := ⟨(fRow f88.1.2.1 344 (by decide +kernel)).trans ((fRow f85.1.2.1 344 (by decide +kernel)).trans ((fRow f80.1.2.1 344 (by decide +kernel)).trans (fRow f77.1.2.1 344 (by decide +kernel)))), (fRow f88.1.2.1 345 (by decide +kernel)).trans ((fRow f85.1.2.1 345 (by decide +kernel)).trans ((fRow f80.1.2.1 345 (by decide +kernel)).trans (fRow f77.1.2.1 345 (by decide +kernel)))), (f88.1.2.1.1 285 82 (by decide +kernel)).trans ((f85.1.2.1.1 285 82 (by decide +kernel)).trans ((f80.1.2.1.1 285 82 (by decide +kernel)).trans (f77.1.2.1.1 285 82 (by decide +kernel))))⟩
  exact ⟨va, (by rw [ey.1, ey.2.1, ey.2.2]; exact ex), QI_no qq (by omega) (by rw [g0_, g1_]; exact qm) (by omega)⟩
def g_300w_39_8 : vG := ([(10, [32, 8], [], 1), (43, [30, 31], [], 0), (1272, [31, 3, 7], [4, 5], 0), (90, [31], [], -10999), (91, [31], [], 10999), (1271, [30, 3, 8], [3, 4], 0), (90, [30], [], -10999), (91, [30], [], 10999), (40, [7, 7], [], 0), (43, [28, 29], [], 0), (1271, [29, 3, 7], [2, 3], 0), (90, [29], [], -10999), (91, [29], [], 10999), (1271, [28, 3, 8], [1, 2], 0), (90, [28], [], -10999), (91, [28], [], 10999), (40, [23, 27], [], 0), (22, [27, 24, 26], [1], 0), (90, [27], [], -1), (91, [27], [], 9999), (22, [26, 25, 8], [1], 0), (90, [26], [], 0), (91, [26], [], 1007), (20, [25, 3], [1], 83), (23, [3], [1], 12), (0, [25], [], 344), (20, [24, 3], [1], 26), (23, [3], [1], 12), (0, [24], [], 300), (22, [23, 20, 22], [1], 0), (90, [23], [], -1), (91, [23], [], 9999), (22, [22, 21, 7], [1], 0), (90, [22], [], 0), (91, [22], [], 1007), (20, [21, 3], [1], 83), (23, [3], [1], 12), (0, [21], [], 344), (20, [20, 3], [1], 26), (23, [3], [1], 12), (0, [20], [], 300), (40, [18, 19], [], 0), (0, [19], [], 1), (22, [18, 15, 17], [1], 0), (90, [18], [], 0), (91, [18], [], 5), (22, [17, 16, 8], [1], 0), (90, [17], [], 0), (91, [17], [], 1007), (20, [16, 3], [1], 83), (23, [3], [1], 12), (0, [16], [], 344), (20, [15, 3], [1], 24), (23, [3], [1], 12), (0, [15], [], 298), (40, [13, 14], [], 0), (0, [14], [], 1), (22, [13, 10, 12], [1], 0), (90, [13], [], 0), (91, [13], [], 5), (22, [12, 11, 7], [1], 0), (90, [12], [], 0), (91, [12], [], 1007), (20, [11, 3], [1], 83), (23, [3], [1], 12), (0, [11], [], 344), (20, [10, 3], [1], 24), (23, [3], [1], 12), (0, [10], [], 298), (42, [8, 9], [], 0), (20, [9, 3], [1], 82), (23, [3], [1], 12), (90, [9], [], 0), (91, [9], [], 40), (5000, [0, 1, 2, 3, 4, 5, 6, 7, 8], [0, 1], 39), (0, [0], [], 285), (90, [1], [], -2147483648), (91, [1], [], 2147483647), (90, [2], [], -2147483648), (91, [2], [], 2147483647), (0, [3], [], 285), (90, [4], [], -2147483648), (91, [4], [], 2147483647), (90, [5], [], -2147483648), (91, [5], [], 2147483647), (90, [6], [], -2147483648), (91, [6], [], 2147483647), (90, [7], [], 0), (91, [7], [], 39), (90, [8], [], 0), (91, [8], [], 40)], (4000, [3, 4, 5, 6, 7, 32], [5], 39))
theorem c_300w_39_8 {q0 : Nat} : vOkm T0 (eN e_300 L_300w A_300 mu_300 n_300 B_300 (some q0)) 3 g_300w_39_8 := vOk_inI fun ρ η f0 f1 f2 f3 f4 f5 f6 f7 f8 f9 f10 f11 f12 f13 f14 f15 f16 f17 f18 f19 f20 f21 f22 f23 f24 f25 f26 f27 f28 f29 f30 f31 f32 f33 f34 f35 f36 f37 f38 f39 f40 f41 f42 f43 f44 f45 f46 f47 f48 f49 f50 f51 f52 f53 f54 f55 f56 f57 f58 f59 f60 f61 f62 f63 f64 f65 f66 f67 f68 f69 f70 f71 f72 f73 f74 f75 f76 f77 f78 f79 f80 f81 f82 f83 f84 f85 f86 f87 f88 f89 f90 => q_300w_13 (q0 := q0) (n0 := ρ 8) (n1 := ρ 7) (n2 := ρ 6) (n3 := ρ 5) (n4 := ρ 4) (n5 := ρ 3) (n6 := ρ 2) (n7 := ρ 1) (n8 := ρ 0) (n9 := ρ 9) (n10 := ρ 10) (n11 := ρ 11) (n12 := ρ 12) (n13 := ρ 13) (n14 := ρ 14) (n15 := ρ 15) (n16 := ρ 16) (n17 := ρ 17) (n18 := ρ 18) (n19 := ρ 19) (n20 := ρ 20) (n21 := ρ 21) (n22 := ρ 22) (n23 := ρ 23) (n24 := ρ 24) (n25 := ρ 25) (n26 := ρ 26) (n27 := ρ 27) (n28 := ρ 28) (n29 := ρ 29) (n30 := ρ 30) (n31 := ρ 31) (n32 := ρ 32) (H0 := η 0) (H1 := η 1) (H2 := η 2) (H3 := η 3) (H4 := η 4) (H5 := η 5) f90 f89 f88 f87 f86 f85 f84 f83 f82 f81 f80 f79 f78 f77 f76 f75 f74 f73 f72 f71 f70 f69 f68 f67 f66 f65 f64 f63 f62 f61 f60 f59 f58 f57 f56 f55 f54 f53 f52 f51 f50 f49 f48 f47 f46 f45 f44 f43 f42 f41 f40 f39 f38 f37 f36 f35 f34 f33 f32 f31 f30 f29 f28 f27 f26 f25 f24 f23 f22 f21 f20 f19 f18 f17 f16 f15 f14 f13 f12 f11 f10 f9 f8 f7 f6 f5 f4 f3 f2 f1 f0
theorem q_300w_14 {q0 : Nat} {n0 n1 n2 n3 n4 n5 n6 n7 n8 n9 n10 n11 n12 n13 n14 n15 n16 n17 n18 n19 n20 n21 n22 n23 n24 n25 n26 n27 n28 n29 n30 n31 n32 n33 : Int} {H0 H1 H2 H3 H4 H5 : gH} (f0 : n0 ≤ 40) (f1 : 0 ≤ n0) (f2 : n1 ≤ 39) (f3 : 0 ≤ n1) (f4 : n2 ≤ 2147483647) (f5 : (-2147483648) ≤ n2) (f6 : n3 ≤ 2147483647) (f7 : (-2147483648) ≤ n3) (f8 : n4 ≤ 2147483647) (f9 : (-2147483648) ≤ n4) (f10 : n5 = 285) (f11 : n6 ≤ 2147483647) (f12 : (-2147483648) ≤ n6) (f13 : n7 ≤ 2147483647) (f14 : (-2147483648) ≤ n7) (f15 : n8 = 285) (f16 : (hLe T0 H0 H1 ∧ hFr s_300.2.2.2.2 H0 H1 ∧ hWt T0 H1) ∧ ((Ab_300_39 n8 n7 n6 n5 n4 n3 n2 n1 n0 H0 H1 ∧ Bb_300_39 n8 n7 n6 n5 n4 n3 n2 n1 n0 H0 H1) ∧ preb_300 n8 n7 n6 H0) ∧ some q0 = some (mub_300_39 n8 n7 n6 n5 n4 n3 n2 n1 n0 H0 H1)) (f17 : n9 ≤ 40) (f18 : 0 ≤ n9) (f19 : hK H1 (n5).toNat = 12) (f20 : n9 = hV H1 (n5).toNat 82) (f21 : n0 < n9) (f22 : n10 = 298) (f23 : hK H1 (n5).toNat = 12) (f24 : n10 = hV H1 (n5).toNat 24) (f25 : n11 = 344) (f26 : hK H1 (n5).toNat = 12) (f27 : n11 = hV H1 (n5).toNat 83) (f28 : n12 ≤ 1007) (f29 : 0 ≤ n12) (f30 : n12 = hV H1 (n11).toNat (n1).toNat) (f31 : n13 ≤ 5) (f32 : 0 ≤ n13) (f33 : n13 = hV H1 (n10).toNat (n12).toNat) (f34 : n14 = 1) (f35 : n13 = n14) (f36 : n15 = 298) (f37 : hK H1 (n5).toNat = 12) (f38 : n15 = hV H1 (n5).toNat 24) (f39 : n16 = 344) (f40 : hK H1 (n5).toNat = 12) (f41 : n16 = hV H1 (n5).toNat 83) (f42 : n17 ≤ 1007) (f43 : 0 ≤ n17) (f44 : n17 = hV H1 (n16).toNat (n0).toNat) (f45 : n18 ≤ 5) (f46 : 0 ≤ n18) (f47 : n18 = hV H1 (n15).toNat (n17).toNat) (f48 : n19 = 1) (f49 : n18 = n19) (f50 : n20 = 300) (f51 : hK H1 (n5).toNat = 12) (f52 : n20 = hV H1 (n5).toNat 26) (f53 : n21 = 344) (f54 : hK H1 (n5).toNat = 12) (f55 : n21 = hV H1 (n5).toNat 83) (f56 : n22 ≤ 1007) (f57 : 0 ≤ n22) (f58 : n22 = hV H1 (n21).toNat (n1).toNat) (f59 : n23 ≤ 9999) (f60 : (-1) ≤ n23) (f61 : n23 = hV H1 (n20).toNat (n22).toNat) (f62 : n24 = 300) (f63 : hK H1 (n5).toNat = 12) (f64 : n24 = hV H1 (n5).toNat 26) (f65 : n25 = 344) (f66 : hK H1 (n5).toNat = 12) (f67 : n25 = hV H1 (n5).toNat 83) (f68 : n26 ≤ 1007) (f69 : 0 ≤ n26) (f70 : n26 = hV H1 (n25).toNat (n0).toNat) (f71 : n27 ≤ 9999) (f72 : (-1) ≤ n27) (f73 : n27 = hV H1 (n24).toNat (n26).toNat) (f74 : n23 = n27) (f75 : n28 ≤ 10999) (f76 : (-10999) ≤ n28) (f77 : (hLe T0 H1 H2 ∧ hFr s_271.2.2.2.2 H1 H2 ∧ ((0 : Int) = 0 → H2.length = H1.length) ∧ hWt T0 H2) ∧ (True ∧ nb_271 n28 n5 n0 H1 H2)) (f78 : n29 ≤ 10999) (f79 : (-10999) ≤ n29) (f80 : (hLe T0 H2 H3 ∧ hFr s_271.2.2.2.2 H2 H3 ∧ ((0 : Int) = 0 → H3.length = H2.length) ∧ hWt T0 H3) ∧ (True ∧ nb_271 n29 n5 n1 H2 H3)) (f81 : n28 < n29) (f82 : n0 ≠ n1) (f83 : n30 ≤ 10999) (f84 : (-10999) ≤ n30) (f85 : (hLe T0 H3 H4 ∧ hFr s_271.2.2.2.2 H3 H4 ∧ ((0 : Int) = 0 → H4.length = H3.length) ∧ hWt T0 H4) ∧ (True ∧ nb_271 n30 n5 n1 H3 H4)) (f86 : n31 ≤ 10999) (f87 : (-10999) ≤ n31) (f88 : (hLe T0 H4 H5 ∧ hFr s_272.2.2.2.2 H4 H5 ∧ ((0 : Int) = 0 → H5.length = H4.length) ∧ hWt T0 H5) ∧ (True ∧ nb_272 n31 n5 n0 H4 H5)) (f89 : n30 < n31) (f90 : n2 ≠ 0) (f91 : n32 = w32 (n2 + (-1))) (f92 : n33 = w32 (n0 + 1)) : Bb_300_39 n8 n7 n6 n5 n4 n3 n32 n1 n33 H0 H5 := by
  unfold Bb_300_39
  have gb := f16.2.1.1.2
  unfold Bb_300_39 at gb
  obtain ⟨va, ex, qq⟩ := gb
  have q21 := f21
  have q35 := f35
  have qc34 := f34
  have q49 := f49
  have qc48 := f48
  have q74 := f74
  have q81 := f81
  have q82 := f82
  have q89 := f89
  have q90 := f90
  have q91 := f91
  unfold w32 at q91
  have q92 := f92
  unfold w32 at q92
  have k10 := f10
  have k15 := f15
  have k22 := f22
  have k25 := f25
  have k34 := f34
  have k36 := f36
  have k39 := f39
  have k48 := f48
  have k50 := f50
  have k53 := f53
  have k62 := f62
  have k65 := f65
  have ln := congrArg List.length ex
  rw [xsL_len] at ln
  have ll : ((nwL H0 (hV H0 340) (flS (hV H0 296) (hV H0 298) (hV H0 300) (hV H0 301) (hV H0 302) (hV H0 340) (7 * (n7).toNat) 7 6 0))).length = (flS (hV H0 296) (hV H0 298) (hV H0 300) (hV H0 301) (hV H0 302) (hV H0 340) (7 * (n7).toNat) 7 6 0).length := nwL_len
  have w91 := f91
  unfold w32 at w91
  have w92 := f92
  unfold w32 at w92
  have d20 := rdS (q := 285) f20 f10
  have d30 := rdW (q := 344) f30 f25
  have d33 := rdW (q := 298) f33 f22
  have d44 := rdW (q := 344) f44 f39
  have d47 := rdW (q := 298) f47 f36
  have d58 := rdW (q := 344) f58 f53
  have d61 := rdW (q := 300) f61 f50
  have d70 := rdW (q := 344) f70 f65
  have d73 := rdW (q := 300) f73 f62
  have rg17 := f17
  have rg18 := f18
  have qc := qq
  obtain ⟨q1, q2, q3, q4, q5⟩ := qc
  obtain ⟨p0_, hp0⟩ : ∃ p, (flS (hV H0 296) (hV H0 298) (hV H0 300) (hV H0 301) (hV H0 302) (hV H0 340) (7 * (n7).toNat) 7 6 0)[(n1).toNat]? = some p := ⟨_, List.getElem?_eq_getElem (by omega)⟩
  have xa0 := xsL_at ex hp0
  have g0_ := nwL_at (h := H0) (mk := hV H0 340) hp0
  obtain ⟨p1_, hp1⟩ : ∃ p, (flS (hV H0 296) (hV H0 298) (hV H0 300) (hV H0 301) (hV H0 302) (hV H0 340) (7 * (n7).toNat) 7 6 0)[(n0).toNat]? = some p := ⟨_, List.getElem?_eq_getElem (by omega)⟩
  have xa1 := xsL_at ex hp1
  have g1_ := nwL_at (h := H0) (mk := hV H0 340) hp1
  have b298 : hV H1 298 = hV H0 298 := fRow f16.1.2.1 298 (by decide +kernel)
  have b300 : hV H1 300 = hV H0 300 := fRow f16.1.2.1 300 (by decide +kernel)
  have b301 : hV H1 301 = hV H0 301 := fRow f16.1.2.1 301 (by decide +kernel)
  have b302 : hV H1 302 = hV H0 302 := fRow f16.1.2.1 302 (by decide +kernel)
  have b303 : hV H1 303 = hV H0 303 := fRow f16.1.2.1 303 (by decide +kernel)
  have b304 : hV H1 304 = hV H0 304 := fRow f16.1.2.1 304 (by decide +kernel)
  have b340 : hV H1 340 = hV H0 340 := fRow f16.1.2.1 340 (by decide +kernel)
  have e30 : (n12).toNat = p0_.1 := by
    rw [d30]
    exact xa0.1
  have e44 : (n17).toNat = p1_.1 := by
    rw [d44]
    exact xa1.1
  have e58 : (n22).toNat = p0_.1 := by
    rw [d58]
    exact xa0.1
  have e70 : (n26).toNat = p1_.1 := by
    rw [d70]
    exact xa1.1
  have y33 : n13 = hV H0 298 p0_.1 := by
    rw [d33, e30, b298]
  have y47 : n18 = hV H0 298 p1_.1 := by
    rw [d47, e44, b298]
  have y61 : n23 = hV H0 300 p0_.1 := by
    rw [d61, e58, b300]
  have y73 : n27 = hV H0 300 p1_.1 := by
    rw [d73, e70, b300]
  have qm := qrN_m (show (nowR (hV H0 340) (recR H0 p0_.1, p0_.2)).1 = 1 from (by rw [nwR_k]; omega)) (show (nowR (hV H0 340) (recR H0 p1_.1, p1_.2)).1 = 1 from (by rw [nwR_k]; omega))
  rw [nwR_s, nwR_s] at qm
  have kd0 : hV H0 298 p0_.1 = 1 := by omega
  have kd1 : hV H0 298 p1_.1 = 1 := by omega
  rw [decide_eq_true (by omega), Bool.true_and, nwR_a kd0, nwR_a kd1, nwR_t kd0, nwR_t kd1] at qm
  have fr77 := f77.2.2
  unfold nb_271 at fr77
  rw [b340, b301, b302, xa1.1, xa1.2] at fr77
  have fr80 := f80.2.2
  unfold nb_271 at fr80
  rw [show hV H2 340 = hV H1 340 from fRow f77.1.2.1 340 (by decide +kernel), b340, show hV H2 301 = hV H1 301 from fRow f77.1.2.1 301 (by decide +kernel), b301, show hV H2 302 = hV H1 302 from fRow f77.1.2.1 302 (by decide +kernel), b302, show hV H2 344 = hV H1 344 from fRow f77.1.2.1 344 (by decide +kernel), show hV H2 345 = hV H1 345 from fRow f77.1.2.1 345 (by decide +kernel), xa0.1, xa0.2] at fr80
  have fr85 := f85.2.2
  unfold nb_271 at fr85
  rw [show hV H3 340 = hV H1 340 from (fRow f80.1.2.1 340 (by decide +kernel)).trans (fRow f77.1.2.1 340 (by decide +kernel)), b340, show hV H3 301 = hV H1 301 from (fRow f80.1.2.1 301 (by decide +kernel)).trans (fRow f77.1.2.1 301 (by decide +kernel)), b301, show hV H3 302 = hV H1 302 from (fRow f80.1.2.1 302 (by decide +kernel)).trans (fRow f77.1.2.1 302 (by decide +kernel)), b302, show hV H3 344 = hV H1 344 from (fRow f80.1.2.1 344 (by decide +kernel)).trans (fRow f77.1.2.1 344 (by decide +kernel)), show hV H3 345 = hV H1 345 from (fRow f80.1.2.1 345 (by decide +kernel)).trans (fRow f77.1.2.1 345 (by decide +kernel)), xa0.1, xa0.2] at fr85
  have fr88 := f88.2.2
  unfold nb_272 at fr88
  rw [show hV H4 340 = hV H1 340 from (fRow f85.1.2.1 340 (by decide +kernel)).trans ((fRow f80.1.2.1 340 (by decide +kernel)).trans (fRow f77.1.2.1 340 (by decide +kernel))), b340, show hV H4 303 = hV H1 303 from (fRow f85.1.2.1 303 (by decide +kernel)).trans ((fRow f80.1.2.1 303 (by decide +kernel)).trans (fRow f77.1.2.1 303 (by decide +kernel))), b303, show hV H4 304 = hV H1 304 from (fRow f85.1.2.1 304 (by decide +kernel)).trans ((fRow f80.1.2.1 304 (by decide +kernel)).trans (fRow f77.1.2.1 304 (by decide +kernel))), b304, show hV H4 344 = hV H1 344 from (fRow f85.1.2.1 344 (by decide +kernel)).trans ((fRow f80.1.2.1 344 (by decide +kernel)).trans (fRow f77.1.2.1 344 (by decide +kernel))), show hV H4 345 = hV H1 345 from (fRow f85.1.2.1 345 (by decide +kernel)).trans ((fRow f80.1.2.1 345 (by decide +kernel)).trans (fRow f77.1.2.1 345 (by decide +kernel))), xa1.1, xa1.2] at fr88
  rw [← fr77, ← fr80] at qm
  rw [← fr88] at qm
  have sl : n30 = n29 := fr85.trans fr80.symm
  rw [decide_eq_true (show n28 < n29 by omega), cond_true] at qm
  rw [decide_eq_true (show n29 < n31 by omega)] at qm
  have yy : qrB (qg ((nwL H0 (hV H0 340) (flS (hV H0 296) (hV H0 298) (hV H0 300) (hV H0 301) (hV H0 302) (hV H0 340) (7 * (n7).toNat) 7 6 0))) (n1).toNat) (qg ((nwL H0 (hV H0 340) (flS (hV H0 296) (hV H0 298) (hV H0 300) (hV H0 301) (hV H0 302) (hV H0 340) (7 * (n7).toNat) 7 6 0))) (n0).toNat) = true := by
    rw [g0_, g1_]
    exact qm
  have ey : hV H5 344 = hV H1 344 ∧ hV H5 345 = hV H1 345 ∧ hV H5 285 82 = hV H1 285 82 := ⟨(fRow f88.1.2.1 344 (by decide +kernel)).trans ((fRow f85.1.2.1 344 (by decide +kernel)).trans ((fRow f80.1.2.1 344 (by decide +kernel)).trans (fRow f77.1.2.1 344 (by decide +kernel)))), (fRow f88.1.2.1 345 (by decide +kernel)).trans ((fRow f85.1.2.1 345 (by decide +kernel)).trans ((fRow f80.1.2.1 345 (by decide +kernel)).trans (fRow f77.1.2.1 345 (by decide +kernel)))), (f88.1.2.1.1 285 82 (by decide +kernel)).trans ((f85.1.2.1.1 285 82 (by decide +kernel)).trans ((f80.1.2.1.1 285 82 (by decide +kernel)).trans (f77.1.2.1.1 285 82 (by decide +kernel))))⟩
  exact ⟨va, (by rw [ey.1, ey.2.1, ey.2.2]; exact ex), QI_hit qq (by omega) yy (by omega) (by omega) (by omega)⟩
def g_300w_39_9 : vG := ([(10, [33, 8], [], 1), (10, [32, 6], [], -1), (31, [6], [], 0), (42, [30, 31], [], 0), (1272, [31, 3, 8], [4, 5], 0), (90, [31], [], -10999), (91, [31], [], 10999), (1271, [30, 3, 7], [3, 4], 0), (90, [30], [], -10999), (91, [30], [], 10999), (41, [8, 7], [], 0), (42, [28, 29], [], 0), (1271, [29, 3, 7], [2, 3], 0), (90, [29], [], -10999), (91, [29], [], 10999), (1271, [28, 3, 8], [1, 2], 0), (90, [28], [], -10999), (91, [28], [], 10999), (40, [23, 27], [], 0), (22, [27, 24, 26], [1], 0), (90, [27], [], -1), (91, [27], [], 9999), (22, [26, 25, 8], [1], 0), (90, [26], [], 0), (91, [26], [], 1007), (20, [25, 3], [1], 83), (23, [3], [1], 12), (0, [25], [], 344), (20, [24, 3], [1], 26), (23, [3], [1], 12), (0, [24], [], 300), (22, [23, 20, 22], [1], 0), (90, [23], [], -1), (91, [23], [], 9999), (22, [22, 21, 7], [1], 0), (90, [22], [], 0), (91, [22], [], 1007), (20, [21, 3], [1], 83), (23, [3], [1], 12), (0, [21], [], 344), (20, [20, 3], [1], 26), (23, [3], [1], 12), (0, [20], [], 300), (40, [18, 19], [], 0), (0, [19], [], 1), (22, [18, 15, 17], [1], 0), (90, [18], [], 0), (91, [18], [], 5), (22, [17, 16, 8], [1], 0), (90, [17], [], 0), (91, [17], [], 1007), (20, [16, 3], [1], 83), (23, [3], [1], 12), (0, [16], [], 344), (20, [15, 3], [1], 24), (23, [3], [1], 12), (0, [15], [], 298), (40, [13, 14], [], 0), (0, [14], [], 1), (22, [13, 10, 12], [1], 0), (90, [13], [], 0), (91, [13], [], 5), (22, [12, 11, 7], [1], 0), (90, [12], [], 0), (91, [12], [], 1007), (20, [11, 3], [1], 83), (23, [3], [1], 12), (0, [11], [], 344), (20, [10, 3], [1], 24), (23, [3], [1], 12), (0, [10], [], 298), (42, [8, 9], [], 0), (20, [9, 3], [1], 82), (23, [3], [1], 12), (90, [9], [], 0), (91, [9], [], 40), (5000, [0, 1, 2, 3, 4, 5, 6, 7, 8], [0, 1], 39), (0, [0], [], 285), (90, [1], [], -2147483648), (91, [1], [], 2147483647), (90, [2], [], -2147483648), (91, [2], [], 2147483647), (0, [3], [], 285), (90, [4], [], -2147483648), (91, [4], [], 2147483647), (90, [5], [], -2147483648), (91, [5], [], 2147483647), (90, [6], [], -2147483648), (91, [6], [], 2147483647), (90, [7], [], 0), (91, [7], [], 39), (90, [8], [], 0), (91, [8], [], 40)], (4000, [3, 4, 5, 32, 7, 33], [5], 39))
theorem c_300w_39_9 {q0 : Nat} : vOkm T0 (eN e_300 L_300w A_300 mu_300 n_300 B_300 (some q0)) 3 g_300w_39_9 := vOk_inI fun ρ η f0 f1 f2 f3 f4 f5 f6 f7 f8 f9 f10 f11 f12 f13 f14 f15 f16 f17 f18 f19 f20 f21 f22 f23 f24 f25 f26 f27 f28 f29 f30 f31 f32 f33 f34 f35 f36 f37 f38 f39 f40 f41 f42 f43 f44 f45 f46 f47 f48 f49 f50 f51 f52 f53 f54 f55 f56 f57 f58 f59 f60 f61 f62 f63 f64 f65 f66 f67 f68 f69 f70 f71 f72 f73 f74 f75 f76 f77 f78 f79 f80 f81 f82 f83 f84 f85 f86 f87 f88 f89 f90 f91 f92 => q_300w_14 (q0 := q0) (n0 := ρ 8) (n1 := ρ 7) (n2 := ρ 6) (n3 := ρ 5) (n4 := ρ 4) (n5 := ρ 3) (n6 := ρ 2) (n7 := ρ 1) (n8 := ρ 0) (n9 := ρ 9) (n10 := ρ 10) (n11 := ρ 11) (n12 := ρ 12) (n13 := ρ 13) (n14 := ρ 14) (n15 := ρ 15) (n16 := ρ 16) (n17 := ρ 17) (n18 := ρ 18) (n19 := ρ 19) (n20 := ρ 20) (n21 := ρ 21) (n22 := ρ 22) (n23 := ρ 23) (n24 := ρ 24) (n25 := ρ 25) (n26 := ρ 26) (n27 := ρ 27) (n28 := ρ 28) (n29 := ρ 29) (n30 := ρ 30) (n31 := ρ 31) (n32 := ρ 32) (n33 := ρ 33) (H0 := η 0) (H1 := η 1) (H2 := η 2) (H3 := η 3) (H4 := η 4) (H5 := η 5) f92 f91 f90 f89 f88 f87 f86 f85 f84 f83 f82 f81 f80 f79 f78 f77 f76 f75 f74 f73 f72 f71 f70 f69 f68 f67 f66 f65 f64 f63 f62 f61 f60 f59 f58 f57 f56 f55 f54 f53 f52 f51 f50 f49 f48 f47 f46 f45 f44 f43 f42 f41 f40 f39 f38 f37 f36 f35 f34 f33 f32 f31 f30 f29 f28 f27 f26 f25 f24 f23 f22 f21 f20 f19 f18 f17 f16 f15 f14 f13 f12 f11 f10 f9 f8 f7 f6 f5 f4 f3 f2 f1 f0
theorem q_300w_15 {q0 : Nat} {n0 n1 n2 n3 n4 n5 n6 n7 n8 n9 n10 n11 n12 n13 n14 n15 n16 n17 n18 n19 n20 n21 n22 n23 n24 n25 n26 n27 n28 n29 n30 n31 n32 n33 n34 : Int} {H0 H1 H2 H3 H4 H5 : gH} (f0 : n0 ≤ 40) (f1 : 0 ≤ n0) (f2 : n1 ≤ 39) (f3 : 0 ≤ n1) (f4 : n2 ≤ 2147483647) (f5 : (-2147483648) ≤ n2) (f6 : n3 ≤ 2147483647) (f7 : (-2147483648) ≤ n3) (f8 : n4 ≤ 2147483647) (f9 : (-2147483648) ≤ n4) (f10 : n5 = 285) (f11 : n6 ≤ 2147483647) (f12 : (-2147483648) ≤ n6) (f13 : n7 ≤ 2147483647) (f14 : (-2147483648) ≤ n7) (f15 : n8 = 285) (f16 : (hLe T0 H0 H1 ∧ hFr s_300.2.2.2.2 H0 H1 ∧ hWt T0 H1) ∧ ((Ab_300_39 n8 n7 n6 n5 n4 n3 n2 n1 n0 H0 H1 ∧ Bb_300_39 n8 n7 n6 n5 n4 n3 n2 n1 n0 H0 H1) ∧ preb_300 n8 n7 n6 H0) ∧ some q0 = some (mub_300_39 n8 n7 n6 n5 n4 n3 n2 n1 n0 H0 H1)) (f17 : n9 ≤ 40) (f18 : 0 ≤ n9) (f19 : hK H1 (n5).toNat = 12) (f20 : n9 = hV H1 (n5).toNat 82) (f21 : n0 < n9) (f22 : n10 = 298) (f23 : hK H1 (n5).toNat = 12) (f24 : n10 = hV H1 (n5).toNat 24) (f25 : n11 = 344) (f26 : hK H1 (n5).toNat = 12) (f27 : n11 = hV H1 (n5).toNat 83) (f28 : n12 ≤ 1007) (f29 : 0 ≤ n12) (f30 : n12 = hV H1 (n11).toNat (n1).toNat) (f31 : n13 ≤ 5) (f32 : 0 ≤ n13) (f33 : n13 = hV H1 (n10).toNat (n12).toNat) (f34 : n14 = 1) (f35 : n13 = n14) (f36 : n15 = 298) (f37 : hK H1 (n5).toNat = 12) (f38 : n15 = hV H1 (n5).toNat 24) (f39 : n16 = 344) (f40 : hK H1 (n5).toNat = 12) (f41 : n16 = hV H1 (n5).toNat 83) (f42 : n17 ≤ 1007) (f43 : 0 ≤ n17) (f44 : n17 = hV H1 (n16).toNat (n0).toNat) (f45 : n18 ≤ 5) (f46 : 0 ≤ n18) (f47 : n18 = hV H1 (n15).toNat (n17).toNat) (f48 : n19 = 1) (f49 : n18 = n19) (f50 : n20 = 300) (f51 : hK H1 (n5).toNat = 12) (f52 : n20 = hV H1 (n5).toNat 26) (f53 : n21 = 344) (f54 : hK H1 (n5).toNat = 12) (f55 : n21 = hV H1 (n5).toNat 83) (f56 : n22 ≤ 1007) (f57 : 0 ≤ n22) (f58 : n22 = hV H1 (n21).toNat (n1).toNat) (f59 : n23 ≤ 9999) (f60 : (-1) ≤ n23) (f61 : n23 = hV H1 (n20).toNat (n22).toNat) (f62 : n24 = 300) (f63 : hK H1 (n5).toNat = 12) (f64 : n24 = hV H1 (n5).toNat 26) (f65 : n25 = 344) (f66 : hK H1 (n5).toNat = 12) (f67 : n25 = hV H1 (n5).toNat 83) (f68 : n26 ≤ 1007) (f69 : 0 ≤ n26) (f70 : n26 = hV H1 (n25).toNat (n0).toNat) (f71 : n27 ≤ 9999) (f72 : (-1) ≤ n27) (f73 : n27 = hV H1 (n24).toNat (n26).toNat) (f74 : n23 = n27) (f75 : n28 ≤ 10999) (f76 : (-10999) ≤ n28) (f77 : (hLe T0 H1 H2 ∧ hFr s_271.2.2.2.2 H1 H2 ∧ ((0 : Int) = 0 → H2.length = H1.length) ∧ hWt T0 H2) ∧ (True ∧ nb_271 n28 n5 n0 H1 H2)) (f78 : n29 ≤ 10999) (f79 : (-10999) ≤ n29) (f80 : (hLe T0 H2 H3 ∧ hFr s_271.2.2.2.2 H2 H3 ∧ ((0 : Int) = 0 → H3.length = H2.length) ∧ hWt T0 H3) ∧ (True ∧ nb_271 n29 n5 n1 H2 H3)) (f81 : n28 < n29) (f82 : n0 ≠ n1) (f83 : n30 ≤ 10999) (f84 : (-10999) ≤ n30) (f85 : (hLe T0 H3 H4 ∧ hFr s_271.2.2.2.2 H3 H4 ∧ ((0 : Int) = 0 → H4.length = H3.length) ∧ hWt T0 H4) ∧ (True ∧ nb_271 n30 n5 n1 H3 H4)) (f86 : n31 ≤ 10999) (f87 : (-10999) ≤ n31) (f88 : (hLe T0 H4 H5 ∧ hFr s_272.2.2.2.2 H4 H5 ∧ ((0 : Int) = 0 → H5.length = H4.length) ∧ hWt T0 H5) ∧ (True ∧ nb_272 n31 n5 n0 H4 H5)) (f89 : n30 < n31) (f90 : n2 = 0) (f91 : n32 = 64) (f92 : n33 = w32 (n32 * n1)) (f93 : n34 = w32 (n33 + n0)) : nb_300 n34 n8 n7 n6 H0 H5 := by
  unfold nb_300
  have gb := f16.2.1.1.2
  unfold Bb_300_39 at gb
  obtain ⟨va, ex, qq⟩ := gb
  have q21 := f21
  have q35 := f35
  have qc34 := f34
  have q49 := f49
  have qc48 := f48
  have q74 := f74
  have q81 := f81
  have q82 := f82
  have q89 := f89
  have q90 := f90
  have k10 := f10
  have k15 := f15
  have k22 := f22
  have k25 := f25
  have k34 := f34
  have k36 := f36
  have k39 := f39
  have k48 := f48
  have k50 := f50
  have k53 := f53
  have k62 := f62
  have k65 := f65
  have k91 := f91
  have ln := congrArg List.length ex
  rw [xsL_len] at ln
  have ll : ((nwL H0 (hV H0 340) (flS (hV H0 296) (hV H0 298) (hV H0 300) (hV H0 301) (hV H0 302) (hV H0 340) (7 * (n7).toNat) 7 6 0))).length = (flS (hV H0 296) (hV H0 298) (hV H0 300) (hV H0 301) (hV H0 302) (hV H0 340) (7 * (n7).toNat) 7 6 0).length := nwL_len
  have w92 := f92
  unfold w32 at w92
  rw [f91] at w92
  have w93 := f93
  unfold w32 at w93
  have d20 := rdS (q := 285) f20 f10
  have d30 := rdW (q := 344) f30 f25
  have d33 := rdW (q := 298) f33 f22
  have d44 := rdW (q := 344) f44 f39
  have d47 := rdW (q := 298) f47 f36
  have d58 := rdW (q := 344) f58 f53
  have d61 := rdW (q := 300) f61 f50
  have d70 := rdW (q := 344) f70 f65
  have d73 := rdW (q := 300) f73 f62
  have rg17 := f17
  have rg18 := f18
  have qc := qq
  obtain ⟨q1, q2, q3, q4, q5⟩ := qc
  obtain ⟨p0_, hp0⟩ : ∃ p, (flS (hV H0 296) (hV H0 298) (hV H0 300) (hV H0 301) (hV H0 302) (hV H0 340) (7 * (n7).toNat) 7 6 0)[(n1).toNat]? = some p := ⟨_, List.getElem?_eq_getElem (by omega)⟩
  have xa0 := xsL_at ex hp0
  have g0_ := nwL_at (h := H0) (mk := hV H0 340) hp0
  obtain ⟨p1_, hp1⟩ : ∃ p, (flS (hV H0 296) (hV H0 298) (hV H0 300) (hV H0 301) (hV H0 302) (hV H0 340) (7 * (n7).toNat) 7 6 0)[(n0).toNat]? = some p := ⟨_, List.getElem?_eq_getElem (by omega)⟩
  have xa1 := xsL_at ex hp1
  have g1_ := nwL_at (h := H0) (mk := hV H0 340) hp1
  have b298 : hV H1 298 = hV H0 298 := fRow f16.1.2.1 298 (by decide +kernel)
  have b300 : hV H1 300 = hV H0 300 := fRow f16.1.2.1 300 (by decide +kernel)
  have b301 : hV H1 301 = hV H0 301 := fRow f16.1.2.1 301 (by decide +kernel)
  have b302 : hV H1 302 = hV H0 302 := fRow f16.1.2.1 302 (by decide +kernel)
  have b303 : hV H1 303 = hV H0 303 := fRow f16.1.2.1 303 (by decide +kernel)
  have b304 : hV H1 304 = hV H0 304 := fRow f16.1.2.1 304 (by decide +kernel)
  have b340 : hV H1 340 = hV H0 340 := fRow f16.1.2.1 340 (by decide +kernel)
  have e30 : (n12).toNat = p0_.1 := by
    rw [d30]
    exact xa0.1
  have e44 : (n17).toNat = p1_.1 := by
    rw [d44]
    exact xa1.1
  have e58 : (n22).toNat = p0_.1 := by
    rw [d58]
    exact xa0.1
  have e70 : (n26).toNat = p1_.1 := by
    rw [d70]
    exact xa1.1
  have y33 : n13 = hV H0 298 p0_.1 := by
    rw [d33, e30, b298]
  have y47 : n18 = hV H0 298 p1_.1 := by
    rw [d47, e44, b298]
  have y61 : n23 = hV H0 300 p0_.1 := by
    rw [d61, e58, b300]
  have y73 : n27 = hV H0 300 p1_.1 := by
    rw [d73, e70, b300]
  have qm := qrN_m (show (nowR (hV H0 340) (recR H0 p0_.1, p0_.2)).1 = 1 from (by rw [nwR_k]; omega)) (show (nowR (hV H0 340) (recR H0 p1_.1, p1_.2)).1 = 1 from (by rw [nwR_k]; omega))
  rw [nwR_s, nwR_s] at qm
  have kd0 : hV H0 298 p0_.1 = 1 := by omega
  have kd1 : hV H0 298 p1_.1 = 1 := by omega
  rw [decide_eq_true (by omega), Bool.true_and, nwR_a kd0, nwR_a kd1, nwR_t kd0, nwR_t kd1] at qm
  have fr77 := f77.2.2
  unfold nb_271 at fr77
  rw [b340, b301, b302, xa1.1, xa1.2] at fr77
  have fr80 := f80.2.2
  unfold nb_271 at fr80
  rw [show hV H2 340 = hV H1 340 from fRow f77.1.2.1 340 (by decide +kernel), b340, show hV H2 301 = hV H1 301 from fRow f77.1.2.1 301 (by decide +kernel), b301, show hV H2 302 = hV H1 302 from fRow f77.1.2.1 302 (by decide +kernel), b302, show hV H2 344 = hV H1 344 from fRow f77.1.2.1 344 (by decide +kernel), show hV H2 345 = hV H1 345 from fRow f77.1.2.1 345 (by decide +kernel), xa0.1, xa0.2] at fr80
  have fr85 := f85.2.2
  unfold nb_271 at fr85
  rw [show hV H3 340 = hV H1 340 from (fRow f80.1.2.1 340 (by decide +kernel)).trans (fRow f77.1.2.1 340 (by decide +kernel)), b340, show hV H3 301 = hV H1 301 from (fRow f80.1.2.1 301 (by decide +kernel)).trans (fRow f77.1.2.1 301 (by decide +kernel)), b301, show hV H3 302 = hV H1 302 from (fRow f80.1.2.1 302 (by decide +kernel)).trans (fRow f77.1.2.1 302 (by decide +kernel)), b302, show hV H3 344 = hV H1 344 from (fRow f80.1.2.1 344 (by decide +kernel)).trans (fRow f77.1.2.1 344 (by decide +kernel)), show hV H3 345 = hV H1 345 from (fRow f80.1.2.1 345 (by decide +kernel)).trans (fRow f77.1.2.1 345 (by decide +kernel)), xa0.1, xa0.2] at fr85
  have fr88 := f88.2.2
  unfold nb_272 at fr88
  rw [show hV H4 340 = hV H1 340 from (fRow f85.1.2.1 340 (by decide +kernel)).trans ((fRow f80.1.2.1 340 (by decide +kernel)).trans (fRow f77.1.2.1 340 (by decide +kernel))), b340, show hV H4 303 = hV H1 303 from (fRow f85.1.2.1 303 (by decide +kernel)).trans ((fRow f80.1.2.1 303 (by decide +kernel)).trans (fRow f77.1.2.1 303 (by decide +kernel))), b303, show hV H4 304 = hV H1 304 from (fRow f85.1.2.1 304 (by decide +kernel)).trans ((fRow f80.1.2.1 304 (by decide +kernel)).trans (fRow f77.1.2.1 304 (by decide +kernel))), b304, show hV H4 344 = hV H1 344 from (fRow f85.1.2.1 344 (by decide +kernel)).trans ((fRow f80.1.2.1 344 (by decide +kernel)).trans (fRow f77.1.2.1 344 (by decide +kernel))), show hV H4 345 = hV H1 345 from (fRow f85.1.2.1 345 (by decide +kernel)).trans ((fRow f80.1.2.1 345 (by decide +kernel)).trans (fRow f77.1.2.1 345 (by decide +kernel))), xa1.1, xa1.2] at fr88
  rw [← fr77, ← fr80] at qm
  rw [← fr88] at qm
  have sl : n30 = n29 := fr85.trans fr80.symm
  rw [decide_eq_true (show n28 < n29 by omega), cond_true] at qm
  rw [decide_eq_true (show n29 < n31 by omega)] at qm
  have yy : qrB (qg ((nwL H0 (hV H0 340) (flS (hV H0 296) (hV H0 298) (hV H0 300) (hV H0 301) (hV H0 302) (hV H0 340) (7 * (n7).toNat) 7 6 0))) (n1).toNat) (qg ((nwL H0 (hV H0 340) (flS (hV H0 296) (hV H0 298) (hV H0 300) (hV H0 301) (hV H0 302) (hV H0 340) (7 * (n7).toNat) 7 6 0))) (n0).toNat) = true := by
    rw [g0_, g1_]
    exact qm
  have fi := QI_fin qq (by omega) yy (by omega)
  exact ⟨fun w => absurd va w, fun _ _ => by
    rw [fi]
    omega⟩
def g_300w_39_10 : vG := ([(1, [34, 33, 8], [], 0), (3, [33, 32, 7], [], 0), (0, [32], [], 64), (30, [6], [], 0), (42, [30, 31], [], 0), (1272, [31, 3, 8], [4, 5], 0), (90, [31], [], -10999), (91, [31], [], 10999), (1271, [30, 3, 7], [3, 4], 0), (90, [30], [], -10999), (91, [30], [], 10999), (41, [8, 7], [], 0), (42, [28, 29], [], 0), (1271, [29, 3, 7], [2, 3], 0), (90, [29], [], -10999), (91, [29], [], 10999), (1271, [28, 3, 8], [1, 2], 0), (90, [28], [], -10999), (91, [28], [], 10999), (40, [23, 27], [], 0), (22, [27, 24, 26], [1], 0), (90, [27], [], -1), (91, [27], [], 9999), (22, [26, 25, 8], [1], 0), (90, [26], [], 0), (91, [26], [], 1007), (20, [25, 3], [1], 83), (23, [3], [1], 12), (0, [25], [], 344), (20, [24, 3], [1], 26), (23, [3], [1], 12), (0, [24], [], 300), (22, [23, 20, 22], [1], 0), (90, [23], [], -1), (91, [23], [], 9999), (22, [22, 21, 7], [1], 0), (90, [22], [], 0), (91, [22], [], 1007), (20, [21, 3], [1], 83), (23, [3], [1], 12), (0, [21], [], 344), (20, [20, 3], [1], 26), (23, [3], [1], 12), (0, [20], [], 300), (40, [18, 19], [], 0), (0, [19], [], 1), (22, [18, 15, 17], [1], 0), (90, [18], [], 0), (91, [18], [], 5), (22, [17, 16, 8], [1], 0), (90, [17], [], 0), (91, [17], [], 1007), (20, [16, 3], [1], 83), (23, [3], [1], 12), (0, [16], [], 344), (20, [15, 3], [1], 24), (23, [3], [1], 12), (0, [15], [], 298), (40, [13, 14], [], 0), (0, [14], [], 1), (22, [13, 10, 12], [1], 0), (90, [13], [], 0), (91, [13], [], 5), (22, [12, 11, 7], [1], 0), (90, [12], [], 0), (91, [12], [], 1007), (20, [11, 3], [1], 83), (23, [3], [1], 12), (0, [11], [], 344), (20, [10, 3], [1], 24), (23, [3], [1], 12), (0, [10], [], 298), (42, [8, 9], [], 0), (20, [9, 3], [1], 82), (23, [3], [1], 12), (90, [9], [], 0), (91, [9], [], 40), (5000, [0, 1, 2, 3, 4, 5, 6, 7, 8], [0, 1], 39), (0, [0], [], 285), (90, [1], [], -2147483648), (91, [1], [], 2147483647), (90, [2], [], -2147483648), (91, [2], [], 2147483647), (0, [3], [], 285), (90, [4], [], -2147483648), (91, [4], [], 2147483647), (90, [5], [], -2147483648), (91, [5], [], 2147483647), (90, [6], [], -2147483648), (91, [6], [], 2147483647), (90, [7], [], 0), (91, [7], [], 39), (90, [8], [], 0), (91, [8], [], 40)], (3000, [34], [5], 180))
theorem c_300w_39_10 {q0 : Nat} : vOkm T0 (eN e_300 L_300w A_300 mu_300 n_300 B_300 (some q0)) 3 g_300w_39_10 := vOk_inI fun ρ η f0 f1 f2 f3 f4 f5 f6 f7 f8 f9 f10 f11 f12 f13 f14 f15 f16 f17 f18 f19 f20 f21 f22 f23 f24 f25 f26 f27 f28 f29 f30 f31 f32 f33 f34 f35 f36 f37 f38 f39 f40 f41 f42 f43 f44 f45 f46 f47 f48 f49 f50 f51 f52 f53 f54 f55 f56 f57 f58 f59 f60 f61 f62 f63 f64 f65 f66 f67 f68 f69 f70 f71 f72 f73 f74 f75 f76 f77 f78 f79 f80 f81 f82 f83 f84 f85 f86 f87 f88 f89 f90 f91 f92 f93 => q_300w_15 (q0 := q0) (n0 := ρ 8) (n1 := ρ 7) (n2 := ρ 6) (n3 := ρ 5) (n4 := ρ 4) (n5 := ρ 3) (n6 := ρ 2) (n7 := ρ 1) (n8 := ρ 0) (n9 := ρ 9) (n10 := ρ 10) (n11 := ρ 11) (n12 := ρ 12) (n13 := ρ 13) (n14 := ρ 14) (n15 := ρ 15) (n16 := ρ 16) (n17 := ρ 17) (n18 := ρ 18) (n19 := ρ 19) (n20 := ρ 20) (n21 := ρ 21) (n22 := ρ 22) (n23 := ρ 23) (n24 := ρ 24) (n25 := ρ 25) (n26 := ρ 26) (n27 := ρ 27) (n28 := ρ 28) (n29 := ρ 29) (n30 := ρ 30) (n31 := ρ 31) (n32 := ρ 32) (n33 := ρ 33) (n34 := ρ 34) (H0 := η 0) (H1 := η 1) (H2 := η 2) (H3 := η 3) (H4 := η 4) (H5 := η 5) f93 f92 f91 f90 f89 f88 f87 f86 f85 f84 f83 f82 f81 f80 f79 f78 f77 f76 f75 f74 f73 f72 f71 f70 f69 f68 f67 f66 f65 f64 f63 f62 f61 f60 f59 f58 f57 f56 f55 f54 f53 f52 f51 f50 f49 f48 f47 f46 f45 f44 f43 f42 f41 f40 f39 f38 f37 f36 f35 f34 f33 f32 f31 f30 f29 f28 f27 f26 f25 f24 f23 f22 f21 f20 f19 f18 f17 f16 f15 f14 f13 f12 f11 f10 f9 f8 f7 f6 f5 f4 f3 f2 f1 f0
theorem q_300w_16 {q0 : Nat} {n0 n1 n2 n3 n4 n5 n6 n7 n8 n9 n10 n11 n12 n13 n14 n15 n16 n17 n18 n19 n20 n21 n22 n23 n24 n25 n26 n27 n28 n29 n30 n31 n32 : Int} {H0 H1 H2 H3 H4 H5 : gH} (f0 : n0 ≤ 40) (f1 : 0 ≤ n0) (f2 : n1 ≤ 39) (f3 : 0 ≤ n1) (f4 : n2 ≤ 2147483647) (f5 : (-2147483648) ≤ n2) (f6 : n3 ≤ 2147483647) (f7 : (-2147483648) ≤ n3) (f8 : n4 ≤ 2147483647) (f9 : (-2147483648) ≤ n4) (f10 : n5 = 285) (f11 : n6 ≤ 2147483647) (f12 : (-2147483648) ≤ n6) (f13 : n7 ≤ 2147483647) (f14 : (-2147483648) ≤ n7) (f15 : n8 = 285) (f16 : (hLe T0 H0 H1 ∧ hFr s_300.2.2.2.2 H0 H1 ∧ hWt T0 H1) ∧ ((Ab_300_39 n8 n7 n6 n5 n4 n3 n2 n1 n0 H0 H1 ∧ Bb_300_39 n8 n7 n6 n5 n4 n3 n2 n1 n0 H0 H1) ∧ preb_300 n8 n7 n6 H0) ∧ some q0 = some (mub_300_39 n8 n7 n6 n5 n4 n3 n2 n1 n0 H0 H1)) (f17 : n9 ≤ 40) (f18 : 0 ≤ n9) (f19 : hK H1 (n5).toNat = 12) (f20 : n9 = hV H1 (n5).toNat 82) (f21 : n0 < n9) (f22 : n10 = 298) (f23 : hK H1 (n5).toNat = 12) (f24 : n10 = hV H1 (n5).toNat 24) (f25 : n11 = 344) (f26 : hK H1 (n5).toNat = 12) (f27 : n11 = hV H1 (n5).toNat 83) (f28 : n12 ≤ 1007) (f29 : 0 ≤ n12) (f30 : n12 = hV H1 (n11).toNat (n1).toNat) (f31 : n13 ≤ 5) (f32 : 0 ≤ n13) (f33 : n13 = hV H1 (n10).toNat (n12).toNat) (f34 : n14 = 1) (f35 : n13 = n14) (f36 : n15 = 298) (f37 : hK H1 (n5).toNat = 12) (f38 : n15 = hV H1 (n5).toNat 24) (f39 : n16 = 344) (f40 : hK H1 (n5).toNat = 12) (f41 : n16 = hV H1 (n5).toNat 83) (f42 : n17 ≤ 1007) (f43 : 0 ≤ n17) (f44 : n17 = hV H1 (n16).toNat (n0).toNat) (f45 : n18 ≤ 5) (f46 : 0 ≤ n18) (f47 : n18 = hV H1 (n15).toNat (n17).toNat) (f48 : n19 = 1) (f49 : n18 = n19) (f50 : n20 = 300) (f51 : hK H1 (n5).toNat = 12) (f52 : n20 = hV H1 (n5).toNat 26) (f53 : n21 = 344) (f54 : hK H1 (n5).toNat = 12) (f55 : n21 = hV H1 (n5).toNat 83) (f56 : n22 ≤ 1007) (f57 : 0 ≤ n22) (f58 : n22 = hV H1 (n21).toNat (n1).toNat) (f59 : n23 ≤ 9999) (f60 : (-1) ≤ n23) (f61 : n23 = hV H1 (n20).toNat (n22).toNat) (f62 : n24 = 300) (f63 : hK H1 (n5).toNat = 12) (f64 : n24 = hV H1 (n5).toNat 26) (f65 : n25 = 344) (f66 : hK H1 (n5).toNat = 12) (f67 : n25 = hV H1 (n5).toNat 83) (f68 : n26 ≤ 1007) (f69 : 0 ≤ n26) (f70 : n26 = hV H1 (n25).toNat (n0).toNat) (f71 : n27 ≤ 9999) (f72 : (-1) ≤ n27) (f73 : n27 = hV H1 (n24).toNat (n26).toNat) (f74 : n23 = n27) (f75 : n28 ≤ 10999) (f76 : (-10999) ≤ n28) (f77 : (hLe T0 H1 H2 ∧ hFr s_271.2.2.2.2 H1 H2 ∧ ((0 : Int) = 0 → H2.length = H1.length) ∧ hWt T0 H2) ∧ (True ∧ nb_271 n28 n5 n0 H1 H2)) (f78 : n29 ≤ 10999) (f79 : (-10999) ≤ n29) (f80 : (hLe T0 H2 H3 ∧ hFr s_271.2.2.2.2 H2 H3 ∧ ((0 : Int) = 0 → H3.length = H2.length) ∧ hWt T0 H3) ∧ (True ∧ nb_271 n29 n5 n1 H2 H3)) (f81 : n28 < n29) (f82 : n0 ≠ n1) (f83 : n30 ≤ 10999) (f84 : (-10999) ≤ n30) (f85 : (hLe T0 H3 H4 ∧ hFr s_271.2.2.2.2 H3 H4 ∧ ((0 : Int) = 0 → H4.length = H3.length) ∧ hWt T0 H4) ∧ (True ∧ nb_271 n30 n5 n1 H3 H4)) (f86 : n31 ≤ 10999) (f87 : (-10999) ≤ n31) (f88 : (hLe T0 H4 H5 ∧ hFr s_272.2.2.2.2 H4 H5 ∧ ((0 : Int) = 0 → H5.length = H4.length) ∧ hWt T0 H5) ∧ (True ∧ nb_272 n31 n5 n0 H4 H5)) (f89 : n31 ≤ n30) (f90 : n32 = w32 (n0 + 1)) : Bb_300_39 n8 n7 n6 n5 n4 n3 n2 n1 n32 H0 H5 := by
  unfold Bb_300_39
  have gb := f16.2.1.1.2
  unfold Bb_300_39 at gb
  obtain ⟨va, ex, qq⟩ := gb
  have q21 := f21
  have q35 := f35
  have qc34 := f34
  have q49 := f49
  have qc48 := f48
  have q74 := f74
  have q81 := f81
  have q82 := f82
  have q89 := f89
  have q90 := f90
  unfold w32 at q90
  have k10 := f10
  have k15 := f15
  have k22 := f22
  have k25 := f25
  have k34 := f34
  have k36 := f36
  have k39 := f39
  have k48 := f48
  have k50 := f50
  have k53 := f53
  have k62 := f62
  have k65 := f65
  have ln := congrArg List.length ex
  rw [xsL_len] at ln
  have ll : ((nwL H0 (hV H0 340) (flS (hV H0 296) (hV H0 298) (hV H0 300) (hV H0 301) (hV H0 302) (hV H0 340) (7 * (n7).toNat) 7 6 0))).length = (flS (hV H0 296) (hV H0 298) (hV H0 300) (hV H0 301) (hV H0 302) (hV H0 340) (7 * (n7).toNat) 7 6 0).length := nwL_len
  have w90 := f90
  unfold w32 at w90
  have d20 := rdS (q := 285) f20 f10
  have d30 := rdW (q := 344) f30 f25
  have d33 := rdW (q := 298) f33 f22
  have d44 := rdW (q := 344) f44 f39
  have d47 := rdW (q := 298) f47 f36
  have d58 := rdW (q := 344) f58 f53
  have d61 := rdW (q := 300) f61 f50
  have d70 := rdW (q := 344) f70 f65
  have d73 := rdW (q := 300) f73 f62
  have rg17 := f17
  have rg18 := f18
  have qc := qq
  obtain ⟨q1, q2, q3, q4, q5⟩ := qc
  obtain ⟨p0_, hp0⟩ : ∃ p, (flS (hV H0 296) (hV H0 298) (hV H0 300) (hV H0 301) (hV H0 302) (hV H0 340) (7 * (n7).toNat) 7 6 0)[(n1).toNat]? = some p := ⟨_, List.getElem?_eq_getElem (by omega)⟩
  have xa0 := xsL_at ex hp0
  have g0_ := nwL_at (h := H0) (mk := hV H0 340) hp0
  obtain ⟨p1_, hp1⟩ : ∃ p, (flS (hV H0 296) (hV H0 298) (hV H0 300) (hV H0 301) (hV H0 302) (hV H0 340) (7 * (n7).toNat) 7 6 0)[(n0).toNat]? = some p := ⟨_, List.getElem?_eq_getElem (by omega)⟩
  have xa1 := xsL_at ex hp1
  have g1_ := nwL_at (h := H0) (mk := hV H0 340) hp1
  have b298 : hV H1 298 = hV H0 298 := fRow f16.1.2.1 298 (by decide +kernel)
  have b300 : hV H1 300 = hV H0 300 := fRow f16.1.2.1 300 (by decide +kernel)
  have b301 : hV H1 301 = hV H0 301 := fRow f16.1.2.1 301 (by decide +kernel)
  have b302 : hV H1 302 = hV H0 302 := fRow f16.1.2.1 302 (by decide +kernel)
  have b303 : hV H1 303 = hV H0 303 := fRow f16.1.2.1 303 (by decide +kernel)
  have b304 : hV H1 304 = hV H0 304 := fRow f16.1.2.1 304 (by decide +kernel)
  have b340 : hV H1 340 = hV H0 340 := fRow f16.1.2.1 340 (by decide +kernel)
  have e30 : (n12).toNat = p0_.1 := by
    rw [d30]
    exact xa0.1
  have e44 : (n17).toNat = p1_.1 := by
    rw [d44]
    exact xa1.1
  have e58 : (n22).toNat = p0_.1 := by
    rw [d58]
    exact xa0.1
  have e70 : (n26).toNat = p1_.1 := by
    rw [d70]
    exact xa1.1
  have y33 : n13 = hV H0 298 p0_.1 := by
    rw [d33, e30, b298]
  have y47 : n18 = hV H0 298 p1_.1 := by
    rw [d47, e44, b298]
  have y61 : n23 = hV H0 300 p0_.1 := by
    rw [d61, e58, b300]
  have y73 : n27 = hV H0 300 p1_.1 := by
    rw [d73, e70, b300]
  have qm := qrN_m (show (nowR (hV H0 340) (recR H0 p0_.1, p0_.2)).1 = 1 from (by rw [nwR_k]; omega)) (show (nowR (hV H0 340) (recR H0 p1_.1, p1_.2)).1 = 1 from (by rw [nwR_k]; omega))
  rw [nwR_s, nwR_s] at qm
  have kd0 : hV H0 298 p0_.1 = 1 := by omega
  have kd1 : hV H0 298 p1_.1 = 1 := by omega
  rw [decide_eq_true (by omega), Bool.true_and, nwR_a kd0, nwR_a kd1, nwR_t kd0, nwR_t kd1] at qm
  have fr77 := f77.2.2
  unfold nb_271 at fr77
  rw [b340, b301, b302, xa1.1, xa1.2] at fr77
  have fr80 := f80.2.2
  unfold nb_271 at fr80
  rw [show hV H2 340 = hV H1 340 from fRow f77.1.2.1 340 (by decide +kernel), b340, show hV H2 301 = hV H1 301 from fRow f77.1.2.1 301 (by decide +kernel), b301, show hV H2 302 = hV H1 302 from fRow f77.1.2.1 302 (by decide +kernel), b302, show hV H2 344 = hV H1 344 from fRow f77.1.2.1 344 (by decide +kernel), show hV H2 345 = hV H1 345 from fRow f77.1.2.1 345 (by decide +kernel), xa0.1, xa0.2] at fr80
  have fr85 := f85.2.2
  unfold nb_271 at fr85
  rw [show hV H3 340 = hV H1 340 from (fRow f80.1.2.1 340 (by decide +kernel)).trans (fRow f77.1.2.1 340 (by decide +kernel)), b340, show hV H3 301 = hV H1 301 from (fRow f80.1.2.1 301 (by decide +kernel)).trans (fRow f77.1.2.1 301 (by decide +kernel)), b301, show hV H3 302 = hV H1 302 from (fRow f80.1.2.1 302 (by decide +kernel)).trans (fRow f77.1.2.1 302 (by decide +kernel)), b302, show hV H3 344 = hV H1 344 from (fRow f80.1.2.1 344 (by decide +kernel)).trans (fRow f77.1.2.1 344 (by decide +kernel)), show hV H3 345 = hV H1 345 from (fRow f80.1.2.1 345 (by decide +kernel)).trans (fRow f77.1.2.1 345 (by decide +kernel)), xa0.1, xa0.2] at fr85
  have fr88 := f88.2.2
  unfold nb_272 at fr88
  rw [show hV H4 340 = hV H1 340 from (fRow f85.1.2.1 340 (by decide +kernel)).trans ((fRow f80.1.2.1 340 (by decide +kernel)).trans (fRow f77.1.2.1 340 (by decide +kernel))), b340, show hV H4 303 = hV H1 303 from (fRow f85.1.2.1 303 (by decide +kernel)).trans ((fRow f80.1.2.1 303 (by decide +kernel)).trans (fRow f77.1.2.1 303 (by decide +kernel))), b303, show hV H4 304 = hV H1 304 from (fRow f85.1.2.1 304 (by decide +kernel)).trans ((fRow f80.1.2.1 304 (by decide +kernel)).trans (fRow f77.1.2.1 304 (by decide +kernel))), b304, show hV H4 344 = hV H1 344 from (fRow f85.1.2.1 344 (by decide +kernel)).trans ((fRow f80.1.2.1 344 (by decide +kernel)).trans (fRow f77.1.2.1 344 (by decide +kernel))), show hV H4 345 = hV H1 345 from (fRow f85.1.2.1 345 (by decide +kernel)).trans ((fRow f80.1.2.1 345 (by decide +kernel)).trans (fRow f77.1.2.1 345 (by decide +kernel))), xa1.1, xa1.2] at fr88
  rw [← fr77, ← fr80] at qm
  rw [← fr88] at qm
  have sl : n30 = n29 := fr85.trans fr80.symm
  rw [decide_eq_true (show n28 < n29 by omega), cond_true] at qm
  rw [decide_eq_false (show ¬ n29 < n31 by omega)] at qm
  have ey : hV H5 344 = hV H1 344 ∧ hV H5 345 = hV H1 345 ∧ hV H5 285 82 = hV H1 285 82 := ⟨(fRow f88.1.2.1 344 (by decide +kernel)).trans ((fRow f85.1.2.1 344 (by decide +kernel)).trans ((fRow f80.1.2.1 344 (by decide +kernel)).trans (fRow f77.1.2.1 344 (by decide +kernel)))), (fRow f88.1.2.1 345 (by decide +kernel)).trans ((fRow f85.1.2.1 345 (by decide +kernel)).trans ((fRow f80.1.2.1 345 (by decide +kernel)).trans (fRow f77.1.2.1 345 (by decide +kernel)))), (f88.1.2.1.1 285 82 (by decide +kernel)).trans ((f85.1.2.1.1 285 82 (by decide +kernel)).trans ((f80.1.2.1.1 285 82 (by decide +kernel)).trans (f77.1.2.1.1 285 82 (by decide +kernel))))⟩
  exact ⟨va, (by rw [ey.1, ey.2.1, ey.2.2]; exact ex), QI_no qq (by omega) (by rw [g0_, g1_]; exact qm) (by omega)⟩
def g_300w_39_11 : vG := ([(10, [32, 8], [], 1), (43, [30, 31], [], 0), (1272, [31, 3, 8], [4, 5], 0), (90, [31], [], -10999), (91, [31], [], 10999), (1271, [30, 3, 7], [3, 4], 0), (90, [30], [], -10999), (91, [30], [], 10999), (41, [8, 7], [], 0), (42, [28, 29], [], 0), (1271, [29, 3, 7], [2, 3], 0), (90, [29], [], -10999), (91, [29], [], 10999), (1271, [28, 3, 8], [1, 2], 0), (90, [28], [], -10999), (91, [28], [], 10999), (40, [23, 27], [], 0), (22, [27, 24, 26], [1], 0), (90, [27], [], -1), (91, [27], [], 9999), (22, [26, 25, 8], [1], 0), (90, [26], [], 0), (91, [26], [], 1007), (20, [25, 3], [1], 83), (23, [3], [1], 12), (0, [25], [], 344), (20, [24, 3], [1], 26), (23, [3], [1], 12), (0, [24], [], 300), (22, [23, 20, 22], [1], 0), (90, [23], [], -1), (91, [23], [], 9999), (22, [22, 21, 7], [1], 0), (90, [22], [], 0), (91, [22], [], 1007), (20, [21, 3], [1], 83), (23, [3], [1], 12), (0, [21], [], 344), (20, [20, 3], [1], 26), (23, [3], [1], 12), (0, [20], [], 300), (40, [18, 19], [], 0), (0, [19], [], 1), (22, [18, 15, 17], [1], 0), (90, [18], [], 0), (91, [18], [], 5), (22, [17, 16, 8], [1], 0), (90, [17], [], 0), (91, [17], [], 1007), (20, [16, 3], [1], 83), (23, [3], [1], 12), (0, [16], [], 344), (20, [15, 3], [1], 24), (23, [3], [1], 12), (0, [15], [], 298), (40, [13, 14], [], 0), (0, [14], [], 1), (22, [13, 10, 12], [1], 0), (90, [13], [], 0), (91, [13], [], 5), (22, [12, 11, 7], [1], 0), (90, [12], [], 0), (91, [12], [], 1007), (20, [11, 3], [1], 83), (23, [3], [1], 12), (0, [11], [], 344), (20, [10, 3], [1], 24), (23, [3], [1], 12), (0, [10], [], 298), (42, [8, 9], [], 0), (20, [9, 3], [1], 82), (23, [3], [1], 12), (90, [9], [], 0), (91, [9], [], 40), (5000, [0, 1, 2, 3, 4, 5, 6, 7, 8], [0, 1], 39), (0, [0], [], 285), (90, [1], [], -2147483648), (91, [1], [], 2147483647), (90, [2], [], -2147483648), (91, [2], [], 2147483647), (0, [3], [], 285), (90, [4], [], -2147483648), (91, [4], [], 2147483647), (90, [5], [], -2147483648), (91, [5], [], 2147483647), (90, [6], [], -2147483648), (91, [6], [], 2147483647), (90, [7], [], 0), (91, [7], [], 39), (90, [8], [], 0), (91, [8], [], 40)], (4000, [3, 4, 5, 6, 7, 32], [5], 39))
theorem c_300w_39_11 {q0 : Nat} : vOkm T0 (eN e_300 L_300w A_300 mu_300 n_300 B_300 (some q0)) 3 g_300w_39_11 := vOk_inI fun ρ η f0 f1 f2 f3 f4 f5 f6 f7 f8 f9 f10 f11 f12 f13 f14 f15 f16 f17 f18 f19 f20 f21 f22 f23 f24 f25 f26 f27 f28 f29 f30 f31 f32 f33 f34 f35 f36 f37 f38 f39 f40 f41 f42 f43 f44 f45 f46 f47 f48 f49 f50 f51 f52 f53 f54 f55 f56 f57 f58 f59 f60 f61 f62 f63 f64 f65 f66 f67 f68 f69 f70 f71 f72 f73 f74 f75 f76 f77 f78 f79 f80 f81 f82 f83 f84 f85 f86 f87 f88 f89 f90 => q_300w_16 (q0 := q0) (n0 := ρ 8) (n1 := ρ 7) (n2 := ρ 6) (n3 := ρ 5) (n4 := ρ 4) (n5 := ρ 3) (n6 := ρ 2) (n7 := ρ 1) (n8 := ρ 0) (n9 := ρ 9) (n10 := ρ 10) (n11 := ρ 11) (n12 := ρ 12) (n13 := ρ 13) (n14 := ρ 14) (n15 := ρ 15) (n16 := ρ 16) (n17 := ρ 17) (n18 := ρ 18) (n19 := ρ 19) (n20 := ρ 20) (n21 := ρ 21) (n22 := ρ 22) (n23 := ρ 23) (n24 := ρ 24) (n25 := ρ 25) (n26 := ρ 26) (n27 := ρ 27) (n28 := ρ 28) (n29 := ρ 29) (n30 := ρ 30) (n31 := ρ 31) (n32 := ρ 32) (H0 := η 0) (H1 := η 1) (H2 := η 2) (H3 := η 3) (H4 := η 4) (H5 := η 5) f90 f89 f88 f87 f86 f85 f84 f83 f82 f81 f80 f79 f78 f77 f76 f75 f74 f73 f72 f71 f70 f69 f68 f67 f66 f65 f64 f63 f62 f61 f60 f59 f58 f57 f56 f55 f54 f53 f52 f51 f50 f49 f48 f47 f46 f45 f44 f43 f42 f41 f40 f39 f38 f37 f36 f35 f34 f33 f32 f31 f30 f29 f28 f27 f26 f25 f24 f23 f22 f21 f20 f19 f18 f17 f16 f15 f14 f13 f12 f11 f10 f9 f8 f7 f6 f5 f4 f3 f2 f1 f0
theorem q_300w_17 {q0 : Nat} {n0 n1 n2 n3 n4 n5 n6 n7 n8 n9 n10 n11 n12 n13 n14 n15 n16 n17 n18 n19 n20 n21 n22 n23 n24 n25 n26 n27 n28 n29 n30 n31 n32 n33 : Int} {H0 H1 H2 H3 H4 H5 : gH} (f0 : n0 ≤ 40) (f1 : 0 ≤ n0) (f2 : n1 ≤ 39) (f3 : 0 ≤ n1) (f4 : n2 ≤ 2147483647) (f5 : (-2147483648) ≤ n2) (f6 : n3 ≤ 2147483647) (f7 : (-2147483648) ≤ n3) (f8 : n4 ≤ 2147483647) (f9 : (-2147483648) ≤ n4) (f10 : n5 = 285) (f11 : n6 ≤ 2147483647) (f12 : (-2147483648) ≤ n6) (f13 : n7 ≤ 2147483647) (f14 : (-2147483648) ≤ n7) (f15 : n8 = 285) (f16 : (hLe T0 H0 H1 ∧ hFr s_300.2.2.2.2 H0 H1 ∧ hWt T0 H1) ∧ ((Ab_300_39 n8 n7 n6 n5 n4 n3 n2 n1 n0 H0 H1 ∧ Bb_300_39 n8 n7 n6 n5 n4 n3 n2 n1 n0 H0 H1) ∧ preb_300 n8 n7 n6 H0) ∧ some q0 = some (mub_300_39 n8 n7 n6 n5 n4 n3 n2 n1 n0 H0 H1)) (f17 : n9 ≤ 40) (f18 : 0 ≤ n9) (f19 : hK H1 (n5).toNat = 12) (f20 : n9 = hV H1 (n5).toNat 82) (f21 : n0 < n9) (f22 : n10 = 298) (f23 : hK H1 (n5).toNat = 12) (f24 : n10 = hV H1 (n5).toNat 24) (f25 : n11 = 344) (f26 : hK H1 (n5).toNat = 12) (f27 : n11 = hV H1 (n5).toNat 83) (f28 : n12 ≤ 1007) (f29 : 0 ≤ n12) (f30 : n12 = hV H1 (n11).toNat (n1).toNat) (f31 : n13 ≤ 5) (f32 : 0 ≤ n13) (f33 : n13 = hV H1 (n10).toNat (n12).toNat) (f34 : n14 = 1) (f35 : n13 = n14) (f36 : n15 = 298) (f37 : hK H1 (n5).toNat = 12) (f38 : n15 = hV H1 (n5).toNat 24) (f39 : n16 = 344) (f40 : hK H1 (n5).toNat = 12) (f41 : n16 = hV H1 (n5).toNat 83) (f42 : n17 ≤ 1007) (f43 : 0 ≤ n17) (f44 : n17 = hV H1 (n16).toNat (n0).toNat) (f45 : n18 ≤ 5) (f46 : 0 ≤ n18) (f47 : n18 = hV H1 (n15).toNat (n17).toNat) (f48 : n19 = 1) (f49 : n18 = n19) (f50 : n20 = 300) (f51 : hK H1 (n5).toNat = 12) (f52 : n20 = hV H1 (n5).toNat 26) (f53 : n21 = 344) (f54 : hK H1 (n5).toNat = 12) (f55 : n21 = hV H1 (n5).toNat 83) (f56 : n22 ≤ 1007) (f57 : 0 ≤ n22) (f58 : n22 = hV H1 (n21).toNat (n1).toNat) (f59 : n23 ≤ 9999) (f60 : (-1) ≤ n23) (f61 : n23 = hV H1 (n20).toNat (n22).toNat) (f62 : n24 = 300) (f63 : hK H1 (n5).toNat = 12) (f64 : n24 = hV H1 (n5).toNat 26) (f65 : n25 = 344) (f66 : hK H1 (n5).toNat = 12) (f67 : n25 = hV H1 (n5).toNat 83) (f68 : n26 ≤ 1007) (f69 : 0 ≤ n26) (f70 : n26 = hV H1 (n25).toNat (n0).toNat) (f71 : n27 ≤ 9999) (f72 : (-1) ≤ n27) (f73 : n27 = hV H1 (n24).toNat (n26).toNat) (f74 : n23 = n27) (f75 : n28 ≤ 10999) (f76 : (-10999) ≤ n28) (f77 : (hLe T0 H1 H2 ∧ hFr s_271.2.2.2.2 H1 H2 ∧ ((0 : Int) = 0 → H2.length = H1.length) ∧ hWt T0 H2) ∧ (True ∧ nb_271 n28 n5 n0 H1 H2)) (f78 : n29 ≤ 10999) (f79 : (-10999) ≤ n29) (f80 : (hLe T0 H2 H3 ∧ hFr s_271.2.2.2.2 H2 H3 ∧ ((0 : Int) = 0 → H3.length = H2.length) ∧ hWt T0 H3) ∧ (True ∧ nb_271 n29 n5 n1 H2 H3)) (f81 : n28 < n29) (f82 : n0 = n1) (f83 : n30 ≤ 10999) (f84 : (-10999) ≤ n30) (f85 : (hLe T0 H3 H4 ∧ hFr s_271.2.2.2.2 H3 H4 ∧ ((0 : Int) = 0 → H4.length = H3.length) ∧ hWt T0 H4) ∧ (True ∧ nb_271 n30 n5 n0 H3 H4)) (f86 : n31 ≤ 10999) (f87 : (-10999) ≤ n31) (f88 : (hLe T0 H4 H5 ∧ hFr s_272.2.2.2.2 H4 H5 ∧ ((0 : Int) = 0 → H5.length = H4.length) ∧ hWt T0 H5) ∧ (True ∧ nb_272 n31 n5 n0 H4 H5)) (f89 : n30 < n31) (f90 : n2 ≠ 0) (f91 : n32 = w32 (n2 + (-1))) (f92 : n33 = w32 (n0 + 1)) : Bb_300_39 n8 n7 n6 n5 n4 n3 n32 n1 n33 H0 H5 := by
  unfold Bb_300_39
  have gb := f16.2.1.1.2
  unfold Bb_300_39 at gb
  obtain ⟨va, ex, qq⟩ := gb
  have q21 := f21
  have q35 := f35
  have qc34 := f34
  have q49 := f49
  have qc48 := f48
  have q74 := f74
  have q81 := f81
  have q82 := f82
  have q89 := f89
  have q90 := f90
  have q91 := f91
  unfold w32 at q91
  have q92 := f92
  unfold w32 at q92
  have k10 := f10
  have k15 := f15
  have k22 := f22
  have k25 := f25
  have k34 := f34
  have k36 := f36
  have k39 := f39
  have k48 := f48
  have k50 := f50
  have k53 := f53
  have k62 := f62
  have k65 := f65
  have ln := congrArg List.length ex
  rw [xsL_len] at ln
  have ll : ((nwL H0 (hV H0 340) (flS (hV H0 296) (hV H0 298) (hV H0 300) (hV H0 301) (hV H0 302) (hV H0 340) (7 * (n7).toNat) 7 6 0))).length = (flS (hV H0 296) (hV H0 298) (hV H0 300) (hV H0 301) (hV H0 302) (hV H0 340) (7 * (n7).toNat) 7 6 0).length := nwL_len
  have w91 := f91
  unfold w32 at w91
  have w92 := f92
  unfold w32 at w92
  have d20 := rdS (q := 285) f20 f10
  have d30 := rdW (q := 344) f30 f25
  have d33 := rdW (q := 298) f33 f22
  have d44 := rdW (q := 344) f44 f39
  have d47 := rdW (q := 298) f47 f36
  have d58 := rdW (q := 344) f58 f53
  have d61 := rdW (q := 300) f61 f50
  have d70 := rdW (q := 344) f70 f65
  have d73 := rdW (q := 300) f73 f62
  have rg17 := f17
  have rg18 := f18
  have qc := qq
  obtain ⟨q1, q2, q3, q4, q5⟩ := qc
  obtain ⟨p0_, hp0⟩ : ∃ p, (flS (hV H0 296) (hV H0 298) (hV H0 300) (hV H0 301) (hV H0 302) (hV H0 340) (7 * (n7).toNat) 7 6 0)[(n1).toNat]? = some p := ⟨_, List.getElem?_eq_getElem (by omega)⟩
  have xa0 := xsL_at ex hp0
  have g0_ := nwL_at (h := H0) (mk := hV H0 340) hp0
  obtain ⟨p1_, hp1⟩ : ∃ p, (flS (hV H0 296) (hV H0 298) (hV H0 300) (hV H0 301) (hV H0 302) (hV H0 340) (7 * (n7).toNat) 7 6 0)[(n0).toNat]? = some p := ⟨_, List.getElem?_eq_getElem (by omega)⟩
  have xa1 := xsL_at ex hp1
  have g1_ := nwL_at (h := H0) (mk := hV H0 340) hp1
  have b298 : hV H1 298 = hV H0 298 := fRow f16.1.2.1 298 (by decide +kernel)
  have b300 : hV H1 300 = hV H0 300 := fRow f16.1.2.1 300 (by decide +kernel)
  have b301 : hV H1 301 = hV H0 301 := fRow f16.1.2.1 301 (by decide +kernel)
  have b302 : hV H1 302 = hV H0 302 := fRow f16.1.2.1 302 (by decide +kernel)
  have b303 : hV H1 303 = hV H0 303 := fRow f16.1.2.1 303 (by decide +kernel)
  have b304 : hV H1 304 = hV H0 304 := fRow f16.1.2.1 304 (by decide +kernel)
  have b340 : hV H1 340 = hV H0 340 := fRow f16.1.2.1 340 (by decide +kernel)
  have e30 : (n12).toNat = p0_.1 := by
    rw [d30]
    exact xa0.1
  have e44 : (n17).toNat = p1_.1 := by
    rw [d44]
    exact xa1.1
  have e58 : (n22).toNat = p0_.1 := by
    rw [d58]
    exact xa0.1
  have e70 : (n26).toNat = p1_.1 := by
    rw [d70]
    exact xa1.1
  have y33 : n13 = hV H0 298 p0_.1 := by
    rw [d33, e30, b298]
  have y47 : n18 = hV H0 298 p1_.1 := by
    rw [d47, e44, b298]
  have y61 : n23 = hV H0 300 p0_.1 := by
    rw [d61, e58, b300]
  have y73 : n27 = hV H0 300 p1_.1 := by
    rw [d73, e70, b300]
  have qm := qrN_m (show (nowR (hV H0 340) (recR H0 p0_.1, p0_.2)).1 = 1 from (by rw [nwR_k]; omega)) (show (nowR (hV H0 340) (recR H0 p1_.1, p1_.2)).1 = 1 from (by rw [nwR_k]; omega))
  rw [nwR_s, nwR_s] at qm
  have kd0 : hV H0 298 p0_.1 = 1 := by omega
  have kd1 : hV H0 298 p1_.1 = 1 := by omega
  exfalso
  omega
def g_300w_39_12 : vG := ([(10, [33, 8], [], 1), (10, [32, 6], [], -1), (31, [6], [], 0), (42, [30, 31], [], 0), (1272, [31, 3, 8], [4, 5], 0), (90, [31], [], -10999), (91, [31], [], 10999), (1271, [30, 3, 8], [3, 4], 0), (90, [30], [], -10999), (91, [30], [], 10999), (40, [8, 7], [], 0), (42, [28, 29], [], 0), (1271, [29, 3, 7], [2, 3], 0), (90, [29], [], -10999), (91, [29], [], 10999), (1271, [28, 3, 8], [1, 2], 0), (90, [28], [], -10999), (91, [28], [], 10999), (40, [23, 27], [], 0), (22, [27, 24, 26], [1], 0), (90, [27], [], -1), (91, [27], [], 9999), (22, [26, 25, 8], [1], 0), (90, [26], [], 0), (91, [26], [], 1007), (20, [25, 3], [1], 83), (23, [3], [1], 12), (0, [25], [], 344), (20, [24, 3], [1], 26), (23, [3], [1], 12), (0, [24], [], 300), (22, [23, 20, 22], [1], 0), (90, [23], [], -1), (91, [23], [], 9999), (22, [22, 21, 7], [1], 0), (90, [22], [], 0), (91, [22], [], 1007), (20, [21, 3], [1], 83), (23, [3], [1], 12), (0, [21], [], 344), (20, [20, 3], [1], 26), (23, [3], [1], 12), (0, [20], [], 300), (40, [18, 19], [], 0), (0, [19], [], 1), (22, [18, 15, 17], [1], 0), (90, [18], [], 0), (91, [18], [], 5), (22, [17, 16, 8], [1], 0), (90, [17], [], 0), (91, [17], [], 1007), (20, [16, 3], [1], 83), (23, [3], [1], 12), (0, [16], [], 344), (20, [15, 3], [1], 24), (23, [3], [1], 12), (0, [15], [], 298), (40, [13, 14], [], 0), (0, [14], [], 1), (22, [13, 10, 12], [1], 0), (90, [13], [], 0), (91, [13], [], 5), (22, [12, 11, 7], [1], 0), (90, [12], [], 0), (91, [12], [], 1007), (20, [11, 3], [1], 83), (23, [3], [1], 12), (0, [11], [], 344), (20, [10, 3], [1], 24), (23, [3], [1], 12), (0, [10], [], 298), (42, [8, 9], [], 0), (20, [9, 3], [1], 82), (23, [3], [1], 12), (90, [9], [], 0), (91, [9], [], 40), (5000, [0, 1, 2, 3, 4, 5, 6, 7, 8], [0, 1], 39), (0, [0], [], 285), (90, [1], [], -2147483648), (91, [1], [], 2147483647), (90, [2], [], -2147483648), (91, [2], [], 2147483647), (0, [3], [], 285), (90, [4], [], -2147483648), (91, [4], [], 2147483647), (90, [5], [], -2147483648), (91, [5], [], 2147483647), (90, [6], [], -2147483648), (91, [6], [], 2147483647), (90, [7], [], 0), (91, [7], [], 39), (90, [8], [], 0), (91, [8], [], 40)], (4000, [3, 4, 5, 32, 7, 33], [5], 39))
theorem c_300w_39_12 {q0 : Nat} : vOkm T0 (eN e_300 L_300w A_300 mu_300 n_300 B_300 (some q0)) 3 g_300w_39_12 := vOk_inI fun ρ η f0 f1 f2 f3 f4 f5 f6 f7 f8 f9 f10 f11 f12 f13 f14 f15 f16 f17 f18 f19 f20 f21 f22 f23 f24 f25 f26 f27 f28 f29 f30 f31 f32 f33 f34 f35 f36 f37 f38 f39 f40 f41 f42 f43 f44 f45 f46 f47 f48 f49 f50 f51 f52 f53 f54 f55 f56 f57 f58 f59 f60 f61 f62 f63 f64 f65 f66 f67 f68 f69 f70 f71 f72 f73 f74 f75 f76 f77 f78 f79 f80 f81 f82 f83 f84 f85 f86 f87 f88 f89 f90 f91 f92 => q_300w_17 (q0 := q0) (n0 := ρ 8) (n1 := ρ 7) (n2 := ρ 6) (n3 := ρ 5) (n4 := ρ 4) (n5 := ρ 3) (n6 := ρ 2) (n7 := ρ 1) (n8 := ρ 0) (n9 := ρ 9) (n10 := ρ 10) (n11 := ρ 11) (n12 := ρ 12) (n13 := ρ 13) (n14 := ρ 14) (n15 := ρ 15) (n16 := ρ 16) (n17 := ρ 17) (n18 := ρ 18) (n19 := ρ 19) (n20 := ρ 20) (n21 := ρ 21) (n22 := ρ 22) (n23 := ρ 23) (n24 := ρ 24) (n25 := ρ 25) (n26 := ρ 26) (n27 := ρ 27) (n28 := ρ 28) (n29 := ρ 29) (n30 := ρ 30) (n31 := ρ 31) (n32 := ρ 32) (n33 := ρ 33) (H0 := η 0) (H1 := η 1) (H2 := η 2) (H3 := η 3) (H4 := η 4) (H5 := η 5) f92 f91 f90 f89 f88 f87 f86 f85 f84 f83 f82 f81 f80 f79 f78 f77 f76 f75 f74 f73 f72 f71 f70 f69 f68 f67 f66 f65 f64 f63 f62 f61 f60 f59 f58 f57 f56 f55 f54 f53 f52 f51 f50 f49 f48 f47 f46 f45 f44 f43 f42 f41 f40 f39 f38 f37 f36 f35 f34 f33 f32 f31 f30 f29 f28 f27 f26 f25 f24 f23 f22 f21 f20 f19 f18 f17 f16 f15 f14 f13 f12 f11 f10 f9 f8 f7 f6 f5 f4 f3 f2 f1 f0
theorem q_300w_18 {q0 : Nat} {n0 n1 n2 n3 n4 n5 n6 n7 n8 n9 n10 n11 n12 n13 n14 n15 n16 n17 n18 n19 n20 n21 n22 n23 n24 n25 n26 n27 n28 n29 n30 n31 n32 n33 n34 : Int} {H0 H1 H2 H3 H4 H5 : gH} (f0 : n0 ≤ 40) (f1 : 0 ≤ n0) (f2 : n1 ≤ 39) (f3 : 0 ≤ n1) (f4 : n2 ≤ 2147483647) (f5 : (-2147483648) ≤ n2) (f6 : n3 ≤ 2147483647) (f7 : (-2147483648) ≤ n3) (f8 : n4 ≤ 2147483647) (f9 : (-2147483648) ≤ n4) (f10 : n5 = 285) (f11 : n6 ≤ 2147483647) (f12 : (-2147483648) ≤ n6) (f13 : n7 ≤ 2147483647) (f14 : (-2147483648) ≤ n7) (f15 : n8 = 285) (f16 : (hLe T0 H0 H1 ∧ hFr s_300.2.2.2.2 H0 H1 ∧ hWt T0 H1) ∧ ((Ab_300_39 n8 n7 n6 n5 n4 n3 n2 n1 n0 H0 H1 ∧ Bb_300_39 n8 n7 n6 n5 n4 n3 n2 n1 n0 H0 H1) ∧ preb_300 n8 n7 n6 H0) ∧ some q0 = some (mub_300_39 n8 n7 n6 n5 n4 n3 n2 n1 n0 H0 H1)) (f17 : n9 ≤ 40) (f18 : 0 ≤ n9) (f19 : hK H1 (n5).toNat = 12) (f20 : n9 = hV H1 (n5).toNat 82) (f21 : n0 < n9) (f22 : n10 = 298) (f23 : hK H1 (n5).toNat = 12) (f24 : n10 = hV H1 (n5).toNat 24) (f25 : n11 = 344) (f26 : hK H1 (n5).toNat = 12) (f27 : n11 = hV H1 (n5).toNat 83) (f28 : n12 ≤ 1007) (f29 : 0 ≤ n12) (f30 : n12 = hV H1 (n11).toNat (n1).toNat) (f31 : n13 ≤ 5) (f32 : 0 ≤ n13) (f33 : n13 = hV H1 (n10).toNat (n12).toNat) (f34 : n14 = 1) (f35 : n13 = n14) (f36 : n15 = 298) (f37 : hK H1 (n5).toNat = 12) (f38 : n15 = hV H1 (n5).toNat 24) (f39 : n16 = 344) (f40 : hK H1 (n5).toNat = 12) (f41 : n16 = hV H1 (n5).toNat 83) (f42 : n17 ≤ 1007) (f43 : 0 ≤ n17) (f44 : n17 = hV H1 (n16).toNat (n0).toNat) (f45 : n18 ≤ 5) (f46 : 0 ≤ n18) (f47 : n18 = hV H1 (n15).toNat (n17).toNat) (f48 : n19 = 1) (f49 : n18 = n19) (f50 : n20 = 300) (f51 : hK H1 (n5).toNat = 12) (f52 : n20 = hV H1 (n5).toNat 26) (f53 : n21 = 344) (f54 : hK H1 (n5).toNat = 12) (f55 : n21 = hV H1 (n5).toNat 83) (f56 : n22 ≤ 1007) (f57 : 0 ≤ n22) (f58 : n22 = hV H1 (n21).toNat (n1).toNat) (f59 : n23 ≤ 9999) (f60 : (-1) ≤ n23) (f61 : n23 = hV H1 (n20).toNat (n22).toNat) (f62 : n24 = 300) (f63 : hK H1 (n5).toNat = 12) (f64 : n24 = hV H1 (n5).toNat 26) (f65 : n25 = 344) (f66 : hK H1 (n5).toNat = 12) (f67 : n25 = hV H1 (n5).toNat 83) (f68 : n26 ≤ 1007) (f69 : 0 ≤ n26) (f70 : n26 = hV H1 (n25).toNat (n0).toNat) (f71 : n27 ≤ 9999) (f72 : (-1) ≤ n27) (f73 : n27 = hV H1 (n24).toNat (n26).toNat) (f74 : n23 = n27) (f75 : n28 ≤ 10999) (f76 : (-10999) ≤ n28) (f77 : (hLe T0 H1 H2 ∧ hFr s_271.2.2.2.2 H1 H2 ∧ ((0 : Int) = 0 → H2.length = H1.length) ∧ hWt T0 H2) ∧ (True ∧ nb_271 n28 n5 n0 H1 H2)) (f78 : n29 ≤ 10999) (f79 : (-10999) ≤ n29) (f80 : (hLe T0 H2 H3 ∧ hFr s_271.2.2.2.2 H2 H3 ∧ ((0 : Int) = 0 → H3.length = H2.length) ∧ hWt T0 H3) ∧ (True ∧ nb_271 n29 n5 n1 H2 H3)) (f81 : n28 < n29) (f82 : n0 = n1) (f83 : n30 ≤ 10999) (f84 : (-10999) ≤ n30) (f85 : (hLe T0 H3 H4 ∧ hFr s_271.2.2.2.2 H3 H4 ∧ ((0 : Int) = 0 → H4.length = H3.length) ∧ hWt T0 H4) ∧ (True ∧ nb_271 n30 n5 n0 H3 H4)) (f86 : n31 ≤ 10999) (f87 : (-10999) ≤ n31) (f88 : (hLe T0 H4 H5 ∧ hFr s_272.2.2.2.2 H4 H5 ∧ ((0 : Int) = 0 → H5.length = H4.length) ∧ hWt T0 H5) ∧ (True ∧ nb_272 n31 n5 n0 H4 H5)) (f89 : n30 < n31) (f90 : n2 = 0) (f91 : n32 = 64) (f92 : n33 = w32 (n32 * n1)) (f93 : n34 = w32 (n33 + n0)) : nb_300 n34 n8 n7 n6 H0 H5 := by
  unfold nb_300
  have gb := f16.2.1.1.2
  unfold Bb_300_39 at gb
  obtain ⟨va, ex, qq⟩ := gb
  have q21 := f21
  have q35 := f35
  have qc34 := f34
  have q49 := f49
  have qc48 := f48
  have q74 := f74
  have q81 := f81
  have q82 := f82
  have q89 := f89
  have q90 := f90
  have k10 := f10
  have k15 := f15
  have k22 := f22
  have k25 := f25
  have k34 := f34
  have k36 := f36
  have k39 := f39
  have k48 := f48
  have k50 := f50
  have k53 := f53
  have k62 := f62
  have k65 := f65
  have k91 := f91
  have ln := congrArg List.length ex
  rw [xsL_len] at ln
  have ll : ((nwL H0 (hV H0 340) (flS (hV H0 296) (hV H0 298) (hV H0 300) (hV H0 301) (hV H0 302) (hV H0 340) (7 * (n7).toNat) 7 6 0))).length = (flS (hV H0 296) (hV H0 298) (hV H0 300) (hV H0 301) (hV H0 302) (hV H0 340) (7 * (n7).toNat) 7 6 0).length := nwL_len
  have w92 := f92
  unfold w32 at w92
  rw [f91] at w92
  have w93 := f93
  unfold w32 at w93
  have d20 := rdS (q := 285) f20 f10
  have d30 := rdW (q := 344) f30 f25
  have d33 := rdW (q := 298) f33 f22
  have d44 := rdW (q := 344) f44 f39
  have d47 := rdW (q := 298) f47 f36
  have d58 := rdW (q := 344) f58 f53
  have d61 := rdW (q := 300) f61 f50
  have d70 := rdW (q := 344) f70 f65
  have d73 := rdW (q := 300) f73 f62
  have rg17 := f17
  have rg18 := f18
  have qc := qq
  obtain ⟨q1, q2, q3, q4, q5⟩ := qc
  obtain ⟨p0_, hp0⟩ : ∃ p, (flS (hV H0 296) (hV H0 298) (hV H0 300) (hV H0 301) (hV H0 302) (hV H0 340) (7 * (n7).toNat) 7 6 0)[(n1).toNat]? = some p := ⟨_, List.getElem?_eq_getElem (by omega)⟩
  have xa0 := xsL_at ex hp0
  have g0_ := nwL_at (h := H0) (mk := hV H0 340) hp0
  obtain ⟨p1_, hp1⟩ : ∃ p, (flS (hV H0 296) (hV H0 298) (hV H0 300) (hV H0 301) (hV H0 302) (hV H0 340) (7 * (n7).toNat) 7 6 0)[(n0).toNat]? = some p := ⟨_, List.getElem?_eq_getElem (by omega)⟩
  have xa1 := xsL_at ex hp1
  have g1_ := nwL_at (h := H0) (mk := hV H0 340) hp1
  have b298 : hV H1 298 = hV H0 298 := fRow f16.1.2.1 298 (by decide +kernel)
  have b300 : hV H1 300 = hV H0 300 := fRow f16.1.2.1 300 (by decide +kernel)
  have b301 : hV H1 301 = hV H0 301 := fRow f16.1.2.1 301 (by decide +kernel)
  have b302 : hV H1 302 = hV H0 302 := fRow f16.1.2.1 302 (by decide +kernel)
  have b303 : hV H1 303 = hV H0 303 := fRow f16.1.2.1 303 (by decide +kernel)
  have b304 : hV H1 304 = hV H0 304 := fRow f16.1.2.1 304 (by decide +kernel)
  have b340 : hV H1 340 = hV H0 340 := fRow f16.1.2.1 340 (by decide +kernel)
  have e30 : (n12).toNat = p0_.1 := by
    rw [d30]
    exact xa0.1
  have e44 : (n17).toNat = p1_.1 := by
    rw [d44]
    exact xa1.1
  have e58 : (n22).toNat = p0_.1 := by
    rw [d58]
    exact xa0.1
  have e70 : (n26).toNat = p1_.1 := by
    rw [d70]
    exact xa1.1
  have y33 : n13 = hV H0 298 p0_.1 := by
    rw [d33, e30, b298]
  have y47 : n18 = hV H0 298 p1_.1 := by
    rw [d47, e44, b298]
  have y61 : n23 = hV H0 300 p0_.1 := by
    rw [d61, e58, b300]
  have y73 : n27 = hV H0 300 p1_.1 := by
    rw [d73, e70, b300]
  have qm := qrN_m (show (nowR (hV H0 340) (recR H0 p0_.1, p0_.2)).1 = 1 from (by rw [nwR_k]; omega)) (show (nowR (hV H0 340) (recR H0 p1_.1, p1_.2)).1 = 1 from (by rw [nwR_k]; omega))
  rw [nwR_s, nwR_s] at qm
  have kd0 : hV H0 298 p0_.1 = 1 := by omega
  have kd1 : hV H0 298 p1_.1 = 1 := by omega
  exfalso
  omega
def g_300w_39_13 : vG := ([(1, [34, 33, 8], [], 0), (3, [33, 32, 7], [], 0), (0, [32], [], 64), (30, [6], [], 0), (42, [30, 31], [], 0), (1272, [31, 3, 8], [4, 5], 0), (90, [31], [], -10999), (91, [31], [], 10999), (1271, [30, 3, 8], [3, 4], 0), (90, [30], [], -10999), (91, [30], [], 10999), (40, [8, 7], [], 0), (42, [28, 29], [], 0), (1271, [29, 3, 7], [2, 3], 0), (90, [29], [], -10999), (91, [29], [], 10999), (1271, [28, 3, 8], [1, 2], 0), (90, [28], [], -10999), (91, [28], [], 10999), (40, [23, 27], [], 0), (22, [27, 24, 26], [1], 0), (90, [27], [], -1), (91, [27], [], 9999), (22, [26, 25, 8], [1], 0), (90, [26], [], 0), (91, [26], [], 1007), (20, [25, 3], [1], 83), (23, [3], [1], 12), (0, [25], [], 344), (20, [24, 3], [1], 26), (23, [3], [1], 12), (0, [24], [], 300), (22, [23, 20, 22], [1], 0), (90, [23], [], -1), (91, [23], [], 9999), (22, [22, 21, 7], [1], 0), (90, [22], [], 0), (91, [22], [], 1007), (20, [21, 3], [1], 83), (23, [3], [1], 12), (0, [21], [], 344), (20, [20, 3], [1], 26), (23, [3], [1], 12), (0, [20], [], 300), (40, [18, 19], [], 0), (0, [19], [], 1), (22, [18, 15, 17], [1], 0), (90, [18], [], 0), (91, [18], [], 5), (22, [17, 16, 8], [1], 0), (90, [17], [], 0), (91, [17], [], 1007), (20, [16, 3], [1], 83), (23, [3], [1], 12), (0, [16], [], 344), (20, [15, 3], [1], 24), (23, [3], [1], 12), (0, [15], [], 298), (40, [13, 14], [], 0), (0, [14], [], 1), (22, [13, 10, 12], [1], 0), (90, [13], [], 0), (91, [13], [], 5), (22, [12, 11, 7], [1], 0), (90, [12], [], 0), (91, [12], [], 1007), (20, [11, 3], [1], 83), (23, [3], [1], 12), (0, [11], [], 344), (20, [10, 3], [1], 24), (23, [3], [1], 12), (0, [10], [], 298), (42, [8, 9], [], 0), (20, [9, 3], [1], 82), (23, [3], [1], 12), (90, [9], [], 0), (91, [9], [], 40), (5000, [0, 1, 2, 3, 4, 5, 6, 7, 8], [0, 1], 39), (0, [0], [], 285), (90, [1], [], -2147483648), (91, [1], [], 2147483647), (90, [2], [], -2147483648), (91, [2], [], 2147483647), (0, [3], [], 285), (90, [4], [], -2147483648), (91, [4], [], 2147483647), (90, [5], [], -2147483648), (91, [5], [], 2147483647), (90, [6], [], -2147483648), (91, [6], [], 2147483647), (90, [7], [], 0), (91, [7], [], 39), (90, [8], [], 0), (91, [8], [], 40)], (3000, [34], [5], 180))
theorem c_300w_39_13 {q0 : Nat} : vOkm T0 (eN e_300 L_300w A_300 mu_300 n_300 B_300 (some q0)) 3 g_300w_39_13 := vOk_inI fun ρ η f0 f1 f2 f3 f4 f5 f6 f7 f8 f9 f10 f11 f12 f13 f14 f15 f16 f17 f18 f19 f20 f21 f22 f23 f24 f25 f26 f27 f28 f29 f30 f31 f32 f33 f34 f35 f36 f37 f38 f39 f40 f41 f42 f43 f44 f45 f46 f47 f48 f49 f50 f51 f52 f53 f54 f55 f56 f57 f58 f59 f60 f61 f62 f63 f64 f65 f66 f67 f68 f69 f70 f71 f72 f73 f74 f75 f76 f77 f78 f79 f80 f81 f82 f83 f84 f85 f86 f87 f88 f89 f90 f91 f92 f93 => q_300w_18 (q0 := q0) (n0 := ρ 8) (n1 := ρ 7) (n2 := ρ 6) (n3 := ρ 5) (n4 := ρ 4) (n5 := ρ 3) (n6 := ρ 2) (n7 := ρ 1) (n8 := ρ 0) (n9 := ρ 9) (n10 := ρ 10) (n11 := ρ 11) (n12 := ρ 12) (n13 := ρ 13) (n14 := ρ 14) (n15 := ρ 15) (n16 := ρ 16) (n17 := ρ 17) (n18 := ρ 18) (n19 := ρ 19) (n20 := ρ 20) (n21 := ρ 21) (n22 := ρ 22) (n23 := ρ 23) (n24 := ρ 24) (n25 := ρ 25) (n26 := ρ 26) (n27 := ρ 27) (n28 := ρ 28) (n29 := ρ 29) (n30 := ρ 30) (n31 := ρ 31) (n32 := ρ 32) (n33 := ρ 33) (n34 := ρ 34) (H0 := η 0) (H1 := η 1) (H2 := η 2) (H3 := η 3) (H4 := η 4) (H5 := η 5) f93 f92 f91 f90 f89 f88 f87 f86 f85 f84 f83 f82 f81 f80 f79 f78 f77 f76 f75 f74 f73 f72 f71 f70 f69 f68 f67 f66 f65 f64 f63 f62 f61 f60 f59 f58 f57 f56 f55 f54 f53 f52 f51 f50 f49 f48 f47 f46 f45 f44 f43 f42 f41 f40 f39 f38 f37 f36 f35 f34 f33 f32 f31 f30 f29 f28 f27 f26 f25 f24 f23 f22 f21 f20 f19 f18 f17 f16 f15 f14 f13 f12 f11 f10 f9 f8 f7 f6 f5 f4 f3 f2 f1 f0
theorem q_300w_19 {q0 : Nat} {n0 n1 n2 n3 n4 n5 n6 n7 n8 n9 n10 n11 n12 n13 n14 n15 n16 n17 n18 n19 n20 n21 n22 n23 n24 n25 n26 n27 n28 n29 n30 n31 n32 : Int} {H0 H1 H2 H3 H4 H5 : gH} (f0 : n0 ≤ 40) (f1 : 0 ≤ n0) (f2 : n1 ≤ 39) (f3 : 0 ≤ n1) (f4 : n2 ≤ 2147483647) (f5 : (-2147483648) ≤ n2) (f6 : n3 ≤ 2147483647) (f7 : (-2147483648) ≤ n3) (f8 : n4 ≤ 2147483647) (f9 : (-2147483648) ≤ n4) (f10 : n5 = 285) (f11 : n6 ≤ 2147483647) (f12 : (-2147483648) ≤ n6) (f13 : n7 ≤ 2147483647) (f14 : (-2147483648) ≤ n7) (f15 : n8 = 285) (f16 : (hLe T0 H0 H1 ∧ hFr s_300.2.2.2.2 H0 H1 ∧ hWt T0 H1) ∧ ((Ab_300_39 n8 n7 n6 n5 n4 n3 n2 n1 n0 H0 H1 ∧ Bb_300_39 n8 n7 n6 n5 n4 n3 n2 n1 n0 H0 H1) ∧ preb_300 n8 n7 n6 H0) ∧ some q0 = some (mub_300_39 n8 n7 n6 n5 n4 n3 n2 n1 n0 H0 H1)) (f17 : n9 ≤ 40) (f18 : 0 ≤ n9) (f19 : hK H1 (n5).toNat = 12) (f20 : n9 = hV H1 (n5).toNat 82) (f21 : n0 < n9) (f22 : n10 = 298) (f23 : hK H1 (n5).toNat = 12) (f24 : n10 = hV H1 (n5).toNat 24) (f25 : n11 = 344) (f26 : hK H1 (n5).toNat = 12) (f27 : n11 = hV H1 (n5).toNat 83) (f28 : n12 ≤ 1007) (f29 : 0 ≤ n12) (f30 : n12 = hV H1 (n11).toNat (n1).toNat) (f31 : n13 ≤ 5) (f32 : 0 ≤ n13) (f33 : n13 = hV H1 (n10).toNat (n12).toNat) (f34 : n14 = 1) (f35 : n13 = n14) (f36 : n15 = 298) (f37 : hK H1 (n5).toNat = 12) (f38 : n15 = hV H1 (n5).toNat 24) (f39 : n16 = 344) (f40 : hK H1 (n5).toNat = 12) (f41 : n16 = hV H1 (n5).toNat 83) (f42 : n17 ≤ 1007) (f43 : 0 ≤ n17) (f44 : n17 = hV H1 (n16).toNat (n0).toNat) (f45 : n18 ≤ 5) (f46 : 0 ≤ n18) (f47 : n18 = hV H1 (n15).toNat (n17).toNat) (f48 : n19 = 1) (f49 : n18 = n19) (f50 : n20 = 300) (f51 : hK H1 (n5).toNat = 12) (f52 : n20 = hV H1 (n5).toNat 26) (f53 : n21 = 344) (f54 : hK H1 (n5).toNat = 12) (f55 : n21 = hV H1 (n5).toNat 83) (f56 : n22 ≤ 1007) (f57 : 0 ≤ n22) (f58 : n22 = hV H1 (n21).toNat (n1).toNat) (f59 : n23 ≤ 9999) (f60 : (-1) ≤ n23) (f61 : n23 = hV H1 (n20).toNat (n22).toNat) (f62 : n24 = 300) (f63 : hK H1 (n5).toNat = 12) (f64 : n24 = hV H1 (n5).toNat 26) (f65 : n25 = 344) (f66 : hK H1 (n5).toNat = 12) (f67 : n25 = hV H1 (n5).toNat 83) (f68 : n26 ≤ 1007) (f69 : 0 ≤ n26) (f70 : n26 = hV H1 (n25).toNat (n0).toNat) (f71 : n27 ≤ 9999) (f72 : (-1) ≤ n27) (f73 : n27 = hV H1 (n24).toNat (n26).toNat) (f74 : n23 = n27) (f75 : n28 ≤ 10999) (f76 : (-10999) ≤ n28) (f77 : (hLe T0 H1 H2 ∧ hFr s_271.2.2.2.2 H1 H2 ∧ ((0 : Int) = 0 → H2.length = H1.length) ∧ hWt T0 H2) ∧ (True ∧ nb_271 n28 n5 n0 H1 H2)) (f78 : n29 ≤ 10999) (f79 : (-10999) ≤ n29) (f80 : (hLe T0 H2 H3 ∧ hFr s_271.2.2.2.2 H2 H3 ∧ ((0 : Int) = 0 → H3.length = H2.length) ∧ hWt T0 H3) ∧ (True ∧ nb_271 n29 n5 n1 H2 H3)) (f81 : n28 < n29) (f82 : n0 = n1) (f83 : n30 ≤ 10999) (f84 : (-10999) ≤ n30) (f85 : (hLe T0 H3 H4 ∧ hFr s_271.2.2.2.2 H3 H4 ∧ ((0 : Int) = 0 → H4.length = H3.length) ∧ hWt T0 H4) ∧ (True ∧ nb_271 n30 n5 n0 H3 H4)) (f86 : n31 ≤ 10999) (f87 : (-10999) ≤ n31) (f88 : (hLe T0 H4 H5 ∧ hFr s_272.2.2.2.2 H4 H5 ∧ ((0 : Int) = 0 → H5.length = H4.length) ∧ hWt T0 H5) ∧ (True ∧ nb_272 n31 n5 n0 H4 H5)) (f89 : n31 ≤ n30) (f90 : n32 = w32 (n0 + 1)) : Bb_300_39 n8 n7 n6 n5 n4 n3 n2 n1 n32 H0 H5 := by
  unfold Bb_300_39
  have gb := f16.2.1.1.2
  unfold Bb_300_39 at gb
  obtain ⟨va, ex, qq⟩ := gb
  have q21 := f21
  have q35 := f35
  have qc34 := f34
  have q49 := f49
  have qc48 := f48
  have q74 := f74
  have q81 := f81
  have q82 := f82
  have q89 := f89
  have q90 := f90
  unfold w32 at q90
  have k10 := f10
  have k15 := f15
  have k22 := f22
  have k25 := f25
  have k34 := f34
  have k36 := f36
  have k39 := f39
  have k48 := f48
  have k50 := f50
  have k53 := f53
  have k62 := f62
  have k65 := f65
  have ln := congrArg List.length ex
  rw [xsL_len] at ln
  have ll : ((nwL H0 (hV H0 340) (flS (hV H0 296) (hV H0 298) (hV H0 300) (hV H0 301) (hV H0 302) (hV H0 340) (7 * (n7).toNat) 7 6 0))).length = (flS (hV H0 296) (hV H0 298) (hV H0 300) (hV H0 301) (hV H0 302) (hV H0 340) (7 * (n7).toNat) 7 6 0).length := nwL_len
  have w90 := f90
  unfold w32 at w90
  have d20 := rdS (q := 285) f20 f10
  have d30 := rdW (q := 344) f30 f25
  have d33 := rdW (q := 298) f33 f22
  have d44 := rdW (q := 344) f44 f39
  have d47 := rdW (q := 298) f47 f36
  have d58 := rdW (q := 344) f58 f53
  have d61 := rdW (q := 300) f61 f50
  have d70 := rdW (q := 344) f70 f65
  have d73 := rdW (q := 300) f73 f62
  have rg17 := f17
  have rg18 := f18
  have qc := qq
  obtain ⟨q1, q2, q3, q4, q5⟩ := qc
  obtain ⟨p0_, hp0⟩ : ∃ p, (flS (hV H0 296) (hV H0 298) (hV H0 300) (hV H0 301) (hV H0 302) (hV H0 340) (7 * (n7).toNat) 7 6 0)[(n1).toNat]? = some p := ⟨_, List.getElem?_eq_getElem (by omega)⟩
  have xa0 := xsL_at ex hp0
  have g0_ := nwL_at (h := H0) (mk := hV H0 340) hp0
  obtain ⟨p1_, hp1⟩ : ∃ p, (flS (hV H0 296) (hV H0 298) (hV H0 300) (hV H0 301) (hV H0 302) (hV H0 340) (7 * (n7).toNat) 7 6 0)[(n0).toNat]? = some p := ⟨_, List.getElem?_eq_getElem (by omega)⟩
  have xa1 := xsL_at ex hp1
  have g1_ := nwL_at (h := H0) (mk := hV H0 340) hp1
  have b298 : hV H1 298 = hV H0 298 := fRow f16.1.2.1 298 (by decide +kernel)
  have b300 : hV H1 300 = hV H0 300 := fRow f16.1.2.1 300 (by decide +kernel)
  have b301 : hV H1 301 = hV H0 301 := fRow f16.1.2.1 301 (by decide +kernel)
  have b302 : hV H1 302 = hV H0 302 := fRow f16.1.2.1 302 (by decide +kernel)
  have b303 : hV H1 303 = hV H0 303 := fRow f16.1.2.1 303 (by decide +kernel)
  have b304 : hV H1 304 = hV H0 304 := fRow f16.1.2.1 304 (by decide +kernel)
  have b340 : hV H1 340 = hV H0 340 := fRow f16.1.2.1 340 (by decide +kernel)
  have e30 : (n12).toNat = p0_.1 := by
    rw [d30]
    exact xa0.1
  have e44 : (n17).toNat = p1_.1 := by
    rw [d44]
    exact xa1.1
  have e58 : (n22).toNat = p0_.1 := by
    rw [d58]
    exact xa0.1
  have e70 : (n26).toNat = p1_.1 := by
    rw [d70]
    exact xa1.1
  have y33 : n13 = hV H0 298 p0_.1 := by
    rw [d33, e30, b298]
  have y47 : n18 = hV H0 298 p1_.1 := by
    rw [d47, e44, b298]
  have y61 : n23 = hV H0 300 p0_.1 := by
    rw [d61, e58, b300]
  have y73 : n27 = hV H0 300 p1_.1 := by
    rw [d73, e70, b300]
  have qm := qrN_m (show (nowR (hV H0 340) (recR H0 p0_.1, p0_.2)).1 = 1 from (by rw [nwR_k]; omega)) (show (nowR (hV H0 340) (recR H0 p1_.1, p1_.2)).1 = 1 from (by rw [nwR_k]; omega))
  rw [nwR_s, nwR_s] at qm
  have kd0 : hV H0 298 p0_.1 = 1 := by omega
  have kd1 : hV H0 298 p1_.1 = 1 := by omega
  exfalso
  omega
def g_300w_39_14 : vG := ([(10, [32, 8], [], 1), (43, [30, 31], [], 0), (1272, [31, 3, 8], [4, 5], 0), (90, [31], [], -10999), (91, [31], [], 10999), (1271, [30, 3, 8], [3, 4], 0), (90, [30], [], -10999), (91, [30], [], 10999), (40, [8, 7], [], 0), (42, [28, 29], [], 0), (1271, [29, 3, 7], [2, 3], 0), (90, [29], [], -10999), (91, [29], [], 10999), (1271, [28, 3, 8], [1, 2], 0), (90, [28], [], -10999), (91, [28], [], 10999), (40, [23, 27], [], 0), (22, [27, 24, 26], [1], 0), (90, [27], [], -1), (91, [27], [], 9999), (22, [26, 25, 8], [1], 0), (90, [26], [], 0), (91, [26], [], 1007), (20, [25, 3], [1], 83), (23, [3], [1], 12), (0, [25], [], 344), (20, [24, 3], [1], 26), (23, [3], [1], 12), (0, [24], [], 300), (22, [23, 20, 22], [1], 0), (90, [23], [], -1), (91, [23], [], 9999), (22, [22, 21, 7], [1], 0), (90, [22], [], 0), (91, [22], [], 1007), (20, [21, 3], [1], 83), (23, [3], [1], 12), (0, [21], [], 344), (20, [20, 3], [1], 26), (23, [3], [1], 12), (0, [20], [], 300), (40, [18, 19], [], 0), (0, [19], [], 1), (22, [18, 15, 17], [1], 0), (90, [18], [], 0), (91, [18], [], 5), (22, [17, 16, 8], [1], 0), (90, [17], [], 0), (91, [17], [], 1007), (20, [16, 3], [1], 83), (23, [3], [1], 12), (0, [16], [], 344), (20, [15, 3], [1], 24), (23, [3], [1], 12), (0, [15], [], 298), (40, [13, 14], [], 0), (0, [14], [], 1), (22, [13, 10, 12], [1], 0), (90, [13], [], 0), (91, [13], [], 5), (22, [12, 11, 7], [1], 0), (90, [12], [], 0), (91, [12], [], 1007), (20, [11, 3], [1], 83), (23, [3], [1], 12), (0, [11], [], 344), (20, [10, 3], [1], 24), (23, [3], [1], 12), (0, [10], [], 298), (42, [8, 9], [], 0), (20, [9, 3], [1], 82), (23, [3], [1], 12), (90, [9], [], 0), (91, [9], [], 40), (5000, [0, 1, 2, 3, 4, 5, 6, 7, 8], [0, 1], 39), (0, [0], [], 285), (90, [1], [], -2147483648), (91, [1], [], 2147483647), (90, [2], [], -2147483648), (91, [2], [], 2147483647), (0, [3], [], 285), (90, [4], [], -2147483648), (91, [4], [], 2147483647), (90, [5], [], -2147483648), (91, [5], [], 2147483647), (90, [6], [], -2147483648), (91, [6], [], 2147483647), (90, [7], [], 0), (91, [7], [], 39), (90, [8], [], 0), (91, [8], [], 40)], (4000, [3, 4, 5, 6, 7, 32], [5], 39))
theorem c_300w_39_14 {q0 : Nat} : vOkm T0 (eN e_300 L_300w A_300 mu_300 n_300 B_300 (some q0)) 3 g_300w_39_14 := vOk_inI fun ρ η f0 f1 f2 f3 f4 f5 f6 f7 f8 f9 f10 f11 f12 f13 f14 f15 f16 f17 f18 f19 f20 f21 f22 f23 f24 f25 f26 f27 f28 f29 f30 f31 f32 f33 f34 f35 f36 f37 f38 f39 f40 f41 f42 f43 f44 f45 f46 f47 f48 f49 f50 f51 f52 f53 f54 f55 f56 f57 f58 f59 f60 f61 f62 f63 f64 f65 f66 f67 f68 f69 f70 f71 f72 f73 f74 f75 f76 f77 f78 f79 f80 f81 f82 f83 f84 f85 f86 f87 f88 f89 f90 => q_300w_19 (q0 := q0) (n0 := ρ 8) (n1 := ρ 7) (n2 := ρ 6) (n3 := ρ 5) (n4 := ρ 4) (n5 := ρ 3) (n6 := ρ 2) (n7 := ρ 1) (n8 := ρ 0) (n9 := ρ 9) (n10 := ρ 10) (n11 := ρ 11) (n12 := ρ 12) (n13 := ρ 13) (n14 := ρ 14) (n15 := ρ 15) (n16 := ρ 16) (n17 := ρ 17) (n18 := ρ 18) (n19 := ρ 19) (n20 := ρ 20) (n21 := ρ 21) (n22 := ρ 22) (n23 := ρ 23) (n24 := ρ 24) (n25 := ρ 25) (n26 := ρ 26) (n27 := ρ 27) (n28 := ρ 28) (n29 := ρ 29) (n30 := ρ 30) (n31 := ρ 31) (n32 := ρ 32) (H0 := η 0) (H1 := η 1) (H2 := η 2) (H3 := η 3) (H4 := η 4) (H5 := η 5) f90 f89 f88 f87 f86 f85 f84 f83 f82 f81 f80 f79 f78 f77 f76 f75 f74 f73 f72 f71 f70 f69 f68 f67 f66 f65 f64 f63 f62 f61 f60 f59 f58 f57 f56 f55 f54 f53 f52 f51 f50 f49 f48 f47 f46 f45 f44 f43 f42 f41 f40 f39 f38 f37 f36 f35 f34 f33 f32 f31 f30 f29 f28 f27 f26 f25 f24 f23 f22 f21 f20 f19 f18 f17 f16 f15 f14 f13 f12 f11 f10 f9 f8 f7 f6 f5 f4 f3 f2 f1 f0
theorem q_300w_20 {q0 : Nat} {n0 n1 n2 n3 n4 n5 n6 n7 n8 n9 n10 n11 n12 n13 n14 n15 n16 n17 n18 n19 n20 n21 n22 n23 n24 n25 n26 n27 n28 : Int} {H0 H1 : gH} (f0 : n0 ≤ 40) (f1 : 0 ≤ n0) (f2 : n1 ≤ 39) (f3 : 0 ≤ n1) (f4 : n2 ≤ 2147483647) (f5 : (-2147483648) ≤ n2) (f6 : n3 ≤ 2147483647) (f7 : (-2147483648) ≤ n3) (f8 : n4 ≤ 2147483647) (f9 : (-2147483648) ≤ n4) (f10 : n5 = 285) (f11 : n6 ≤ 2147483647) (f12 : (-2147483648) ≤ n6) (f13 : n7 ≤ 2147483647) (f14 : (-2147483648) ≤ n7) (f15 : n8 = 285) (f16 : (hLe T0 H0 H1 ∧ hFr s_300.2.2.2.2 H0 H1 ∧ hWt T0 H1) ∧ ((Ab_300_39 n8 n7 n6 n5 n4 n3 n2 n1 n0 H0 H1 ∧ Bb_300_39 n8 n7 n6 n5 n4 n3 n2 n1 n0 H0 H1) ∧ preb_300 n8 n7 n6 H0) ∧ some q0 = some (mub_300_39 n8 n7 n6 n5 n4 n3 n2 n1 n0 H0 H1)) (f17 : n9 ≤ 40) (f18 : 0 ≤ n9) (f19 : hK H1 (n5).toNat = 12) (f20 : n9 = hV H1 (n5).toNat 82) (f21 : n0 < n9) (f22 : n10 = 298) (f23 : hK H1 (n5).toNat = 12) (f24 : n10 = hV H1 (n5).toNat 24) (f25 : n11 = 344) (f26 : hK H1 (n5).toNat = 12) (f27 : n11 = hV H1 (n5).toNat 83) (f28 : n12 ≤ 1007) (f29 : 0 ≤ n12) (f30 : n12 = hV H1 (n11).toNat (n1).toNat) (f31 : n13 ≤ 5) (f32 : 0 ≤ n13) (f33 : n13 = hV H1 (n10).toNat (n12).toNat) (f34 : n14 = 1) (f35 : n13 = n14) (f36 : n15 = 298) (f37 : hK H1 (n5).toNat = 12) (f38 : n15 = hV H1 (n5).toNat 24) (f39 : n16 = 344) (f40 : hK H1 (n5).toNat = 12) (f41 : n16 = hV H1 (n5).toNat 83) (f42 : n17 ≤ 1007) (f43 : 0 ≤ n17) (f44 : n17 = hV H1 (n16).toNat (n0).toNat) (f45 : n18 ≤ 5) (f46 : 0 ≤ n18) (f47 : n18 = hV H1 (n15).toNat (n17).toNat) (f48 : n19 = 1) (f49 : n18 = n19) (f50 : n20 = 300) (f51 : hK H1 (n5).toNat = 12) (f52 : n20 = hV H1 (n5).toNat 26) (f53 : n21 = 344) (f54 : hK H1 (n5).toNat = 12) (f55 : n21 = hV H1 (n5).toNat 83) (f56 : n22 ≤ 1007) (f57 : 0 ≤ n22) (f58 : n22 = hV H1 (n21).toNat (n1).toNat) (f59 : n23 ≤ 9999) (f60 : (-1) ≤ n23) (f61 : n23 = hV H1 (n20).toNat (n22).toNat) (f62 : n24 = 300) (f63 : hK H1 (n5).toNat = 12) (f64 : n24 = hV H1 (n5).toNat 26) (f65 : n25 = 344) (f66 : hK H1 (n5).toNat = 12) (f67 : n25 = hV H1 (n5).toNat 83) (f68 : n26 ≤ 1007) (f69 : 0 ≤ n26) (f70 : n26 = hV H1 (n25).toNat (n0).toNat) (f71 : n27 ≤ 9999) (f72 : (-1) ≤ n27) (f73 : n27 = hV H1 (n24).toNat (n26).toNat) (f74 : n23 ≠ n27) (f75 : n28 = w32 (n0 + 1)) : Bb_300_39 n8 n7 n6 n5 n4 n3 n2 n1 n28 H0 H1 := by
  unfold Bb_300_39
  have gb := f16.2.1.1.2
  unfold Bb_300_39 at gb
  obtain ⟨va, ex, qq⟩ := gb
  have q21 := f21
  have q35 := f35
  have qc34 := f34
  have q49 := f49
  have qc48 := f48
  have q74 := f74
  have q75 := f75
  unfold w32 at q75
  have k10 := f10
  have k15 := f15
  have k22 := f22
  have k25 := f25
  have k34 := f34
  have k36 := f36
  have k39 := f39
  have k48 := f48
  have k50 := f50
  have k53 := f53
  have k62 := f62
  have k65 := f65
  have ln := congrArg List.length ex
  rw [xsL_len] at ln
  have ll : ((nwL H0 (hV H0 340) (flS (hV H0 296) (hV H0 298) (hV H0 300) (hV H0 301) (hV H0 302) (hV H0 340) (7 * (n7).toNat) 7 6 0))).length = (flS (hV H0 296) (hV H0 298) (hV H0 300) (hV H0 301) (hV H0 302) (hV H0 340) (7 * (n7).toNat) 7 6 0).length := nwL_len
  have w75 := f75
  unfold w32 at w75
  have d20 := rdS (q := 285) f20 f10
  have d30 := rdW (q := 344) f30 f25
  have d33 := rdW (q := 298) f33 f22
  have d44 := rdW (q := 344) f44 f39
  have d47 := rdW (q := 298) f47 f36
  have d58 := rdW (q := 344) f58 f53
  have d61 := rdW (q := 300) f61 f50
  have d70 := rdW (q := 344) f70 f65
  have d73 := rdW (q := 300) f73 f62
  have rg17 := f17
  have rg18 := f18
  have qc := qq
  obtain ⟨q1, q2, q3, q4, q5⟩ := qc
  obtain ⟨p0_, hp0⟩ : ∃ p, (flS (hV H0 296) (hV H0 298) (hV H0 300) (hV H0 301) (hV H0 302) (hV H0 340) (7 * (n7).toNat) 7 6 0)[(n1).toNat]? = some p := ⟨_, List.getElem?_eq_getElem (by omega)⟩
  have xa0 := xsL_at ex hp0
  have g0_ := nwL_at (h := H0) (mk := hV H0 340) hp0
  obtain ⟨p1_, hp1⟩ : ∃ p, (flS (hV H0 296) (hV H0 298) (hV H0 300) (hV H0 301) (hV H0 302) (hV H0 340) (7 * (n7).toNat) 7 6 0)[(n0).toNat]? = some p := ⟨_, List.getElem?_eq_getElem (by omega)⟩
  have xa1 := xsL_at ex hp1
  have g1_ := nwL_at (h := H0) (mk := hV H0 340) hp1
  have b298 : hV H1 298 = hV H0 298 := fRow f16.1.2.1 298 (by decide +kernel)
  have b300 : hV H1 300 = hV H0 300 := fRow f16.1.2.1 300 (by decide +kernel)
  have b301 : hV H1 301 = hV H0 301 := fRow f16.1.2.1 301 (by decide +kernel)
  have b302 : hV H1 302 = hV H0 302 := fRow f16.1.2.1 302 (by decide +kernel)
  have b303 : hV H1 303 = hV H0 303 := fRow f16.1.2.1 303 (by decide +kernel)
  have b304 : hV H1 304 = hV H0 304 := fRow f16.1.2.1 304 (by decide +kernel)
  have b340 : hV H1 340 = hV H0 340 := fRow f16.1.2.1 340 (by decide +kernel)
  have e30 : (n12).toNat = p0_.1 := by
    rw [d30]
    exact xa0.1
  have e44 : (n17).toNat = p1_.1 := by
    rw [d44]
    exact xa1.1
  have e58 : (n22).toNat = p0_.1 := by
    rw [d58]
    exact xa0.1
  have e70 : (n26).toNat = p1_.1 := by
    rw [d70]
    exact xa1.1
  have y33 : n13 = hV H0 298 p0_.1 := by
    rw [d33, e30, b298]
  have y47 : n18 = hV H0 298 p1_.1 := by
    rw [d47, e44, b298]
  have y61 : n23 = hV H0 300 p0_.1 := by
    rw [d61, e58, b300]
  have y73 : n27 = hV H0 300 p1_.1 := by
    rw [d73, e70, b300]
  have qm := qrN_m (show (nowR (hV H0 340) (recR H0 p0_.1, p0_.2)).1 = 1 from (by rw [nwR_k]; omega)) (show (nowR (hV H0 340) (recR H0 p1_.1, p1_.2)).1 = 1 from (by rw [nwR_k]; omega))
  rw [nwR_s, nwR_s] at qm
  have kd0 : hV H0 298 p0_.1 = 1 := by omega
  have kd1 : hV H0 298 p1_.1 = 1 := by omega
  rw [decide_eq_false (by omega), Bool.false_and] at qm
  exact ⟨va, ex, QI_no qq (by omega) (by rw [g0_, g1_]; exact qm) (by omega)⟩
def g_300w_39_15 : vG := ([(10, [28, 8], [], 1), (41, [23, 27], [], 0), (22, [27, 24, 26], [1], 0), (90, [27], [], -1), (91, [27], [], 9999), (22, [26, 25, 8], [1], 0), (90, [26], [], 0), (91, [26], [], 1007), (20, [25, 3], [1], 83), (23, [3], [1], 12), (0, [25], [], 344), (20, [24, 3], [1], 26), (23, [3], [1], 12), (0, [24], [], 300), (22, [23, 20, 22], [1], 0), (90, [23], [], -1), (91, [23], [], 9999), (22, [22, 21, 7], [1], 0), (90, [22], [], 0), (91, [22], [], 1007), (20, [21, 3], [1], 83), (23, [3], [1], 12), (0, [21], [], 344), (20, [20, 3], [1], 26), (23, [3], [1], 12), (0, [20], [], 300), (40, [18, 19], [], 0), (0, [19], [], 1), (22, [18, 15, 17], [1], 0), (90, [18], [], 0), (91, [18], [], 5), (22, [17, 16, 8], [1], 0), (90, [17], [], 0), (91, [17], [], 1007), (20, [16, 3], [1], 83), (23, [3], [1], 12), (0, [16], [], 344), (20, [15, 3], [1], 24), (23, [3], [1], 12), (0, [15], [], 298), (40, [13, 14], [], 0), (0, [14], [], 1), (22, [13, 10, 12], [1], 0), (90, [13], [], 0), (91, [13], [], 5), (22, [12, 11, 7], [1], 0), (90, [12], [], 0), (91, [12], [], 1007), (20, [11, 3], [1], 83), (23, [3], [1], 12), (0, [11], [], 344), (20, [10, 3], [1], 24), (23, [3], [1], 12), (0, [10], [], 298), (42, [8, 9], [], 0), (20, [9, 3], [1], 82), (23, [3], [1], 12), (90, [9], [], 0), (91, [9], [], 40), (5000, [0, 1, 2, 3, 4, 5, 6, 7, 8], [0, 1], 39), (0, [0], [], 285), (90, [1], [], -2147483648), (91, [1], [], 2147483647), (90, [2], [], -2147483648), (91, [2], [], 2147483647), (0, [3], [], 285), (90, [4], [], -2147483648), (91, [4], [], 2147483647), (90, [5], [], -2147483648), (91, [5], [], 2147483647), (90, [6], [], -2147483648), (91, [6], [], 2147483647), (90, [7], [], 0), (91, [7], [], 39), (90, [8], [], 0), (91, [8], [], 40)], (4000, [3, 4, 5, 6, 7, 28], [1], 39))
theorem c_300w_39_15 {q0 : Nat} : vOkm T0 (eN e_300 L_300w A_300 mu_300 n_300 B_300 (some q0)) 3 g_300w_39_15 := vOk_inI fun ρ η f0 f1 f2 f3 f4 f5 f6 f7 f8 f9 f10 f11 f12 f13 f14 f15 f16 f17 f18 f19 f20 f21 f22 f23 f24 f25 f26 f27 f28 f29 f30 f31 f32 f33 f34 f35 f36 f37 f38 f39 f40 f41 f42 f43 f44 f45 f46 f47 f48 f49 f50 f51 f52 f53 f54 f55 f56 f57 f58 f59 f60 f61 f62 f63 f64 f65 f66 f67 f68 f69 f70 f71 f72 f73 f74 f75 => q_300w_20 (q0 := q0) (n0 := ρ 8) (n1 := ρ 7) (n2 := ρ 6) (n3 := ρ 5) (n4 := ρ 4) (n5 := ρ 3) (n6 := ρ 2) (n7 := ρ 1) (n8 := ρ 0) (n9 := ρ 9) (n10 := ρ 10) (n11 := ρ 11) (n12 := ρ 12) (n13 := ρ 13) (n14 := ρ 14) (n15 := ρ 15) (n16 := ρ 16) (n17 := ρ 17) (n18 := ρ 18) (n19 := ρ 19) (n20 := ρ 20) (n21 := ρ 21) (n22 := ρ 22) (n23 := ρ 23) (n24 := ρ 24) (n25 := ρ 25) (n26 := ρ 26) (n27 := ρ 27) (n28 := ρ 28) (H0 := η 0) (H1 := η 1) f75 f74 f73 f72 f71 f70 f69 f68 f67 f66 f65 f64 f63 f62 f61 f60 f59 f58 f57 f56 f55 f54 f53 f52 f51 f50 f49 f48 f47 f46 f45 f44 f43 f42 f41 f40 f39 f38 f37 f36 f35 f34 f33 f32 f31 f30 f29 f28 f27 f26 f25 f24 f23 f22 f21 f20 f19 f18 f17 f16 f15 f14 f13 f12 f11 f10 f9 f8 f7 f6 f5 f4 f3 f2 f1 f0
def p_300w_39 : List vG := [g_300w_39_0,
  g_300w_39_1,
  g_300w_39_2,
  g_300w_39_3,
  g_300w_39_4,
  g_300w_39_5,
  g_300w_39_6,
  g_300w_39_7,
  g_300w_39_8,
  g_300w_39_9,
  g_300w_39_10,
  g_300w_39_11,
  g_300w_39_12,
  g_300w_39_13,
  g_300w_39_14,
  g_300w_39_15]
theorem r_300w_39 : vCovBO (eRc e_300 L_300 cs_300 2000 (39, [(0, (3, 12, 285, 0)), (1, (0, -2147483648, 2147483647, 0)), (2, (0, -2147483648, 2147483647, 0)), (3, (0, -2147483648, 2147483647, 0)), (4, (0, 0, 39, 0)), (5, (0, 0, 40, 0))])) p_300w_39 = true := by decide +kernel
theorem m_300w (d : Nat) : eC e_300w (d + 3) := eC_ref (e := e_300) (L := L_300) (L' := L_300w) (cs := cs_300) (n := 2000) (d := d + 2) (A := A_300) (μ := mu_300) (tp := true) (p0 := p_300_s) (p1 := p_300w_s) (N := n_300) (B := B_300) rfl ⟨m_270w d, ⟨m_271w d, ⟨m_272w d, ⟨m_282 (d + 1), trivial⟩⟩⟩⟩ rfl (.inl rfl) (by decide +kernel) (fun _ => post0_ok) r_300_s (allC c_300_s_0 (allC c_300_s_1 (allC c_300_s_2 (allC c_300_s_3 allN)))) (allC (.inl ⟨p_300_24, r_300_24, fun q0 => (allC c_300_24_0 (allC c_300_24_1 (allC c_300_24_2 (allC c_300_24_3 allN))))⟩) (allC (.inl ⟨p_300_39, r_300_39, fun q0 => (allC c_300_39_0 (allC c_300_39_1 (allC c_300_39_2 (allC c_300_39_3 (allC c_300_39_4 (allC c_300_39_5 (allC c_300_39_6 (allC c_300_39_7 (allC c_300_39_8 (allC c_300_39_9 (allC c_300_39_10 (allC c_300_39_11 (allC c_300_39_12 (allC c_300_39_13 (allC c_300_39_14 (allC c_300_39_15 (allC c_300_39_16 (allC c_300_39_17 (allC c_300_39_18 (allC c_300_39_19 (allC c_300_39_20 (allC c_300_39_21 (allC c_300_39_22 (allC c_300_39_23 (allC c_300_39_24 (allC c_300_39_25 (allC c_300_39_26 (allC c_300_39_27 (allC c_300_39_28 (allC c_300_39_29 (allC c_300_39_30 (allC c_300_39_31 (allC c_300_39_32 (allC c_300_39_33 (allC c_300_39_34 (allC c_300_39_35 (allC c_300_39_36 (allC c_300_39_37 (allC c_300_39_38 (allC c_300_39_39 (allC c_300_39_40 (allC c_300_39_41 (allC c_300_39_42 (allC c_300_39_43 (allC c_300_39_44 (allC c_300_39_45 (allC c_300_39_46 (allC c_300_39_47 (allC c_300_39_48 (allC c_300_39_49 (allC c_300_39_50 (allC c_300_39_51 (allC c_300_39_52 allN)))))))))))))))))))))))))))))))))))))))))))))))))))))⟩) allN)) (sub1 (sub1 (sub1 (sub0 trivial)))) r_300w_s (allC c_300w_s_0 (allC c_300w_s_1 (allC c_300w_s_2 allN))) (allC ⟨p_300w_24, r_300w_24, fun q0 => (allC c_300w_24_0 (allC c_300w_24_1 allN))⟩ (allC ⟨p_300w_39, r_300w_39, fun q0 => (allC c_300w_39_0 (allC c_300w_39_1 (allC c_300w_39_2 (allC c_300w_39_3 (allC c_300w_39_4 (allC c_300w_39_5 (allC c_300w_39_6 (allC c_300w_39_7 (allC c_300w_39_8 (allC c_300w_39_9 (allC c_300w_39_10 (allC c_300w_39_11 (allC c_300w_39_12 (allC c_300w_39_13 (allC c_300w_39_14 (allC c_300w_39_15 allN))))))))))))))))⟩ allN))
