/-! CONTRACTS of methods told more fully. -/
/- MixStageModel.rootOf (I)I, more fully -/
def nb_264 (r a0 a1 : Int) (h0 h : gH) : Prop := SEok (RE h0) → r = RT (RE h0) a1
def n_264 : List Int → gH → gH → Prop := fun xs h0 h => match xs with
  | [r, a0, a1] => nb_264 r a0 a1 h0 h
  | _ => True
noncomputable def e_264w : vE := eV e_264 n_264
noncomputable def L_264w : List vE := []
def Bb_264_2 (a0 a1 x0 x1 x2 : Int) (h0 h : gH) : Prop := SEok (RE h0) → RT (RE h0) x2 = RT (RE h0) a1 ∧ 0 ≤ x2 ∧ x2 < hV h0 285 64
def B_264 : Int → List Int → gH → gH → Prop := fun c xs h0 h => match c.toNat with
  | 2 => (match xs with
    | [a0, a1, x0, x1, x2] => Bb_264_2 a0 a1 x0 x1 x2 h0 h
    | _ => False)
  | _ => True
theorem q_264w_0 {n0 n1 : Int} {H0 : gH} (f0 : n0 ≤ 2147483647) (f1 : (-2147483648) ≤ n0) (f2 : n1 = 285) (f3 : hWt T0 H0 ∧ preb_264 n1 n0 H0) : Bb_264_2 n1 n0 n1 n0 n0 H0 H0 := by
  unfold Bb_264_2
  intro sk
  have pz := f3.2
  unfold preb_264 at pz
  obtain ⟨z0, z1, so⟩ := pz
  exact ⟨rfl, by omega, by omega⟩
def g_264w_s_0 : vG := ([(6000, [0, 1], [0], 0), (0, [0], [], 285), (90, [1], [], -2147483648), (91, [1], [], 2147483647)], (4000, [0, 1, 1], [0], 2))
theorem c_264w_s_0 : vOkm T0 (eN e_264 L_264w A_264 mu_264 n_264 B_264 none) 2 g_264w_s_0 := vOk_inI fun ρ η f0 f1 f2 f3 => q_264w_0 (n0 := ρ 1) (n1 := ρ 0) (H0 := η 0) f3 f2 f1 f0
def p_264w_s : List vG := [g_264w_s_0]
theorem r_264w_s : vCovBO (eR0 e_264 L_264 cs_264 2000) p_264w_s = true := by decide +kernel
theorem q_264w_1 {q0 : Nat} {n0 n1 n2 n3 n4 n5 n6 n7 : Int} {H0 H1 : gH} (f0 : n0 ≤ 19) (f1 : 0 ≤ n0) (f2 : n1 ≤ 2147483647) (f3 : (-2147483648) ≤ n1) (f4 : n2 = 285) (f5 : n3 ≤ 2147483647) (f6 : (-2147483648) ≤ n3) (f7 : n4 = 285) (f8 : (hLe T0 H0 H1 ∧ hFr s_264.2.2.2.2 H0 H1 ∧ hWt T0 H1) ∧ ((Ab_264_2 n4 n3 n2 n1 n0 H0 H1 ∧ Bb_264_2 n4 n3 n2 n1 n0 H0 H1) ∧ preb_264 n4 n3 H0) ∧ some q0 = some (mub_264_2 n4 n3 n2 n1 n0 H0 H1)) (f9 : n5 = 328) (f10 : hK H1 (n2).toNat = 12) (f11 : n5 = hV H1 (n2).toNat 66) (f12 : n6 ≤ 6) (f13 : 0 ≤ n6) (f14 : n6 = hV H1 (n5).toNat (n0).toNat) (f15 : n7 = 4) (f16 : n6 ≠ n7) : nb_264 n0 n4 n3 H0 H1 := by
  unfold nb_264
  intro sk
  have gb := f8.2.1.1.2
  unfold Bb_264_2 at gb
  obtain ⟨g1, g2, g3⟩ := gb sk
  have d14 := rdW (q := 328) f14 f9
  rw [show hV H1 328 = hV H0 328 from fRow f8.1.2.1 328 (by decide +kernel)] at d14
  have e := (CH_n (E := RE H0) (s := n0) (show ¬ hV H0 328 (n0).toNat = 4 by omega)).1
  exact e.symm.trans g1
def g_264w_2_0 : vG := ([(41, [6, 7], [], 0), (0, [7], [], 4), (22, [6, 5, 4], [1], 0), (90, [6], [], 0), (91, [6], [], 6), (20, [5, 2], [1], 66), (23, [2], [1], 12), (0, [5], [], 328), (5000, [0, 1, 2, 3, 4], [0, 1], 2), (0, [0], [], 285), (90, [1], [], -2147483648), (91, [1], [], 2147483647), (0, [2], [], 285), (90, [3], [], -2147483648), (91, [3], [], 2147483647), (90, [4], [], 0), (91, [4], [], 19)], (3000, [4], [1], 23))
theorem c_264w_2_0 {q0 : Nat} : vOkm T0 (eN e_264 L_264w A_264 mu_264 n_264 B_264 (some q0)) 2 g_264w_2_0 := vOk_inI fun ρ η f0 f1 f2 f3 f4 f5 f6 f7 f8 f9 f10 f11 f12 f13 f14 f15 f16 => q_264w_1 (q0 := q0) (n0 := ρ 4) (n1 := ρ 3) (n2 := ρ 2) (n3 := ρ 1) (n4 := ρ 0) (n5 := ρ 5) (n6 := ρ 6) (n7 := ρ 7) (H0 := η 0) (H1 := η 1) f16 f15 f14 f13 f12 f11 f10 f9 f8 f7 f6 f5 f4 f3 f2 f1 f0
theorem q_264w_2 {q0 : Nat} {n0 n1 n2 n3 n4 n5 n6 n7 n8 n9 : Int} {H0 H1 : gH} (f0 : n0 ≤ 19) (f1 : 0 ≤ n0) (f2 : n1 ≤ 2147483647) (f3 : (-2147483648) ≤ n1) (f4 : n2 = 285) (f5 : n3 ≤ 2147483647) (f6 : (-2147483648) ≤ n3) (f7 : n4 = 285) (f8 : (hLe T0 H0 H1 ∧ hFr s_264.2.2.2.2 H0 H1 ∧ hWt T0 H1) ∧ ((Ab_264_2 n4 n3 n2 n1 n0 H0 H1 ∧ Bb_264_2 n4 n3 n2 n1 n0 H0 H1) ∧ preb_264 n4 n3 H0) ∧ some q0 = some (mub_264_2 n4 n3 n2 n1 n0 H0 H1)) (f9 : n5 = 328) (f10 : hK H1 (n2).toNat = 12) (f11 : n5 = hV H1 (n2).toNat 66) (f12 : n6 ≤ 6) (f13 : 0 ≤ n6) (f14 : n6 = hV H1 (n5).toNat (n0).toNat) (f15 : n7 = 4) (f16 : n6 = n7) (f17 : n8 = 332) (f18 : hK H1 (n2).toNat = 12) (f19 : n8 = hV H1 (n2).toNat 70) (f20 : n9 ≤ 19) (f21 : (-1) ≤ n9) (f22 : n9 = hV H1 (n8).toNat (n0).toNat) : Bb_264_2 n4 n3 n2 n1 n9 H0 H1 := by
  unfold Bb_264_2
  intro sk
  have gb := f8.2.1.1.2
  unfold Bb_264_2 at gb
  obtain ⟨g1, g2, g3⟩ := gb sk
  have d14 := rdW (q := 328) f14 f9
  have d22 := rdW (q := 332) f22 f17
  rw [show hV H1 328 = hV H0 328 from fRow f8.1.2.1 328 (by decide +kernel)] at d14
  rw [show hV H1 332 = hV H0 332 from fRow f8.1.2.1 332 (by decide +kernel)] at d22
  have k4 : hV H0 328 (n0).toNat = 4 := by omega
  have e := (CH_4 sk g2 g3 k4).1
  have w := (sk.2 (n0).toNat (show ((n0).toNat : Int) < hV H0 285 64 by omega)).1 k4
  have w1 := w.1
  have w2 := w.2.1
  have e2 : n9 = (RE H0).2.2.1 (n0).toNat := d22
  rw [← e2] at e w1 w2
  exact ⟨e.symm.trans g1, w1, by omega⟩
def g_264w_2_1 : vG := ([(22, [9, 8, 4], [1], 0), (90, [9], [], -1), (91, [9], [], 19), (20, [8, 2], [1], 70), (23, [2], [1], 12), (0, [8], [], 332), (40, [6, 7], [], 0), (0, [7], [], 4), (22, [6, 5, 4], [1], 0), (90, [6], [], 0), (91, [6], [], 6), (20, [5, 2], [1], 66), (23, [2], [1], 12), (0, [5], [], 328), (5000, [0, 1, 2, 3, 4], [0, 1], 2), (0, [0], [], 285), (90, [1], [], -2147483648), (91, [1], [], 2147483647), (0, [2], [], 285), (90, [3], [], -2147483648), (91, [3], [], 2147483647), (90, [4], [], 0), (91, [4], [], 19)], (4000, [2, 3, 9], [1], 2))
theorem c_264w_2_1 {q0 : Nat} : vOkm T0 (eN e_264 L_264w A_264 mu_264 n_264 B_264 (some q0)) 2 g_264w_2_1 := vOk_inI fun ρ η f0 f1 f2 f3 f4 f5 f6 f7 f8 f9 f10 f11 f12 f13 f14 f15 f16 f17 f18 f19 f20 f21 f22 => q_264w_2 (q0 := q0) (n0 := ρ 4) (n1 := ρ 3) (n2 := ρ 2) (n3 := ρ 1) (n4 := ρ 0) (n5 := ρ 5) (n6 := ρ 6) (n7 := ρ 7) (n8 := ρ 8) (n9 := ρ 9) (H0 := η 0) (H1 := η 1) f22 f21 f20 f19 f18 f17 f16 f15 f14 f13 f12 f11 f10 f9 f8 f7 f6 f5 f4 f3 f2 f1 f0
def p_264w_2 : List vG := [g_264w_2_0,
  g_264w_2_1]
theorem r_264w_2 : vCovBO (eRc e_264 L_264 cs_264 2000 (2, [(0, (3, 12, 285, 0)), (1, (0, -2147483648, 2147483647, 0)), (2, (0, 0, 19, 0))])) p_264w_2 = true := by decide +kernel
theorem m_264w (d : Nat) : eC e_264w (d + 1) := eC_ref (e := e_264) (L := L_264) (L' := L_264w) (cs := cs_264) (n := 2000) (d := d + 0) (A := A_264) (μ := mu_264) (tp := false) (p0 := p_264_s) (p1 := p_264w_s) (N := n_264) (B := B_264) rfl trivial rfl (.inl rfl) (by decide +kernel) (fun z => nomatch z) r_264_s (allC c_264_s_0 (allC c_264_s_1 (allC c_264_s_2 allN))) (allC (.inl ⟨p_264_2, r_264_2, fun q0 => (allC c_264_2_0 (allC c_264_2_1 (allC c_264_2_2 allN)))⟩) allN) trivial r_264w_s (allC c_264w_s_0 allN) (allC ⟨p_264w_2, r_264w_2, fun q0 => (allC c_264w_2_0 (allC c_264w_2_1 allN))⟩ allN)
/- MixStageModel.lengthOf (I)I, more fully -/
def nb_265 (r a0 a1 : Int) (h0 h : gH) : Prop := SEok (RE h0) → hV h0 328 (RT (RE h0) a1).toNat ≤ 3 → r = LN (RE h0) a1
def n_265 : List Int → gH → gH → Prop := fun xs h0 h => match xs with
  | [r, a0, a1] => nb_265 r a0 a1 h0 h
  | _ => True
noncomputable def e_265w : vE := eV e_265 n_265
noncomputable def L_265w : List vE := []
def Bb_265_4 (a0 a1 x0 x1 x2 x3 : Int) (h0 h : gH) : Prop := SEok (RE h0) → RT (RE h0) x3 = RT (RE h0) a1
def Bb_265_75 (a0 a1 x0 x1 x2 x3 x4 x5 : Int) (h0 h : gH) : Prop := SEok (RE h0) → hV h0 328 (RT (RE h0) a1).toNat ≤ 3 → RT (RE h0) x3 = RT (RE h0) a1 ∧ x4 = LN (RE h0) (nxc (hV h 343) x2 x3 x5)
def B_265 : Int → List Int → gH → gH → Prop := fun c xs h0 h => match c.toNat with
  | 4 => (match xs with
    | [a0, a1, x0, x1, x2, x3] => Bb_265_4 a0 a1 x0 x1 x2 x3 h0 h
    | _ => False)
  | 75 => (match xs with
    | [a0, a1, x0, x1, x2, x3, x4, x5] => Bb_265_75 a0 a1 x0 x1 x2 x3 x4 x5 h0 h
    | _ => False)
  | _ => True
theorem q_265w_0 {n0 n1 n2 : Int} {H0 : gH} (f0 : n0 ≤ 19) (f1 : 0 ≤ n0) (f2 : n1 = 285) (f3 : hWt T0 H0 ∧ preb_265 n1 n0 H0) (f4 : n2 = 0) : Bb_265_4 n1 n0 n1 n0 n2 n0 H0 H0 := by
  unfold Bb_265_4
  intro sk
  rfl
def g_265w_s_0 : vG := ([(0, [2], [], 0), (6000, [0, 1], [0], 0), (0, [0], [], 285), (90, [1], [], 0), (91, [1], [], 19)], (4000, [0, 1, 2, 1], [0], 4))
theorem c_265w_s_0 : vOkm T0 (eN e_265 L_265w A_265 mu_265 n_265 B_265 none) 2 g_265w_s_0 := vOk_inI fun ρ η f0 f1 f2 f3 f4 => q_265w_0 (n0 := ρ 1) (n1 := ρ 0) (n2 := ρ 2) (H0 := η 0) f4 f3 f2 f1 f0
def p_265w_s : List vG := [g_265w_s_0]
theorem r_265w_s : vCovBO (eR0 e_265 L_265 cs_265 2000) p_265w_s = true := by decide +kernel
theorem q_265w_1 {q0 : Nat} {n0 n1 n2 n3 n4 n5 n6 n7 n8 n9 n10 n11 n12 n13 n14 n15 n16 : Int} {H0 H1 : gH} (f0 : n0 ≤ 19) (f1 : 0 ≤ n0) (f2 : n1 ≤ 19) (f3 : 0 ≤ n1) (f4 : n2 ≤ 19) (f5 : 0 ≤ n2) (f6 : n3 = 285) (f7 : n4 ≤ 19) (f8 : 0 ≤ n4) (f9 : n5 = 285) (f10 : (hLe T0 H0 H1 ∧ hFr s_265.2.2.2.2 H0 H1 ∧ hWt T0 H1) ∧ ((Ab_265_4 n5 n4 n3 n2 n1 n0 H0 H1 ∧ Bb_265_4 n5 n4 n3 n2 n1 n0 H0 H1) ∧ preb_265 n5 n4 H0) ∧ some q0 = some (mub_265_4 n5 n4 n3 n2 n1 n0 H0 H1)) (f11 : n6 = 328) (f12 : hK H1 (n3).toNat = 12) (f13 : n6 = hV H1 (n3).toNat 66) (f14 : n7 ≤ 6) (f15 : 0 ≤ n7) (f16 : n7 = hV H1 (n6).toNat (n0).toNat) (f17 : n8 = 4) (f18 : n7 ≠ n8) (f19 : n9 = 329) (f20 : hK H1 (n3).toNat = 12) (f21 : n9 = hV H1 (n3).toNat 67) (f22 : n10 = 328) (f23 : hK H1 (n3).toNat = 12) (f24 : n10 = hV H1 (n3).toNat 66) (f25 : n11 ≤ 6) (f26 : 0 ≤ n11) (f27 : n11 = hV H1 (n10).toNat (n0).toNat) (f28 : n12 = 5) (f29 : n11 ≠ n12) (f30 : n13 ≤ 240) (f31 : (-1) ≤ n13) (f32 : n13 = hV H1 (n9).toNat (n0).toNat) (f33 : n14 = (-1)) (f34 : n13 ≠ n14) (f35 : n15 = 1) (f36 : n16 = w32 (n1 - n15)) : Bb_265_75 n5 n4 n3 n2 n1 n0 n13 n16 H0 H1 := by
  unfold Bb_265_75
  intro sk r3
  have gb := f10.2.1.1.2
  unfold Bb_265_4 at gb
  have g1 := gb sk
  have pz := f10.2.1.2
  unfold preb_265 at pz
  obtain ⟨z0, so⟩ := pz
  have ga := f10.2.1.1.1
  unfold Ab_265_4 at ga
  obtain ⟨h1, h2, h3, h4⟩ := ga
  have d16 := rdW (q := 328) f16 f11
  have d27 := rdW (q := 328) f27 f22
  have d32 := rdW (q := 329) f32 f19
  rw [show hV H1 328 = hV H0 328 from fRow f10.1.2.1 328 (by decide +kernel)] at d16
  rw [show hV H1 328 = hV H0 328 from fRow f10.1.2.1 328 (by decide +kernel)] at d27
  rw [show hV H1 329 = hV H0 329 from fRow f10.1.2.1 329 (by decide +kernel)] at d32
  have kn : ¬ hV H0 328 (n0).toNat = 4 := by omega
  obtain ⟨e1, e2, e3⟩ := CH_n (E := RE H0) (s := n0) kn
  have q1 : RT (RE H0) n4 = n0 := e1.symm.trans g1 |>.symm
  rw [q1] at r3
  have mc := mz_c (hV H0 329 (n0).toNat)
  have e4 : LN (RE H0) n0 = mz (hV H0 329 (n0).toNat) := e2
  have w36 := f36
  unfold w32 at w36
  refine ⟨g1, ?_⟩
  rw [nxc_top (by omega), e4]
  omega
def g_265w_4_0 : vG := ([(2, [16, 4, 15], [], 0), (0, [15], [], 1), (41, [13, 14], [], 0), (0, [14], [], -1), (22, [13, 9, 5], [1], 0), (90, [13], [], -1), (91, [13], [], 240), (41, [11, 12], [], 0), (0, [12], [], 5), (22, [11, 10, 5], [1], 0), (90, [11], [], 0), (91, [11], [], 6), (20, [10, 2], [1], 66), (23, [2], [1], 12), (0, [10], [], 328), (20, [9, 2], [1], 67), (23, [2], [1], 12), (0, [9], [], 329), (41, [7, 8], [], 0), (0, [8], [], 4), (22, [7, 6, 5], [1], 0), (90, [7], [], 0), (91, [7], [], 6), (20, [6, 2], [1], 66), (23, [2], [1], 12), (0, [6], [], 328), (5000, [0, 1, 2, 3, 4, 5], [0, 1], 4), (0, [0], [], 285), (90, [1], [], 0), (91, [1], [], 19), (0, [2], [], 285), (90, [3], [], 0), (91, [3], [], 19), (90, [4], [], 0), (91, [4], [], 19), (90, [5], [], 0), (91, [5], [], 19)], (4000, [2, 3, 4, 5, 13, 16], [1], 75))
theorem c_265w_4_0 {q0 : Nat} : vOkm T0 (eN e_265 L_265w A_265 mu_265 n_265 B_265 (some q0)) 2 g_265w_4_0 := vOk_inI fun ρ η f0 f1 f2 f3 f4 f5 f6 f7 f8 f9 f10 f11 f12 f13 f14 f15 f16 f17 f18 f19 f20 f21 f22 f23 f24 f25 f26 f27 f28 f29 f30 f31 f32 f33 f34 f35 f36 => q_265w_1 (q0 := q0) (n0 := ρ 5) (n1 := ρ 4) (n2 := ρ 3) (n3 := ρ 2) (n4 := ρ 1) (n5 := ρ 0) (n6 := ρ 6) (n7 := ρ 7) (n8 := ρ 8) (n9 := ρ 9) (n10 := ρ 10) (n11 := ρ 11) (n12 := ρ 12) (n13 := ρ 13) (n14 := ρ 14) (n15 := ρ 15) (n16 := ρ 16) (H0 := η 0) (H1 := η 1) f36 f35 f34 f33 f32 f31 f30 f29 f28 f27 f26 f25 f24 f23 f22 f21 f20 f19 f18 f17 f16 f15 f14 f13 f12 f11 f10 f9 f8 f7 f6 f5 f4 f3 f2 f1 f0
theorem q_265w_2 {q0 : Nat} {n0 n1 n2 n3 n4 n5 n6 n7 n8 n9 n10 n11 n12 n13 n14 n15 n16 n17 : Int} {H0 H1 : gH} (f0 : n0 ≤ 19) (f1 : 0 ≤ n0) (f2 : n1 ≤ 19) (f3 : 0 ≤ n1) (f4 : n2 ≤ 19) (f5 : 0 ≤ n2) (f6 : n3 = 285) (f7 : n4 ≤ 19) (f8 : 0 ≤ n4) (f9 : n5 = 285) (f10 : (hLe T0 H0 H1 ∧ hFr s_265.2.2.2.2 H0 H1 ∧ hWt T0 H1) ∧ ((Ab_265_4 n5 n4 n3 n2 n1 n0 H0 H1 ∧ Bb_265_4 n5 n4 n3 n2 n1 n0 H0 H1) ∧ preb_265 n5 n4 H0) ∧ some q0 = some (mub_265_4 n5 n4 n3 n2 n1 n0 H0 H1)) (f11 : n6 = 328) (f12 : hK H1 (n3).toNat = 12) (f13 : n6 = hV H1 (n3).toNat 66) (f14 : n7 ≤ 6) (f15 : 0 ≤ n7) (f16 : n7 = hV H1 (n6).toNat (n0).toNat) (f17 : n8 = 4) (f18 : n7 ≠ n8) (f19 : n9 = 329) (f20 : hK H1 (n3).toNat = 12) (f21 : n9 = hV H1 (n3).toNat 67) (f22 : n10 = 328) (f23 : hK H1 (n3).toNat = 12) (f24 : n10 = hV H1 (n3).toNat 66) (f25 : n11 ≤ 6) (f26 : 0 ≤ n11) (f27 : n11 = hV H1 (n10).toNat (n0).toNat) (f28 : n12 = 5) (f29 : n11 ≠ n12) (f30 : n13 ≤ 240) (f31 : (-1) ≤ n13) (f32 : n13 = hV H1 (n9).toNat (n0).toNat) (f33 : n14 = (-1)) (f34 : n13 = n14) (f35 : n15 = 0) (f36 : n16 = 1) (f37 : n17 = w32 (n1 - n16)) : Bb_265_75 n5 n4 n3 n2 n1 n0 n15 n17 H0 H1 := by
  unfold Bb_265_75
  intro sk r3
  have gb := f10.2.1.1.2
  unfold Bb_265_4 at gb
  have g1 := gb sk
  have pz := f10.2.1.2
  unfold preb_265 at pz
  obtain ⟨z0, so⟩ := pz
  have ga := f10.2.1.1.1
  unfold Ab_265_4 at ga
  obtain ⟨h1, h2, h3, h4⟩ := ga
  have d16 := rdW (q := 328) f16 f11
  have d27 := rdW (q := 328) f27 f22
  have d32 := rdW (q := 329) f32 f19
  rw [show hV H1 328 = hV H0 328 from fRow f10.1.2.1 328 (by decide +kernel)] at d16
  rw [show hV H1 328 = hV H0 328 from fRow f10.1.2.1 328 (by decide +kernel)] at d27
  rw [show hV H1 329 = hV H0 329 from fRow f10.1.2.1 329 (by decide +kernel)] at d32
  have kn : ¬ hV H0 328 (n0).toNat = 4 := by omega
  obtain ⟨e1, e2, e3⟩ := CH_n (E := RE H0) (s := n0) kn
  have q1 : RT (RE H0) n4 = n0 := e1.symm.trans g1 |>.symm
  rw [q1] at r3
  have mc := mz_c (hV H0 329 (n0).toNat)
  have e4 : LN (RE H0) n0 = mz (hV H0 329 (n0).toNat) := e2
  have w37 := f37
  unfold w32 at w37
  refine ⟨g1, ?_⟩
  rw [nxc_top (by omega), e4]
  omega
def g_265w_4_1 : vG := ([(2, [17, 4, 16], [], 0), (0, [16], [], 1), (0, [15], [], 0), (40, [13, 14], [], 0), (0, [14], [], -1), (22, [13, 9, 5], [1], 0), (90, [13], [], -1), (91, [13], [], 240), (41, [11, 12], [], 0), (0, [12], [], 5), (22, [11, 10, 5], [1], 0), (90, [11], [], 0), (91, [11], [], 6), (20, [10, 2], [1], 66), (23, [2], [1], 12), (0, [10], [], 328), (20, [9, 2], [1], 67), (23, [2], [1], 12), (0, [9], [], 329), (41, [7, 8], [], 0), (0, [8], [], 4), (22, [7, 6, 5], [1], 0), (90, [7], [], 0), (91, [7], [], 6), (20, [6, 2], [1], 66), (23, [2], [1], 12), (0, [6], [], 328), (5000, [0, 1, 2, 3, 4, 5], [0, 1], 4), (0, [0], [], 285), (90, [1], [], 0), (91, [1], [], 19), (0, [2], [], 285), (90, [3], [], 0), (91, [3], [], 19), (90, [4], [], 0), (91, [4], [], 19), (90, [5], [], 0), (91, [5], [], 19)], (4000, [2, 3, 4, 5, 15, 17], [1], 75))
theorem c_265w_4_1 {q0 : Nat} : vOkm T0 (eN e_265 L_265w A_265 mu_265 n_265 B_265 (some q0)) 2 g_265w_4_1 := vOk_inI fun ρ η f0 f1 f2 f3 f4 f5 f6 f7 f8 f9 f10 f11 f12 f13 f14 f15 f16 f17 f18 f19 f20 f21 f22 f23 f24 f25 f26 f27 f28 f29 f30 f31 f32 f33 f34 f35 f36 f37 => q_265w_2 (q0 := q0) (n0 := ρ 5) (n1 := ρ 4) (n2 := ρ 3) (n3 := ρ 2) (n4 := ρ 1) (n5 := ρ 0) (n6 := ρ 6) (n7 := ρ 7) (n8 := ρ 8) (n9 := ρ 9) (n10 := ρ 10) (n11 := ρ 11) (n12 := ρ 12) (n13 := ρ 13) (n14 := ρ 14) (n15 := ρ 15) (n16 := ρ 16) (n17 := ρ 17) (H0 := η 0) (H1 := η 1) f37 f36 f35 f34 f33 f32 f31 f30 f29 f28 f27 f26 f25 f24 f23 f22 f21 f20 f19 f18 f17 f16 f15 f14 f13 f12 f11 f10 f9 f8 f7 f6 f5 f4 f3 f2 f1 f0
theorem q_265w_3 {q0 : Nat} {n0 n1 n2 n3 n4 n5 n6 n7 n8 n9 n10 n11 n12 n13 n14 n15 n16 n17 n18 : Int} {H0 H1 : gH} (f0 : n0 ≤ 19) (f1 : 0 ≤ n0) (f2 : n1 ≤ 19) (f3 : 0 ≤ n1) (f4 : n2 ≤ 19) (f5 : 0 ≤ n2) (f6 : n3 = 285) (f7 : n4 ≤ 19) (f8 : 0 ≤ n4) (f9 : n5 = 285) (f10 : (hLe T0 H0 H1 ∧ hFr s_265.2.2.2.2 H0 H1 ∧ hWt T0 H1) ∧ ((Ab_265_4 n5 n4 n3 n2 n1 n0 H0 H1 ∧ Bb_265_4 n5 n4 n3 n2 n1 n0 H0 H1) ∧ preb_265 n5 n4 H0) ∧ some q0 = some (mub_265_4 n5 n4 n3 n2 n1 n0 H0 H1)) (f11 : n6 = 328) (f12 : hK H1 (n3).toNat = 12) (f13 : n6 = hV H1 (n3).toNat 66) (f14 : n7 ≤ 6) (f15 : 0 ≤ n7) (f16 : n7 = hV H1 (n6).toNat (n0).toNat) (f17 : n8 = 4) (f18 : n7 ≠ n8) (f19 : n9 = 329) (f20 : hK H1 (n3).toNat = 12) (f21 : n9 = hV H1 (n3).toNat 67) (f22 : n10 = 328) (f23 : hK H1 (n3).toNat = 12) (f24 : n10 = hV H1 (n3).toNat 66) (f25 : n11 ≤ 6) (f26 : 0 ≤ n11) (f27 : n11 = hV H1 (n10).toNat (n0).toNat) (f28 : n12 = 5) (f29 : n11 = n12) (f30 : n13 = 332) (f31 : hK H1 (n3).toNat = 12) (f32 : n13 = hV H1 (n3).toNat 70) (f33 : n14 ≤ 19) (f34 : (-1) ≤ n14) (f35 : n14 = hV H1 (n13).toNat (n0).toNat) (f36 : n15 ≤ 240) (f37 : (-1) ≤ n15) (f38 : n15 = hV H1 (n9).toNat (n14).toNat) (f39 : n16 = (-1)) (f40 : n15 ≠ n16) (f41 : n17 = 1) (f42 : n18 = w32 (n1 - n17)) : Bb_265_75 n5 n4 n3 n2 n1 n0 n15 n18 H0 H1 := by
  unfold Bb_265_75
  intro sk r3
  have gb := f10.2.1.1.2
  unfold Bb_265_4 at gb
  have g1 := gb sk
  have pz := f10.2.1.2
  unfold preb_265 at pz
  obtain ⟨z0, so⟩ := pz
  have ga := f10.2.1.1.1
  unfold Ab_265_4 at ga
  obtain ⟨h1, h2, h3, h4⟩ := ga
  have d16 := rdW (q := 328) f16 f11
  have d27 := rdW (q := 328) f27 f22
  have d35 := rdW (q := 332) f35 f30
  have d38 := rdW (q := 329) f38 f19
  rw [show hV H1 328 = hV H0 328 from fRow f10.1.2.1 328 (by decide +kernel)] at d16
  rw [show hV H1 328 = hV H0 328 from fRow f10.1.2.1 328 (by decide +kernel)] at d27
  rw [show hV H1 332 = hV H0 332 from fRow f10.1.2.1 332 (by decide +kernel)] at d35
  rw [show hV H1 329 = hV H0 329 from fRow f10.1.2.1 329 (by decide +kernel)] at d38
  have kn : ¬ hV H0 328 (n0).toNat = 4 := by omega
  obtain ⟨e1, e2, e3⟩ := CH_n (E := RE H0) (s := n0) kn
  have q1 : RT (RE H0) n4 = n0 := e1.symm.trans g1 |>.symm
  rw [q1] at r3
  have mc := mz_c (hV H0 329 (n0).toNat)
  have e4 : LN (RE H0) n0 = mz (hV H0 329 (n0).toNat) := e2
  have w42 := f42
  unfold w32 at w42
  refine ⟨g1, ?_⟩
  rw [nxc_top (by omega), e4]
  omega
def g_265w_4_2 : vG := ([(2, [18, 4, 17], [], 0), (0, [17], [], 1), (41, [15, 16], [], 0), (0, [16], [], -1), (22, [15, 9, 14], [1], 0), (90, [15], [], -1), (91, [15], [], 240), (22, [14, 13, 5], [1], 0), (90, [14], [], -1), (91, [14], [], 19), (20, [13, 2], [1], 70), (23, [2], [1], 12), (0, [13], [], 332), (40, [11, 12], [], 0), (0, [12], [], 5), (22, [11, 10, 5], [1], 0), (90, [11], [], 0), (91, [11], [], 6), (20, [10, 2], [1], 66), (23, [2], [1], 12), (0, [10], [], 328), (20, [9, 2], [1], 67), (23, [2], [1], 12), (0, [9], [], 329), (41, [7, 8], [], 0), (0, [8], [], 4), (22, [7, 6, 5], [1], 0), (90, [7], [], 0), (91, [7], [], 6), (20, [6, 2], [1], 66), (23, [2], [1], 12), (0, [6], [], 328), (5000, [0, 1, 2, 3, 4, 5], [0, 1], 4), (0, [0], [], 285), (90, [1], [], 0), (91, [1], [], 19), (0, [2], [], 285), (90, [3], [], 0), (91, [3], [], 19), (90, [4], [], 0), (91, [4], [], 19), (90, [5], [], 0), (91, [5], [], 19)], (4000, [2, 3, 4, 5, 15, 18], [1], 75))
theorem c_265w_4_2 {q0 : Nat} : vOkm T0 (eN e_265 L_265w A_265 mu_265 n_265 B_265 (some q0)) 2 g_265w_4_2 := vOk_inI fun ρ η f0 f1 f2 f3 f4 f5 f6 f7 f8 f9 f10 f11 f12 f13 f14 f15 f16 f17 f18 f19 f20 f21 f22 f23 f24 f25 f26 f27 f28 f29 f30 f31 f32 f33 f34 f35 f36 f37 f38 f39 f40 f41 f42 => q_265w_3 (q0 := q0) (n0 := ρ 5) (n1 := ρ 4) (n2 := ρ 3) (n3 := ρ 2) (n4 := ρ 1) (n5 := ρ 0) (n6 := ρ 6) (n7 := ρ 7) (n8 := ρ 8) (n9 := ρ 9) (n10 := ρ 10) (n11 := ρ 11) (n12 := ρ 12) (n13 := ρ 13) (n14 := ρ 14) (n15 := ρ 15) (n16 := ρ 16) (n17 := ρ 17) (n18 := ρ 18) (H0 := η 0) (H1 := η 1) f42 f41 f40 f39 f38 f37 f36 f35 f34 f33 f32 f31 f30 f29 f28 f27 f26 f25 f24 f23 f22 f21 f20 f19 f18 f17 f16 f15 f14 f13 f12 f11 f10 f9 f8 f7 f6 f5 f4 f3 f2 f1 f0
theorem q_265w_4 {q0 : Nat} {n0 n1 n2 n3 n4 n5 n6 n7 n8 n9 n10 n11 n12 n13 n14 n15 n16 n17 n18 n19 : Int} {H0 H1 : gH} (f0 : n0 ≤ 19) (f1 : 0 ≤ n0) (f2 : n1 ≤ 19) (f3 : 0 ≤ n1) (f4 : n2 ≤ 19) (f5 : 0 ≤ n2) (f6 : n3 = 285) (f7 : n4 ≤ 19) (f8 : 0 ≤ n4) (f9 : n5 = 285) (f10 : (hLe T0 H0 H1 ∧ hFr s_265.2.2.2.2 H0 H1 ∧ hWt T0 H1) ∧ ((Ab_265_4 n5 n4 n3 n2 n1 n0 H0 H1 ∧ Bb_265_4 n5 n4 n3 n2 n1 n0 H0 H1) ∧ preb_265 n5 n4 H0) ∧ some q0 = some (mub_265_4 n5 n4 n3 n2 n1 n0 H0 H1)) (f11 : n6 = 328) (f12 : hK H1 (n3).toNat = 12) (f13 : n6 = hV H1 (n3).toNat 66) (f14 : n7 ≤ 6) (f15 : 0 ≤ n7) (f16 : n7 = hV H1 (n6).toNat (n0).toNat) (f17 : n8 = 4) (f18 : n7 ≠ n8) (f19 : n9 = 329) (f20 : hK H1 (n3).toNat = 12) (f21 : n9 = hV H1 (n3).toNat 67) (f22 : n10 = 328) (f23 : hK H1 (n3).toNat = 12) (f24 : n10 = hV H1 (n3).toNat 66) (f25 : n11 ≤ 6) (f26 : 0 ≤ n11) (f27 : n11 = hV H1 (n10).toNat (n0).toNat) (f28 : n12 = 5) (f29 : n11 = n12) (f30 : n13 = 332) (f31 : hK H1 (n3).toNat = 12) (f32 : n13 = hV H1 (n3).toNat 70) (f33 : n14 ≤ 19) (f34 : (-1) ≤ n14) (f35 : n14 = hV H1 (n13).toNat (n0).toNat) (f36 : n15 ≤ 240) (f37 : (-1) ≤ n15) (f38 : n15 = hV H1 (n9).toNat (n14).toNat) (f39 : n16 = (-1)) (f40 : n15 = n16) (f41 : n17 = 0) (f42 : n18 = 1) (f43 : n19 = w32 (n1 - n18)) : Bb_265_75 n5 n4 n3 n2 n1 n0 n17 n19 H0 H1 := by
  unfold Bb_265_75
  intro sk r3
  have gb := f10.2.1.1.2
  unfold Bb_265_4 at gb
  have g1 := gb sk
  have pz := f10.2.1.2
  unfold preb_265 at pz
  obtain ⟨z0, so⟩ := pz
  have ga := f10.2.1.1.1
  unfold Ab_265_4 at ga
  obtain ⟨h1, h2, h3, h4⟩ := ga
  have d16 := rdW (q := 328) f16 f11
  have d27 := rdW (q := 328) f27 f22
  have d35 := rdW (q := 332) f35 f30
  have d38 := rdW (q := 329) f38 f19
  rw [show hV H1 328 = hV H0 328 from fRow f10.1.2.1 328 (by decide +kernel)] at d16
  rw [show hV H1 328 = hV H0 328 from fRow f10.1.2.1 328 (by decide +kernel)] at d27
  rw [show hV H1 332 = hV H0 332 from fRow f10.1.2.1 332 (by decide +kernel)] at d35
  rw [show hV H1 329 = hV H0 329 from fRow f10.1.2.1 329 (by decide +kernel)] at d38
  have kn : ¬ hV H0 328 (n0).toNat = 4 := by omega
  obtain ⟨e1, e2, e3⟩ := CH_n (E := RE H0) (s := n0) kn
  have q1 : RT (RE H0) n4 = n0 := e1.symm.trans g1 |>.symm
  rw [q1] at r3
  have mc := mz_c (hV H0 329 (n0).toNat)
  have e4 : LN (RE H0) n0 = mz (hV H0 329 (n0).toNat) := e2
  have w43 := f43
  unfold w32 at w43
  refine ⟨g1, ?_⟩
  rw [nxc_top (by omega), e4]
  omega
def g_265w_4_3 : vG := ([(2, [19, 4, 18], [], 0), (0, [18], [], 1), (0, [17], [], 0), (40, [15, 16], [], 0), (0, [16], [], -1), (22, [15, 9, 14], [1], 0), (90, [15], [], -1), (91, [15], [], 240), (22, [14, 13, 5], [1], 0), (90, [14], [], -1), (91, [14], [], 19), (20, [13, 2], [1], 70), (23, [2], [1], 12), (0, [13], [], 332), (40, [11, 12], [], 0), (0, [12], [], 5), (22, [11, 10, 5], [1], 0), (90, [11], [], 0), (91, [11], [], 6), (20, [10, 2], [1], 66), (23, [2], [1], 12), (0, [10], [], 328), (20, [9, 2], [1], 67), (23, [2], [1], 12), (0, [9], [], 329), (41, [7, 8], [], 0), (0, [8], [], 4), (22, [7, 6, 5], [1], 0), (90, [7], [], 0), (91, [7], [], 6), (20, [6, 2], [1], 66), (23, [2], [1], 12), (0, [6], [], 328), (5000, [0, 1, 2, 3, 4, 5], [0, 1], 4), (0, [0], [], 285), (90, [1], [], 0), (91, [1], [], 19), (0, [2], [], 285), (90, [3], [], 0), (91, [3], [], 19), (90, [4], [], 0), (91, [4], [], 19), (90, [5], [], 0), (91, [5], [], 19)], (4000, [2, 3, 4, 5, 17, 19], [1], 75))
theorem c_265w_4_3 {q0 : Nat} : vOkm T0 (eN e_265 L_265w A_265 mu_265 n_265 B_265 (some q0)) 2 g_265w_4_3 := vOk_inI fun ρ η f0 f1 f2 f3 f4 f5 f6 f7 f8 f9 f10 f11 f12 f13 f14 f15 f16 f17 f18 f19 f20 f21 f22 f23 f24 f25 f26 f27 f28 f29 f30 f31 f32 f33 f34 f35 f36 f37 f38 f39 f40 f41 f42 f43 => q_265w_4 (q0 := q0) (n0 := ρ 5) (n1 := ρ 4) (n2 := ρ 3) (n3 := ρ 2) (n4 := ρ 1) (n5 := ρ 0) (n6 := ρ 6) (n7 := ρ 7) (n8 := ρ 8) (n9 := ρ 9) (n10 := ρ 10) (n11 := ρ 11) (n12 := ρ 12) (n13 := ρ 13) (n14 := ρ 14) (n15 := ρ 15) (n16 := ρ 16) (n17 := ρ 17) (n18 := ρ 18) (n19 := ρ 19) (H0 := η 0) (H1 := η 1) f43 f42 f41 f40 f39 f38 f37 f36 f35 f34 f33 f32 f31 f30 f29 f28 f27 f26 f25 f24 f23 f22 f21 f20 f19 f18 f17 f16 f15 f14 f13 f12 f11 f10 f9 f8 f7 f6 f5 f4 f3 f2 f1 f0
theorem q_265w_5 {q0 : Nat} {n0 n1 n2 n3 n4 n5 n6 n7 n8 n9 n10 n11 n12 : Int} {H0 H1 H2 : gH} (f0 : n0 ≤ 19) (f1 : 0 ≤ n0) (f2 : n1 ≤ 19) (f3 : 0 ≤ n1) (f4 : n2 ≤ 19) (f5 : 0 ≤ n2) (f6 : n3 = 285) (f7 : n4 ≤ 19) (f8 : 0 ≤ n4) (f9 : n5 = 285) (f10 : (hLe T0 H0 H1 ∧ hFr s_265.2.2.2.2 H0 H1 ∧ hWt T0 H1) ∧ ((Ab_265_4 n5 n4 n3 n2 n1 n0 H0 H1 ∧ Bb_265_4 n5 n4 n3 n2 n1 n0 H0 H1) ∧ preb_265 n5 n4 H0) ∧ some q0 = some (mub_265_4 n5 n4 n3 n2 n1 n0 H0 H1)) (f11 : n6 = 328) (f12 : hK H1 (n3).toNat = 12) (f13 : n6 = hV H1 (n3).toNat 66) (f14 : n7 ≤ 6) (f15 : 0 ≤ n7) (f16 : n7 = hV H1 (n6).toNat (n0).toNat) (f17 : n8 = 4) (f18 : n7 = n8) (f19 : n9 = 343) (f20 : hK H1 (n3).toNat = 12) (f21 : n9 = hV H1 (n3).toNat 81) (f22 : hK H1 (n9).toNat = 572) (f23 : hUpd H2 H1 n9 n1 n0) (f24 : n10 = w32 (n1 + 1)) (f25 : n11 = 332) (f26 : hK H2 (n3).toNat = 12) (f27 : n11 = hV H2 (n3).toNat 70) (f28 : n12 ≤ 19) (f29 : (-1) ≤ n12) (f30 : n12 = hV H2 (n11).toNat (n0).toNat) : Bb_265_4 n5 n4 n3 n2 n10 n12 H0 H2 := by
  unfold Bb_265_4
  intro sk
  have gb := f10.2.1.1.2
  unfold Bb_265_4 at gb
  have g1 := gb sk
  have pz := f10.2.1.2
  unfold preb_265 at pz
  obtain ⟨z0, so⟩ := pz
  have ga := f10.2.1.1.1
  unfold Ab_265_4 at ga
  obtain ⟨h1, h2, h3, h4⟩ := ga
  have d16 := rdW (q := 328) f16 f11
  have d30 := rdW (q := 332) f30 f25
  rw [show hV H1 328 = hV H0 328 from fRow f10.1.2.1 328 (by decide +kernel)] at d16
  rw [show hV H2 332 = hV H0 332 from (uRowNe f23 332 (by rw [f19]; decide)).trans (fRow f10.1.2.1 332 (by decide +kernel))] at d30
  have k4 : hV H0 328 (n0).toNat = 4 := by omega
  have e := (CH_4 sk (s := n0) (by omega) (show n0 < hV H0 285 64 by omega) k4).1
  have e2 : n12 = (RE H0).2.2.1 (n0).toNat := d30
  rw [← e2] at e
  exact e.symm.trans g1
def g_265w_4_4 : vG := ([(22, [12, 11, 5], [2], 0), (90, [12], [], -1), (91, [12], [], 19), (20, [11, 2], [2], 70), (23, [2], [2], 12), (0, [11], [], 332), (10, [10, 4], [], 1), (80, [9, 4, 5], [2, 1], 0), (23, [9], [1], 572), (20, [9, 2], [1], 81), (23, [2], [1], 12), (0, [9], [], 343), (40, [7, 8], [], 0), (0, [8], [], 4), (22, [7, 6, 5], [1], 0), (90, [7], [], 0), (91, [7], [], 6), (20, [6, 2], [1], 66), (23, [2], [1], 12), (0, [6], [], 328), (5000, [0, 1, 2, 3, 4, 5], [0, 1], 4), (0, [0], [], 285), (90, [1], [], 0), (91, [1], [], 19), (0, [2], [], 285), (90, [3], [], 0), (91, [3], [], 19), (90, [4], [], 0), (91, [4], [], 19), (90, [5], [], 0), (91, [5], [], 19)], (4000, [2, 3, 10, 12], [2], 4))
theorem c_265w_4_4 {q0 : Nat} : vOkm T0 (eN e_265 L_265w A_265 mu_265 n_265 B_265 (some q0)) 2 g_265w_4_4 := vOk_inI fun ρ η f0 f1 f2 f3 f4 f5 f6 f7 f8 f9 f10 f11 f12 f13 f14 f15 f16 f17 f18 f19 f20 f21 f22 f23 f24 f25 f26 f27 f28 f29 f30 => q_265w_5 (q0 := q0) (n0 := ρ 5) (n1 := ρ 4) (n2 := ρ 3) (n3 := ρ 2) (n4 := ρ 1) (n5 := ρ 0) (n6 := ρ 6) (n7 := ρ 7) (n8 := ρ 8) (n9 := ρ 9) (n10 := ρ 10) (n11 := ρ 11) (n12 := ρ 12) (H0 := η 0) (H1 := η 1) (H2 := η 2) f30 f29 f28 f27 f26 f25 f24 f23 f22 f21 f20 f19 f18 f17 f16 f15 f14 f13 f12 f11 f10 f9 f8 f7 f6 f5 f4 f3 f2 f1 f0
def p_265w_4 : List vG := [g_265w_4_0,
  g_265w_4_1,
  g_265w_4_2,
  g_265w_4_3,
  g_265w_4_4]
theorem r_265w_4 : vCovBO (eRc e_265 L_265 cs_265 2000 (4, [(0, (3, 12, 285, 0)), (1, (0, 0, 19, 0)), (2, (0, 0, 19, 0)), (3, (0, 0, 19, 0))])) p_265w_4 = true := by decide +kernel
theorem q_265w_6 {q0 : Nat} {n0 n1 n2 n3 n4 n5 n6 n7 : Int} {H0 H1 : gH} (f0 : n0 ≤ 19) (f1 : (-1) ≤ n0) (f2 : n1 ≤ 240) (f3 : 0 ≤ n1) (f4 : n2 ≤ 19) (f5 : 0 ≤ n2) (f6 : n3 ≤ 19) (f7 : 0 ≤ n3) (f8 : n4 ≤ 19) (f9 : 0 ≤ n4) (f10 : n5 = 285) (f11 : n6 ≤ 19) (f12 : 0 ≤ n6) (f13 : n7 = 285) (f14 : (hLe T0 H0 H1 ∧ hFr s_265.2.2.2.2 H0 H1 ∧ hWt T0 H1) ∧ ((Ab_265_75 n7 n6 n5 n4 n3 n2 n1 n0 H0 H1 ∧ Bb_265_75 n7 n6 n5 n4 n3 n2 n1 n0 H0 H1) ∧ preb_265 n7 n6 H0) ∧ some q0 = some (mub_265_75 n7 n6 n5 n4 n3 n2 n1 n0 H0 H1)) (f15 : n0 < 0) : nb_265 n1 n7 n6 H0 H1 := by
  unfold nb_265
  intro sk r3
  have gb := f14.2.1.1.2
  unfold Bb_265_75 at gb
  obtain ⟨g1, g2⟩ := gb sk r3
  have pz := f14.2.1.2
  unfold preb_265 at pz
  obtain ⟨z0, so⟩ := pz
  have ga := f14.2.1.1.1
  unfold Ab_265_75 at ga
  obtain ⟨h1, h2, h3, h4, h5⟩ := ga
  rw [nxc_end h4 (by omega) (by omega)] at g2
  exact g2
def g_265w_75_0 : vG := ([(32, [7], [], 0), (5000, [0, 1, 2, 3, 4, 5, 6, 7], [0, 1], 75), (0, [0], [], 285), (90, [1], [], 0), (91, [1], [], 19), (0, [2], [], 285), (90, [3], [], 0), (91, [3], [], 19), (90, [4], [], 0), (91, [4], [], 19), (90, [5], [], 0), (91, [5], [], 19), (90, [6], [], 0), (91, [6], [], 240), (90, [7], [], -1), (91, [7], [], 19)], (3000, [6], [1], 162))
theorem c_265w_75_0 {q0 : Nat} : vOkm T0 (eN e_265 L_265w A_265 mu_265 n_265 B_265 (some q0)) 2 g_265w_75_0 := vOk_inI fun ρ η f0 f1 f2 f3 f4 f5 f6 f7 f8 f9 f10 f11 f12 f13 f14 f15 => q_265w_6 (q0 := q0) (n0 := ρ 7) (n1 := ρ 6) (n2 := ρ 5) (n3 := ρ 4) (n4 := ρ 3) (n5 := ρ 2) (n6 := ρ 1) (n7 := ρ 0) (H0 := η 0) (H1 := η 1) f15 f14 f13 f12 f11 f10 f9 f8 f7 f6 f5 f4 f3 f2 f1 f0
theorem q_265w_7 {q0 : Nat} {n0 n1 n2 n3 n4 n5 n6 n7 n8 n9 n10 n11 n12 n13 n14 n15 n16 n17 : Int} {H0 H1 : gH} (f0 : n0 ≤ 19) (f1 : (-1) ≤ n0) (f2 : n1 ≤ 240) (f3 : 0 ≤ n1) (f4 : n2 ≤ 19) (f5 : 0 ≤ n2) (f6 : n3 ≤ 19) (f7 : 0 ≤ n3) (f8 : n4 ≤ 19) (f9 : 0 ≤ n4) (f10 : n5 = 285) (f11 : n6 ≤ 19) (f12 : 0 ≤ n6) (f13 : n7 = 285) (f14 : (hLe T0 H0 H1 ∧ hFr s_265.2.2.2.2 H0 H1 ∧ hWt T0 H1) ∧ ((Ab_265_75 n7 n6 n5 n4 n3 n2 n1 n0 H0 H1 ∧ Bb_265_75 n7 n6 n5 n4 n3 n2 n1 n0 H0 H1) ∧ preb_265 n7 n6 H0) ∧ some q0 = some (mub_265_75 n7 n6 n5 n4 n3 n2 n1 n0 H0 H1)) (f15 : 0 ≤ n0) (f16 : n8 = 331) (f17 : hK H1 (n5).toNat = 12) (f18 : n8 = hV H1 (n5).toNat 69) (f19 : n9 = 343) (f20 : hK H1 (n5).toNat = 12) (f21 : n9 = hV H1 (n5).toNat 81) (f22 : n10 ≤ 19) (f23 : 0 ≤ n10) (f24 : n10 = hV H1 (n9).toNat (n0).toNat) (f25 : n11 ≤ 2147483647) (f26 : (-2147483648) ≤ n11) (f27 : n11 = hV H1 (n8).toNat (n10).toNat) (f28 : n1 ≤ n11) (f29 : n12 = 330) (f30 : hK H1 (n5).toNat = 12) (f31 : n12 = hV H1 (n5).toNat 68) (f32 : n13 = 343) (f33 : hK H1 (n5).toNat = 12) (f34 : n13 = hV H1 (n5).toNat 81) (f35 : n14 ≤ 19) (f36 : 0 ≤ n14) (f37 : n14 = hV H1 (n13).toNat (n0).toNat) (f38 : n15 ≤ 2147483647) (f39 : (-2147483648) ≤ n15) (f40 : n15 = hV H1 (n12).toNat (n14).toNat) (f41 : n1 ≤ n15) (f42 : n16 = 0) (f43 : n17 = w32 (n0 + (-1))) : Bb_265_75 n7 n6 n5 n4 n3 n2 n16 n17 H0 H1 := by
  unfold Bb_265_75
  intro sk r3
  have gb := f14.2.1.1.2
  unfold Bb_265_75 at gb
  obtain ⟨g1, g2⟩ := gb sk r3
  have pz := f14.2.1.2
  unfold preb_265 at pz
  obtain ⟨z0, so⟩ := pz
  have ga := f14.2.1.1.1
  unfold Ab_265_75 at ga
  obtain ⟨h1, h2, h3, h4, h5⟩ := ga
  have d24 := rdW (q := 343) f24 f19
  have d27 := rdW (q := 331) f27 f16
  have d37 := rdW (q := 343) f37 f32
  have d40 := rdW (q := 330) f40 f29
  rw [show hV H1 331 = hV H0 331 from fRow f14.1.2.1 331 (by decide +kernel)] at d27
  rw [show hV H1 330 = hV H0 330 from fRow f14.1.2.1 330 (by decide +kernel)] at d40
  have wi : n17 = n0 - 1 := by
    have w := f43
    unfold w32 at w
    omega
  have c1 : hV H1 328 = hV H0 328 := fRow f14.1.2.1 328 (by decide +kernel)
  have c2 : hV H1 332 = hV H0 332 := fRow f14.1.2.1 332 (by decide +kernel)
  rw [c1, c2] at h4
  obtain ⟨l1, l2⟩ := LN_elem sk (i := n0) (i' := n17) h4 (show n6 < hV H0 285 64 by omega) (by omega) (by omega) (by omega)
  rw [← g2] at l1
  have ch24 : n10 = hV H1 343 (n0).toNat := d24
  have ch37 : n14 = hV H1 343 (n0).toNat := d37
  rw [ch24] at d27
  rw [ch37] at d40
  have w43 := f43
  unfold w32 at w43
  have m1 := lnT_c (hV H0 330 (hV H1 343 (n0).toNat).toNat) (hV H0 331 (hV H1 343 (n0).toNat).toNat) n1
  have m2 := mnI_c (hV H0 331 (hV H1 343 (n0).toNat).toNat) n1
  have l3 : LN (RE H0) (hV H1 343 (n0).toNat) = lnT (hV H0 330 (hV H1 343 (n0).toNat).toNat) (hV H0 331 (hV H1 343 (n0).toNat).toNat) n1 := l1
  have w4 := (sk.2 (hV H1 343 (n0).toNat).toNat (show (((hV H1 343 (n0).toNat).toNat : Nat) : Int) < hV H0 285 64 from by
    have w := h4.2.2 (n0).toNat (by omega)
    omega)).1 (h4.2.2 (n0).toNat (by omega)).1
  have w5 : 0 ≤ hV H0 330 (hV H1 343 (n0).toNat).toNat ∧ hV H0 330 (hV H1 343 (n0).toNat).toNat < hV H0 331 (hV H1 343 (n0).toNat).toNat ∧ hV H0 331 (hV H1 343 (n0).toNat).toNat ≤ 240 := w4.2.2
  refine ⟨g1, ?_⟩
  rw [l2, l3]
  omega
def g_265w_75_1 : vG := ([(10, [17, 7], [], -1), (0, [16], [], 0), (45, [6, 15], [], 0), (22, [15, 12, 14], [1], 0), (90, [15], [], -2147483648), (91, [15], [], 2147483647), (22, [14, 13, 7], [1], 0), (90, [14], [], 0), (91, [14], [], 19), (20, [13, 2], [1], 81), (23, [2], [1], 12), (0, [13], [], 343), (20, [12, 2], [1], 68), (23, [2], [1], 12), (0, [12], [], 330), (43, [11, 6], [], 0), (22, [11, 8, 10], [1], 0), (90, [11], [], -2147483648), (91, [11], [], 2147483647), (22, [10, 9, 7], [1], 0), (90, [10], [], 0), (91, [10], [], 19), (20, [9, 2], [1], 81), (23, [2], [1], 12), (0, [9], [], 343), (20, [8, 2], [1], 69), (23, [2], [1], 12), (0, [8], [], 331), (33, [7], [], 0), (5000, [0, 1, 2, 3, 4, 5, 6, 7], [0, 1], 75), (0, [0], [], 285), (90, [1], [], 0), (91, [1], [], 19), (0, [2], [], 285), (90, [3], [], 0), (91, [3], [], 19), (90, [4], [], 0), (91, [4], [], 19), (90, [5], [], 0), (91, [5], [], 19), (90, [6], [], 0), (91, [6], [], 240), (90, [7], [], -1), (91, [7], [], 19)], (4000, [2, 3, 4, 5, 16, 17], [1], 75))
theorem c_265w_75_1 {q0 : Nat} : vOkm T0 (eN e_265 L_265w A_265 mu_265 n_265 B_265 (some q0)) 2 g_265w_75_1 := vOk_inI fun ρ η f0 f1 f2 f3 f4 f5 f6 f7 f8 f9 f10 f11 f12 f13 f14 f15 f16 f17 f18 f19 f20 f21 f22 f23 f24 f25 f26 f27 f28 f29 f30 f31 f32 f33 f34 f35 f36 f37 f38 f39 f40 f41 f42 f43 => q_265w_7 (q0 := q0) (n0 := ρ 7) (n1 := ρ 6) (n2 := ρ 5) (n3 := ρ 4) (n4 := ρ 3) (n5 := ρ 2) (n6 := ρ 1) (n7 := ρ 0) (n8 := ρ 8) (n9 := ρ 9) (n10 := ρ 10) (n11 := ρ 11) (n12 := ρ 12) (n13 := ρ 13) (n14 := ρ 14) (n15 := ρ 15) (n16 := ρ 16) (n17 := ρ 17) (H0 := η 0) (H1 := η 1) f43 f42 f41 f40 f39 f38 f37 f36 f35 f34 f33 f32 f31 f30 f29 f28 f27 f26 f25 f24 f23 f22 f21 f20 f19 f18 f17 f16 f15 f14 f13 f12 f11 f10 f9 f8 f7 f6 f5 f4 f3 f2 f1 f0
theorem q_265w_8 {q0 : Nat} {n0 n1 n2 n3 n4 n5 n6 n7 n8 n9 n10 n11 n12 n13 n14 n15 n16 n17 n18 n19 n20 n21 : Int} {H0 H1 : gH} (f0 : n0 ≤ 19) (f1 : (-1) ≤ n0) (f2 : n1 ≤ 240) (f3 : 0 ≤ n1) (f4 : n2 ≤ 19) (f5 : 0 ≤ n2) (f6 : n3 ≤ 19) (f7 : 0 ≤ n3) (f8 : n4 ≤ 19) (f9 : 0 ≤ n4) (f10 : n5 = 285) (f11 : n6 ≤ 19) (f12 : 0 ≤ n6) (f13 : n7 = 285) (f14 : (hLe T0 H0 H1 ∧ hFr s_265.2.2.2.2 H0 H1 ∧ hWt T0 H1) ∧ ((Ab_265_75 n7 n6 n5 n4 n3 n2 n1 n0 H0 H1 ∧ Bb_265_75 n7 n6 n5 n4 n3 n2 n1 n0 H0 H1) ∧ preb_265 n7 n6 H0) ∧ some q0 = some (mub_265_75 n7 n6 n5 n4 n3 n2 n1 n0 H0 H1)) (f15 : 0 ≤ n0) (f16 : n8 = 331) (f17 : hK H1 (n5).toNat = 12) (f18 : n8 = hV H1 (n5).toNat 69) (f19 : n9 = 343) (f20 : hK H1 (n5).toNat = 12) (f21 : n9 = hV H1 (n5).toNat 81) (f22 : n10 ≤ 19) (f23 : 0 ≤ n10) (f24 : n10 = hV H1 (n9).toNat (n0).toNat) (f25 : n11 ≤ 2147483647) (f26 : (-2147483648) ≤ n11) (f27 : n11 = hV H1 (n8).toNat (n10).toNat) (f28 : n1 ≤ n11) (f29 : n12 = 330) (f30 : hK H1 (n5).toNat = 12) (f31 : n12 = hV H1 (n5).toNat 68) (f32 : n13 = 343) (f33 : hK H1 (n5).toNat = 12) (f34 : n13 = hV H1 (n5).toNat 81) (f35 : n14 ≤ 19) (f36 : 0 ≤ n14) (f37 : n14 = hV H1 (n13).toNat (n0).toNat) (f38 : n15 ≤ 2147483647) (f39 : (-2147483648) ≤ n15) (f40 : n15 = hV H1 (n12).toNat (n14).toNat) (f41 : n15 < n1) (f42 : n16 = 330) (f43 : hK H1 (n5).toNat = 12) (f44 : n16 = hV H1 (n5).toNat 68) (f45 : n17 = 343) (f46 : hK H1 (n5).toNat = 12) (f47 : n17 = hV H1 (n5).toNat 81) (f48 : n18 ≤ 19) (f49 : 0 ≤ n18) (f50 : n18 = hV H1 (n17).toNat (n0).toNat) (f51 : n19 ≤ 2147483647) (f52 : (-2147483648) ≤ n19) (f53 : n19 = hV H1 (n16).toNat (n18).toNat) (f54 : n20 = w32 (n1 - n19)) (f55 : n21 = w32 (n0 + (-1))) : Bb_265_75 n7 n6 n5 n4 n3 n2 n20 n21 H0 H1 := by
  unfold Bb_265_75
  intro sk r3
  have gb := f14.2.1.1.2
  unfold Bb_265_75 at gb
  obtain ⟨g1, g2⟩ := gb sk r3
  have pz := f14.2.1.2
  unfold preb_265 at pz
  obtain ⟨z0, so⟩ := pz
  have ga := f14.2.1.1.1
  unfold Ab_265_75 at ga
  obtain ⟨h1, h2, h3, h4, h5⟩ := ga
  have d24 := rdW (q := 343) f24 f19
  have d27 := rdW (q := 331) f27 f16
  have d37 := rdW (q := 343) f37 f32
  have d40 := rdW (q := 330) f40 f29
  have d50 := rdW (q := 343) f50 f45
  have d53 := rdW (q := 330) f53 f42
  rw [show hV H1 331 = hV H0 331 from fRow f14.1.2.1 331 (by decide +kernel)] at d27
  rw [show hV H1 330 = hV H0 330 from fRow f14.1.2.1 330 (by decide +kernel)] at d40
  rw [show hV H1 330 = hV H0 330 from fRow f14.1.2.1 330 (by decide +kernel)] at d53
  have wi : n21 = n0 - 1 := by
    have w := f55
    unfold w32 at w
    omega
  have c1 : hV H1 328 = hV H0 328 := fRow f14.1.2.1 328 (by decide +kernel)
  have c2 : hV H1 332 = hV H0 332 := fRow f14.1.2.1 332 (by decide +kernel)
  rw [c1, c2] at h4
  obtain ⟨l1, l2⟩ := LN_elem sk (i := n0) (i' := n21) h4 (show n6 < hV H0 285 64 by omega) (by omega) (by omega) (by omega)
  rw [← g2] at l1
  have ch24 : n10 = hV H1 343 (n0).toNat := d24
  have ch37 : n14 = hV H1 343 (n0).toNat := d37
  have ch50 : n18 = hV H1 343 (n0).toNat := d50
  rw [ch24] at d27
  rw [ch37] at d40
  rw [ch50] at d53
  have w54 := f54
  unfold w32 at w54
  have w55 := f55
  unfold w32 at w55
  have m1 := lnT_c (hV H0 330 (hV H1 343 (n0).toNat).toNat) (hV H0 331 (hV H1 343 (n0).toNat).toNat) n1
  have m2 := mnI_c (hV H0 331 (hV H1 343 (n0).toNat).toNat) n1
  have l3 : LN (RE H0) (hV H1 343 (n0).toNat) = lnT (hV H0 330 (hV H1 343 (n0).toNat).toNat) (hV H0 331 (hV H1 343 (n0).toNat).toNat) n1 := l1
  have w4 := (sk.2 (hV H1 343 (n0).toNat).toNat (show (((hV H1 343 (n0).toNat).toNat : Nat) : Int) < hV H0 285 64 from by
    have w := h4.2.2 (n0).toNat (by omega)
    omega)).1 (h4.2.2 (n0).toNat (by omega)).1
  have w5 : 0 ≤ hV H0 330 (hV H1 343 (n0).toNat).toNat ∧ hV H0 330 (hV H1 343 (n0).toNat).toNat < hV H0 331 (hV H1 343 (n0).toNat).toNat ∧ hV H0 331 (hV H1 343 (n0).toNat).toNat ≤ 240 := w4.2.2
  refine ⟨g1, ?_⟩
  rw [l2, l3]
  omega
def g_265w_75_2 : vG := ([(10, [21, 7], [], -1), (2, [20, 6, 19], [], 0), (22, [19, 16, 18], [1], 0), (90, [19], [], -2147483648), (91, [19], [], 2147483647), (22, [18, 17, 7], [1], 0), (90, [18], [], 0), (91, [18], [], 19), (20, [17, 2], [1], 81), (23, [2], [1], 12), (0, [17], [], 343), (20, [16, 2], [1], 68), (23, [2], [1], 12), (0, [16], [], 330), (44, [6, 15], [], 0), (22, [15, 12, 14], [1], 0), (90, [15], [], -2147483648), (91, [15], [], 2147483647), (22, [14, 13, 7], [1], 0), (90, [14], [], 0), (91, [14], [], 19), (20, [13, 2], [1], 81), (23, [2], [1], 12), (0, [13], [], 343), (20, [12, 2], [1], 68), (23, [2], [1], 12), (0, [12], [], 330), (43, [11, 6], [], 0), (22, [11, 8, 10], [1], 0), (90, [11], [], -2147483648), (91, [11], [], 2147483647), (22, [10, 9, 7], [1], 0), (90, [10], [], 0), (91, [10], [], 19), (20, [9, 2], [1], 81), (23, [2], [1], 12), (0, [9], [], 343), (20, [8, 2], [1], 69), (23, [2], [1], 12), (0, [8], [], 331), (33, [7], [], 0), (5000, [0, 1, 2, 3, 4, 5, 6, 7], [0, 1], 75), (0, [0], [], 285), (90, [1], [], 0), (91, [1], [], 19), (0, [2], [], 285), (90, [3], [], 0), (91, [3], [], 19), (90, [4], [], 0), (91, [4], [], 19), (90, [5], [], 0), (91, [5], [], 19), (90, [6], [], 0), (91, [6], [], 240), (90, [7], [], -1), (91, [7], [], 19)], (4000, [2, 3, 4, 5, 20, 21], [1], 75))
theorem c_265w_75_2 {q0 : Nat} : vOkm T0 (eN e_265 L_265w A_265 mu_265 n_265 B_265 (some q0)) 2 g_265w_75_2 := vOk_inI fun ρ η f0 f1 f2 f3 f4 f5 f6 f7 f8 f9 f10 f11 f12 f13 f14 f15 f16 f17 f18 f19 f20 f21 f22 f23 f24 f25 f26 f27 f28 f29 f30 f31 f32 f33 f34 f35 f36 f37 f38 f39 f40 f41 f42 f43 f44 f45 f46 f47 f48 f49 f50 f51 f52 f53 f54 f55 => q_265w_8 (q0 := q0) (n0 := ρ 7) (n1 := ρ 6) (n2 := ρ 5) (n3 := ρ 4) (n4 := ρ 3) (n5 := ρ 2) (n6 := ρ 1) (n7 := ρ 0) (n8 := ρ 8) (n9 := ρ 9) (n10 := ρ 10) (n11 := ρ 11) (n12 := ρ 12) (n13 := ρ 13) (n14 := ρ 14) (n15 := ρ 15) (n16 := ρ 16) (n17 := ρ 17) (n18 := ρ 18) (n19 := ρ 19) (n20 := ρ 20) (n21 := ρ 21) (H0 := η 0) (H1 := η 1) f55 f54 f53 f52 f51 f50 f49 f48 f47 f46 f45 f44 f43 f42 f41 f40 f39 f38 f37 f36 f35 f34 f33 f32 f31 f30 f29 f28 f27 f26 f25 f24 f23 f22 f21 f20 f19 f18 f17 f16 f15 f14 f13 f12 f11 f10 f9 f8 f7 f6 f5 f4 f3 f2 f1 f0
theorem q_265w_9 {q0 : Nat} {n0 n1 n2 n3 n4 n5 n6 n7 n8 n9 n10 n11 n12 n13 n14 n15 n16 n17 n18 n19 n20 n21 : Int} {H0 H1 : gH} (f0 : n0 ≤ 19) (f1 : (-1) ≤ n0) (f2 : n1 ≤ 240) (f3 : 0 ≤ n1) (f4 : n2 ≤ 19) (f5 : 0 ≤ n2) (f6 : n3 ≤ 19) (f7 : 0 ≤ n3) (f8 : n4 ≤ 19) (f9 : 0 ≤ n4) (f10 : n5 = 285) (f11 : n6 ≤ 19) (f12 : 0 ≤ n6) (f13 : n7 = 285) (f14 : (hLe T0 H0 H1 ∧ hFr s_265.2.2.2.2 H0 H1 ∧ hWt T0 H1) ∧ ((Ab_265_75 n7 n6 n5 n4 n3 n2 n1 n0 H0 H1 ∧ Bb_265_75 n7 n6 n5 n4 n3 n2 n1 n0 H0 H1) ∧ preb_265 n7 n6 H0) ∧ some q0 = some (mub_265_75 n7 n6 n5 n4 n3 n2 n1 n0 H0 H1)) (f15 : 0 ≤ n0) (f16 : n8 = 331) (f17 : hK H1 (n5).toNat = 12) (f18 : n8 = hV H1 (n5).toNat 69) (f19 : n9 = 343) (f20 : hK H1 (n5).toNat = 12) (f21 : n9 = hV H1 (n5).toNat 81) (f22 : n10 ≤ 19) (f23 : 0 ≤ n10) (f24 : n10 = hV H1 (n9).toNat (n0).toNat) (f25 : n11 ≤ 2147483647) (f26 : (-2147483648) ≤ n11) (f27 : n11 = hV H1 (n8).toNat (n10).toNat) (f28 : n11 < n1) (f29 : n12 = 331) (f30 : hK H1 (n5).toNat = 12) (f31 : n12 = hV H1 (n5).toNat 69) (f32 : n13 = 343) (f33 : hK H1 (n5).toNat = 12) (f34 : n13 = hV H1 (n5).toNat 81) (f35 : n14 ≤ 19) (f36 : 0 ≤ n14) (f37 : n14 = hV H1 (n13).toNat (n0).toNat) (f38 : n15 ≤ 2147483647) (f39 : (-2147483648) ≤ n15) (f40 : n15 = hV H1 (n12).toNat (n14).toNat) (f41 : n16 = 330) (f42 : hK H1 (n5).toNat = 12) (f43 : n16 = hV H1 (n5).toNat 68) (f44 : n17 = 343) (f45 : hK H1 (n5).toNat = 12) (f46 : n17 = hV H1 (n5).toNat 81) (f47 : n18 ≤ 19) (f48 : 0 ≤ n18) (f49 : n18 = hV H1 (n17).toNat (n0).toNat) (f50 : n19 ≤ 2147483647) (f51 : (-2147483648) ≤ n19) (f52 : n19 = hV H1 (n16).toNat (n18).toNat) (f53 : n15 ≤ n19) (f54 : n20 = 0) (f55 : n21 = w32 (n0 + (-1))) : Bb_265_75 n7 n6 n5 n4 n3 n2 n20 n21 H0 H1 := by
  unfold Bb_265_75
  intro sk r3
  have gb := f14.2.1.1.2
  unfold Bb_265_75 at gb
  obtain ⟨g1, g2⟩ := gb sk r3
  have pz := f14.2.1.2
  unfold preb_265 at pz
  obtain ⟨z0, so⟩ := pz
  have ga := f14.2.1.1.1
  unfold Ab_265_75 at ga
  obtain ⟨h1, h2, h3, h4, h5⟩ := ga
  have d24 := rdW (q := 343) f24 f19
  have d27 := rdW (q := 331) f27 f16
  have d37 := rdW (q := 343) f37 f32
  have d40 := rdW (q := 331) f40 f29
  have d49 := rdW (q := 343) f49 f44
  have d52 := rdW (q := 330) f52 f41
  rw [show hV H1 331 = hV H0 331 from fRow f14.1.2.1 331 (by decide +kernel)] at d27
  rw [show hV H1 331 = hV H0 331 from fRow f14.1.2.1 331 (by decide +kernel)] at d40
  rw [show hV H1 330 = hV H0 330 from fRow f14.1.2.1 330 (by decide +kernel)] at d52
  have wi : n21 = n0 - 1 := by
    have w := f55
    unfold w32 at w
    omega
  have c1 : hV H1 328 = hV H0 328 := fRow f14.1.2.1 328 (by decide +kernel)
  have c2 : hV H1 332 = hV H0 332 := fRow f14.1.2.1 332 (by decide +kernel)
  rw [c1, c2] at h4
  obtain ⟨l1, l2⟩ := LN_elem sk (i := n0) (i' := n21) h4 (show n6 < hV H0 285 64 by omega) (by omega) (by omega) (by omega)
  rw [← g2] at l1
  have ch24 : n10 = hV H1 343 (n0).toNat := d24
  have ch37 : n14 = hV H1 343 (n0).toNat := d37
  have ch49 : n18 = hV H1 343 (n0).toNat := d49
  rw [ch24] at d27
  rw [ch37] at d40
  rw [ch49] at d52
  have w55 := f55
  unfold w32 at w55
  have m1 := lnT_c (hV H0 330 (hV H1 343 (n0).toNat).toNat) (hV H0 331 (hV H1 343 (n0).toNat).toNat) n1
  have m2 := mnI_c (hV H0 331 (hV H1 343 (n0).toNat).toNat) n1
  have l3 : LN (RE H0) (hV H1 343 (n0).toNat) = lnT (hV H0 330 (hV H1 343 (n0).toNat).toNat) (hV H0 331 (hV H1 343 (n0).toNat).toNat) n1 := l1
  have w4 := (sk.2 (hV H1 343 (n0).toNat).toNat (show (((hV H1 343 (n0).toNat).toNat : Nat) : Int) < hV H0 285 64 from by
    have w := h4.2.2 (n0).toNat (by omega)
    omega)).1 (h4.2.2 (n0).toNat (by omega)).1
  have w5 : 0 ≤ hV H0 330 (hV H1 343 (n0).toNat).toNat ∧ hV H0 330 (hV H1 343 (n0).toNat).toNat < hV H0 331 (hV H1 343 (n0).toNat).toNat ∧ hV H0 331 (hV H1 343 (n0).toNat).toNat ≤ 240 := w4.2.2
  refine ⟨g1, ?_⟩
  rw [l2, l3]
  omega
def g_265w_75_3 : vG := ([(10, [21, 7], [], -1), (0, [20], [], 0), (45, [15, 19], [], 0), (22, [19, 16, 18], [1], 0), (90, [19], [], -2147483648), (91, [19], [], 2147483647), (22, [18, 17, 7], [1], 0), (90, [18], [], 0), (91, [18], [], 19), (20, [17, 2], [1], 81), (23, [2], [1], 12), (0, [17], [], 343), (20, [16, 2], [1], 68), (23, [2], [1], 12), (0, [16], [], 330), (22, [15, 12, 14], [1], 0), (90, [15], [], -2147483648), (91, [15], [], 2147483647), (22, [14, 13, 7], [1], 0), (90, [14], [], 0), (91, [14], [], 19), (20, [13, 2], [1], 81), (23, [2], [1], 12), (0, [13], [], 343), (20, [12, 2], [1], 69), (23, [2], [1], 12), (0, [12], [], 331), (42, [11, 6], [], 0), (22, [11, 8, 10], [1], 0), (90, [11], [], -2147483648), (91, [11], [], 2147483647), (22, [10, 9, 7], [1], 0), (90, [10], [], 0), (91, [10], [], 19), (20, [9, 2], [1], 81), (23, [2], [1], 12), (0, [9], [], 343), (20, [8, 2], [1], 69), (23, [2], [1], 12), (0, [8], [], 331), (33, [7], [], 0), (5000, [0, 1, 2, 3, 4, 5, 6, 7], [0, 1], 75), (0, [0], [], 285), (90, [1], [], 0), (91, [1], [], 19), (0, [2], [], 285), (90, [3], [], 0), (91, [3], [], 19), (90, [4], [], 0), (91, [4], [], 19), (90, [5], [], 0), (91, [5], [], 19), (90, [6], [], 0), (91, [6], [], 240), (90, [7], [], -1), (91, [7], [], 19)], (4000, [2, 3, 4, 5, 20, 21], [1], 75))
theorem c_265w_75_3 {q0 : Nat} : vOkm T0 (eN e_265 L_265w A_265 mu_265 n_265 B_265 (some q0)) 2 g_265w_75_3 := vOk_inI fun ρ η f0 f1 f2 f3 f4 f5 f6 f7 f8 f9 f10 f11 f12 f13 f14 f15 f16 f17 f18 f19 f20 f21 f22 f23 f24 f25 f26 f27 f28 f29 f30 f31 f32 f33 f34 f35 f36 f37 f38 f39 f40 f41 f42 f43 f44 f45 f46 f47 f48 f49 f50 f51 f52 f53 f54 f55 => q_265w_9 (q0 := q0) (n0 := ρ 7) (n1 := ρ 6) (n2 := ρ 5) (n3 := ρ 4) (n4 := ρ 3) (n5 := ρ 2) (n6 := ρ 1) (n7 := ρ 0) (n8 := ρ 8) (n9 := ρ 9) (n10 := ρ 10) (n11 := ρ 11) (n12 := ρ 12) (n13 := ρ 13) (n14 := ρ 14) (n15 := ρ 15) (n16 := ρ 16) (n17 := ρ 17) (n18 := ρ 18) (n19 := ρ 19) (n20 := ρ 20) (n21 := ρ 21) (H0 := η 0) (H1 := η 1) f55 f54 f53 f52 f51 f50 f49 f48 f47 f46 f45 f44 f43 f42 f41 f40 f39 f38 f37 f36 f35 f34 f33 f32 f31 f30 f29 f28 f27 f26 f25 f24 f23 f22 f21 f20 f19 f18 f17 f16 f15 f14 f13 f12 f11 f10 f9 f8 f7 f6 f5 f4 f3 f2 f1 f0
theorem q_265w_10 {q0 : Nat} {n0 n1 n2 n3 n4 n5 n6 n7 n8 n9 n10 n11 n12 n13 n14 n15 n16 n17 n18 n19 n20 n21 n22 n23 n24 n25 : Int} {H0 H1 : gH} (f0 : n0 ≤ 19) (f1 : (-1) ≤ n0) (f2 : n1 ≤ 240) (f3 : 0 ≤ n1) (f4 : n2 ≤ 19) (f5 : 0 ≤ n2) (f6 : n3 ≤ 19) (f7 : 0 ≤ n3) (f8 : n4 ≤ 19) (f9 : 0 ≤ n4) (f10 : n5 = 285) (f11 : n6 ≤ 19) (f12 : 0 ≤ n6) (f13 : n7 = 285) (f14 : (hLe T0 H0 H1 ∧ hFr s_265.2.2.2.2 H0 H1 ∧ hWt T0 H1) ∧ ((Ab_265_75 n7 n6 n5 n4 n3 n2 n1 n0 H0 H1 ∧ Bb_265_75 n7 n6 n5 n4 n3 n2 n1 n0 H0 H1) ∧ preb_265 n7 n6 H0) ∧ some q0 = some (mub_265_75 n7 n6 n5 n4 n3 n2 n1 n0 H0 H1)) (f15 : 0 ≤ n0) (f16 : n8 = 331) (f17 : hK H1 (n5).toNat = 12) (f18 : n8 = hV H1 (n5).toNat 69) (f19 : n9 = 343) (f20 : hK H1 (n5).toNat = 12) (f21 : n9 = hV H1 (n5).toNat 81) (f22 : n10 ≤ 19) (f23 : 0 ≤ n10) (f24 : n10 = hV H1 (n9).toNat (n0).toNat) (f25 : n11 ≤ 2147483647) (f26 : (-2147483648) ≤ n11) (f27 : n11 = hV H1 (n8).toNat (n10).toNat) (f28 : n11 < n1) (f29 : n12 = 331) (f30 : hK H1 (n5).toNat = 12) (f31 : n12 = hV H1 (n5).toNat 69) (f32 : n13 = 343) (f33 : hK H1 (n5).toNat = 12) (f34 : n13 = hV H1 (n5).toNat 81) (f35 : n14 ≤ 19) (f36 : 0 ≤ n14) (f37 : n14 = hV H1 (n13).toNat (n0).toNat) (f38 : n15 ≤ 2147483647) (f39 : (-2147483648) ≤ n15) (f40 : n15 = hV H1 (n12).toNat (n14).toNat) (f41 : n16 = 330) (f42 : hK H1 (n5).toNat = 12) (f43 : n16 = hV H1 (n5).toNat 68) (f44 : n17 = 343) (f45 : hK H1 (n5).toNat = 12) (f46 : n17 = hV H1 (n5).toNat 81) (f47 : n18 ≤ 19) (f48 : 0 ≤ n18) (f49 : n18 = hV H1 (n17).toNat (n0).toNat) (f50 : n19 ≤ 2147483647) (f51 : (-2147483648) ≤ n19) (f52 : n19 = hV H1 (n16).toNat (n18).toNat) (f53 : n19 < n15) (f54 : n20 = 330) (f55 : hK H1 (n5).toNat = 12) (f56 : n20 = hV H1 (n5).toNat 68) (f57 : n21 = 343) (f58 : hK H1 (n5).toNat = 12) (f59 : n21 = hV H1 (n5).toNat 81) (f60 : n22 ≤ 19) (f61 : 0 ≤ n22) (f62 : n22 = hV H1 (n21).toNat (n0).toNat) (f63 : n23 ≤ 2147483647) (f64 : (-2147483648) ≤ n23) (f65 : n23 = hV H1 (n20).toNat (n22).toNat) (f66 : n24 = w32 (n15 - n23)) (f67 : n25 = w32 (n0 + (-1))) : Bb_265_75 n7 n6 n5 n4 n3 n2 n24 n25 H0 H1 := by
  unfold Bb_265_75
  intro sk r3
  have gb := f14.2.1.1.2
  unfold Bb_265_75 at gb
  obtain ⟨g1, g2⟩ := gb sk r3
  have pz := f14.2.1.2
  unfold preb_265 at pz
  obtain ⟨z0, so⟩ := pz
  have ga := f14.2.1.1.1
  unfold Ab_265_75 at ga
  obtain ⟨h1, h2, h3, h4, h5⟩ := ga
  have d24 := rdW (q := 343) f24 f19
  have d27 := rdW (q := 331) f27 f16
  have d37 := rdW (q := 343) f37 f32
  have d40 := rdW (q := 331) f40 f29
  have d49 := rdW (q := 343) f49 f44
  have d52 := rdW (q := 330) f52 f41
  have d62 := rdW (q := 343) f62 f57
  have d65 := rdW (q := 330) f65 f54
  rw [show hV H1 331 = hV H0 331 from fRow f14.1.2.1 331 (by decide +kernel)] at d27
  rw [show hV H1 331 = hV H0 331 from fRow f14.1.2.1 331 (by decide +kernel)] at d40
  rw [show hV H1 330 = hV H0 330 from fRow f14.1.2.1 330 (by decide +kernel)] at d52
  rw [show hV H1 330 = hV H0 330 from fRow f14.1.2.1 330 (by decide +kernel)] at d65
  have wi : n25 = n0 - 1 := by
    have w := f67
    unfold w32 at w
    omega
  have c1 : hV H1 328 = hV H0 328 := fRow f14.1.2.1 328 (by decide +kernel)
  have c2 : hV H1 332 = hV H0 332 := fRow f14.1.2.1 332 (by decide +kernel)
  rw [c1, c2] at h4
  obtain ⟨l1, l2⟩ := LN_elem sk (i := n0) (i' := n25) h4 (show n6 < hV H0 285 64 by omega) (by omega) (by omega) (by omega)
  rw [← g2] at l1
  have ch24 : n10 = hV H1 343 (n0).toNat := d24
  have ch37 : n14 = hV H1 343 (n0).toNat := d37
  have ch49 : n18 = hV H1 343 (n0).toNat := d49
  have ch62 : n22 = hV H1 343 (n0).toNat := d62
  rw [ch24] at d27
  rw [ch37] at d40
  rw [ch49] at d52
  rw [ch62] at d65
  have w66 := f66
  unfold w32 at w66
  have w67 := f67
  unfold w32 at w67
  have m1 := lnT_c (hV H0 330 (hV H1 343 (n0).toNat).toNat) (hV H0 331 (hV H1 343 (n0).toNat).toNat) n1
  have m2 := mnI_c (hV H0 331 (hV H1 343 (n0).toNat).toNat) n1
  have l3 : LN (RE H0) (hV H1 343 (n0).toNat) = lnT (hV H0 330 (hV H1 343 (n0).toNat).toNat) (hV H0 331 (hV H1 343 (n0).toNat).toNat) n1 := l1
  have w4 := (sk.2 (hV H1 343 (n0).toNat).toNat (show (((hV H1 343 (n0).toNat).toNat : Nat) : Int) < hV H0 285 64 from by
    have w := h4.2.2 (n0).toNat (by omega)
    omega)).1 (h4.2.2 (n0).toNat (by omega)).1
  have w5 : 0 ≤ hV H0 330 (hV H1 343 (n0).toNat).toNat ∧ hV H0 330 (hV H1 343 (n0).toNat).toNat < hV H0 331 (hV H1 343 (n0).toNat).toNat ∧ hV H0 331 (hV H1 343 (n0).toNat).toNat ≤ 240 := w4.2.2
  refine ⟨g1, ?_⟩
  rw [l2, l3]
  omega
def g_265w_75_4 : vG := ([(10, [25, 7], [], -1), (2, [24, 15, 23], [], 0), (22, [23, 20, 22], [1], 0), (90, [23], [], -2147483648), (91, [23], [], 2147483647), (22, [22, 21, 7], [1], 0), (90, [22], [], 0), (91, [22], [], 19), (20, [21, 2], [1], 81), (23, [2], [1], 12), (0, [21], [], 343), (20, [20, 2], [1], 68), (23, [2], [1], 12), (0, [20], [], 330), (44, [15, 19], [], 0), (22, [19, 16, 18], [1], 0), (90, [19], [], -2147483648), (91, [19], [], 2147483647), (22, [18, 17, 7], [1], 0), (90, [18], [], 0), (91, [18], [], 19), (20, [17, 2], [1], 81), (23, [2], [1], 12), (0, [17], [], 343), (20, [16, 2], [1], 68), (23, [2], [1], 12), (0, [16], [], 330), (22, [15, 12, 14], [1], 0), (90, [15], [], -2147483648), (91, [15], [], 2147483647), (22, [14, 13, 7], [1], 0), (90, [14], [], 0), (91, [14], [], 19), (20, [13, 2], [1], 81), (23, [2], [1], 12), (0, [13], [], 343), (20, [12, 2], [1], 69), (23, [2], [1], 12), (0, [12], [], 331), (42, [11, 6], [], 0), (22, [11, 8, 10], [1], 0), (90, [11], [], -2147483648), (91, [11], [], 2147483647), (22, [10, 9, 7], [1], 0), (90, [10], [], 0), (91, [10], [], 19), (20, [9, 2], [1], 81), (23, [2], [1], 12), (0, [9], [], 343), (20, [8, 2], [1], 69), (23, [2], [1], 12), (0, [8], [], 331), (33, [7], [], 0), (5000, [0, 1, 2, 3, 4, 5, 6, 7], [0, 1], 75), (0, [0], [], 285), (90, [1], [], 0), (91, [1], [], 19), (0, [2], [], 285), (90, [3], [], 0), (91, [3], [], 19), (90, [4], [], 0), (91, [4], [], 19), (90, [5], [], 0), (91, [5], [], 19), (90, [6], [], 0), (91, [6], [], 240), (90, [7], [], -1), (91, [7], [], 19)], (4000, [2, 3, 4, 5, 24, 25], [1], 75))
theorem c_265w_75_4 {q0 : Nat} : vOkm T0 (eN e_265 L_265w A_265 mu_265 n_265 B_265 (some q0)) 2 g_265w_75_4 := vOk_inI fun ρ η f0 f1 f2 f3 f4 f5 f6 f7 f8 f9 f10 f11 f12 f13 f14 f15 f16 f17 f18 f19 f20 f21 f22 f23 f24 f25 f26 f27 f28 f29 f30 f31 f32 f33 f34 f35 f36 f37 f38 f39 f40 f41 f42 f43 f44 f45 f46 f47 f48 f49 f50 f51 f52 f53 f54 f55 f56 f57 f58 f59 f60 f61 f62 f63 f64 f65 f66 f67 => q_265w_10 (q0 := q0) (n0 := ρ 7) (n1 := ρ 6) (n2 := ρ 5) (n3 := ρ 4) (n4 := ρ 3) (n5 := ρ 2) (n6 := ρ 1) (n7 := ρ 0) (n8 := ρ 8) (n9 := ρ 9) (n10 := ρ 10) (n11 := ρ 11) (n12 := ρ 12) (n13 := ρ 13) (n14 := ρ 14) (n15 := ρ 15) (n16 := ρ 16) (n17 := ρ 17) (n18 := ρ 18) (n19 := ρ 19) (n20 := ρ 20) (n21 := ρ 21) (n22 := ρ 22) (n23 := ρ 23) (n24 := ρ 24) (n25 := ρ 25) (H0 := η 0) (H1 := η 1) f67 f66 f65 f64 f63 f62 f61 f60 f59 f58 f57 f56 f55 f54 f53 f52 f51 f50 f49 f48 f47 f46 f45 f44 f43 f42 f41 f40 f39 f38 f37 f36 f35 f34 f33 f32 f31 f30 f29 f28 f27 f26 f25 f24 f23 f22 f21 f20 f19 f18 f17 f16 f15 f14 f13 f12 f11 f10 f9 f8 f7 f6 f5 f4 f3 f2 f1 f0
def p_265w_75 : List vG := [g_265w_75_0,
  g_265w_75_1,
  g_265w_75_2,
  g_265w_75_3,
  g_265w_75_4]
theorem r_265w_75 : vCovBO (eRc e_265 L_265 cs_265 2000 (75, [(0, (3, 12, 285, 0)), (1, (0, 0, 19, 0)), (2, (0, 0, 19, 0)), (3, (0, 0, 19, 0)), (4, (0, 0, 240, 0)), (5, (0, -1, 19, 0))])) p_265w_75 = true := by decide +kernel
theorem m_265w (d : Nat) : eC e_265w (d + 1) := eC_ref (e := e_265) (L := L_265) (L' := L_265w) (cs := cs_265) (n := 2000) (d := d + 0) (A := A_265) (μ := mu_265) (tp := false) (p0 := p_265_s) (p1 := p_265w_s) (N := n_265) (B := B_265) rfl trivial rfl (.inl rfl) (by decide +kernel) (fun z => nomatch z) r_265_s (allC c_265_s_0 allN) (allC (.inl ⟨p_265_4, r_265_4, fun q0 => (allC c_265_4_0 (allC c_265_4_1 (allC c_265_4_2 (allC c_265_4_3 (allC c_265_4_4 (allC c_265_4_5 (allC c_265_4_6 (allC c_265_4_7 (allC c_265_4_8 (allC c_265_4_9 (allC c_265_4_10 (allC c_265_4_11 (allC c_265_4_12 (allC c_265_4_13 (allC c_265_4_14 (allC c_265_4_15 (allC c_265_4_16 (allC c_265_4_17 (allC c_265_4_18 allN)))))))))))))))))))⟩) (allC (.inl ⟨p_265_75, r_265_75, fun q0 => (allC c_265_75_0 (allC c_265_75_1 (allC c_265_75_2 (allC c_265_75_3 (allC c_265_75_4 (allC c_265_75_5 (allC c_265_75_6 (allC c_265_75_7 (allC c_265_75_8 (allC c_265_75_9 (allC c_265_75_10 (allC c_265_75_11 (allC c_265_75_12 (allC c_265_75_13 (allC c_265_75_14 (allC c_265_75_15 (allC c_265_75_16 allN)))))))))))))))))⟩) allN)) trivial r_265w_s (allC c_265w_s_0 allN) (allC ⟨p_265w_4, r_265w_4, fun q0 => (allC c_265w_4_0 (allC c_265w_4_1 (allC c_265w_4_2 (allC c_265w_4_3 (allC c_265w_4_4 allN)))))⟩ (allC ⟨p_265w_75, r_265w_75, fun q0 => (allC c_265w_75_0 (allC c_265w_75_1 (allC c_265w_75_2 (allC c_265w_75_3 (allC c_265w_75_4 allN)))))⟩ allN))
/- MixStageModel.sampleOf (II)I, more fully -/
def nb_266 (r a0 a1 a2 : Int) (h0 h : gH) : Prop := SEok (RE h0) → hV h0 328 (RT (RE h0) a1).toNat ≤ 3 → r = smE (RE h0) a1 a2
def n_266 : List Int → gH → gH → Prop := fun xs h0 h => match xs with
  | [r, a0, a1, a2] => nb_266 r a0 a1 a2 h0 h
  | _ => True
noncomputable def e_266w : vE := eV e_266 n_266
noncomputable def L_266w : List vE := [e_265w]
def Bb_266_20 (a0 a1 a2 x0 x1 x2 x3 x4 : Int) (h0 h : gH) : Prop := SEok (RE h0) → hV h0 328 (RT (RE h0) a1).toNat ≤ 3 → RT (RE h0) x3 = RT (RE h0) a1 ∧ x4 + OF (RE h0) x3 = OF (RE h0) a1 + a2 ∧ 0 ≤ a2 ∧ a2 < LN (RE h0) a1
def B_266 : Int → List Int → gH → gH → Prop := fun c xs h0 h => match c.toNat with
  | 20 => (match xs with
    | [a0, a1, a2, x0, x1, x2, x3, x4] => Bb_266_20 a0 a1 a2 x0 x1 x2 x3 x4 h0 h
    | _ => False)
  | _ => True
theorem q_266w_0 {n0 n1 n2 n3 : Int} {H0 : gH} (f0 : n0 ≤ 2147483647) (f1 : (-2147483648) ≤ n0) (f2 : n1 ≤ 19) (f3 : 0 ≤ n1) (f4 : n2 = 285) (f5 : hWt T0 H0 ∧ preb_266 n2 n1 n0 H0) (f6 : n0 < 0) (f7 : n3 = 0) : nb_266 n3 n2 n1 n0 H0 H0 := by
  unfold nb_266
  intro sk r3
  have pz := f5.2
  unfold preb_266 at pz
  obtain ⟨z0, so⟩ := pz
  unfold smE
  rw [if_neg (by omega)]
  omega
def g_266w_s_0 : vG := ([(0, [3], [], 0), (32, [2], [], 0), (6000, [0, 1, 2], [0], 0), (0, [0], [], 285), (90, [1], [], 0), (91, [1], [], 19), (90, [2], [], -2147483648), (91, [2], [], 2147483647)], (3000, [3], [0], 14))
theorem c_266w_s_0 : vOkm T0 (eN e_266 L_266w A_266 mu_266 n_266 B_266 none) 3 g_266w_s_0 := vOk_inI fun ρ η f0 f1 f2 f3 f4 f5 f6 f7 => q_266w_0 (n0 := ρ 2) (n1 := ρ 1) (n2 := ρ 0) (n3 := ρ 3) (H0 := η 0) f7 f6 f5 f4 f3 f2 f1 f0
theorem q_266w_1 {n0 n1 n2 n3 : Int} {H0 H1 : gH} (f0 : n0 ≤ 2147483647) (f1 : (-2147483648) ≤ n0) (f2 : n1 ≤ 19) (f3 : 0 ≤ n1) (f4 : n2 = 285) (f5 : hWt T0 H0 ∧ preb_266 n2 n1 n0 H0) (f6 : 0 ≤ n0) (f7 : n3 ≤ 240) (f8 : 0 ≤ n3) (f9 : (hLe T0 H0 H1 ∧ hFr s_265.2.2.2.2 H0 H1 ∧ ((0 : Int) = 0 → H1.length = H0.length) ∧ hWt T0 H1) ∧ (postb_265 n3 n2 n1 H0 H1 ∧ nb_265 n3 n2 n1 H0 H1)) (f10 : n0 < n3) : Bb_266_20 n2 n1 n0 n2 n1 n0 n1 n0 H0 H1 := by
  unfold Bb_266_20
  intro sk r3
  have pz := f5.2
  unfold preb_266 at pz
  obtain ⟨z0, so⟩ := pz
  have ql := f9.2.2
  unfold nb_265 at ql
  have ql := ql sk r3
  exact ⟨rfl, by omega, by omega, by omega⟩
def g_266w_s_1 : vG := ([(42, [2, 3], [], 0), (1265, [3, 0, 1], [0, 1], 0), (90, [3], [], 0), (91, [3], [], 240), (33, [2], [], 0), (6000, [0, 1, 2], [0], 0), (0, [0], [], 285), (90, [1], [], 0), (91, [1], [], 19), (90, [2], [], -2147483648), (91, [2], [], 2147483647)], (4000, [0, 1, 2, 1, 2], [1], 20))
theorem c_266w_s_1 : vOkm T0 (eN e_266 L_266w A_266 mu_266 n_266 B_266 none) 3 g_266w_s_1 := vOk_inI fun ρ η f0 f1 f2 f3 f4 f5 f6 f7 f8 f9 f10 => q_266w_1 (n0 := ρ 2) (n1 := ρ 1) (n2 := ρ 0) (n3 := ρ 3) (H0 := η 0) (H1 := η 1) f10 f9 f8 f7 f6 f5 f4 f3 f2 f1 f0
theorem q_266w_2 {n0 n1 n2 n3 n4 : Int} {H0 H1 : gH} (f0 : n0 ≤ 2147483647) (f1 : (-2147483648) ≤ n0) (f2 : n1 ≤ 19) (f3 : 0 ≤ n1) (f4 : n2 = 285) (f5 : hWt T0 H0 ∧ preb_266 n2 n1 n0 H0) (f6 : 0 ≤ n0) (f7 : n3 ≤ 240) (f8 : 0 ≤ n3) (f9 : (hLe T0 H0 H1 ∧ hFr s_265.2.2.2.2 H0 H1 ∧ ((0 : Int) = 0 → H1.length = H0.length) ∧ hWt T0 H1) ∧ (postb_265 n3 n2 n1 H0 H1 ∧ nb_265 n3 n2 n1 H0 H1)) (f10 : n3 ≤ n0) (f11 : n4 = 0) : nb_266 n4 n2 n1 n0 H0 H1 := by
  unfold nb_266
  intro sk r3
  have pz := f5.2
  unfold preb_266 at pz
  obtain ⟨z0, so⟩ := pz
  have ql := f9.2.2
  unfold nb_265 at ql
  have ql := ql sk r3
  unfold smE
  rw [if_neg (by omega)]
  omega
def g_266w_s_2 : vG := ([(0, [4], [], 0), (43, [2, 3], [], 0), (1265, [3, 0, 1], [0, 1], 0), (90, [3], [], 0), (91, [3], [], 240), (33, [2], [], 0), (6000, [0, 1, 2], [0], 0), (0, [0], [], 285), (90, [1], [], 0), (91, [1], [], 19), (90, [2], [], -2147483648), (91, [2], [], 2147483647)], (3000, [4], [1], 14))
theorem c_266w_s_2 : vOkm T0 (eN e_266 L_266w A_266 mu_266 n_266 B_266 none) 3 g_266w_s_2 := vOk_inI fun ρ η f0 f1 f2 f3 f4 f5 f6 f7 f8 f9 f10 f11 => q_266w_2 (n0 := ρ 2) (n1 := ρ 1) (n2 := ρ 0) (n3 := ρ 3) (n4 := ρ 4) (H0 := η 0) (H1 := η 1) f11 f10 f9 f8 f7 f6 f5 f4 f3 f2 f1 f0
def p_266w_s : List vG := [g_266w_s_0,
  g_266w_s_1,
  g_266w_s_2]
theorem r_266w_s : vCovBO (eR0 e_266 L_266 cs_266 2000) p_266w_s = true := by decide +kernel
theorem q_266w_3 {q0 : Nat} {n0 n1 n2 n3 n4 n5 n6 n7 n8 n9 n10 n11 n12 n13 n14 n15 n16 n17 n18 : Int} {H0 H1 : gH} (f0 : n0 ≤ 239) (f1 : 0 ≤ n0) (f2 : n1 ≤ 19) (f3 : 0 ≤ n1) (f4 : n2 ≤ 2147483647) (f5 : (-2147483648) ≤ n2) (f6 : n3 ≤ 19) (f7 : 0 ≤ n3) (f8 : n4 = 285) (f9 : n5 ≤ 2147483647) (f10 : (-2147483648) ≤ n5) (f11 : n6 ≤ 19) (f12 : 0 ≤ n6) (f13 : n7 = 285) (f14 : (hLe T0 H0 H1 ∧ hFr s_266.2.2.2.2 H0 H1 ∧ hWt T0 H1) ∧ ((Ab_266_20 n7 n6 n5 n4 n3 n2 n1 n0 H0 H1 ∧ Bb_266_20 n7 n6 n5 n4 n3 n2 n1 n0 H0 H1) ∧ preb_266 n7 n6 n5 H0) ∧ some q0 = some (mub_266_20 n7 n6 n5 n4 n3 n2 n1 n0 H0 H1)) (f15 : n8 = 328) (f16 : hK H1 (n4).toNat = 12) (f17 : n8 = hV H1 (n4).toNat 66) (f18 : n9 ≤ 6) (f19 : 0 ≤ n9) (f20 : n9 = hV H1 (n8).toNat (n1).toNat) (f21 : n10 = 4) (f22 : n9 ≠ n10) (f23 : n11 = 328) (f24 : hK H1 (n4).toNat = 12) (f25 : n11 = hV H1 (n4).toNat 66) (f26 : n12 ≤ 6) (f27 : 0 ≤ n12) (f28 : n12 = hV H1 (n11).toNat (n1).toNat) (f29 : n13 = 5) (f30 : n12 ≠ n13) (f31 : n14 = 337) (f32 : hK H1 (n4).toNat = 12) (f33 : n14 = hV H1 (n4).toNat 75) (f34 : n15 = 240) (f35 : n16 = w32 (n15 * n1)) (f36 : n17 = w32 (n16 + n0)) (f37 : n18 ≤ 2147483647) (f38 : (-2147483648) ≤ n18) (f39 : n18 = hV H1 (n14).toNat (n17).toNat) : nb_266 n18 n7 n6 n5 H0 H1 := by
  unfold nb_266
  intro sk r3
  have gb := f14.2.1.1.2
  unfold Bb_266_20 at gb
  obtain ⟨g1, g2, g3, g4⟩ := gb sk r3
  have pz := f14.2.1.2
  unfold preb_266 at pz
  obtain ⟨z0, so⟩ := pz
  have ga := f14.2.1.1.1
  unfold Ab_266_20 at ga
  obtain ⟨h1, h2, h3, h4⟩ := ga
  have d20 := rdW (q := 328) f20 f15
  have d28 := rdW (q := 328) f28 f23
  have d39 := rdW (q := 337) f39 f31
  rw [show hV H1 328 = hV H0 328 from fRow f14.1.2.1 328 (by decide +kernel)] at d20
  rw [show hV H1 328 = hV H0 328 from fRow f14.1.2.1 328 (by decide +kernel)] at d28
  rw [show hV H1 337 = hV H0 337 from fRow f14.1.2.1 337 (by decide +kernel)] at d39
  have s64 : hV H1 285 64 = hV H0 285 64 := f14.1.2.1.1 285 64 (by decide +kernel)
  have kn : ¬ hV H0 328 (n1).toNat = 4 := by omega
  obtain ⟨e1, e2, e3⟩ := CH_n (E := RE H0) (s := n1) kn
  have q1 : RT (RE H0) n6 = n1 := g1.symm.trans e1
  have w35 := f35
  unfold w32 at w35
  rw [f34] at w35
  have w36 := f36
  unfold w32 at w36
  unfold smE
  rw [if_pos ⟨g3, g4⟩, q1]
  show _ = hV H0 337 _
  rw [d39]
  refine congrArg (hV H0 337) ?_
  omega
def g_266w_20_0 : vG := ([(22, [18, 14, 17], [1], 0), (90, [18], [], -2147483648), (91, [18], [], 2147483647), (1, [17, 16, 7], [], 0), (3, [16, 15, 6], [], 0), (0, [15], [], 240), (20, [14, 3], [1], 75), (23, [3], [1], 12), (0, [14], [], 337), (41, [12, 13], [], 0), (0, [13], [], 5), (22, [12, 11, 6], [1], 0), (90, [12], [], 0), (91, [12], [], 6), (20, [11, 3], [1], 66), (23, [3], [1], 12), (0, [11], [], 328), (41, [9, 10], [], 0), (0, [10], [], 4), (22, [9, 8, 6], [1], 0), (90, [9], [], 0), (91, [9], [], 6), (20, [8, 3], [1], 66), (23, [3], [1], 12), (0, [8], [], 328), (5000, [0, 1, 2, 3, 4, 5, 6, 7], [0, 1], 20), (0, [0], [], 285), (90, [1], [], 0), (91, [1], [], 19), (90, [2], [], -2147483648), (91, [2], [], 2147483647), (0, [3], [], 285), (90, [4], [], 0), (91, [4], [], 19), (90, [5], [], -2147483648), (91, [5], [], 2147483647), (90, [6], [], 0), (91, [6], [], 19), (90, [7], [], 0), (91, [7], [], 239)], (3000, [18], [1], 78))
theorem c_266w_20_0 {q0 : Nat} : vOkm T0 (eN e_266 L_266w A_266 mu_266 n_266 B_266 (some q0)) 3 g_266w_20_0 := vOk_inI fun ρ η f0 f1 f2 f3 f4 f5 f6 f7 f8 f9 f10 f11 f12 f13 f14 f15 f16 f17 f18 f19 f20 f21 f22 f23 f24 f25 f26 f27 f28 f29 f30 f31 f32 f33 f34 f35 f36 f37 f38 f39 => q_266w_3 (q0 := q0) (n0 := ρ 7) (n1 := ρ 6) (n2 := ρ 5) (n3 := ρ 4) (n4 := ρ 3) (n5 := ρ 2) (n6 := ρ 1) (n7 := ρ 0) (n8 := ρ 8) (n9 := ρ 9) (n10 := ρ 10) (n11 := ρ 11) (n12 := ρ 12) (n13 := ρ 13) (n14 := ρ 14) (n15 := ρ 15) (n16 := ρ 16) (n17 := ρ 17) (n18 := ρ 18) (H0 := η 0) (H1 := η 1) f39 f38 f37 f36 f35 f34 f33 f32 f31 f30 f29 f28 f27 f26 f25 f24 f23 f22 f21 f20 f19 f18 f17 f16 f15 f14 f13 f12 f11 f10 f9 f8 f7 f6 f5 f4 f3 f2 f1 f0
theorem q_266w_4 {q0 : Nat} {n0 n1 n2 n3 n4 n5 n6 n7 n8 n9 n10 n11 n12 n13 n14 : Int} {H0 H1 : gH} (f0 : n0 ≤ 239) (f1 : 0 ≤ n0) (f2 : n1 ≤ 19) (f3 : 0 ≤ n1) (f4 : n2 ≤ 2147483647) (f5 : (-2147483648) ≤ n2) (f6 : n3 ≤ 19) (f7 : 0 ≤ n3) (f8 : n4 = 285) (f9 : n5 ≤ 2147483647) (f10 : (-2147483648) ≤ n5) (f11 : n6 ≤ 19) (f12 : 0 ≤ n6) (f13 : n7 = 285) (f14 : (hLe T0 H0 H1 ∧ hFr s_266.2.2.2.2 H0 H1 ∧ hWt T0 H1) ∧ ((Ab_266_20 n7 n6 n5 n4 n3 n2 n1 n0 H0 H1 ∧ Bb_266_20 n7 n6 n5 n4 n3 n2 n1 n0 H0 H1) ∧ preb_266 n7 n6 n5 H0) ∧ some q0 = some (mub_266_20 n7 n6 n5 n4 n3 n2 n1 n0 H0 H1)) (f15 : n8 = 328) (f16 : hK H1 (n4).toNat = 12) (f17 : n8 = hV H1 (n4).toNat 66) (f18 : n9 ≤ 6) (f19 : 0 ≤ n9) (f20 : n9 = hV H1 (n8).toNat (n1).toNat) (f21 : n10 = 4) (f22 : n9 ≠ n10) (f23 : n11 = 328) (f24 : hK H1 (n4).toNat = 12) (f25 : n11 = hV H1 (n4).toNat 66) (f26 : n12 ≤ 6) (f27 : 0 ≤ n12) (f28 : n12 = hV H1 (n11).toNat (n1).toNat) (f29 : n13 = 5) (f30 : n12 = n13) (f31 : n14 = 0) : nb_266 n14 n7 n6 n5 H0 H1 := by
  unfold nb_266
  intro sk r3
  have gb := f14.2.1.1.2
  unfold Bb_266_20 at gb
  obtain ⟨g1, g2, g3, g4⟩ := gb sk r3
  have pz := f14.2.1.2
  unfold preb_266 at pz
  obtain ⟨z0, so⟩ := pz
  have ga := f14.2.1.1.1
  unfold Ab_266_20 at ga
  obtain ⟨h1, h2, h3, h4⟩ := ga
  have d20 := rdW (q := 328) f20 f15
  have d28 := rdW (q := 328) f28 f23
  rw [show hV H1 328 = hV H0 328 from fRow f14.1.2.1 328 (by decide +kernel)] at d20
  rw [show hV H1 328 = hV H0 328 from fRow f14.1.2.1 328 (by decide +kernel)] at d28
  have s64 : hV H1 285 64 = hV H0 285 64 := f14.1.2.1.1 285 64 (by decide +kernel)
  have kn : ¬ hV H0 328 (n1).toNat = 4 := by omega
  obtain ⟨e1, e2, e3⟩ := CH_n (E := RE H0) (s := n1) kn
  have q1 : RT (RE H0) n6 = n1 := g1.symm.trans e1
  rw [q1] at r3
  exfalso
  omega
def g_266w_20_1 : vG := ([(0, [14], [], 0), (40, [12, 13], [], 0), (0, [13], [], 5), (22, [12, 11, 6], [1], 0), (90, [12], [], 0), (91, [12], [], 6), (20, [11, 3], [1], 66), (23, [3], [1], 12), (0, [11], [], 328), (41, [9, 10], [], 0), (0, [10], [], 4), (22, [9, 8, 6], [1], 0), (90, [9], [], 0), (91, [9], [], 6), (20, [8, 3], [1], 66), (23, [3], [1], 12), (0, [8], [], 328), (5000, [0, 1, 2, 3, 4, 5, 6, 7], [0, 1], 20), (0, [0], [], 285), (90, [1], [], 0), (91, [1], [], 19), (90, [2], [], -2147483648), (91, [2], [], 2147483647), (0, [3], [], 285), (90, [4], [], 0), (91, [4], [], 19), (90, [5], [], -2147483648), (91, [5], [], 2147483647), (90, [6], [], 0), (91, [6], [], 19), (90, [7], [], 0), (91, [7], [], 239)], (3000, [14], [1], 78))
theorem c_266w_20_1 {q0 : Nat} : vOkm T0 (eN e_266 L_266w A_266 mu_266 n_266 B_266 (some q0)) 3 g_266w_20_1 := vOk_inI fun ρ η f0 f1 f2 f3 f4 f5 f6 f7 f8 f9 f10 f11 f12 f13 f14 f15 f16 f17 f18 f19 f20 f21 f22 f23 f24 f25 f26 f27 f28 f29 f30 f31 => q_266w_4 (q0 := q0) (n0 := ρ 7) (n1 := ρ 6) (n2 := ρ 5) (n3 := ρ 4) (n4 := ρ 3) (n5 := ρ 2) (n6 := ρ 1) (n7 := ρ 0) (n8 := ρ 8) (n9 := ρ 9) (n10 := ρ 10) (n11 := ρ 11) (n12 := ρ 12) (n13 := ρ 13) (n14 := ρ 14) (H0 := η 0) (H1 := η 1) f31 f30 f29 f28 f27 f26 f25 f24 f23 f22 f21 f20 f19 f18 f17 f16 f15 f14 f13 f12 f11 f10 f9 f8 f7 f6 f5 f4 f3 f2 f1 f0
theorem q_266w_5 {q0 : Nat} {n0 n1 n2 n3 n4 n5 n6 n7 n8 n9 n10 n11 n12 n13 n14 n15 : Int} {H0 H1 : gH} (f0 : n0 ≤ 239) (f1 : 0 ≤ n0) (f2 : n1 ≤ 19) (f3 : 0 ≤ n1) (f4 : n2 ≤ 2147483647) (f5 : (-2147483648) ≤ n2) (f6 : n3 ≤ 19) (f7 : 0 ≤ n3) (f8 : n4 = 285) (f9 : n5 ≤ 2147483647) (f10 : (-2147483648) ≤ n5) (f11 : n6 ≤ 19) (f12 : 0 ≤ n6) (f13 : n7 = 285) (f14 : (hLe T0 H0 H1 ∧ hFr s_266.2.2.2.2 H0 H1 ∧ hWt T0 H1) ∧ ((Ab_266_20 n7 n6 n5 n4 n3 n2 n1 n0 H0 H1 ∧ Bb_266_20 n7 n6 n5 n4 n3 n2 n1 n0 H0 H1) ∧ preb_266 n7 n6 n5 H0) ∧ some q0 = some (mub_266_20 n7 n6 n5 n4 n3 n2 n1 n0 H0 H1)) (f15 : n8 = 328) (f16 : hK H1 (n4).toNat = 12) (f17 : n8 = hV H1 (n4).toNat 66) (f18 : n9 ≤ 6) (f19 : 0 ≤ n9) (f20 : n9 = hV H1 (n8).toNat (n1).toNat) (f21 : n10 = 4) (f22 : n9 = n10) (f23 : n11 = 330) (f24 : hK H1 (n4).toNat = 12) (f25 : n11 = hV H1 (n4).toNat 68) (f26 : n12 ≤ 2147483647) (f27 : (-2147483648) ≤ n12) (f28 : n12 = hV H1 (n11).toNat (n1).toNat) (f29 : n13 = w32 (n0 + n12)) (f30 : n14 = 332) (f31 : hK H1 (n4).toNat = 12) (f32 : n14 = hV H1 (n4).toNat 70) (f33 : n15 ≤ 19) (f34 : (-1) ≤ n15) (f35 : n15 = hV H1 (n14).toNat (n1).toNat) : Bb_266_20 n7 n6 n5 n4 n3 n2 n15 n13 H0 H1 := by
  unfold Bb_266_20
  intro sk r3
  have gb := f14.2.1.1.2
  unfold Bb_266_20 at gb
  obtain ⟨g1, g2, g3, g4⟩ := gb sk r3
  have pz := f14.2.1.2
  unfold preb_266 at pz
  obtain ⟨z0, so⟩ := pz
  have ga := f14.2.1.1.1
  unfold Ab_266_20 at ga
  obtain ⟨h1, h2, h3, h4⟩ := ga
  have d20 := rdW (q := 328) f20 f15
  have d28 := rdW (q := 330) f28 f23
  have d35 := rdW (q := 332) f35 f30
  rw [show hV H1 328 = hV H0 328 from fRow f14.1.2.1 328 (by decide +kernel)] at d20
  rw [show hV H1 330 = hV H0 330 from fRow f14.1.2.1 330 (by decide +kernel)] at d28
  rw [show hV H1 332 = hV H0 332 from fRow f14.1.2.1 332 (by decide +kernel)] at d35
  have s64 : hV H1 285 64 = hV H0 285 64 := f14.1.2.1.1 285 64 (by decide +kernel)
  have k4 : hV H0 328 (n1).toNat = 4 := by omega
  obtain ⟨e1, e2, e3⟩ := CH_4 sk (s := n1) (by omega) (show n1 < hV H0 285 64 by omega) k4
  have q2 : n15 = (RE H0).2.2.1 (n1).toNat := d35
  rw [← q2] at e1 e3
  have e4 : OF (RE H0) n1 = hV H0 330 (n1).toNat + OF (RE H0) n15 := e3
  have w29 := f29
  unfold w32 at w29
  have w := (sk.2 (n1).toNat (show ((n1).toNat : Int) < hV H0 285 64 by omega)).1 k4
  have w2 : 0 ≤ hV H0 330 (n1).toNat ∧ hV H0 330 (n1).toNat < hV H0 331 (n1).toNat ∧ hV H0 331 (n1).toNat ≤ 240 := w.2.2
  exact ⟨e1.symm.trans g1, by omega, g3, g4⟩
def g_266w_20_2 : vG := ([(22, [15, 14, 6], [1], 0), (90, [15], [], -1), (91, [15], [], 19), (20, [14, 3], [1], 70), (23, [3], [1], 12), (0, [14], [], 332), (1, [13, 7, 12], [], 0), (22, [12, 11, 6], [1], 0), (90, [12], [], -2147483648), (91, [12], [], 2147483647), (20, [11, 3], [1], 68), (23, [3], [1], 12), (0, [11], [], 330), (40, [9, 10], [], 0), (0, [10], [], 4), (22, [9, 8, 6], [1], 0), (90, [9], [], 0), (91, [9], [], 6), (20, [8, 3], [1], 66), (23, [3], [1], 12), (0, [8], [], 328), (5000, [0, 1, 2, 3, 4, 5, 6, 7], [0, 1], 20), (0, [0], [], 285), (90, [1], [], 0), (91, [1], [], 19), (90, [2], [], -2147483648), (91, [2], [], 2147483647), (0, [3], [], 285), (90, [4], [], 0), (91, [4], [], 19), (90, [5], [], -2147483648), (91, [5], [], 2147483647), (90, [6], [], 0), (91, [6], [], 19), (90, [7], [], 0), (91, [7], [], 239)], (4000, [3, 4, 5, 15, 13], [1], 20))
theorem c_266w_20_2 {q0 : Nat} : vOkm T0 (eN e_266 L_266w A_266 mu_266 n_266 B_266 (some q0)) 3 g_266w_20_2 := vOk_inI fun ρ η f0 f1 f2 f3 f4 f5 f6 f7 f8 f9 f10 f11 f12 f13 f14 f15 f16 f17 f18 f19 f20 f21 f22 f23 f24 f25 f26 f27 f28 f29 f30 f31 f32 f33 f34 f35 => q_266w_5 (q0 := q0) (n0 := ρ 7) (n1 := ρ 6) (n2 := ρ 5) (n3 := ρ 4) (n4 := ρ 3) (n5 := ρ 2) (n6 := ρ 1) (n7 := ρ 0) (n8 := ρ 8) (n9 := ρ 9) (n10 := ρ 10) (n11 := ρ 11) (n12 := ρ 12) (n13 := ρ 13) (n14 := ρ 14) (n15 := ρ 15) (H0 := η 0) (H1 := η 1) f35 f34 f33 f32 f31 f30 f29 f28 f27 f26 f25 f24 f23 f22 f21 f20 f19 f18 f17 f16 f15 f14 f13 f12 f11 f10 f9 f8 f7 f6 f5 f4 f3 f2 f1 f0
def p_266w_20 : List vG := [g_266w_20_0,
  g_266w_20_1,
  g_266w_20_2]
theorem r_266w_20 : vCovBO (eRc e_266 L_266 cs_266 2000 (20, [(0, (3, 12, 285, 0)), (1, (0, 0, 19, 0)), (2, (0, -2147483648, 2147483647, 0)), (3, (0, 0, 19, 0)), (4, (0, 0, 239, 0))])) p_266w_20 = true := by decide +kernel
theorem m_266w (d : Nat) : eC e_266w (d + 2) := eC_ref (e := e_266) (L := L_266) (L' := L_266w) (cs := cs_266) (n := 2000) (d := d + 1) (A := A_266) (μ := mu_266) (tp := true) (p0 := p_266_s) (p1 := p_266w_s) (N := n_266) (B := B_266) rfl ⟨m_265w d, trivial⟩ rfl (.inl rfl) (by decide +kernel) (fun _ => post0_ok) r_266_s (allC c_266_s_0 (allC c_266_s_1 (allC c_266_s_2 allN))) (allC (.inl ⟨p_266_20, r_266_20, fun q0 => (allC c_266_20_0 (allC c_266_20_1 (allC c_266_20_2 (allC c_266_20_3 (allC c_266_20_4 allN)))))⟩) allN) (sub1 trivial) r_266w_s (allC c_266w_s_0 (allC c_266w_s_1 (allC c_266w_s_2 allN))) (allC ⟨p_266w_20, r_266w_20, fun q0 => (allC c_266w_20_0 (allC c_266w_20_1 (allC c_266w_20_2 allN)))⟩ allN)
