/-! CONTRACTS of methods told more fully. -/
/- Mixer.spread (LMixStage$Cue;II)V, more fully -/
def nb_37 (a0 a1 a2 a3 : Int) (h0 h : gH) : Prop := ∀ (E : SE) (mu : Int), LYo h0 E mu (a1).toNat → 0 ≤ a1 → a2 = 0 → 0 ≤ a3 → a3 ≤ 240 → ∀ t : Nat, (t : Int) < a3 → RWt E (lrW (hV h0 25) (recC h0 (a1).toNat)) t (hV h 276 t)
def n_37 : List Int → gH → gH → Prop := fun xs h0 h => match xs with
  | [a0, a1, a2, a3] => nb_37 a0 a1 a2 a3 h0 h
  | _ => True
noncomputable def e_37w : vE := eV e_37 n_37
noncomputable def L_37w : List vE := [e_2v, e_8y, e_38, e_152w, e_153w, e_201vk748]
def Bb_37_92 (a0 a1 a2 a3 x0 x1 x2 x3 x4 x5 x6 x7 x8 : Int) (h0 h : gH) : Prop := ∀ (E : SE) (mu : Int), LYo h0 E mu (a1).toNat → 0 ≤ a1 → a2 = 0 → 0 ≤ a3 → a3 ≤ 240 → x1 = a1 ∧ x2 = 0 ∧ x3 = a3 ∧ x5 = 0 ∧ x6 = w32 (4 * (lrW (hV h0 25) (recC h0 (a1).toNat)).2.2.1) ∧ (((lrW (hV h0 25) (recC h0 (a1).toNat)).2.2.2.2.1 = -1 ∧ x7 = 1000000) ∨ (¬ (lrW (hV h0 25) (recC h0 (a1).toNat)).2.2.2.2.1 = -1 ∧ x7 = w32 (4 * (lrW (hV h0 25) (recC h0 (a1).toNat)).2.2.2.2.1))) ∧ 0 ≤ x8 ∧ hV h 275 0 = hV h0 24 (RT E (lrW (hV h0 25) (recC h0 (a1).toNat)).2.1).toNat ∧ hV h 275 1 = OF E (lrW (hV h0 25) (recC h0 (a1).toNat)).2.1 ∧ hV h 275 2 = LN E (lrW (hV h0 25) (recC h0 (a1).toNat)).2.1 ∧ ∀ t : Nat, (t : Int) < x8 → RWt E (lrW (hV h0 25) (recC h0 (a1).toNat)) t (hV h 276 t)
def B_37 : Int → List Int → gH → gH → Prop := fun c xs h0 h => match c.toNat with
  | 92 => (match xs with
    | [a0, a1, a2, a3, x0, x1, x2, x3, x4, x5, x6, x7, x8] => Bb_37_92 a0 a1 a2 a3 x0 x1 x2 x3 x4 x5 x6 x7 x8 h0 h
    | _ => False)
  | _ => True
theorem q_37w_0 {n0 n1 n2 n3 n4 n5 n6 n7 n8 n9 n10 n11 n12 n13 n14 n15 n16 n17 n18 n19 n20 n21 n22 : Int} {H0 H1 H2 H3 : gH} (f0 : n0 ≤ 2147483647) (f1 : (-2147483648) ≤ n0) (f2 : n1 ≤ 2147483647) (f3 : (-2147483648) ≤ n1) (f4 : 0 ≤ n2) (f5 : n3 = 274) (f6 : hWt T0 H0 ∧ True) (f7 : n4 = 23) (f8 : hK H0 (n3).toNat = 2) (f9 : n4 = hV H0 (n3).toNat 0) (f10 : n5 ≤ 2147483647) (f11 : (-2147483648) ≤ n5) (f12 : hK H0 (n2).toNat = 1) (f13 : n5 = hV H0 (n2).toNat 2) (f14 : (hLe T0 H0 H1 ∧ hFr s_2.2.2.2.2 H0 H1 ∧ ((0 : Int) = 0 → H1.length = H0.length) ∧ hWt T0 H1) ∧ postb_2v n6 n4 n5 H0 H1) (f15 : n7 = 275) (f16 : hK H1 (n3).toNat = 2) (f17 : n7 = hV H1 (n3).toNat 2) (f18 : n8 = 23) (f19 : hK H1 (n3).toNat = 2) (f20 : n8 = hV H1 (n3).toNat 0) (f21 : n9 ≤ 2147483647) (f22 : (-2147483648) ≤ n9) (f23 : hK H1 (n2).toNat = 1) (f24 : n9 = hV H1 (n2).toNat 2) (f25 : (hLe T0 H1 H2 ∧ hFr s_152.2.2.2.2 H1 H2 ∧ ((0 : Int) = 0 → H2.length = H1.length) ∧ hWt T0 H2) ∧ (True ∧ nb_152 n7 n8 n9 H1 H2)) (f26 : n6 = -1) (f27 : n10 = 0) (f28 : n11 = 4) (f29 : n12 = 23) (f30 : hK H2 (n3).toNat = 2) (f31 : n12 = hV H2 (n3).toNat 0) (f32 : n13 ≤ 2147483647) (f33 : (-2147483648) ≤ n13) (f34 : hK H2 (n2).toNat = 1) (f35 : n13 = hV H2 (n2).toNat 4) (f36 : n14 ≤ 2147483647) (f37 : (-2147483648) ≤ n14) (f38 : hK H2 (n2).toNat = 1) (f39 : n14 = hV H2 (n2).toNat 5) (f40 : n15 ≤ 2147483647) (f41 : (-2147483648) ≤ n15) (f42 : (hLe T0 H2 H3 ∧ hFr s_8.2.2.2.2 H2 H3 ∧ ((0 : Int) = 0 → H3.length = H2.length) ∧ hWt T0 H3) ∧ postb_8y n15 n12 n13 n14 H2 H3) (f43 : n16 = w32 (n11 * n15)) (f44 : n17 ≤ 2147483647) (f45 : (-2147483648) ≤ n17) (f46 : hK H3 (n2).toNat = 1) (f47 : n17 = hV H3 (n2).toNat 9) (f48 : n18 = (-1)) (f49 : n17 ≠ n18) (f50 : n19 = 4) (f51 : n20 ≤ 2147483647) (f52 : (-2147483648) ≤ n20) (f53 : hK H3 (n2).toNat = 1) (f54 : n20 = hV H3 (n2).toNat 9) (f55 : n21 = w32 (n19 * n20)) (f56 : n22 = 0) : Bb_37_92 n3 n2 n1 n0 n3 n2 n1 n0 n6 n10 n16 n21 n22 H0 H3 := by
  unfold Bb_37_92
  intro E mu ly p1 p2 p3 p4
  obtain ⟨z, k25, kr, k1, k0, lm⟩ := ly
  have ly := LYm_k lm
  obtain ⟨sk, ⟨m0, m1, m2, m3⟩, fb, k3⟩ := lm
  have fb1 := fb m0
  have el := lrW_at (h := H0) (o := (n2).toNat) (mk := hV H0 25) k0
  have g_sn : (lrW (hV H0 25) (recC H0 (n2).toNat)).2.1 = hV H0 (n2).toNat 2 := congrArg (fun y : LR => y.2.1) el
  have g_fr : (lrW (hV H0 25) (recC H0 (n2).toNat)).2.2.1 = nwW (hV H0 25) (hV H0 (n2).toNat 4) (hV H0 (n2).toNat 5) := congrArg (fun y : LR => y.2.2.1) el
  have g_fo : (lrW (hV H0 25) (recC H0 (n2).toNat)).2.2.2.2.1 = hV H0 (n2).toNat 9 := congrArg (fun y : LR => y.2.2.2.2.1) el
  have x13 : n5 = (lrW (hV H0 25) (recC H0 (n2).toNat)).2.1 := by
    rw [g_sn]
    have w := f13
    exact w.trans (rfl)
  have x24 : n9 = (lrW (hV H0 25) (recC H0 (n2).toNat)).2.1 := by
    rw [g_sn]
    have w := f24
    exact w.trans (f14.1.2.1.2.2 _ 1 k1 rfl 2 (by decide +kernel))
  have x47 : n17 = (lrW (hV H0 25) (recC H0 (n2).toNat)).2.2.2.2.1 := by
    rw [g_fo]
    have w := f47
    exact w.trans ((f42.1.2.1.2.2 _ 1 (kLe f25.1.1 (kLe f14.1.1 k1 rfl) rfl) rfl 9 (by decide +kernel)).trans ((f25.1.2.1.2.2 _ 1 (kLe f14.1.1 k1 rfl) rfl 9 (by decide +kernel)).trans (f14.1.2.1.2.2 _ 1 k1 rfl 9 (by decide +kernel))))
  have x54 : n20 = (lrW (hV H0 25) (recC H0 (n2).toNat)).2.2.2.2.1 := by
    rw [g_fo]
    have w := f54
    exact w.trans ((f42.1.2.1.2.2 _ 1 (kLe f25.1.1 (kLe f14.1.1 k1 rfl) rfl) rfl 9 (by decide +kernel)).trans ((f25.1.2.1.2.2 _ 1 (kLe f14.1.1 k1 rfl) rfl 9 (by decide +kernel)).trans (f14.1.2.1.2.2 _ 1 k1 rfl 9 (by decide +kernel))))
  have qg := f14.2
  unfold postb_2v at qg
  rw [x13] at qg
  have eg := get_at z (show hV H0 24 = hV H0 24 from rfl) qg m1 m2
  have qa := f25.2.2
  unfold nb_152 at qa
  rw [f15, x24] at qa
  have qa := qa E (SNC_fr f14.1.1 f14.1.2.1 (by decide +kernel) z) m1 m2 ly.1
  rw [show hV H1 24 = hV H0 24 from fRow f14.1.2.1 24 (by decide +kernel)] at qa
  obtain ⟨v0, v1, v2⟩ := qa
  have u0 : hV H3 275 0 = hV H2 275 0 := f42.1.2.1.1 275 0 (by decide +kernel)
  have u1 : hV H3 275 1 = hV H2 275 1 := f42.1.2.1.1 275 1 (by decide +kernel)
  have u2 : hV H3 275 2 = hV H2 275 2 := f42.1.2.1.1 275 2 (by decide +kernel)
  have h4 := f35.trans ((f25.1.2.1.2.2 _ 1 (kLe f14.1.1 k1 rfl) rfl 4 (by decide +kernel)).trans (f14.1.2.1.2.2 _ 1 k1 rfl 4 (by decide +kernel)))
  have h5 := f39.trans ((f25.1.2.1.2.2 _ 1 (kLe f14.1.1 k1 rfl) rfl 5 (by decide +kernel)).trans (f14.1.2.1.2.2 _ 1 k1 rfl 5 (by decide +kernel)))
  have qf := f42.2
  unfold postb_8y at qf
  have qf := qf (K25_le f25.1.1 (K25_le f14.1.1 k25))
  rw [show hV H2 25 = hV H0 25 from (fRow f25.1.2.1 25 (by decide +kernel)).trans (fRow f14.1.2.1 25 (by decide +kernel)), h4, h5, ← g_fr] at qf
  have xb : n16 = w32 (4 * (lrW (hV H0 25) (recC H0 (n2).toNat)).2.2.1) := by
    have w := f43
    rw [f28, qf] at w
    exact w
  have xw : n21 = w32 (4 * (lrW (hV H0 25) (recC H0 (n2).toNat)).2.2.2.2.1) := by
    have w := f55
    rw [f50, x54] at w
    exact w
  refine ⟨rfl, by omega, rfl, by omega, xb, by omega, by omega, u0.trans v0, u1.trans v1, u2.trans v2, fun t ht => by omega⟩
def g_37w_s_0 : vG := ([(0, [22], [], 0), (3, [21, 19, 20], [], 0), (20, [20, 1], [3], 9), (23, [1], [3], 1), (90, [20], [], -2147483648), (91, [20], [], 2147483647), (0, [19], [], 4), (41, [17, 18], [], 0), (0, [18], [], -1), (20, [17, 1], [3], 9), (23, [1], [3], 1), (90, [17], [], -2147483648), (91, [17], [], 2147483647), (3, [16, 11, 15], [], 0), (1008, [15, 12, 13, 14], [2, 3], 0), (90, [15], [], -2147483648), (91, [15], [], 2147483647), (20, [14, 1], [2], 5), (23, [1], [2], 1), (90, [14], [], -2147483648), (91, [14], [], 2147483647), (20, [13, 1], [2], 4), (23, [1], [2], 1), (90, [13], [], -2147483648), (91, [13], [], 2147483647), (20, [12, 0], [2], 0), (23, [0], [2], 2), (0, [12], [], 23), (0, [11], [], 4), (0, [10], [], 0), (50, [6], [], 0), (1152, [7, 8, 9], [1, 2], 0), (20, [9, 1], [1], 2), (23, [1], [1], 1), (90, [9], [], -2147483648), (91, [9], [], 2147483647), (20, [8, 0], [1], 0), (23, [0], [1], 2), (0, [8], [], 23), (20, [7, 0], [1], 2), (23, [0], [1], 2), (0, [7], [], 275), (1002, [6, 4, 5], [0, 1], 0), (20, [5, 1], [0], 2), (23, [1], [0], 1), (90, [5], [], -2147483648), (91, [5], [], 2147483647), (20, [4, 0], [0], 0), (23, [0], [0], 2), (0, [4], [], 23), (6000, [0, 1, 2, 3], [0], 0), (0, [0], [], 274), (51, [1], [], 0), (90, [2], [], -2147483648), (91, [2], [], 2147483647), (90, [3], [], -2147483648), (91, [3], [], 2147483647)], (4000, [0, 1, 2, 3, 6, 10, 16, 21, 22], [3], 92))
theorem c_37w_s_0 : vOkm T0 (eN e_37 L_37w A_37 mu_37 n_37 B_37 none) 4 g_37w_s_0 := vOk_inI fun ρ η f0 f1 f2 f3 f4 f5 f6 f7 f8 f9 f10 f11 f12 f13 f14 f15 f16 f17 f18 f19 f20 f21 f22 f23 f24 f25 f26 f27 f28 f29 f30 f31 f32 f33 f34 f35 f36 f37 f38 f39 f40 f41 f42 f43 f44 f45 f46 f47 f48 f49 f50 f51 f52 f53 f54 f55 f56 => q_37w_0 (n0 := ρ 3) (n1 := ρ 2) (n2 := ρ 1) (n3 := ρ 0) (n4 := ρ 4) (n5 := ρ 5) (n6 := ρ 6) (n7 := ρ 7) (n8 := ρ 8) (n9 := ρ 9) (n10 := ρ 10) (n11 := ρ 11) (n12 := ρ 12) (n13 := ρ 13) (n14 := ρ 14) (n15 := ρ 15) (n16 := ρ 16) (n17 := ρ 17) (n18 := ρ 18) (n19 := ρ 19) (n20 := ρ 20) (n21 := ρ 21) (n22 := ρ 22) (H0 := η 0) (H1 := η 1) (H2 := η 2) (H3 := η 3) f56 f55 f54 f53 f52 f51 f50 f49 f48 f47 f46 f45 f44 f43 f42 f41 f40 f39 f38 f37 f36 f35 f34 f33 f32 f31 f30 f29 f28 f27 f26 f25 f24 f23 f22 f21 f20 f19 f18 f17 f16 f15 f14 f13 f12 f11 f10 f9 f8 f7 f6 f5 f4 f3 f2 f1 f0
theorem q_37w_1 {n0 n1 n2 n3 n4 n5 n6 n7 n8 n9 n10 n11 n12 n13 n14 n15 n16 n17 n18 n19 n20 : Int} {H0 H1 H2 H3 : gH} (f0 : n0 ≤ 2147483647) (f1 : (-2147483648) ≤ n0) (f2 : n1 ≤ 2147483647) (f3 : (-2147483648) ≤ n1) (f4 : 0 ≤ n2) (f5 : n3 = 274) (f6 : hWt T0 H0 ∧ True) (f7 : n4 = 23) (f8 : hK H0 (n3).toNat = 2) (f9 : n4 = hV H0 (n3).toNat 0) (f10 : n5 ≤ 2147483647) (f11 : (-2147483648) ≤ n5) (f12 : hK H0 (n2).toNat = 1) (f13 : n5 = hV H0 (n2).toNat 2) (f14 : (hLe T0 H0 H1 ∧ hFr s_2.2.2.2.2 H0 H1 ∧ ((0 : Int) = 0 → H1.length = H0.length) ∧ hWt T0 H1) ∧ postb_2v n6 n4 n5 H0 H1) (f15 : n7 = 275) (f16 : hK H1 (n3).toNat = 2) (f17 : n7 = hV H1 (n3).toNat 2) (f18 : n8 = 23) (f19 : hK H1 (n3).toNat = 2) (f20 : n8 = hV H1 (n3).toNat 0) (f21 : n9 ≤ 2147483647) (f22 : (-2147483648) ≤ n9) (f23 : hK H1 (n2).toNat = 1) (f24 : n9 = hV H1 (n2).toNat 2) (f25 : (hLe T0 H1 H2 ∧ hFr s_152.2.2.2.2 H1 H2 ∧ ((0 : Int) = 0 → H2.length = H1.length) ∧ hWt T0 H2) ∧ (True ∧ nb_152 n7 n8 n9 H1 H2)) (f26 : n6 = -1) (f27 : n10 = 0) (f28 : n11 = 4) (f29 : n12 = 23) (f30 : hK H2 (n3).toNat = 2) (f31 : n12 = hV H2 (n3).toNat 0) (f32 : n13 ≤ 2147483647) (f33 : (-2147483648) ≤ n13) (f34 : hK H2 (n2).toNat = 1) (f35 : n13 = hV H2 (n2).toNat 4) (f36 : n14 ≤ 2147483647) (f37 : (-2147483648) ≤ n14) (f38 : hK H2 (n2).toNat = 1) (f39 : n14 = hV H2 (n2).toNat 5) (f40 : n15 ≤ 2147483647) (f41 : (-2147483648) ≤ n15) (f42 : (hLe T0 H2 H3 ∧ hFr s_8.2.2.2.2 H2 H3 ∧ ((0 : Int) = 0 → H3.length = H2.length) ∧ hWt T0 H3) ∧ postb_8y n15 n12 n13 n14 H2 H3) (f43 : n16 = w32 (n11 * n15)) (f44 : n17 ≤ 2147483647) (f45 : (-2147483648) ≤ n17) (f46 : hK H3 (n2).toNat = 1) (f47 : n17 = hV H3 (n2).toNat 9) (f48 : n18 = (-1)) (f49 : n17 = n18) (f50 : n19 = 1000000) (f51 : n20 = 0) : Bb_37_92 n3 n2 n1 n0 n3 n2 n1 n0 n6 n10 n16 n19 n20 H0 H3 := by
  unfold Bb_37_92
  intro E mu ly p1 p2 p3 p4
  obtain ⟨z, k25, kr, k1, k0, lm⟩ := ly
  have ly := LYm_k lm
  obtain ⟨sk, ⟨m0, m1, m2, m3⟩, fb, k3⟩ := lm
  have fb1 := fb m0
  have el := lrW_at (h := H0) (o := (n2).toNat) (mk := hV H0 25) k0
  have g_sn : (lrW (hV H0 25) (recC H0 (n2).toNat)).2.1 = hV H0 (n2).toNat 2 := congrArg (fun y : LR => y.2.1) el
  have g_fr : (lrW (hV H0 25) (recC H0 (n2).toNat)).2.2.1 = nwW (hV H0 25) (hV H0 (n2).toNat 4) (hV H0 (n2).toNat 5) := congrArg (fun y : LR => y.2.2.1) el
  have g_fo : (lrW (hV H0 25) (recC H0 (n2).toNat)).2.2.2.2.1 = hV H0 (n2).toNat 9 := congrArg (fun y : LR => y.2.2.2.2.1) el
  have x13 : n5 = (lrW (hV H0 25) (recC H0 (n2).toNat)).2.1 := by
    rw [g_sn]
    have w := f13
    exact w.trans (rfl)
  have x24 : n9 = (lrW (hV H0 25) (recC H0 (n2).toNat)).2.1 := by
    rw [g_sn]
    have w := f24
    exact w.trans (f14.1.2.1.2.2 _ 1 k1 rfl 2 (by decide +kernel))
  have x47 : n17 = (lrW (hV H0 25) (recC H0 (n2).toNat)).2.2.2.2.1 := by
    rw [g_fo]
    have w := f47
    exact w.trans ((f42.1.2.1.2.2 _ 1 (kLe f25.1.1 (kLe f14.1.1 k1 rfl) rfl) rfl 9 (by decide +kernel)).trans ((f25.1.2.1.2.2 _ 1 (kLe f14.1.1 k1 rfl) rfl 9 (by decide +kernel)).trans (f14.1.2.1.2.2 _ 1 k1 rfl 9 (by decide +kernel))))
  have qg := f14.2
  unfold postb_2v at qg
  rw [x13] at qg
  have eg := get_at z (show hV H0 24 = hV H0 24 from rfl) qg m1 m2
  have qa := f25.2.2
  unfold nb_152 at qa
  rw [f15, x24] at qa
  have qa := qa E (SNC_fr f14.1.1 f14.1.2.1 (by decide +kernel) z) m1 m2 ly.1
  rw [show hV H1 24 = hV H0 24 from fRow f14.1.2.1 24 (by decide +kernel)] at qa
  obtain ⟨v0, v1, v2⟩ := qa
  have u0 : hV H3 275 0 = hV H2 275 0 := f42.1.2.1.1 275 0 (by decide +kernel)
  have u1 : hV H3 275 1 = hV H2 275 1 := f42.1.2.1.1 275 1 (by decide +kernel)
  have u2 : hV H3 275 2 = hV H2 275 2 := f42.1.2.1.1 275 2 (by decide +kernel)
  have h4 := f35.trans ((f25.1.2.1.2.2 _ 1 (kLe f14.1.1 k1 rfl) rfl 4 (by decide +kernel)).trans (f14.1.2.1.2.2 _ 1 k1 rfl 4 (by decide +kernel)))
  have h5 := f39.trans ((f25.1.2.1.2.2 _ 1 (kLe f14.1.1 k1 rfl) rfl 5 (by decide +kernel)).trans (f14.1.2.1.2.2 _ 1 k1 rfl 5 (by decide +kernel)))
  have qf := f42.2
  unfold postb_8y at qf
  have qf := qf (K25_le f25.1.1 (K25_le f14.1.1 k25))
  rw [show hV H2 25 = hV H0 25 from (fRow f25.1.2.1 25 (by decide +kernel)).trans (fRow f14.1.2.1 25 (by decide +kernel)), h4, h5, ← g_fr] at qf
  have xb : n16 = w32 (4 * (lrW (hV H0 25) (recC H0 (n2).toNat)).2.2.1) := by
    have w := f43
    rw [f28, qf] at w
    exact w
  refine ⟨rfl, by omega, rfl, by omega, xb, by omega, by omega, u0.trans v0, u1.trans v1, u2.trans v2, fun t ht => by omega⟩
def g_37w_s_1 : vG := ([(0, [20], [], 0), (0, [19], [], 1000000), (40, [17, 18], [], 0), (0, [18], [], -1), (20, [17, 1], [3], 9), (23, [1], [3], 1), (90, [17], [], -2147483648), (91, [17], [], 2147483647), (3, [16, 11, 15], [], 0), (1008, [15, 12, 13, 14], [2, 3], 0), (90, [15], [], -2147483648), (91, [15], [], 2147483647), (20, [14, 1], [2], 5), (23, [1], [2], 1), (90, [14], [], -2147483648), (91, [14], [], 2147483647), (20, [13, 1], [2], 4), (23, [1], [2], 1), (90, [13], [], -2147483648), (91, [13], [], 2147483647), (20, [12, 0], [2], 0), (23, [0], [2], 2), (0, [12], [], 23), (0, [11], [], 4), (0, [10], [], 0), (50, [6], [], 0), (1152, [7, 8, 9], [1, 2], 0), (20, [9, 1], [1], 2), (23, [1], [1], 1), (90, [9], [], -2147483648), (91, [9], [], 2147483647), (20, [8, 0], [1], 0), (23, [0], [1], 2), (0, [8], [], 23), (20, [7, 0], [1], 2), (23, [0], [1], 2), (0, [7], [], 275), (1002, [6, 4, 5], [0, 1], 0), (20, [5, 1], [0], 2), (23, [1], [0], 1), (90, [5], [], -2147483648), (91, [5], [], 2147483647), (20, [4, 0], [0], 0), (23, [0], [0], 2), (0, [4], [], 23), (6000, [0, 1, 2, 3], [0], 0), (0, [0], [], 274), (51, [1], [], 0), (90, [2], [], -2147483648), (91, [2], [], 2147483647), (90, [3], [], -2147483648), (91, [3], [], 2147483647)], (4000, [0, 1, 2, 3, 6, 10, 16, 19, 20], [3], 92))
theorem c_37w_s_1 : vOkm T0 (eN e_37 L_37w A_37 mu_37 n_37 B_37 none) 4 g_37w_s_1 := vOk_inI fun ρ η f0 f1 f2 f3 f4 f5 f6 f7 f8 f9 f10 f11 f12 f13 f14 f15 f16 f17 f18 f19 f20 f21 f22 f23 f24 f25 f26 f27 f28 f29 f30 f31 f32 f33 f34 f35 f36 f37 f38 f39 f40 f41 f42 f43 f44 f45 f46 f47 f48 f49 f50 f51 => q_37w_1 (n0 := ρ 3) (n1 := ρ 2) (n2 := ρ 1) (n3 := ρ 0) (n4 := ρ 4) (n5 := ρ 5) (n6 := ρ 6) (n7 := ρ 7) (n8 := ρ 8) (n9 := ρ 9) (n10 := ρ 10) (n11 := ρ 11) (n12 := ρ 12) (n13 := ρ 13) (n14 := ρ 14) (n15 := ρ 15) (n16 := ρ 16) (n17 := ρ 17) (n18 := ρ 18) (n19 := ρ 19) (n20 := ρ 20) (H0 := η 0) (H1 := η 1) (H2 := η 2) (H3 := η 3) f51 f50 f49 f48 f47 f46 f45 f44 f43 f42 f41 f40 f39 f38 f37 f36 f35 f34 f33 f32 f31 f30 f29 f28 f27 f26 f25 f24 f23 f22 f21 f20 f19 f18 f17 f16 f15 f14 f13 f12 f11 f10 f9 f8 f7 f6 f5 f4 f3 f2 f1 f0
theorem q_37w_2 {n0 n1 n2 n3 n4 n5 n6 n7 n8 n9 n10 n11 n12 n13 n14 n15 n16 n17 n18 n19 n20 n21 n22 n23 n24 : Int} {H0 H1 H2 H3 : gH} (f0 : n0 ≤ 2147483647) (f1 : (-2147483648) ≤ n0) (f2 : n1 ≤ 2147483647) (f3 : (-2147483648) ≤ n1) (f4 : 0 ≤ n2) (f5 : n3 = 274) (f6 : hWt T0 H0 ∧ True) (f7 : n4 = 23) (f8 : hK H0 (n3).toNat = 2) (f9 : n4 = hV H0 (n3).toNat 0) (f10 : n5 ≤ 2147483647) (f11 : (-2147483648) ≤ n5) (f12 : hK H0 (n2).toNat = 1) (f13 : n5 = hV H0 (n2).toNat 2) (f14 : (hLe T0 H0 H1 ∧ hFr s_2.2.2.2.2 H0 H1 ∧ ((0 : Int) = 0 → H1.length = H0.length) ∧ hWt T0 H1) ∧ postb_2v n6 n4 n5 H0 H1) (f15 : n7 = 275) (f16 : hK H1 (n3).toNat = 2) (f17 : n7 = hV H1 (n3).toNat 2) (f18 : n8 = 23) (f19 : hK H1 (n3).toNat = 2) (f20 : n8 = hV H1 (n3).toNat 0) (f21 : n9 ≤ 2147483647) (f22 : (-2147483648) ≤ n9) (f23 : hK H1 (n2).toNat = 1) (f24 : n9 = hV H1 (n2).toNat 2) (f25 : (hLe T0 H1 H2 ∧ hFr s_152.2.2.2.2 H1 H2 ∧ ((0 : Int) = 0 → H2.length = H1.length) ∧ hWt T0 H2) ∧ (True ∧ nb_152 n7 n8 n9 H1 H2)) (f26 : 0 ≤ n6) (f27 : n10 ≤ 2147483647) (f28 : (-2147483648) ≤ n10) (f29 : hK H2 (n6).toNat = 7) (f30 : n10 = hV H2 (n6).toNat 0) (f31 : n11 = 1) (f32 : n10 ≠ n11) (f33 : n12 = 0) (f34 : n13 = 4) (f35 : n14 = 23) (f36 : hK H2 (n3).toNat = 2) (f37 : n14 = hV H2 (n3).toNat 0) (f38 : n15 ≤ 2147483647) (f39 : (-2147483648) ≤ n15) (f40 : hK H2 (n2).toNat = 1) (f41 : n15 = hV H2 (n2).toNat 4) (f42 : n16 ≤ 2147483647) (f43 : (-2147483648) ≤ n16) (f44 : hK H2 (n2).toNat = 1) (f45 : n16 = hV H2 (n2).toNat 5) (f46 : n17 ≤ 2147483647) (f47 : (-2147483648) ≤ n17) (f48 : (hLe T0 H2 H3 ∧ hFr s_8.2.2.2.2 H2 H3 ∧ ((0 : Int) = 0 → H3.length = H2.length) ∧ hWt T0 H3) ∧ postb_8y n17 n14 n15 n16 H2 H3) (f49 : n18 = w32 (n13 * n17)) (f50 : n19 ≤ 2147483647) (f51 : (-2147483648) ≤ n19) (f52 : hK H3 (n2).toNat = 1) (f53 : n19 = hV H3 (n2).toNat 9) (f54 : n20 = (-1)) (f55 : n19 ≠ n20) (f56 : n21 = 4) (f57 : n22 ≤ 2147483647) (f58 : (-2147483648) ≤ n22) (f59 : hK H3 (n2).toNat = 1) (f60 : n22 = hV H3 (n2).toNat 9) (f61 : n23 = w32 (n21 * n22)) (f62 : n24 = 0) : Bb_37_92 n3 n2 n1 n0 n3 n2 n1 n0 n6 n12 n18 n23 n24 H0 H3 := by
  unfold Bb_37_92
  intro E mu ly p1 p2 p3 p4
  obtain ⟨z, k25, kr, k1, k0, lm⟩ := ly
  have ly := LYm_k lm
  obtain ⟨sk, ⟨m0, m1, m2, m3⟩, fb, k3⟩ := lm
  have fb1 := fb m0
  have el := lrW_at (h := H0) (o := (n2).toNat) (mk := hV H0 25) k0
  have g_sn : (lrW (hV H0 25) (recC H0 (n2).toNat)).2.1 = hV H0 (n2).toNat 2 := congrArg (fun y : LR => y.2.1) el
  have g_fr : (lrW (hV H0 25) (recC H0 (n2).toNat)).2.2.1 = nwW (hV H0 25) (hV H0 (n2).toNat 4) (hV H0 (n2).toNat 5) := congrArg (fun y : LR => y.2.2.1) el
  have g_fo : (lrW (hV H0 25) (recC H0 (n2).toNat)).2.2.2.2.1 = hV H0 (n2).toNat 9 := congrArg (fun y : LR => y.2.2.2.2.1) el
  have x13 : n5 = (lrW (hV H0 25) (recC H0 (n2).toNat)).2.1 := by
    rw [g_sn]
    have w := f13
    exact w.trans (rfl)
  have x24 : n9 = (lrW (hV H0 25) (recC H0 (n2).toNat)).2.1 := by
    rw [g_sn]
    have w := f24
    exact w.trans (f14.1.2.1.2.2 _ 1 k1 rfl 2 (by decide +kernel))
  have x53 : n19 = (lrW (hV H0 25) (recC H0 (n2).toNat)).2.2.2.2.1 := by
    rw [g_fo]
    have w := f53
    exact w.trans ((f48.1.2.1.2.2 _ 1 (kLe f25.1.1 (kLe f14.1.1 k1 rfl) rfl) rfl 9 (by decide +kernel)).trans ((f25.1.2.1.2.2 _ 1 (kLe f14.1.1 k1 rfl) rfl 9 (by decide +kernel)).trans (f14.1.2.1.2.2 _ 1 k1 rfl 9 (by decide +kernel))))
  have x60 : n22 = (lrW (hV H0 25) (recC H0 (n2).toNat)).2.2.2.2.1 := by
    rw [g_fo]
    have w := f60
    exact w.trans ((f48.1.2.1.2.2 _ 1 (kLe f25.1.1 (kLe f14.1.1 k1 rfl) rfl) rfl 9 (by decide +kernel)).trans ((f25.1.2.1.2.2 _ 1 (kLe f14.1.1 k1 rfl) rfl 9 (by decide +kernel)).trans (f14.1.2.1.2.2 _ 1 k1 rfl 9 (by decide +kernel))))
  have qg := f14.2
  unfold postb_2v at qg
  rw [x13] at qg
  have eg := get_at z (show hV H0 24 = hV H0 24 from rfl) qg m1 m2
  have zk := (SNC_fr f25.1.1 f25.1.2.1 (by decide +kernel) (SNC_fr f14.1.1 f14.1.2.1 (by decide +kernel) z))
  have yk := SNo_at zk (s := ((lrW (hV H0 25) (recC H0 (n2).toNat)).2.1).toNat) (by omega) (show hV H2 24 = hV H0 24 from (fRow f25.1.2.1 24 (by decide +kernel)).trans (fRow f14.1.2.1 24 (by decide +kernel)))
  have xk : n10 = E.2.1 ((lrW (hV H0 25) (recC H0 (n2).toNat)).2.1).toNat := by
    have w := f30
    rw [eg] at w
    exact w.trans yk.2.2.1
  have qa := f25.2.2
  unfold nb_152 at qa
  rw [f15, x24] at qa
  have qa := qa E (SNC_fr f14.1.1 f14.1.2.1 (by decide +kernel) z) m1 m2 ly.1
  rw [show hV H1 24 = hV H0 24 from fRow f14.1.2.1 24 (by decide +kernel)] at qa
  obtain ⟨v0, v1, v2⟩ := qa
  have u0 : hV H3 275 0 = hV H2 275 0 := f48.1.2.1.1 275 0 (by decide +kernel)
  have u1 : hV H3 275 1 = hV H2 275 1 := f48.1.2.1.1 275 1 (by decide +kernel)
  have u2 : hV H3 275 2 = hV H2 275 2 := f48.1.2.1.1 275 2 (by decide +kernel)
  have h4 := f41.trans ((f25.1.2.1.2.2 _ 1 (kLe f14.1.1 k1 rfl) rfl 4 (by decide +kernel)).trans (f14.1.2.1.2.2 _ 1 k1 rfl 4 (by decide +kernel)))
  have h5 := f45.trans ((f25.1.2.1.2.2 _ 1 (kLe f14.1.1 k1 rfl) rfl 5 (by decide +kernel)).trans (f14.1.2.1.2.2 _ 1 k1 rfl 5 (by decide +kernel)))
  have qf := f48.2
  unfold postb_8y at qf
  have qf := qf (K25_le f25.1.1 (K25_le f14.1.1 k25))
  rw [show hV H2 25 = hV H0 25 from (fRow f25.1.2.1 25 (by decide +kernel)).trans (fRow f14.1.2.1 25 (by decide +kernel)), h4, h5, ← g_fr] at qf
  have xb : n18 = w32 (4 * (lrW (hV H0 25) (recC H0 (n2).toNat)).2.2.1) := by
    have w := f49
    rw [f34, qf] at w
    exact w
  have xw : n23 = w32 (4 * (lrW (hV H0 25) (recC H0 (n2).toNat)).2.2.2.2.1) := by
    have w := f61
    rw [f56, x60] at w
    exact w
  refine ⟨rfl, by omega, rfl, by omega, xb, by omega, by omega, u0.trans v0, u1.trans v1, u2.trans v2, fun t ht => by omega⟩
def g_37w_s_2 : vG := ([(0, [24], [], 0), (3, [23, 21, 22], [], 0), (20, [22, 1], [3], 9), (23, [1], [3], 1), (90, [22], [], -2147483648), (91, [22], [], 2147483647), (0, [21], [], 4), (41, [19, 20], [], 0), (0, [20], [], -1), (20, [19, 1], [3], 9), (23, [1], [3], 1), (90, [19], [], -2147483648), (91, [19], [], 2147483647), (3, [18, 13, 17], [], 0), (1008, [17, 14, 15, 16], [2, 3], 0), (90, [17], [], -2147483648), (91, [17], [], 2147483647), (20, [16, 1], [2], 5), (23, [1], [2], 1), (90, [16], [], -2147483648), (91, [16], [], 2147483647), (20, [15, 1], [2], 4), (23, [1], [2], 1), (90, [15], [], -2147483648), (91, [15], [], 2147483647), (20, [14, 0], [2], 0), (23, [0], [2], 2), (0, [14], [], 23), (0, [13], [], 4), (0, [12], [], 0), (41, [10, 11], [], 0), (0, [11], [], 1), (20, [10, 6], [2], 0), (23, [6], [2], 7), (90, [10], [], -2147483648), (91, [10], [], 2147483647), (51, [6], [], 0), (1152, [7, 8, 9], [1, 2], 0), (20, [9, 1], [1], 2), (23, [1], [1], 1), (90, [9], [], -2147483648), (91, [9], [], 2147483647), (20, [8, 0], [1], 0), (23, [0], [1], 2), (0, [8], [], 23), (20, [7, 0], [1], 2), (23, [0], [1], 2), (0, [7], [], 275), (1002, [6, 4, 5], [0, 1], 0), (20, [5, 1], [0], 2), (23, [1], [0], 1), (90, [5], [], -2147483648), (91, [5], [], 2147483647), (20, [4, 0], [0], 0), (23, [0], [0], 2), (0, [4], [], 23), (6000, [0, 1, 2, 3], [0], 0), (0, [0], [], 274), (51, [1], [], 0), (90, [2], [], -2147483648), (91, [2], [], 2147483647), (90, [3], [], -2147483648), (91, [3], [], 2147483647)], (4000, [0, 1, 2, 3, 6, 12, 18, 23, 24], [3], 92))
theorem c_37w_s_2 : vOkm T0 (eN e_37 L_37w A_37 mu_37 n_37 B_37 none) 4 g_37w_s_2 := vOk_inI fun ρ η f0 f1 f2 f3 f4 f5 f6 f7 f8 f9 f10 f11 f12 f13 f14 f15 f16 f17 f18 f19 f20 f21 f22 f23 f24 f25 f26 f27 f28 f29 f30 f31 f32 f33 f34 f35 f36 f37 f38 f39 f40 f41 f42 f43 f44 f45 f46 f47 f48 f49 f50 f51 f52 f53 f54 f55 f56 f57 f58 f59 f60 f61 f62 => q_37w_2 (n0 := ρ 3) (n1 := ρ 2) (n2 := ρ 1) (n3 := ρ 0) (n4 := ρ 4) (n5 := ρ 5) (n6 := ρ 6) (n7 := ρ 7) (n8 := ρ 8) (n9 := ρ 9) (n10 := ρ 10) (n11 := ρ 11) (n12 := ρ 12) (n13 := ρ 13) (n14 := ρ 14) (n15 := ρ 15) (n16 := ρ 16) (n17 := ρ 17) (n18 := ρ 18) (n19 := ρ 19) (n20 := ρ 20) (n21 := ρ 21) (n22 := ρ 22) (n23 := ρ 23) (n24 := ρ 24) (H0 := η 0) (H1 := η 1) (H2 := η 2) (H3 := η 3) f62 f61 f60 f59 f58 f57 f56 f55 f54 f53 f52 f51 f50 f49 f48 f47 f46 f45 f44 f43 f42 f41 f40 f39 f38 f37 f36 f35 f34 f33 f32 f31 f30 f29 f28 f27 f26 f25 f24 f23 f22 f21 f20 f19 f18 f17 f16 f15 f14 f13 f12 f11 f10 f9 f8 f7 f6 f5 f4 f3 f2 f1 f0
theorem q_37w_3 {n0 n1 n2 n3 n4 n5 n6 n7 n8 n9 n10 n11 n12 n13 n14 n15 n16 n17 n18 n19 n20 n21 n22 : Int} {H0 H1 H2 H3 : gH} (f0 : n0 ≤ 2147483647) (f1 : (-2147483648) ≤ n0) (f2 : n1 ≤ 2147483647) (f3 : (-2147483648) ≤ n1) (f4 : 0 ≤ n2) (f5 : n3 = 274) (f6 : hWt T0 H0 ∧ True) (f7 : n4 = 23) (f8 : hK H0 (n3).toNat = 2) (f9 : n4 = hV H0 (n3).toNat 0) (f10 : n5 ≤ 2147483647) (f11 : (-2147483648) ≤ n5) (f12 : hK H0 (n2).toNat = 1) (f13 : n5 = hV H0 (n2).toNat 2) (f14 : (hLe T0 H0 H1 ∧ hFr s_2.2.2.2.2 H0 H1 ∧ ((0 : Int) = 0 → H1.length = H0.length) ∧ hWt T0 H1) ∧ postb_2v n6 n4 n5 H0 H1) (f15 : n7 = 275) (f16 : hK H1 (n3).toNat = 2) (f17 : n7 = hV H1 (n3).toNat 2) (f18 : n8 = 23) (f19 : hK H1 (n3).toNat = 2) (f20 : n8 = hV H1 (n3).toNat 0) (f21 : n9 ≤ 2147483647) (f22 : (-2147483648) ≤ n9) (f23 : hK H1 (n2).toNat = 1) (f24 : n9 = hV H1 (n2).toNat 2) (f25 : (hLe T0 H1 H2 ∧ hFr s_152.2.2.2.2 H1 H2 ∧ ((0 : Int) = 0 → H2.length = H1.length) ∧ hWt T0 H2) ∧ (True ∧ nb_152 n7 n8 n9 H1 H2)) (f26 : 0 ≤ n6) (f27 : n10 ≤ 2147483647) (f28 : (-2147483648) ≤ n10) (f29 : hK H2 (n6).toNat = 7) (f30 : n10 = hV H2 (n6).toNat 0) (f31 : n11 = 1) (f32 : n10 ≠ n11) (f33 : n12 = 0) (f34 : n13 = 4) (f35 : n14 = 23) (f36 : hK H2 (n3).toNat = 2) (f37 : n14 = hV H2 (n3).toNat 0) (f38 : n15 ≤ 2147483647) (f39 : (-2147483648) ≤ n15) (f40 : hK H2 (n2).toNat = 1) (f41 : n15 = hV H2 (n2).toNat 4) (f42 : n16 ≤ 2147483647) (f43 : (-2147483648) ≤ n16) (f44 : hK H2 (n2).toNat = 1) (f45 : n16 = hV H2 (n2).toNat 5) (f46 : n17 ≤ 2147483647) (f47 : (-2147483648) ≤ n17) (f48 : (hLe T0 H2 H3 ∧ hFr s_8.2.2.2.2 H2 H3 ∧ ((0 : Int) = 0 → H3.length = H2.length) ∧ hWt T0 H3) ∧ postb_8y n17 n14 n15 n16 H2 H3) (f49 : n18 = w32 (n13 * n17)) (f50 : n19 ≤ 2147483647) (f51 : (-2147483648) ≤ n19) (f52 : hK H3 (n2).toNat = 1) (f53 : n19 = hV H3 (n2).toNat 9) (f54 : n20 = (-1)) (f55 : n19 = n20) (f56 : n21 = 1000000) (f57 : n22 = 0) : Bb_37_92 n3 n2 n1 n0 n3 n2 n1 n0 n6 n12 n18 n21 n22 H0 H3 := by
  unfold Bb_37_92
  intro E mu ly p1 p2 p3 p4
  obtain ⟨z, k25, kr, k1, k0, lm⟩ := ly
  have ly := LYm_k lm
  obtain ⟨sk, ⟨m0, m1, m2, m3⟩, fb, k3⟩ := lm
  have fb1 := fb m0
  have el := lrW_at (h := H0) (o := (n2).toNat) (mk := hV H0 25) k0
  have g_sn : (lrW (hV H0 25) (recC H0 (n2).toNat)).2.1 = hV H0 (n2).toNat 2 := congrArg (fun y : LR => y.2.1) el
  have g_fr : (lrW (hV H0 25) (recC H0 (n2).toNat)).2.2.1 = nwW (hV H0 25) (hV H0 (n2).toNat 4) (hV H0 (n2).toNat 5) := congrArg (fun y : LR => y.2.2.1) el
  have g_fo : (lrW (hV H0 25) (recC H0 (n2).toNat)).2.2.2.2.1 = hV H0 (n2).toNat 9 := congrArg (fun y : LR => y.2.2.2.2.1) el
  have x13 : n5 = (lrW (hV H0 25) (recC H0 (n2).toNat)).2.1 := by
    rw [g_sn]
    have w := f13
    exact w.trans (rfl)
  have x24 : n9 = (lrW (hV H0 25) (recC H0 (n2).toNat)).2.1 := by
    rw [g_sn]
    have w := f24
    exact w.trans (f14.1.2.1.2.2 _ 1 k1 rfl 2 (by decide +kernel))
  have x53 : n19 = (lrW (hV H0 25) (recC H0 (n2).toNat)).2.2.2.2.1 := by
    rw [g_fo]
    have w := f53
    exact w.trans ((f48.1.2.1.2.2 _ 1 (kLe f25.1.1 (kLe f14.1.1 k1 rfl) rfl) rfl 9 (by decide +kernel)).trans ((f25.1.2.1.2.2 _ 1 (kLe f14.1.1 k1 rfl) rfl 9 (by decide +kernel)).trans (f14.1.2.1.2.2 _ 1 k1 rfl 9 (by decide +kernel))))
  have qg := f14.2
  unfold postb_2v at qg
  rw [x13] at qg
  have eg := get_at z (show hV H0 24 = hV H0 24 from rfl) qg m1 m2
  have zk := (SNC_fr f25.1.1 f25.1.2.1 (by decide +kernel) (SNC_fr f14.1.1 f14.1.2.1 (by decide +kernel) z))
  have yk := SNo_at zk (s := ((lrW (hV H0 25) (recC H0 (n2).toNat)).2.1).toNat) (by omega) (show hV H2 24 = hV H0 24 from (fRow f25.1.2.1 24 (by decide +kernel)).trans (fRow f14.1.2.1 24 (by decide +kernel)))
  have xk : n10 = E.2.1 ((lrW (hV H0 25) (recC H0 (n2).toNat)).2.1).toNat := by
    have w := f30
    rw [eg] at w
    exact w.trans yk.2.2.1
  have qa := f25.2.2
  unfold nb_152 at qa
  rw [f15, x24] at qa
  have qa := qa E (SNC_fr f14.1.1 f14.1.2.1 (by decide +kernel) z) m1 m2 ly.1
  rw [show hV H1 24 = hV H0 24 from fRow f14.1.2.1 24 (by decide +kernel)] at qa
  obtain ⟨v0, v1, v2⟩ := qa
  have u0 : hV H3 275 0 = hV H2 275 0 := f48.1.2.1.1 275 0 (by decide +kernel)
  have u1 : hV H3 275 1 = hV H2 275 1 := f48.1.2.1.1 275 1 (by decide +kernel)
  have u2 : hV H3 275 2 = hV H2 275 2 := f48.1.2.1.1 275 2 (by decide +kernel)
  have h4 := f41.trans ((f25.1.2.1.2.2 _ 1 (kLe f14.1.1 k1 rfl) rfl 4 (by decide +kernel)).trans (f14.1.2.1.2.2 _ 1 k1 rfl 4 (by decide +kernel)))
  have h5 := f45.trans ((f25.1.2.1.2.2 _ 1 (kLe f14.1.1 k1 rfl) rfl 5 (by decide +kernel)).trans (f14.1.2.1.2.2 _ 1 k1 rfl 5 (by decide +kernel)))
  have qf := f48.2
  unfold postb_8y at qf
  have qf := qf (K25_le f25.1.1 (K25_le f14.1.1 k25))
  rw [show hV H2 25 = hV H0 25 from (fRow f25.1.2.1 25 (by decide +kernel)).trans (fRow f14.1.2.1 25 (by decide +kernel)), h4, h5, ← g_fr] at qf
  have xb : n18 = w32 (4 * (lrW (hV H0 25) (recC H0 (n2).toNat)).2.2.1) := by
    have w := f49
    rw [f34, qf] at w
    exact w
  refine ⟨rfl, by omega, rfl, by omega, xb, by omega, by omega, u0.trans v0, u1.trans v1, u2.trans v2, fun t ht => by omega⟩
def g_37w_s_3 : vG := ([(0, [22], [], 0), (0, [21], [], 1000000), (40, [19, 20], [], 0), (0, [20], [], -1), (20, [19, 1], [3], 9), (23, [1], [3], 1), (90, [19], [], -2147483648), (91, [19], [], 2147483647), (3, [18, 13, 17], [], 0), (1008, [17, 14, 15, 16], [2, 3], 0), (90, [17], [], -2147483648), (91, [17], [], 2147483647), (20, [16, 1], [2], 5), (23, [1], [2], 1), (90, [16], [], -2147483648), (91, [16], [], 2147483647), (20, [15, 1], [2], 4), (23, [1], [2], 1), (90, [15], [], -2147483648), (91, [15], [], 2147483647), (20, [14, 0], [2], 0), (23, [0], [2], 2), (0, [14], [], 23), (0, [13], [], 4), (0, [12], [], 0), (41, [10, 11], [], 0), (0, [11], [], 1), (20, [10, 6], [2], 0), (23, [6], [2], 7), (90, [10], [], -2147483648), (91, [10], [], 2147483647), (51, [6], [], 0), (1152, [7, 8, 9], [1, 2], 0), (20, [9, 1], [1], 2), (23, [1], [1], 1), (90, [9], [], -2147483648), (91, [9], [], 2147483647), (20, [8, 0], [1], 0), (23, [0], [1], 2), (0, [8], [], 23), (20, [7, 0], [1], 2), (23, [0], [1], 2), (0, [7], [], 275), (1002, [6, 4, 5], [0, 1], 0), (20, [5, 1], [0], 2), (23, [1], [0], 1), (90, [5], [], -2147483648), (91, [5], [], 2147483647), (20, [4, 0], [0], 0), (23, [0], [0], 2), (0, [4], [], 23), (6000, [0, 1, 2, 3], [0], 0), (0, [0], [], 274), (51, [1], [], 0), (90, [2], [], -2147483648), (91, [2], [], 2147483647), (90, [3], [], -2147483648), (91, [3], [], 2147483647)], (4000, [0, 1, 2, 3, 6, 12, 18, 21, 22], [3], 92))
theorem c_37w_s_3 : vOkm T0 (eN e_37 L_37w A_37 mu_37 n_37 B_37 none) 4 g_37w_s_3 := vOk_inI fun ρ η f0 f1 f2 f3 f4 f5 f6 f7 f8 f9 f10 f11 f12 f13 f14 f15 f16 f17 f18 f19 f20 f21 f22 f23 f24 f25 f26 f27 f28 f29 f30 f31 f32 f33 f34 f35 f36 f37 f38 f39 f40 f41 f42 f43 f44 f45 f46 f47 f48 f49 f50 f51 f52 f53 f54 f55 f56 f57 => q_37w_3 (n0 := ρ 3) (n1 := ρ 2) (n2 := ρ 1) (n3 := ρ 0) (n4 := ρ 4) (n5 := ρ 5) (n6 := ρ 6) (n7 := ρ 7) (n8 := ρ 8) (n9 := ρ 9) (n10 := ρ 10) (n11 := ρ 11) (n12 := ρ 12) (n13 := ρ 13) (n14 := ρ 14) (n15 := ρ 15) (n16 := ρ 16) (n17 := ρ 17) (n18 := ρ 18) (n19 := ρ 19) (n20 := ρ 20) (n21 := ρ 21) (n22 := ρ 22) (H0 := η 0) (H1 := η 1) (H2 := η 2) (H3 := η 3) f57 f56 f55 f54 f53 f52 f51 f50 f49 f48 f47 f46 f45 f44 f43 f42 f41 f40 f39 f38 f37 f36 f35 f34 f33 f32 f31 f30 f29 f28 f27 f26 f25 f24 f23 f22 f21 f20 f19 f18 f17 f16 f15 f14 f13 f12 f11 f10 f9 f8 f7 f6 f5 f4 f3 f2 f1 f0
theorem q_37w_4 {n0 n1 n2 n3 n4 n5 n6 n7 n8 n9 n10 n11 n12 n13 n14 n15 n16 n17 n18 n19 n20 n21 n22 n23 n24 : Int} {H0 H1 H2 H3 : gH} (f0 : n0 ≤ 2147483647) (f1 : (-2147483648) ≤ n0) (f2 : n1 ≤ 2147483647) (f3 : (-2147483648) ≤ n1) (f4 : 0 ≤ n2) (f5 : n3 = 274) (f6 : hWt T0 H0 ∧ True) (f7 : n4 = 23) (f8 : hK H0 (n3).toNat = 2) (f9 : n4 = hV H0 (n3).toNat 0) (f10 : n5 ≤ 2147483647) (f11 : (-2147483648) ≤ n5) (f12 : hK H0 (n2).toNat = 1) (f13 : n5 = hV H0 (n2).toNat 2) (f14 : (hLe T0 H0 H1 ∧ hFr s_2.2.2.2.2 H0 H1 ∧ ((0 : Int) = 0 → H1.length = H0.length) ∧ hWt T0 H1) ∧ postb_2v n6 n4 n5 H0 H1) (f15 : n7 = 275) (f16 : hK H1 (n3).toNat = 2) (f17 : n7 = hV H1 (n3).toNat 2) (f18 : n8 = 23) (f19 : hK H1 (n3).toNat = 2) (f20 : n8 = hV H1 (n3).toNat 0) (f21 : n9 ≤ 2147483647) (f22 : (-2147483648) ≤ n9) (f23 : hK H1 (n2).toNat = 1) (f24 : n9 = hV H1 (n2).toNat 2) (f25 : (hLe T0 H1 H2 ∧ hFr s_152.2.2.2.2 H1 H2 ∧ ((0 : Int) = 0 → H2.length = H1.length) ∧ hWt T0 H2) ∧ (True ∧ nb_152 n7 n8 n9 H1 H2)) (f26 : 0 ≤ n6) (f27 : n10 ≤ 2147483647) (f28 : (-2147483648) ≤ n10) (f29 : hK H2 (n6).toNat = 7) (f30 : n10 = hV H2 (n6).toNat 0) (f31 : n11 = 1) (f32 : n10 = n11) (f33 : n12 = 1) (f34 : n13 = 4) (f35 : n14 = 23) (f36 : hK H2 (n3).toNat = 2) (f37 : n14 = hV H2 (n3).toNat 0) (f38 : n15 ≤ 2147483647) (f39 : (-2147483648) ≤ n15) (f40 : hK H2 (n2).toNat = 1) (f41 : n15 = hV H2 (n2).toNat 4) (f42 : n16 ≤ 2147483647) (f43 : (-2147483648) ≤ n16) (f44 : hK H2 (n2).toNat = 1) (f45 : n16 = hV H2 (n2).toNat 5) (f46 : n17 ≤ 2147483647) (f47 : (-2147483648) ≤ n17) (f48 : (hLe T0 H2 H3 ∧ hFr s_8.2.2.2.2 H2 H3 ∧ ((0 : Int) = 0 → H3.length = H2.length) ∧ hWt T0 H3) ∧ postb_8y n17 n14 n15 n16 H2 H3) (f49 : n18 = w32 (n13 * n17)) (f50 : n19 ≤ 2147483647) (f51 : (-2147483648) ≤ n19) (f52 : hK H3 (n2).toNat = 1) (f53 : n19 = hV H3 (n2).toNat 9) (f54 : n20 = (-1)) (f55 : n19 ≠ n20) (f56 : n21 = 4) (f57 : n22 ≤ 2147483647) (f58 : (-2147483648) ≤ n22) (f59 : hK H3 (n2).toNat = 1) (f60 : n22 = hV H3 (n2).toNat 9) (f61 : n23 = w32 (n21 * n22)) (f62 : n24 = 0) : Bb_37_92 n3 n2 n1 n0 n3 n2 n1 n0 n6 n12 n18 n23 n24 H0 H3 := by
  unfold Bb_37_92
  intro E mu ly p1 p2 p3 p4
  obtain ⟨z, k25, kr, k1, k0, lm⟩ := ly
  have ly := LYm_k lm
  obtain ⟨sk, ⟨m0, m1, m2, m3⟩, fb, k3⟩ := lm
  have fb1 := fb m0
  have el := lrW_at (h := H0) (o := (n2).toNat) (mk := hV H0 25) k0
  have g_sn : (lrW (hV H0 25) (recC H0 (n2).toNat)).2.1 = hV H0 (n2).toNat 2 := congrArg (fun y : LR => y.2.1) el
  have g_fr : (lrW (hV H0 25) (recC H0 (n2).toNat)).2.2.1 = nwW (hV H0 25) (hV H0 (n2).toNat 4) (hV H0 (n2).toNat 5) := congrArg (fun y : LR => y.2.2.1) el
  have g_fo : (lrW (hV H0 25) (recC H0 (n2).toNat)).2.2.2.2.1 = hV H0 (n2).toNat 9 := congrArg (fun y : LR => y.2.2.2.2.1) el
  have x13 : n5 = (lrW (hV H0 25) (recC H0 (n2).toNat)).2.1 := by
    rw [g_sn]
    have w := f13
    exact w.trans (rfl)
  have x24 : n9 = (lrW (hV H0 25) (recC H0 (n2).toNat)).2.1 := by
    rw [g_sn]
    have w := f24
    exact w.trans (f14.1.2.1.2.2 _ 1 k1 rfl 2 (by decide +kernel))
  have x53 : n19 = (lrW (hV H0 25) (recC H0 (n2).toNat)).2.2.2.2.1 := by
    rw [g_fo]
    have w := f53
    exact w.trans ((f48.1.2.1.2.2 _ 1 (kLe f25.1.1 (kLe f14.1.1 k1 rfl) rfl) rfl 9 (by decide +kernel)).trans ((f25.1.2.1.2.2 _ 1 (kLe f14.1.1 k1 rfl) rfl 9 (by decide +kernel)).trans (f14.1.2.1.2.2 _ 1 k1 rfl 9 (by decide +kernel))))
  have x60 : n22 = (lrW (hV H0 25) (recC H0 (n2).toNat)).2.2.2.2.1 := by
    rw [g_fo]
    have w := f60
    exact w.trans ((f48.1.2.1.2.2 _ 1 (kLe f25.1.1 (kLe f14.1.1 k1 rfl) rfl) rfl 9 (by decide +kernel)).trans ((f25.1.2.1.2.2 _ 1 (kLe f14.1.1 k1 rfl) rfl 9 (by decide +kernel)).trans (f14.1.2.1.2.2 _ 1 k1 rfl 9 (by decide +kernel))))
  have qg := f14.2
  unfold postb_2v at qg
  rw [x13] at qg
  have eg := get_at z (show hV H0 24 = hV H0 24 from rfl) qg m1 m2
  have zk := (SNC_fr f25.1.1 f25.1.2.1 (by decide +kernel) (SNC_fr f14.1.1 f14.1.2.1 (by decide +kernel) z))
  have yk := SNo_at zk (s := ((lrW (hV H0 25) (recC H0 (n2).toNat)).2.1).toNat) (by omega) (show hV H2 24 = hV H0 24 from (fRow f25.1.2.1 24 (by decide +kernel)).trans (fRow f14.1.2.1 24 (by decide +kernel)))
  have xk : n10 = E.2.1 ((lrW (hV H0 25) (recC H0 (n2).toNat)).2.1).toNat := by
    have w := f30
    rw [eg] at w
    exact w.trans yk.2.2.1
  exfalso
  have := ly.2
  omega
def g_37w_s_4 : vG := ([(0, [24], [], 0), (3, [23, 21, 22], [], 0), (20, [22, 1], [3], 9), (23, [1], [3], 1), (90, [22], [], -2147483648), (91, [22], [], 2147483647), (0, [21], [], 4), (41, [19, 20], [], 0), (0, [20], [], -1), (20, [19, 1], [3], 9), (23, [1], [3], 1), (90, [19], [], -2147483648), (91, [19], [], 2147483647), (3, [18, 13, 17], [], 0), (1008, [17, 14, 15, 16], [2, 3], 0), (90, [17], [], -2147483648), (91, [17], [], 2147483647), (20, [16, 1], [2], 5), (23, [1], [2], 1), (90, [16], [], -2147483648), (91, [16], [], 2147483647), (20, [15, 1], [2], 4), (23, [1], [2], 1), (90, [15], [], -2147483648), (91, [15], [], 2147483647), (20, [14, 0], [2], 0), (23, [0], [2], 2), (0, [14], [], 23), (0, [13], [], 4), (0, [12], [], 1), (40, [10, 11], [], 0), (0, [11], [], 1), (20, [10, 6], [2], 0), (23, [6], [2], 7), (90, [10], [], -2147483648), (91, [10], [], 2147483647), (51, [6], [], 0), (1152, [7, 8, 9], [1, 2], 0), (20, [9, 1], [1], 2), (23, [1], [1], 1), (90, [9], [], -2147483648), (91, [9], [], 2147483647), (20, [8, 0], [1], 0), (23, [0], [1], 2), (0, [8], [], 23), (20, [7, 0], [1], 2), (23, [0], [1], 2), (0, [7], [], 275), (1002, [6, 4, 5], [0, 1], 0), (20, [5, 1], [0], 2), (23, [1], [0], 1), (90, [5], [], -2147483648), (91, [5], [], 2147483647), (20, [4, 0], [0], 0), (23, [0], [0], 2), (0, [4], [], 23), (6000, [0, 1, 2, 3], [0], 0), (0, [0], [], 274), (51, [1], [], 0), (90, [2], [], -2147483648), (91, [2], [], 2147483647), (90, [3], [], -2147483648), (91, [3], [], 2147483647)], (4000, [0, 1, 2, 3, 6, 12, 18, 23, 24], [3], 92))
theorem c_37w_s_4 : vOkm T0 (eN e_37 L_37w A_37 mu_37 n_37 B_37 none) 4 g_37w_s_4 := vOk_inI fun ρ η f0 f1 f2 f3 f4 f5 f6 f7 f8 f9 f10 f11 f12 f13 f14 f15 f16 f17 f18 f19 f20 f21 f22 f23 f24 f25 f26 f27 f28 f29 f30 f31 f32 f33 f34 f35 f36 f37 f38 f39 f40 f41 f42 f43 f44 f45 f46 f47 f48 f49 f50 f51 f52 f53 f54 f55 f56 f57 f58 f59 f60 f61 f62 => q_37w_4 (n0 := ρ 3) (n1 := ρ 2) (n2 := ρ 1) (n3 := ρ 0) (n4 := ρ 4) (n5 := ρ 5) (n6 := ρ 6) (n7 := ρ 7) (n8 := ρ 8) (n9 := ρ 9) (n10 := ρ 10) (n11 := ρ 11) (n12 := ρ 12) (n13 := ρ 13) (n14 := ρ 14) (n15 := ρ 15) (n16 := ρ 16) (n17 := ρ 17) (n18 := ρ 18) (n19 := ρ 19) (n20 := ρ 20) (n21 := ρ 21) (n22 := ρ 22) (n23 := ρ 23) (n24 := ρ 24) (H0 := η 0) (H1 := η 1) (H2 := η 2) (H3 := η 3) f62 f61 f60 f59 f58 f57 f56 f55 f54 f53 f52 f51 f50 f49 f48 f47 f46 f45 f44 f43 f42 f41 f40 f39 f38 f37 f36 f35 f34 f33 f32 f31 f30 f29 f28 f27 f26 f25 f24 f23 f22 f21 f20 f19 f18 f17 f16 f15 f14 f13 f12 f11 f10 f9 f8 f7 f6 f5 f4 f3 f2 f1 f0
theorem q_37w_5 {n0 n1 n2 n3 n4 n5 n6 n7 n8 n9 n10 n11 n12 n13 n14 n15 n16 n17 n18 n19 n20 n21 n22 : Int} {H0 H1 H2 H3 : gH} (f0 : n0 ≤ 2147483647) (f1 : (-2147483648) ≤ n0) (f2 : n1 ≤ 2147483647) (f3 : (-2147483648) ≤ n1) (f4 : 0 ≤ n2) (f5 : n3 = 274) (f6 : hWt T0 H0 ∧ True) (f7 : n4 = 23) (f8 : hK H0 (n3).toNat = 2) (f9 : n4 = hV H0 (n3).toNat 0) (f10 : n5 ≤ 2147483647) (f11 : (-2147483648) ≤ n5) (f12 : hK H0 (n2).toNat = 1) (f13 : n5 = hV H0 (n2).toNat 2) (f14 : (hLe T0 H0 H1 ∧ hFr s_2.2.2.2.2 H0 H1 ∧ ((0 : Int) = 0 → H1.length = H0.length) ∧ hWt T0 H1) ∧ postb_2v n6 n4 n5 H0 H1) (f15 : n7 = 275) (f16 : hK H1 (n3).toNat = 2) (f17 : n7 = hV H1 (n3).toNat 2) (f18 : n8 = 23) (f19 : hK H1 (n3).toNat = 2) (f20 : n8 = hV H1 (n3).toNat 0) (f21 : n9 ≤ 2147483647) (f22 : (-2147483648) ≤ n9) (f23 : hK H1 (n2).toNat = 1) (f24 : n9 = hV H1 (n2).toNat 2) (f25 : (hLe T0 H1 H2 ∧ hFr s_152.2.2.2.2 H1 H2 ∧ ((0 : Int) = 0 → H2.length = H1.length) ∧ hWt T0 H2) ∧ (True ∧ nb_152 n7 n8 n9 H1 H2)) (f26 : 0 ≤ n6) (f27 : n10 ≤ 2147483647) (f28 : (-2147483648) ≤ n10) (f29 : hK H2 (n6).toNat = 7) (f30 : n10 = hV H2 (n6).toNat 0) (f31 : n11 = 1) (f32 : n10 = n11) (f33 : n12 = 1) (f34 : n13 = 4) (f35 : n14 = 23) (f36 : hK H2 (n3).toNat = 2) (f37 : n14 = hV H2 (n3).toNat 0) (f38 : n15 ≤ 2147483647) (f39 : (-2147483648) ≤ n15) (f40 : hK H2 (n2).toNat = 1) (f41 : n15 = hV H2 (n2).toNat 4) (f42 : n16 ≤ 2147483647) (f43 : (-2147483648) ≤ n16) (f44 : hK H2 (n2).toNat = 1) (f45 : n16 = hV H2 (n2).toNat 5) (f46 : n17 ≤ 2147483647) (f47 : (-2147483648) ≤ n17) (f48 : (hLe T0 H2 H3 ∧ hFr s_8.2.2.2.2 H2 H3 ∧ ((0 : Int) = 0 → H3.length = H2.length) ∧ hWt T0 H3) ∧ postb_8y n17 n14 n15 n16 H2 H3) (f49 : n18 = w32 (n13 * n17)) (f50 : n19 ≤ 2147483647) (f51 : (-2147483648) ≤ n19) (f52 : hK H3 (n2).toNat = 1) (f53 : n19 = hV H3 (n2).toNat 9) (f54 : n20 = (-1)) (f55 : n19 = n20) (f56 : n21 = 1000000) (f57 : n22 = 0) : Bb_37_92 n3 n2 n1 n0 n3 n2 n1 n0 n6 n12 n18 n21 n22 H0 H3 := by
  unfold Bb_37_92
  intro E mu ly p1 p2 p3 p4
  obtain ⟨z, k25, kr, k1, k0, lm⟩ := ly
  have ly := LYm_k lm
  obtain ⟨sk, ⟨m0, m1, m2, m3⟩, fb, k3⟩ := lm
  have fb1 := fb m0
  have el := lrW_at (h := H0) (o := (n2).toNat) (mk := hV H0 25) k0
  have g_sn : (lrW (hV H0 25) (recC H0 (n2).toNat)).2.1 = hV H0 (n2).toNat 2 := congrArg (fun y : LR => y.2.1) el
  have g_fr : (lrW (hV H0 25) (recC H0 (n2).toNat)).2.2.1 = nwW (hV H0 25) (hV H0 (n2).toNat 4) (hV H0 (n2).toNat 5) := congrArg (fun y : LR => y.2.2.1) el
  have g_fo : (lrW (hV H0 25) (recC H0 (n2).toNat)).2.2.2.2.1 = hV H0 (n2).toNat 9 := congrArg (fun y : LR => y.2.2.2.2.1) el
  have x13 : n5 = (lrW (hV H0 25) (recC H0 (n2).toNat)).2.1 := by
    rw [g_sn]
    have w := f13
    exact w.trans (rfl)
  have x24 : n9 = (lrW (hV H0 25) (recC H0 (n2).toNat)).2.1 := by
    rw [g_sn]
    have w := f24
    exact w.trans (f14.1.2.1.2.2 _ 1 k1 rfl 2 (by decide +kernel))
  have x53 : n19 = (lrW (hV H0 25) (recC H0 (n2).toNat)).2.2.2.2.1 := by
    rw [g_fo]
    have w := f53
    exact w.trans ((f48.1.2.1.2.2 _ 1 (kLe f25.1.1 (kLe f14.1.1 k1 rfl) rfl) rfl 9 (by decide +kernel)).trans ((f25.1.2.1.2.2 _ 1 (kLe f14.1.1 k1 rfl) rfl 9 (by decide +kernel)).trans (f14.1.2.1.2.2 _ 1 k1 rfl 9 (by decide +kernel))))
  have qg := f14.2
  unfold postb_2v at qg
  rw [x13] at qg
  have eg := get_at z (show hV H0 24 = hV H0 24 from rfl) qg m1 m2
  have zk := (SNC_fr f25.1.1 f25.1.2.1 (by decide +kernel) (SNC_fr f14.1.1 f14.1.2.1 (by decide +kernel) z))
  have yk := SNo_at zk (s := ((lrW (hV H0 25) (recC H0 (n2).toNat)).2.1).toNat) (by omega) (show hV H2 24 = hV H0 24 from (fRow f25.1.2.1 24 (by decide +kernel)).trans (fRow f14.1.2.1 24 (by decide +kernel)))
  have xk : n10 = E.2.1 ((lrW (hV H0 25) (recC H0 (n2).toNat)).2.1).toNat := by
    have w := f30
    rw [eg] at w
    exact w.trans yk.2.2.1
  exfalso
  have := ly.2
  omega
def g_37w_s_5 : vG := ([(0, [22], [], 0), (0, [21], [], 1000000), (40, [19, 20], [], 0), (0, [20], [], -1), (20, [19, 1], [3], 9), (23, [1], [3], 1), (90, [19], [], -2147483648), (91, [19], [], 2147483647), (3, [18, 13, 17], [], 0), (1008, [17, 14, 15, 16], [2, 3], 0), (90, [17], [], -2147483648), (91, [17], [], 2147483647), (20, [16, 1], [2], 5), (23, [1], [2], 1), (90, [16], [], -2147483648), (91, [16], [], 2147483647), (20, [15, 1], [2], 4), (23, [1], [2], 1), (90, [15], [], -2147483648), (91, [15], [], 2147483647), (20, [14, 0], [2], 0), (23, [0], [2], 2), (0, [14], [], 23), (0, [13], [], 4), (0, [12], [], 1), (40, [10, 11], [], 0), (0, [11], [], 1), (20, [10, 6], [2], 0), (23, [6], [2], 7), (90, [10], [], -2147483648), (91, [10], [], 2147483647), (51, [6], [], 0), (1152, [7, 8, 9], [1, 2], 0), (20, [9, 1], [1], 2), (23, [1], [1], 1), (90, [9], [], -2147483648), (91, [9], [], 2147483647), (20, [8, 0], [1], 0), (23, [0], [1], 2), (0, [8], [], 23), (20, [7, 0], [1], 2), (23, [0], [1], 2), (0, [7], [], 275), (1002, [6, 4, 5], [0, 1], 0), (20, [5, 1], [0], 2), (23, [1], [0], 1), (90, [5], [], -2147483648), (91, [5], [], 2147483647), (20, [4, 0], [0], 0), (23, [0], [0], 2), (0, [4], [], 23), (6000, [0, 1, 2, 3], [0], 0), (0, [0], [], 274), (51, [1], [], 0), (90, [2], [], -2147483648), (91, [2], [], 2147483647), (90, [3], [], -2147483648), (91, [3], [], 2147483647)], (4000, [0, 1, 2, 3, 6, 12, 18, 21, 22], [3], 92))
theorem c_37w_s_5 : vOkm T0 (eN e_37 L_37w A_37 mu_37 n_37 B_37 none) 4 g_37w_s_5 := vOk_inI fun ρ η f0 f1 f2 f3 f4 f5 f6 f7 f8 f9 f10 f11 f12 f13 f14 f15 f16 f17 f18 f19 f20 f21 f22 f23 f24 f25 f26 f27 f28 f29 f30 f31 f32 f33 f34 f35 f36 f37 f38 f39 f40 f41 f42 f43 f44 f45 f46 f47 f48 f49 f50 f51 f52 f53 f54 f55 f56 f57 => q_37w_5 (n0 := ρ 3) (n1 := ρ 2) (n2 := ρ 1) (n3 := ρ 0) (n4 := ρ 4) (n5 := ρ 5) (n6 := ρ 6) (n7 := ρ 7) (n8 := ρ 8) (n9 := ρ 9) (n10 := ρ 10) (n11 := ρ 11) (n12 := ρ 12) (n13 := ρ 13) (n14 := ρ 14) (n15 := ρ 15) (n16 := ρ 16) (n17 := ρ 17) (n18 := ρ 18) (n19 := ρ 19) (n20 := ρ 20) (n21 := ρ 21) (n22 := ρ 22) (H0 := η 0) (H1 := η 1) (H2 := η 2) (H3 := η 3) f57 f56 f55 f54 f53 f52 f51 f50 f49 f48 f47 f46 f45 f44 f43 f42 f41 f40 f39 f38 f37 f36 f35 f34 f33 f32 f31 f30 f29 f28 f27 f26 f25 f24 f23 f22 f21 f20 f19 f18 f17 f16 f15 f14 f13 f12 f11 f10 f9 f8 f7 f6 f5 f4 f3 f2 f1 f0
def p_37w_s : List vG := [g_37w_s_0,
  g_37w_s_1,
  g_37w_s_2,
  g_37w_s_3,
  g_37w_s_4,
  g_37w_s_5]
theorem r_37w_s : vCovBO (eR0 e_37 L_37 cs_37 2000) p_37w_s = true := by decide +kernel
theorem q_37w_6 {q0 : Nat} {n0 n1 n2 n3 n4 n5 n6 n7 n8 n9 n10 n11 n12 : Int} {H0 H1 : gH} (f0 : n0 ≤ 2147483647) (f1 : (-2147483648) ≤ n0) (f2 : n1 ≤ 2147483647) (f3 : (-2147483648) ≤ n1) (f4 : n2 ≤ 2147483647) (f5 : (-2147483648) ≤ n2) (f6 : n3 ≤ 2147483647) (f7 : (-2147483648) ≤ n3) (f8 : n4 ≤ 2147483647) (f9 : (-2147483648) ≤ n4) (f10 : n5 ≤ 2147483647) (f11 : (-2147483648) ≤ n5) (f12 : 0 ≤ n6) (f13 : n7 = 274) (f14 : n8 ≤ 2147483647) (f15 : (-2147483648) ≤ n8) (f16 : n9 ≤ 2147483647) (f17 : (-2147483648) ≤ n9) (f18 : 0 ≤ n10) (f19 : n11 = 274) (f20 : (hLe T0 H0 H1 ∧ hFr s_37.2.2.2.2 H0 H1 ∧ hWt T0 H1) ∧ ((Ab_37_92 n11 n10 n9 n8 n7 n6 n5 n4 n12 n3 n2 n1 n0 H0 H1 ∧ Bb_37_92 n11 n10 n9 n8 n7 n6 n5 n4 n12 n3 n2 n1 n0 H0 H1) ∧ True) ∧ some q0 = some (mub_37_92 n11 n10 n9 n8 n7 n6 n5 n4 n12 n3 n2 n1 n0 H0 H1)) (f21 : n4 ≤ n0) : nb_37 n11 n10 n9 n8 H0 H1 := by
  unfold nb_37
  intro E mu ly p1 p2 p3 p4
  have gb := f20.2.1.1.2
  unfold Bb_37_92 at gb
  obtain ⟨e1, e2, e3, e5, e6, e7, e8, v0, v1, v2, rows⟩ := gb E mu ly p1 p2 p3 p4
  obtain ⟨z, k25, kr, k1, k0, lm⟩ := ly
  have ly := LYm_k lm
  obtain ⟨sk, ⟨m0, m1, m2, m3⟩, fb, k3⟩ := lm
  have fb1 := fb m0
  exact fun t ht => rows t (by omega)
def g_37w_92_0 : vG := ([(43, [12, 7], [], 0), (5000, [0, 1, 2, 3, 4, 5, 6, 7, 8, 9, 10, 11, 12], [0, 1], 92), (0, [0], [], 274), (51, [1], [], 0), (90, [2], [], -2147483648), (91, [2], [], 2147483647), (90, [3], [], -2147483648), (91, [3], [], 2147483647), (0, [4], [], 274), (51, [5], [], 0), (90, [6], [], -2147483648), (91, [6], [], 2147483647), (90, [7], [], -2147483648), (91, [7], [], 2147483647), (90, [9], [], -2147483648), (91, [9], [], 2147483647), (90, [10], [], -2147483648), (91, [10], [], 2147483647), (90, [11], [], -2147483648), (91, [11], [], 2147483647), (90, [12], [], -2147483648), (91, [12], [], 2147483647)], (3000, [], [1], 220))
theorem c_37w_92_0 {q0 : Nat} : vOkm T0 (eN e_37 L_37w A_37 mu_37 n_37 B_37 (some q0)) 4 g_37w_92_0 := vOk_inI fun ρ η f0 f1 f2 f3 f4 f5 f6 f7 f8 f9 f10 f11 f12 f13 f14 f15 f16 f17 f18 f19 f20 f21 => q_37w_6 (q0 := q0) (n0 := ρ 12) (n1 := ρ 11) (n2 := ρ 10) (n3 := ρ 9) (n4 := ρ 7) (n5 := ρ 6) (n6 := ρ 5) (n7 := ρ 4) (n8 := ρ 3) (n9 := ρ 2) (n10 := ρ 1) (n11 := ρ 0) (n12 := ρ 8) (H0 := η 0) (H1 := η 1) f21 f20 f19 f18 f17 f16 f15 f14 f13 f12 f11 f10 f9 f8 f7 f6 f5 f4 f3 f2 f1 f0
theorem q_37w_7 {q0 : Nat} {n0 n1 n2 n3 n4 n5 n6 n7 n8 n9 n10 n11 n12 n13 n14 n15 n16 n17 n18 : Int} {H0 H1 H2 : gH} (f0 : n0 ≤ 2147483647) (f1 : (-2147483648) ≤ n0) (f2 : n1 ≤ 2147483647) (f3 : (-2147483648) ≤ n1) (f4 : n2 ≤ 2147483647) (f5 : (-2147483648) ≤ n2) (f6 : n3 ≤ 2147483647) (f7 : (-2147483648) ≤ n3) (f8 : n4 ≤ 2147483647) (f9 : (-2147483648) ≤ n4) (f10 : n5 ≤ 2147483647) (f11 : (-2147483648) ≤ n5) (f12 : 0 ≤ n6) (f13 : n7 = 274) (f14 : n8 ≤ 2147483647) (f15 : (-2147483648) ≤ n8) (f16 : n9 ≤ 2147483647) (f17 : (-2147483648) ≤ n9) (f18 : 0 ≤ n10) (f19 : n11 = 274) (f20 : (hLe T0 H0 H1 ∧ hFr s_37.2.2.2.2 H0 H1 ∧ hWt T0 H1) ∧ ((Ab_37_92 n11 n10 n9 n8 n7 n6 n5 n4 n12 n3 n2 n1 n0 H0 H1 ∧ Bb_37_92 n11 n10 n9 n8 n7 n6 n5 n4 n12 n3 n2 n1 n0 H0 H1) ∧ True) ∧ some q0 = some (mub_37_92 n11 n10 n9 n8 n7 n6 n5 n4 n12 n3 n2 n1 n0 H0 H1)) (f21 : n0 < n4) (f22 : n13 = (-1000000)) (f23 : n0 < n2) (f24 : n14 = 276) (f25 : hK H1 (n7).toNat = 2) (f26 : n14 = hV H1 (n7).toNat 3) (f27 : n15 = 240) (f28 : n16 = w32 (n5 * n15)) (f29 : n17 = w32 (n16 + n0)) (f30 : (hLe T0 H1 H2 ∧ hFr s_201k748.2.2.2.2 H1 H2 ∧ ((0 : Int) = 0 → H2.length = H1.length) ∧ hWt T0 H2) ∧ postb_201vk748 n14 n17 n13 H1 H2) (f31 : n18 = w32 (n0 + 1)) : Bb_37_92 n11 n10 n9 n8 n7 n6 n5 n4 n12 n3 n2 n1 n18 H0 H2 := by
  unfold Bb_37_92
  intro E mu ly p1 p2 p3 p4
  have gb := f20.2.1.1.2
  unfold Bb_37_92 at gb
  obtain ⟨e1, e2, e3, e5, e6, e7, e8, v0, v1, v2, rows⟩ := gb E mu ly p1 p2 p3 p4
  obtain ⟨z, k25, kr, k1, k0, lm⟩ := ly
  have ly := LYm_k lm
  obtain ⟨sk, ⟨m0, m1, m2, m3⟩, fb, k3⟩ := lm
  have fb1 := fb m0
  have z1 := SNC_fr f20.1.1 f20.1.2.1 (by decide +kernel) z
  have e24 : hV H1 24 = hV H0 24 := fRow f20.1.2.1 24 (by decide +kernel)
  have kr1 := KR_le f20.1.1 kr
  have sn := sn_in fb m0 (t := n0) (by omega) (by omega)
  have b6 := e6
  rw [w32_id (by omega) (by omega)] at b6
  have wi := f28
  rw [f27, e2] at wi
  unfold w32 at wi
  have wj := f29
  unfold w32 at wj
  have xi : n17 = n0 := by omega
  have new : RWt E (lrW (hV H0 25) (recC H0 (n10).toNat)) n0 n13 := .inr ⟨fun w => by have := w.1; omega, by omega⟩
  have qp := f30.2
  unfold postb_201vk748 at qp
  have kr2 := kr1
  have rw_ := putQ_r (q := 276) (n := 9600) qp f24 kr2.1.2 (by omega)
  rw [show hV H1 276 = hV H1 276 from rfl] at rw_
  have wn := f31
  unfold w32 at wn
  have u0 : hV H2 275 0 = hV H1 275 0 := f30.1.2.1.1 275 0 (by decide +kernel)
  have u1 : hV H2 275 1 = hV H1 275 1 := f30.1.2.1.1 275 1 (by decide +kernel)
  have u2 : hV H2 275 2 = hV H1 275 2 := f30.1.2.1.1 275 2 (by decide +kernel)
  refine ⟨e1, e2, e3, e5, e6, e7, by omega, u0.trans v0, u1.trans v1, u2.trans v2, fun t ht => ?_⟩
  rw [rw_, uF_at]
  by_cases q : (t : Int) = n17
  · rw [if_pos q]
    rw [show (t : Int) = n0 by omega]
    exact new
  · rw [if_neg q]
    exact rows t (by omega)
def g_37w_92_1 : vG := ([(10, [18, 12], [], 1), (1201, [14, 17, 13], [1, 2], 0), (1, [17, 16, 12], [], 0), (3, [16, 6, 15], [], 0), (0, [15], [], 240), (20, [14, 4], [1], 3), (23, [4], [1], 2), (0, [14], [], 276), (42, [12, 10], [], 0), (0, [13], [], -1000000), (42, [12, 7], [], 0), (5000, [0, 1, 2, 3, 4, 5, 6, 7, 8, 9, 10, 11, 12], [0, 1], 92), (0, [0], [], 274), (51, [1], [], 0), (90, [2], [], -2147483648), (91, [2], [], 2147483647), (90, [3], [], -2147483648), (91, [3], [], 2147483647), (0, [4], [], 274), (51, [5], [], 0), (90, [6], [], -2147483648), (91, [6], [], 2147483647), (90, [7], [], -2147483648), (91, [7], [], 2147483647), (90, [9], [], -2147483648), (91, [9], [], 2147483647), (90, [10], [], -2147483648), (91, [10], [], 2147483647), (90, [11], [], -2147483648), (91, [11], [], 2147483647), (90, [12], [], -2147483648), (91, [12], [], 2147483647)], (4000, [4, 5, 6, 7, 8, 9, 10, 11, 18], [2], 92))
theorem c_37w_92_1 {q0 : Nat} : vOkm T0 (eN e_37 L_37w A_37 mu_37 n_37 B_37 (some q0)) 4 g_37w_92_1 := vOk_inI fun ρ η f0 f1 f2 f3 f4 f5 f6 f7 f8 f9 f10 f11 f12 f13 f14 f15 f16 f17 f18 f19 f20 f21 f22 f23 f24 f25 f26 f27 f28 f29 f30 f31 => q_37w_7 (q0 := q0) (n0 := ρ 12) (n1 := ρ 11) (n2 := ρ 10) (n3 := ρ 9) (n4 := ρ 7) (n5 := ρ 6) (n6 := ρ 5) (n7 := ρ 4) (n8 := ρ 3) (n9 := ρ 2) (n10 := ρ 1) (n11 := ρ 0) (n12 := ρ 8) (n13 := ρ 13) (n14 := ρ 14) (n15 := ρ 15) (n16 := ρ 16) (n17 := ρ 17) (n18 := ρ 18) (H0 := η 0) (H1 := η 1) (H2 := η 2) f31 f30 f29 f28 f27 f26 f25 f24 f23 f22 f21 f20 f19 f18 f17 f16 f15 f14 f13 f12 f11 f10 f9 f8 f7 f6 f5 f4 f3 f2 f1 f0
theorem q_37w_8 {q0 : Nat} {n0 n1 n2 n3 n4 n5 n6 n7 n8 n9 n10 n11 n12 n13 n14 n15 n16 n17 n18 n19 : Int} {H0 H1 H2 : gH} (f0 : n0 ≤ 2147483647) (f1 : (-2147483648) ≤ n0) (f2 : n1 ≤ 2147483647) (f3 : (-2147483648) ≤ n1) (f4 : n2 ≤ 2147483647) (f5 : (-2147483648) ≤ n2) (f6 : n3 ≤ 2147483647) (f7 : (-2147483648) ≤ n3) (f8 : n4 ≤ 2147483647) (f9 : (-2147483648) ≤ n4) (f10 : n5 ≤ 2147483647) (f11 : (-2147483648) ≤ n5) (f12 : 0 ≤ n6) (f13 : n7 = 274) (f14 : n8 ≤ 2147483647) (f15 : (-2147483648) ≤ n8) (f16 : n9 ≤ 2147483647) (f17 : (-2147483648) ≤ n9) (f18 : 0 ≤ n10) (f19 : n11 = 274) (f20 : (hLe T0 H0 H1 ∧ hFr s_37.2.2.2.2 H0 H1 ∧ hWt T0 H1) ∧ ((Ab_37_92 n11 n10 n9 n8 n7 n6 n5 n4 n12 n3 n2 n1 n0 H0 H1 ∧ Bb_37_92 n11 n10 n9 n8 n7 n6 n5 n4 n12 n3 n2 n1 n0 H0 H1) ∧ True) ∧ some q0 = some (mub_37_92 n11 n10 n9 n8 n7 n6 n5 n4 n12 n3 n2 n1 n0 H0 H1)) (f21 : n0 < n4) (f22 : n13 = (-1000000)) (f23 : n2 ≤ n0) (f24 : n14 = w32 (n0 - n2)) (f25 : n1 ≤ n14) (f26 : n15 = 276) (f27 : hK H1 (n7).toNat = 2) (f28 : n15 = hV H1 (n7).toNat 3) (f29 : n16 = 240) (f30 : n17 = w32 (n5 * n16)) (f31 : n18 = w32 (n17 + n0)) (f32 : (hLe T0 H1 H2 ∧ hFr s_201k748.2.2.2.2 H1 H2 ∧ ((0 : Int) = 0 → H2.length = H1.length) ∧ hWt T0 H2) ∧ postb_201vk748 n15 n18 n13 H1 H2) (f33 : n19 = w32 (n0 + 1)) : Bb_37_92 n11 n10 n9 n8 n7 n6 n5 n4 n12 n3 n2 n1 n19 H0 H2 := by
  unfold Bb_37_92
  intro E mu ly p1 p2 p3 p4
  have gb := f20.2.1.1.2
  unfold Bb_37_92 at gb
  obtain ⟨e1, e2, e3, e5, e6, e7, e8, v0, v1, v2, rows⟩ := gb E mu ly p1 p2 p3 p4
  obtain ⟨z, k25, kr, k1, k0, lm⟩ := ly
  have ly := LYm_k lm
  obtain ⟨sk, ⟨m0, m1, m2, m3⟩, fb, k3⟩ := lm
  have fb1 := fb m0
  have z1 := SNC_fr f20.1.1 f20.1.2.1 (by decide +kernel) z
  have e24 : hV H1 24 = hV H0 24 := fRow f20.1.2.1 24 (by decide +kernel)
  have kr1 := KR_le f20.1.1 kr
  have sn := sn_in fb m0 (t := n0) (by omega) (by omega)
  have b6 := e6
  rw [w32_id (by omega) (by omega)] at b6
  have wi := f30
  rw [f29, e2] at wi
  unfold w32 at wi
  have wj := f31
  unfold w32 at wj
  have xi : n18 = n0 := by omega
  have hs : n14 = snF (lrW (hV H0 25) (recC H0 (n10).toNat)) n0 := by
    rw [f24, e6]
    rfl
  have new : RWt E (lrW (hV H0 25) (recC H0 (n10).toNat)) n0 n13 := .inr ⟨fun w => by have := w.2.1; omega, by omega⟩
  have qp := f32.2
  unfold postb_201vk748 at qp
  have kr2 := kr1
  have rw_ := putQ_r (q := 276) (n := 9600) qp f26 kr2.1.2 (by omega)
  rw [show hV H1 276 = hV H1 276 from rfl] at rw_
  have wn := f33
  unfold w32 at wn
  have u0 : hV H2 275 0 = hV H1 275 0 := f32.1.2.1.1 275 0 (by decide +kernel)
  have u1 : hV H2 275 1 = hV H1 275 1 := f32.1.2.1.1 275 1 (by decide +kernel)
  have u2 : hV H2 275 2 = hV H1 275 2 := f32.1.2.1.1 275 2 (by decide +kernel)
  refine ⟨e1, e2, e3, e5, e6, e7, by omega, u0.trans v0, u1.trans v1, u2.trans v2, fun t ht => ?_⟩
  rw [rw_, uF_at]
  by_cases q : (t : Int) = n18
  · rw [if_pos q]
    rw [show (t : Int) = n0 by omega]
    exact new
  · rw [if_neg q]
    exact rows t (by omega)
def g_37w_92_2 : vG := ([(10, [19, 12], [], 1), (1201, [15, 18, 13], [1, 2], 0), (1, [18, 17, 12], [], 0), (3, [17, 6, 16], [], 0), (0, [16], [], 240), (20, [15, 4], [1], 3), (23, [4], [1], 2), (0, [15], [], 276), (43, [14, 11], [], 0), (2, [14, 12, 10], [], 0), (43, [12, 10], [], 0), (0, [13], [], -1000000), (42, [12, 7], [], 0), (5000, [0, 1, 2, 3, 4, 5, 6, 7, 8, 9, 10, 11, 12], [0, 1], 92), (0, [0], [], 274), (51, [1], [], 0), (90, [2], [], -2147483648), (91, [2], [], 2147483647), (90, [3], [], -2147483648), (91, [3], [], 2147483647), (0, [4], [], 274), (51, [5], [], 0), (90, [6], [], -2147483648), (91, [6], [], 2147483647), (90, [7], [], -2147483648), (91, [7], [], 2147483647), (90, [9], [], -2147483648), (91, [9], [], 2147483647), (90, [10], [], -2147483648), (91, [10], [], 2147483647), (90, [11], [], -2147483648), (91, [11], [], 2147483647), (90, [12], [], -2147483648), (91, [12], [], 2147483647)], (4000, [4, 5, 6, 7, 8, 9, 10, 11, 19], [2], 92))
theorem c_37w_92_2 {q0 : Nat} : vOkm T0 (eN e_37 L_37w A_37 mu_37 n_37 B_37 (some q0)) 4 g_37w_92_2 := vOk_inI fun ρ η f0 f1 f2 f3 f4 f5 f6 f7 f8 f9 f10 f11 f12 f13 f14 f15 f16 f17 f18 f19 f20 f21 f22 f23 f24 f25 f26 f27 f28 f29 f30 f31 f32 f33 => q_37w_8 (q0 := q0) (n0 := ρ 12) (n1 := ρ 11) (n2 := ρ 10) (n3 := ρ 9) (n4 := ρ 7) (n5 := ρ 6) (n6 := ρ 5) (n7 := ρ 4) (n8 := ρ 3) (n9 := ρ 2) (n10 := ρ 1) (n11 := ρ 0) (n12 := ρ 8) (n13 := ρ 13) (n14 := ρ 14) (n15 := ρ 15) (n16 := ρ 16) (n17 := ρ 17) (n18 := ρ 18) (n19 := ρ 19) (H0 := η 0) (H1 := η 1) (H2 := η 2) f33 f32 f31 f30 f29 f28 f27 f26 f25 f24 f23 f22 f21 f20 f19 f18 f17 f16 f15 f14 f13 f12 f11 f10 f9 f8 f7 f6 f5 f4 f3 f2 f1 f0
theorem q_37w_9 {q0 : Nat} {n0 n1 n2 n3 n4 n5 n6 n7 n8 n9 n10 n11 n12 n13 n14 n15 n16 n17 n18 n19 n20 : Int} {H0 H1 H2 : gH} (f0 : n0 ≤ 2147483647) (f1 : (-2147483648) ≤ n0) (f2 : n1 ≤ 2147483647) (f3 : (-2147483648) ≤ n1) (f4 : n2 ≤ 2147483647) (f5 : (-2147483648) ≤ n2) (f6 : n3 ≤ 2147483647) (f7 : (-2147483648) ≤ n3) (f8 : n4 ≤ 2147483647) (f9 : (-2147483648) ≤ n4) (f10 : n5 ≤ 2147483647) (f11 : (-2147483648) ≤ n5) (f12 : 0 ≤ n6) (f13 : n7 = 274) (f14 : n8 ≤ 2147483647) (f15 : (-2147483648) ≤ n8) (f16 : n9 ≤ 2147483647) (f17 : (-2147483648) ≤ n9) (f18 : 0 ≤ n10) (f19 : n11 = 274) (f20 : (hLe T0 H0 H1 ∧ hFr s_37.2.2.2.2 H0 H1 ∧ hWt T0 H1) ∧ ((Ab_37_92 n11 n10 n9 n8 n7 n6 n5 n4 n12 n3 n2 n1 n0 H0 H1 ∧ Bb_37_92 n11 n10 n9 n8 n7 n6 n5 n4 n12 n3 n2 n1 n0 H0 H1) ∧ True) ∧ some q0 = some (mub_37_92 n11 n10 n9 n8 n7 n6 n5 n4 n12 n3 n2 n1 n0 H0 H1)) (f21 : n0 < n4) (f22 : n13 = (-1000000)) (f23 : n2 ≤ n0) (f24 : n14 = w32 (n0 - n2)) (f25 : n14 < n1) (f26 : n15 ≤ 2147483647) (f27 : (-2147483648) ≤ n15) (f28 : hK H1 (n6).toNat = 1) (f29 : n15 = hV H1 (n6).toNat 13) (f30 : n15 ≤ 0) (f31 : n16 = 276) (f32 : hK H1 (n7).toNat = 2) (f33 : n16 = hV H1 (n7).toNat 3) (f34 : n17 = 240) (f35 : n18 = w32 (n5 * n17)) (f36 : n19 = w32 (n18 + n0)) (f37 : (hLe T0 H1 H2 ∧ hFr s_201k748.2.2.2.2 H1 H2 ∧ ((0 : Int) = 0 → H2.length = H1.length) ∧ hWt T0 H2) ∧ postb_201vk748 n16 n19 n13 H1 H2) (f38 : n20 = w32 (n0 + 1)) : Bb_37_92 n11 n10 n9 n8 n7 n6 n5 n4 n12 n3 n2 n1 n20 H0 H2 := by
  unfold Bb_37_92
  intro E mu ly p1 p2 p3 p4
  have gb := f20.2.1.1.2
  unfold Bb_37_92 at gb
  obtain ⟨e1, e2, e3, e5, e6, e7, e8, v0, v1, v2, rows⟩ := gb E mu ly p1 p2 p3 p4
  obtain ⟨z, k25, kr, k1, k0, lm⟩ := ly
  have ly := LYm_k lm
  obtain ⟨sk, ⟨m0, m1, m2, m3⟩, fb, k3⟩ := lm
  have fb1 := fb m0
  have z1 := SNC_fr f20.1.1 f20.1.2.1 (by decide +kernel) z
  have e24 : hV H1 24 = hV H0 24 := fRow f20.1.2.1 24 (by decide +kernel)
  have kr1 := KR_le f20.1.1 kr
  have sn := sn_in fb m0 (t := n0) (by omega) (by omega)
  have b6 := e6
  rw [w32_id (by omega) (by omega)] at b6
  have wi := f35
  rw [f34, e2] at wi
  unfold w32 at wi
  have wj := f36
  unfold w32 at wj
  have xi : n19 = n0 := by omega
  have el := lrW_at (h := H0) (o := (n10).toNat) (mk := hV H0 25) k0
  have g_lo : (lrW (hV H0 25) (recC H0 (n10).toNat)).2.2.2.2.2.2.2 = hV H0 (n10).toNat 13 := congrArg (fun y : LR => y.2.2.2.2.2.2.2) el
  have x29 : n15 = (lrW (hV H0 25) (recC H0 (n10).toNat)).2.2.2.2.2.2.2 := by
    rw [g_lo]
    have w := f29
    rw [e1] at w
    exact w.trans (f20.1.2.1.2.2 _ 1 k1 rfl 13 (by decide +kernel))
  exfalso
  omega
def g_37w_92_3 : vG := ([(10, [20, 12], [], 1), (1201, [16, 19, 13], [1, 2], 0), (1, [19, 18, 12], [], 0), (3, [18, 6, 17], [], 0), (0, [17], [], 240), (20, [16, 4], [1], 3), (23, [4], [1], 2), (0, [16], [], 276), (35, [15], [], 0), (20, [15, 5], [1], 13), (23, [5], [1], 1), (90, [15], [], -2147483648), (91, [15], [], 2147483647), (42, [14, 11], [], 0), (2, [14, 12, 10], [], 0), (43, [12, 10], [], 0), (0, [13], [], -1000000), (42, [12, 7], [], 0), (5000, [0, 1, 2, 3, 4, 5, 6, 7, 8, 9, 10, 11, 12], [0, 1], 92), (0, [0], [], 274), (51, [1], [], 0), (90, [2], [], -2147483648), (91, [2], [], 2147483647), (90, [3], [], -2147483648), (91, [3], [], 2147483647), (0, [4], [], 274), (51, [5], [], 0), (90, [6], [], -2147483648), (91, [6], [], 2147483647), (90, [7], [], -2147483648), (91, [7], [], 2147483647), (90, [9], [], -2147483648), (91, [9], [], 2147483647), (90, [10], [], -2147483648), (91, [10], [], 2147483647), (90, [11], [], -2147483648), (91, [11], [], 2147483647), (90, [12], [], -2147483648), (91, [12], [], 2147483647)], (4000, [4, 5, 6, 7, 8, 9, 10, 11, 20], [2], 92))
theorem c_37w_92_3 {q0 : Nat} : vOkm T0 (eN e_37 L_37w A_37 mu_37 n_37 B_37 (some q0)) 4 g_37w_92_3 := vOk_inI fun ρ η f0 f1 f2 f3 f4 f5 f6 f7 f8 f9 f10 f11 f12 f13 f14 f15 f16 f17 f18 f19 f20 f21 f22 f23 f24 f25 f26 f27 f28 f29 f30 f31 f32 f33 f34 f35 f36 f37 f38 => q_37w_9 (q0 := q0) (n0 := ρ 12) (n1 := ρ 11) (n2 := ρ 10) (n3 := ρ 9) (n4 := ρ 7) (n5 := ρ 6) (n6 := ρ 5) (n7 := ρ 4) (n8 := ρ 3) (n9 := ρ 2) (n10 := ρ 1) (n11 := ρ 0) (n12 := ρ 8) (n13 := ρ 13) (n14 := ρ 14) (n15 := ρ 15) (n16 := ρ 16) (n17 := ρ 17) (n18 := ρ 18) (n19 := ρ 19) (n20 := ρ 20) (H0 := η 0) (H1 := η 1) (H2 := η 2) f38 f37 f36 f35 f34 f33 f32 f31 f30 f29 f28 f27 f26 f25 f24 f23 f22 f21 f20 f19 f18 f17 f16 f15 f14 f13 f12 f11 f10 f9 f8 f7 f6 f5 f4 f3 f2 f1 f0
theorem q_37w_10 {q0 : Nat} {n0 n1 n2 n3 n4 n5 n6 n7 n8 n9 n10 n11 n12 n13 n14 n15 n16 n17 n18 n19 n20 n21 n22 n23 n24 n25 n26 n27 n28 n29 n30 n31 n32 : Int} {H0 H1 H2 : gH} (f0 : n0 ≤ 2147483647) (f1 : (-2147483648) ≤ n0) (f2 : n1 ≤ 2147483647) (f3 : (-2147483648) ≤ n1) (f4 : n2 ≤ 2147483647) (f5 : (-2147483648) ≤ n2) (f6 : n3 ≤ 2147483647) (f7 : (-2147483648) ≤ n3) (f8 : n4 ≤ 2147483647) (f9 : (-2147483648) ≤ n4) (f10 : n5 ≤ 2147483647) (f11 : (-2147483648) ≤ n5) (f12 : 0 ≤ n6) (f13 : n7 = 274) (f14 : n8 ≤ 2147483647) (f15 : (-2147483648) ≤ n8) (f16 : n9 ≤ 2147483647) (f17 : (-2147483648) ≤ n9) (f18 : 0 ≤ n10) (f19 : n11 = 274) (f20 : (hLe T0 H0 H1 ∧ hFr s_37.2.2.2.2 H0 H1 ∧ hWt T0 H1) ∧ ((Ab_37_92 n11 n10 n9 n8 n7 n6 n5 n4 n12 n3 n2 n1 n0 H0 H1 ∧ Bb_37_92 n11 n10 n9 n8 n7 n6 n5 n4 n12 n3 n2 n1 n0 H0 H1) ∧ True) ∧ some q0 = some (mub_37_92 n11 n10 n9 n8 n7 n6 n5 n4 n12 n3 n2 n1 n0 H0 H1)) (f21 : n0 < n4) (f22 : n13 = (-1000000)) (f23 : n2 ≤ n0) (f24 : n14 = w32 (n0 - n2)) (f25 : n14 < n1) (f26 : n15 ≤ 2147483647) (f27 : (-2147483648) ≤ n15) (f28 : hK H1 (n6).toNat = 1) (f29 : n15 = hV H1 (n6).toNat 13) (f30 : 0 < n15) (f31 : n16 = 4) (f32 : n17 ≤ 2147483647) (f33 : (-2147483648) ≤ n17) (f34 : hK H1 (n6).toNat = 1) (f35 : n17 = hV H1 (n6).toNat 8) (f36 : n18 = w32 (n16 * n17)) (f37 : n19 = w32 (n0 - n2)) (f38 : n20 ≤ 2147483647) (f39 : (-2147483648) ≤ n20) (f40 : hK H1 (n6).toNat = 1) (f41 : n20 = hV H1 (n6).toNat 12) (f42 : n21 = w32 (n19 * n20)) (f43 : n22 ≤ 2147483647) (f44 : (-2147483648) ≤ n22) (f45 : hK H1 (n6).toNat = 1) (f46 : n22 = hV H1 (n6).toNat 13) (f47 : n23 = o32 (fun x y => x / y) n21 n22) (f48 : n24 = w32 (n18 + n23)) (f49 : n3 = 0) (f50 : n25 = 275) (f51 : hK H1 (n7).toNat = 2) (f52 : n25 = hV H1 (n7).toNat 2) (f53 : n26 ≤ 2147483647) (f54 : (-2147483648) ≤ n26) (f55 : hK H1 (n25).toNat = 10) (f56 : n26 = hV H1 (n25).toNat 2) (f57 : n26 ≤ n24) (f58 : n27 = (-1000000)) (f59 : n28 = 276) (f60 : hK H1 (n7).toNat = 2) (f61 : n28 = hV H1 (n7).toNat 3) (f62 : n29 = 240) (f63 : n30 = w32 (n5 * n29)) (f64 : n31 = w32 (n30 + n0)) (f65 : (hLe T0 H1 H2 ∧ hFr s_201k748.2.2.2.2 H1 H2 ∧ ((0 : Int) = 0 → H2.length = H1.length) ∧ hWt T0 H2) ∧ postb_201vk748 n28 n31 n27 H1 H2) (f66 : n32 = w32 (n0 + 1)) : Bb_37_92 n11 n10 n9 n8 n7 n6 n5 n4 n12 n3 n2 n1 n32 H0 H2 := by
  unfold Bb_37_92
  intro E mu ly p1 p2 p3 p4
  have gb := f20.2.1.1.2
  unfold Bb_37_92 at gb
  obtain ⟨e1, e2, e3, e5, e6, e7, e8, v0, v1, v2, rows⟩ := gb E mu ly p1 p2 p3 p4
  obtain ⟨z, k25, kr, k1, k0, lm⟩ := ly
  have ly := LYm_k lm
  obtain ⟨sk, ⟨m0, m1, m2, m3⟩, fb, k3⟩ := lm
  have fb1 := fb m0
  have z1 := SNC_fr f20.1.1 f20.1.2.1 (by decide +kernel) z
  have e24 : hV H1 24 = hV H0 24 := fRow f20.1.2.1 24 (by decide +kernel)
  have kr1 := KR_le f20.1.1 kr
  have sn := sn_in fb m0 (t := n0) (by omega) (by omega)
  have b6 := e6
  rw [w32_id (by omega) (by omega)] at b6
  have wi := f63
  rw [f62, e2] at wi
  unfold w32 at wi
  have wj := f64
  unfold w32 at wj
  have xi : n31 = n0 := by omega
  have hs : n14 = snF (lrW (hV H0 25) (recC H0 (n10).toNat)) n0 := by
    rw [f24, e6]
    rfl
  have el := lrW_at (h := H0) (o := (n10).toNat) (mk := hV H0 25) k0
  have g_fm : (lrW (hV H0 25) (recC H0 (n10).toNat)).2.2.2.1 = hV H0 (n10).toNat 8 := congrArg (fun y : LR => y.2.2.2.1) el
  have g_up : (lrW (hV H0 25) (recC H0 (n10).toNat)).2.2.2.2.2.2.1 = hV H0 (n10).toNat 12 := congrArg (fun y : LR => y.2.2.2.2.2.2.1) el
  have g_lo : (lrW (hV H0 25) (recC H0 (n10).toNat)).2.2.2.2.2.2.2 = hV H0 (n10).toNat 13 := congrArg (fun y : LR => y.2.2.2.2.2.2.2) el
  have x29 : n15 = (lrW (hV H0 25) (recC H0 (n10).toNat)).2.2.2.2.2.2.2 := by
    rw [g_lo]
    have w := f29
    rw [e1] at w
    exact w.trans (f20.1.2.1.2.2 _ 1 k1 rfl 13 (by decide +kernel))
  have x35 : n17 = (lrW (hV H0 25) (recC H0 (n10).toNat)).2.2.2.1 := by
    rw [g_fm]
    have w := f35
    rw [e1] at w
    exact w.trans (f20.1.2.1.2.2 _ 1 k1 rfl 8 (by decide +kernel))
  have x41 : n20 = (lrW (hV H0 25) (recC H0 (n10).toNat)).2.2.2.2.2.2.1 := by
    rw [g_up]
    have w := f41
    rw [e1] at w
    exact w.trans (f20.1.2.1.2.2 _ 1 k1 rfl 12 (by decide +kernel))
  have x46 : n22 = (lrW (hV H0 25) (recC H0 (n10).toNat)).2.2.2.2.2.2.2 := by
    rw [g_lo]
    have w := f46
    rw [e1] at w
    exact w.trans (f20.1.2.1.2.2 _ 1 k1 rfl 13 (by decide +kernel))
  have hs2 : n19 = snF (lrW (hV H0 25) (recC H0 (n10).toNat)) n0 := by
    rw [f37, e6]
    rfl
  have hi : n24 = lyI (lrW (hV H0 25) (recC H0 (n10).toNat)) n0 := by
    unfold lyI
    rw [← x35, ← x41, ← x46, ← hs2, f48, f36, f31, f47, f42]
  have hz : n26 = LN E (lrW (hV H0 25) (recC H0 (n10).toNat)).2.1 := by
    have w := f56
    rw [f50] at w
    exact w.trans v2
  have new : RWt E (lrW (hV H0 25) (recC H0 (n10).toNat)) n0 n27 := .inr ⟨fun w => by have := w.2.2; omega, by omega⟩
  have qp := f65.2
  unfold postb_201vk748 at qp
  have kr2 := kr1
  have rw_ := putQ_r (q := 276) (n := 9600) qp f59 kr2.1.2 (by omega)
  rw [show hV H1 276 = hV H1 276 from rfl] at rw_
  have wn := f66
  unfold w32 at wn
  have u0 : hV H2 275 0 = hV H1 275 0 := f65.1.2.1.1 275 0 (by decide +kernel)
  have u1 : hV H2 275 1 = hV H1 275 1 := f65.1.2.1.1 275 1 (by decide +kernel)
  have u2 : hV H2 275 2 = hV H1 275 2 := f65.1.2.1.1 275 2 (by decide +kernel)
  refine ⟨e1, e2, e3, e5, e6, e7, by omega, u0.trans v0, u1.trans v1, u2.trans v2, fun t ht => ?_⟩
  rw [rw_, uF_at]
  by_cases q : (t : Int) = n31
  · rw [if_pos q]
    rw [show (t : Int) = n0 by omega]
    exact new
  · rw [if_neg q]
    exact rows t (by omega)
def g_37w_92_4 : vG := ([(10, [32, 12], [], 1), (1201, [28, 31, 27], [1, 2], 0), (1, [31, 30, 12], [], 0), (3, [30, 6, 29], [], 0), (0, [29], [], 240), (20, [28, 4], [1], 3), (23, [4], [1], 2), (0, [28], [], 276), (0, [27], [], -1000000), (43, [24, 26], [], 0), (20, [26, 25], [1], 2), (23, [25], [1], 10), (90, [26], [], -2147483648), (91, [26], [], 2147483647), (20, [25, 4], [1], 2), (23, [4], [1], 2), (0, [25], [], 275), (30, [9], [], 0), (1, [24, 18, 23], [], 0), (11, [23, 21, 22], [], 0), (20, [22, 5], [1], 13), (23, [5], [1], 1), (90, [22], [], -2147483648), (91, [22], [], 2147483647), (3, [21, 19, 20], [], 0), (20, [20, 5], [1], 12), (23, [5], [1], 1), (90, [20], [], -2147483648), (91, [20], [], 2147483647), (2, [19, 12, 10], [], 0), (3, [18, 16, 17], [], 0), (20, [17, 5], [1], 8), (23, [5], [1], 1), (90, [17], [], -2147483648), (91, [17], [], 2147483647), (0, [16], [], 4), (34, [15], [], 0), (20, [15, 5], [1], 13), (23, [5], [1], 1), (90, [15], [], -2147483648), (91, [15], [], 2147483647), (42, [14, 11], [], 0), (2, [14, 12, 10], [], 0), (43, [12, 10], [], 0), (0, [13], [], -1000000), (42, [12, 7], [], 0), (5000, [0, 1, 2, 3, 4, 5, 6, 7, 8, 9, 10, 11, 12], [0, 1], 92), (0, [0], [], 274), (51, [1], [], 0), (90, [2], [], -2147483648), (91, [2], [], 2147483647), (90, [3], [], -2147483648), (91, [3], [], 2147483647), (0, [4], [], 274), (51, [5], [], 0), (90, [6], [], -2147483648), (91, [6], [], 2147483647), (90, [7], [], -2147483648), (91, [7], [], 2147483647), (90, [9], [], -2147483648), (91, [9], [], 2147483647), (90, [10], [], -2147483648), (91, [10], [], 2147483647), (90, [11], [], -2147483648), (91, [11], [], 2147483647), (90, [12], [], -2147483648), (91, [12], [], 2147483647)], (4000, [4, 5, 6, 7, 8, 9, 10, 11, 32], [2], 92))
theorem c_37w_92_4 {q0 : Nat} : vOkm T0 (eN e_37 L_37w A_37 mu_37 n_37 B_37 (some q0)) 4 g_37w_92_4 := vOk_inI fun ρ η f0 f1 f2 f3 f4 f5 f6 f7 f8 f9 f10 f11 f12 f13 f14 f15 f16 f17 f18 f19 f20 f21 f22 f23 f24 f25 f26 f27 f28 f29 f30 f31 f32 f33 f34 f35 f36 f37 f38 f39 f40 f41 f42 f43 f44 f45 f46 f47 f48 f49 f50 f51 f52 f53 f54 f55 f56 f57 f58 f59 f60 f61 f62 f63 f64 f65 f66 => q_37w_10 (q0 := q0) (n0 := ρ 12) (n1 := ρ 11) (n2 := ρ 10) (n3 := ρ 9) (n4 := ρ 7) (n5 := ρ 6) (n6 := ρ 5) (n7 := ρ 4) (n8 := ρ 3) (n9 := ρ 2) (n10 := ρ 1) (n11 := ρ 0) (n12 := ρ 8) (n13 := ρ 13) (n14 := ρ 14) (n15 := ρ 15) (n16 := ρ 16) (n17 := ρ 17) (n18 := ρ 18) (n19 := ρ 19) (n20 := ρ 20) (n21 := ρ 21) (n22 := ρ 22) (n23 := ρ 23) (n24 := ρ 24) (n25 := ρ 25) (n26 := ρ 26) (n27 := ρ 27) (n28 := ρ 28) (n29 := ρ 29) (n30 := ρ 30) (n31 := ρ 31) (n32 := ρ 32) (H0 := η 0) (H1 := η 1) (H2 := η 2) f66 f65 f64 f63 f62 f61 f60 f59 f58 f57 f56 f55 f54 f53 f52 f51 f50 f49 f48 f47 f46 f45 f44 f43 f42 f41 f40 f39 f38 f37 f36 f35 f34 f33 f32 f31 f30 f29 f28 f27 f26 f25 f24 f23 f22 f21 f20 f19 f18 f17 f16 f15 f14 f13 f12 f11 f10 f9 f8 f7 f6 f5 f4 f3 f2 f1 f0
theorem q_37w_11 {q0 : Nat} {n0 n1 n2 n3 n4 n5 n6 n7 n8 n9 n10 n11 n12 n13 n14 n15 n16 n17 n18 n19 n20 n21 n22 n23 n24 n25 n26 n27 n28 n29 n30 n31 n32 n33 : Int} {H0 H1 H2 H3 : gH} (f0 : n0 ≤ 2147483647) (f1 : (-2147483648) ≤ n0) (f2 : n1 ≤ 2147483647) (f3 : (-2147483648) ≤ n1) (f4 : n2 ≤ 2147483647) (f5 : (-2147483648) ≤ n2) (f6 : n3 ≤ 2147483647) (f7 : (-2147483648) ≤ n3) (f8 : n4 ≤ 2147483647) (f9 : (-2147483648) ≤ n4) (f10 : n5 ≤ 2147483647) (f11 : (-2147483648) ≤ n5) (f12 : 0 ≤ n6) (f13 : n7 = 274) (f14 : n8 ≤ 2147483647) (f15 : (-2147483648) ≤ n8) (f16 : n9 ≤ 2147483647) (f17 : (-2147483648) ≤ n9) (f18 : 0 ≤ n10) (f19 : n11 = 274) (f20 : (hLe T0 H0 H1 ∧ hFr s_37.2.2.2.2 H0 H1 ∧ hWt T0 H1) ∧ ((Ab_37_92 n11 n10 n9 n8 n7 n6 n5 n4 n12 n3 n2 n1 n0 H0 H1 ∧ Bb_37_92 n11 n10 n9 n8 n7 n6 n5 n4 n12 n3 n2 n1 n0 H0 H1) ∧ True) ∧ some q0 = some (mub_37_92 n11 n10 n9 n8 n7 n6 n5 n4 n12 n3 n2 n1 n0 H0 H1)) (f21 : n0 < n4) (f22 : n13 = (-1000000)) (f23 : n2 ≤ n0) (f24 : n14 = w32 (n0 - n2)) (f25 : n14 < n1) (f26 : n15 ≤ 2147483647) (f27 : (-2147483648) ≤ n15) (f28 : hK H1 (n6).toNat = 1) (f29 : n15 = hV H1 (n6).toNat 13) (f30 : 0 < n15) (f31 : n16 = 4) (f32 : n17 ≤ 2147483647) (f33 : (-2147483648) ≤ n17) (f34 : hK H1 (n6).toNat = 1) (f35 : n17 = hV H1 (n6).toNat 8) (f36 : n18 = w32 (n16 * n17)) (f37 : n19 = w32 (n0 - n2)) (f38 : n20 ≤ 2147483647) (f39 : (-2147483648) ≤ n20) (f40 : hK H1 (n6).toNat = 1) (f41 : n20 = hV H1 (n6).toNat 12) (f42 : n21 = w32 (n19 * n20)) (f43 : n22 ≤ 2147483647) (f44 : (-2147483648) ≤ n22) (f45 : hK H1 (n6).toNat = 1) (f46 : n22 = hV H1 (n6).toNat 13) (f47 : n23 = o32 (fun x y => x / y) n21 n22) (f48 : n24 = w32 (n18 + n23)) (f49 : n3 = 0) (f50 : n25 = 275) (f51 : hK H1 (n7).toNat = 2) (f52 : n25 = hV H1 (n7).toNat 2) (f53 : n26 ≤ 2147483647) (f54 : (-2147483648) ≤ n26) (f55 : hK H1 (n25).toNat = 10) (f56 : n26 = hV H1 (n25).toNat 2) (f57 : n24 < n26) (f58 : n27 = 275) (f59 : hK H1 (n7).toNat = 2) (f60 : n27 = hV H1 (n7).toNat 2) (f61 : n28 ≤ 2147483647) (f62 : (-2147483648) ≤ n28) (f63 : (hLe T0 H1 H2 ∧ hFr s_153.2.2.2.2 H1 H2 ∧ ((0 : Int) = 0 → H2.length = H1.length) ∧ hWt T0 H2) ∧ (True ∧ nb_153 n28 n27 n24 H1 H2)) (f64 : n29 = 276) (f65 : hK H2 (n7).toNat = 2) (f66 : n29 = hV H2 (n7).toNat 3) (f67 : n30 = 240) (f68 : n31 = w32 (n5 * n30)) (f69 : n32 = w32 (n31 + n0)) (f70 : (hLe T0 H2 H3 ∧ hFr s_201k748.2.2.2.2 H2 H3 ∧ ((0 : Int) = 0 → H3.length = H2.length) ∧ hWt T0 H3) ∧ postb_201vk748 n29 n32 n28 H2 H3) (f71 : n33 = w32 (n0 + 1)) : Bb_37_92 n11 n10 n9 n8 n7 n6 n5 n4 n12 n3 n2 n1 n33 H0 H3 := by
  unfold Bb_37_92
  intro E mu ly p1 p2 p3 p4
  have gb := f20.2.1.1.2
  unfold Bb_37_92 at gb
  obtain ⟨e1, e2, e3, e5, e6, e7, e8, v0, v1, v2, rows⟩ := gb E mu ly p1 p2 p3 p4
  obtain ⟨z, k25, kr, k1, k0, lm⟩ := ly
  have ly := LYm_k lm
  obtain ⟨sk, ⟨m0, m1, m2, m3⟩, fb, k3⟩ := lm
  have fb1 := fb m0
  have z1 := SNC_fr f20.1.1 f20.1.2.1 (by decide +kernel) z
  have e24 : hV H1 24 = hV H0 24 := fRow f20.1.2.1 24 (by decide +kernel)
  have kr1 := KR_le f20.1.1 kr
  have sn := sn_in fb m0 (t := n0) (by omega) (by omega)
  have b6 := e6
  rw [w32_id (by omega) (by omega)] at b6
  have wi := f68
  rw [f67, e2] at wi
  unfold w32 at wi
  have wj := f69
  unfold w32 at wj
  have xi : n32 = n0 := by omega
  have hs : n14 = snF (lrW (hV H0 25) (recC H0 (n10).toNat)) n0 := by
    rw [f24, e6]
    rfl
  have el := lrW_at (h := H0) (o := (n10).toNat) (mk := hV H0 25) k0
  have g_fm : (lrW (hV H0 25) (recC H0 (n10).toNat)).2.2.2.1 = hV H0 (n10).toNat 8 := congrArg (fun y : LR => y.2.2.2.1) el
  have g_up : (lrW (hV H0 25) (recC H0 (n10).toNat)).2.2.2.2.2.2.1 = hV H0 (n10).toNat 12 := congrArg (fun y : LR => y.2.2.2.2.2.2.1) el
  have g_lo : (lrW (hV H0 25) (recC H0 (n10).toNat)).2.2.2.2.2.2.2 = hV H0 (n10).toNat 13 := congrArg (fun y : LR => y.2.2.2.2.2.2.2) el
  have x29 : n15 = (lrW (hV H0 25) (recC H0 (n10).toNat)).2.2.2.2.2.2.2 := by
    rw [g_lo]
    have w := f29
    rw [e1] at w
    exact w.trans (f20.1.2.1.2.2 _ 1 k1 rfl 13 (by decide +kernel))
  have x35 : n17 = (lrW (hV H0 25) (recC H0 (n10).toNat)).2.2.2.1 := by
    rw [g_fm]
    have w := f35
    rw [e1] at w
    exact w.trans (f20.1.2.1.2.2 _ 1 k1 rfl 8 (by decide +kernel))
  have x41 : n20 = (lrW (hV H0 25) (recC H0 (n10).toNat)).2.2.2.2.2.2.1 := by
    rw [g_up]
    have w := f41
    rw [e1] at w
    exact w.trans (f20.1.2.1.2.2 _ 1 k1 rfl 12 (by decide +kernel))
  have x46 : n22 = (lrW (hV H0 25) (recC H0 (n10).toNat)).2.2.2.2.2.2.2 := by
    rw [g_lo]
    have w := f46
    rw [e1] at w
    exact w.trans (f20.1.2.1.2.2 _ 1 k1 rfl 13 (by decide +kernel))
  have hs2 : n19 = snF (lrW (hV H0 25) (recC H0 (n10).toNat)) n0 := by
    rw [f37, e6]
    rfl
  have hi : n24 = lyI (lrW (hV H0 25) (recC H0 (n10).toNat)) n0 := by
    unfold lyI
    rw [← x35, ← x41, ← x46, ← hs2, f48, f36, f31, f47, f42]
  have hz : n26 = LN E (lrW (hV H0 25) (recC H0 (n10).toNat)).2.1 := by
    have w := f56
    rw [f50] at w
    exact w.trans v2
  have qs := f63.2.2
  unfold nb_153 at qs
  rw [f58, hi] at qs
  have qs := qs E ((lrW (hV H0 25) (recC H0 (n10).toNat)).2.1) z1 m1 m2 ly.1 (v0.trans (congrFun e24 _).symm) v1 v2
  have new : RWt E (lrW (hV H0 25) (recC H0 (n10).toNat)) n0 n28 := .inl ⟨⟨by omega, by omega, by omega⟩, qs⟩
  have qp := f70.2
  unfold postb_201vk748 at qp
  have kr2 := (KR_le f63.1.1 kr1)
  have rw_ := putQ_r (q := 276) (n := 9600) qp f64 kr2.1.2 (by omega)
  rw [show hV H2 276 = hV H1 276 from fRow f63.1.2.1 276 (by decide +kernel)] at rw_
  have wn := f71
  unfold w32 at wn
  have u0 : hV H3 275 0 = hV H1 275 0 := (f70.1.2.1.1 275 0 (by decide +kernel)).trans (f63.1.2.1.1 275 0 (by decide +kernel))
  have u1 : hV H3 275 1 = hV H1 275 1 := (f70.1.2.1.1 275 1 (by decide +kernel)).trans (f63.1.2.1.1 275 1 (by decide +kernel))
  have u2 : hV H3 275 2 = hV H1 275 2 := (f70.1.2.1.1 275 2 (by decide +kernel)).trans (f63.1.2.1.1 275 2 (by decide +kernel))
  refine ⟨e1, e2, e3, e5, e6, e7, by omega, u0.trans v0, u1.trans v1, u2.trans v2, fun t ht => ?_⟩
  rw [rw_, uF_at]
  by_cases q : (t : Int) = n32
  · rw [if_pos q]
    rw [show (t : Int) = n0 by omega]
    exact new
  · rw [if_neg q]
    exact rows t (by omega)
def g_37w_92_5 : vG := ([(10, [33, 12], [], 1), (1201, [29, 32, 28], [2, 3], 0), (1, [32, 31, 12], [], 0), (3, [31, 6, 30], [], 0), (0, [30], [], 240), (20, [29, 4], [2], 3), (23, [4], [2], 2), (0, [29], [], 276), (1153, [28, 27, 24], [1, 2], 0), (90, [28], [], -2147483648), (91, [28], [], 2147483647), (20, [27, 4], [1], 2), (23, [4], [1], 2), (0, [27], [], 275), (42, [24, 26], [], 0), (20, [26, 25], [1], 2), (23, [25], [1], 10), (90, [26], [], -2147483648), (91, [26], [], 2147483647), (20, [25, 4], [1], 2), (23, [4], [1], 2), (0, [25], [], 275), (30, [9], [], 0), (1, [24, 18, 23], [], 0), (11, [23, 21, 22], [], 0), (20, [22, 5], [1], 13), (23, [5], [1], 1), (90, [22], [], -2147483648), (91, [22], [], 2147483647), (3, [21, 19, 20], [], 0), (20, [20, 5], [1], 12), (23, [5], [1], 1), (90, [20], [], -2147483648), (91, [20], [], 2147483647), (2, [19, 12, 10], [], 0), (3, [18, 16, 17], [], 0), (20, [17, 5], [1], 8), (23, [5], [1], 1), (90, [17], [], -2147483648), (91, [17], [], 2147483647), (0, [16], [], 4), (34, [15], [], 0), (20, [15, 5], [1], 13), (23, [5], [1], 1), (90, [15], [], -2147483648), (91, [15], [], 2147483647), (42, [14, 11], [], 0), (2, [14, 12, 10], [], 0), (43, [12, 10], [], 0), (0, [13], [], -1000000), (42, [12, 7], [], 0), (5000, [0, 1, 2, 3, 4, 5, 6, 7, 8, 9, 10, 11, 12], [0, 1], 92), (0, [0], [], 274), (51, [1], [], 0), (90, [2], [], -2147483648), (91, [2], [], 2147483647), (90, [3], [], -2147483648), (91, [3], [], 2147483647), (0, [4], [], 274), (51, [5], [], 0), (90, [6], [], -2147483648), (91, [6], [], 2147483647), (90, [7], [], -2147483648), (91, [7], [], 2147483647), (90, [9], [], -2147483648), (91, [9], [], 2147483647), (90, [10], [], -2147483648), (91, [10], [], 2147483647), (90, [11], [], -2147483648), (91, [11], [], 2147483647), (90, [12], [], -2147483648), (91, [12], [], 2147483647)], (4000, [4, 5, 6, 7, 8, 9, 10, 11, 33], [3], 92))
theorem c_37w_92_5 {q0 : Nat} : vOkm T0 (eN e_37 L_37w A_37 mu_37 n_37 B_37 (some q0)) 4 g_37w_92_5 := vOk_inI fun ρ η f0 f1 f2 f3 f4 f5 f6 f7 f8 f9 f10 f11 f12 f13 f14 f15 f16 f17 f18 f19 f20 f21 f22 f23 f24 f25 f26 f27 f28 f29 f30 f31 f32 f33 f34 f35 f36 f37 f38 f39 f40 f41 f42 f43 f44 f45 f46 f47 f48 f49 f50 f51 f52 f53 f54 f55 f56 f57 f58 f59 f60 f61 f62 f63 f64 f65 f66 f67 f68 f69 f70 f71 => q_37w_11 (q0 := q0) (n0 := ρ 12) (n1 := ρ 11) (n2 := ρ 10) (n3 := ρ 9) (n4 := ρ 7) (n5 := ρ 6) (n6 := ρ 5) (n7 := ρ 4) (n8 := ρ 3) (n9 := ρ 2) (n10 := ρ 1) (n11 := ρ 0) (n12 := ρ 8) (n13 := ρ 13) (n14 := ρ 14) (n15 := ρ 15) (n16 := ρ 16) (n17 := ρ 17) (n18 := ρ 18) (n19 := ρ 19) (n20 := ρ 20) (n21 := ρ 21) (n22 := ρ 22) (n23 := ρ 23) (n24 := ρ 24) (n25 := ρ 25) (n26 := ρ 26) (n27 := ρ 27) (n28 := ρ 28) (n29 := ρ 29) (n30 := ρ 30) (n31 := ρ 31) (n32 := ρ 32) (n33 := ρ 33) (H0 := η 0) (H1 := η 1) (H2 := η 2) (H3 := η 3) f71 f70 f69 f68 f67 f66 f65 f64 f63 f62 f61 f60 f59 f58 f57 f56 f55 f54 f53 f52 f51 f50 f49 f48 f47 f46 f45 f44 f43 f42 f41 f40 f39 f38 f37 f36 f35 f34 f33 f32 f31 f30 f29 f28 f27 f26 f25 f24 f23 f22 f21 f20 f19 f18 f17 f16 f15 f14 f13 f12 f11 f10 f9 f8 f7 f6 f5 f4 f3 f2 f1 f0
theorem q_37w_12 {q0 : Nat} {n0 n1 n2 n3 n4 n5 n6 n7 n8 n9 n10 n11 n12 n13 n14 n15 n16 n17 n18 n19 n20 n21 n22 n23 n24 n25 n26 n27 n28 n29 n30 n31 n32 n33 : Int} {H0 H1 H2 H3 : gH} (f0 : n0 ≤ 2147483647) (f1 : (-2147483648) ≤ n0) (f2 : n1 ≤ 2147483647) (f3 : (-2147483648) ≤ n1) (f4 : n2 ≤ 2147483647) (f5 : (-2147483648) ≤ n2) (f6 : n3 ≤ 2147483647) (f7 : (-2147483648) ≤ n3) (f8 : n4 ≤ 2147483647) (f9 : (-2147483648) ≤ n4) (f10 : n5 ≤ 2147483647) (f11 : (-2147483648) ≤ n5) (f12 : 0 ≤ n6) (f13 : n7 = 274) (f14 : n8 ≤ 2147483647) (f15 : (-2147483648) ≤ n8) (f16 : n9 ≤ 2147483647) (f17 : (-2147483648) ≤ n9) (f18 : 0 ≤ n10) (f19 : n11 = 274) (f20 : (hLe T0 H0 H1 ∧ hFr s_37.2.2.2.2 H0 H1 ∧ hWt T0 H1) ∧ ((Ab_37_92 n11 n10 n9 n8 n7 n6 n5 n4 n12 n3 n2 n1 n0 H0 H1 ∧ Bb_37_92 n11 n10 n9 n8 n7 n6 n5 n4 n12 n3 n2 n1 n0 H0 H1) ∧ True) ∧ some q0 = some (mub_37_92 n11 n10 n9 n8 n7 n6 n5 n4 n12 n3 n2 n1 n0 H0 H1)) (f21 : n0 < n4) (f22 : n13 = (-1000000)) (f23 : n2 ≤ n0) (f24 : n14 = w32 (n0 - n2)) (f25 : n14 < n1) (f26 : n15 ≤ 2147483647) (f27 : (-2147483648) ≤ n15) (f28 : hK H1 (n6).toNat = 1) (f29 : n15 = hV H1 (n6).toNat 13) (f30 : 0 < n15) (f31 : n16 = 4) (f32 : n17 ≤ 2147483647) (f33 : (-2147483648) ≤ n17) (f34 : hK H1 (n6).toNat = 1) (f35 : n17 = hV H1 (n6).toNat 8) (f36 : n18 = w32 (n16 * n17)) (f37 : n19 = w32 (n0 - n2)) (f38 : n20 ≤ 2147483647) (f39 : (-2147483648) ≤ n20) (f40 : hK H1 (n6).toNat = 1) (f41 : n20 = hV H1 (n6).toNat 12) (f42 : n21 = w32 (n19 * n20)) (f43 : n22 ≤ 2147483647) (f44 : (-2147483648) ≤ n22) (f45 : hK H1 (n6).toNat = 1) (f46 : n22 = hV H1 (n6).toNat 13) (f47 : n23 = o32 (fun x y => x / y) n21 n22) (f48 : n24 = w32 (n18 + n23)) (f49 : n3 ≠ 0) (f50 : n25 ≤ 2147483647) (f51 : (-2147483648) ≤ n25) (f52 : (hLe T0 H1 H2 ∧ hFr s_38.2.2.2.2 H1 H2 ∧ ((0 : Int) = 0 → H2.length = H1.length) ∧ hWt T0 H2) ∧ True) (f53 : n26 = 275) (f54 : hK H2 (n7).toNat = 2) (f55 : n26 = hV H2 (n7).toNat 2) (f56 : n27 ≤ 2147483647) (f57 : (-2147483648) ≤ n27) (f58 : hK H2 (n26).toNat = 10) (f59 : n27 = hV H2 (n26).toNat 2) (f60 : n27 ≤ n25) (f61 : n28 = (-1000000)) (f62 : n29 = 276) (f63 : hK H2 (n7).toNat = 2) (f64 : n29 = hV H2 (n7).toNat 3) (f65 : n30 = 240) (f66 : n31 = w32 (n5 * n30)) (f67 : n32 = w32 (n31 + n0)) (f68 : (hLe T0 H2 H3 ∧ hFr s_201k748.2.2.2.2 H2 H3 ∧ ((0 : Int) = 0 → H3.length = H2.length) ∧ hWt T0 H3) ∧ postb_201vk748 n29 n32 n28 H2 H3) (f69 : n33 = w32 (n0 + 1)) : Bb_37_92 n11 n10 n9 n8 n7 n6 n5 n4 n12 n3 n2 n1 n33 H0 H3 := by
  unfold Bb_37_92
  intro E mu ly p1 p2 p3 p4
  have gb := f20.2.1.1.2
  unfold Bb_37_92 at gb
  obtain ⟨e1, e2, e3, e5, e6, e7, e8, v0, v1, v2, rows⟩ := gb E mu ly p1 p2 p3 p4
  obtain ⟨z, k25, kr, k1, k0, lm⟩ := ly
  have ly := LYm_k lm
  obtain ⟨sk, ⟨m0, m1, m2, m3⟩, fb, k3⟩ := lm
  have fb1 := fb m0
  have z1 := SNC_fr f20.1.1 f20.1.2.1 (by decide +kernel) z
  have e24 : hV H1 24 = hV H0 24 := fRow f20.1.2.1 24 (by decide +kernel)
  have kr1 := KR_le f20.1.1 kr
  exfalso
  omega
def g_37w_92_6 : vG := ([(10, [33, 12], [], 1), (1201, [29, 32, 28], [2, 3], 0), (1, [32, 31, 12], [], 0), (3, [31, 6, 30], [], 0), (0, [30], [], 240), (20, [29, 4], [2], 3), (23, [4], [2], 2), (0, [29], [], 276), (0, [28], [], -1000000), (43, [25, 27], [], 0), (20, [27, 26], [2], 2), (23, [26], [2], 10), (90, [27], [], -2147483648), (91, [27], [], 2147483647), (20, [26, 4], [2], 2), (23, [4], [2], 2), (0, [26], [], 275), (1038, [25, 8, 24], [1, 2], 0), (90, [25], [], -2147483648), (91, [25], [], 2147483647), (31, [9], [], 0), (1, [24, 18, 23], [], 0), (11, [23, 21, 22], [], 0), (20, [22, 5], [1], 13), (23, [5], [1], 1), (90, [22], [], -2147483648), (91, [22], [], 2147483647), (3, [21, 19, 20], [], 0), (20, [20, 5], [1], 12), (23, [5], [1], 1), (90, [20], [], -2147483648), (91, [20], [], 2147483647), (2, [19, 12, 10], [], 0), (3, [18, 16, 17], [], 0), (20, [17, 5], [1], 8), (23, [5], [1], 1), (90, [17], [], -2147483648), (91, [17], [], 2147483647), (0, [16], [], 4), (34, [15], [], 0), (20, [15, 5], [1], 13), (23, [5], [1], 1), (90, [15], [], -2147483648), (91, [15], [], 2147483647), (42, [14, 11], [], 0), (2, [14, 12, 10], [], 0), (43, [12, 10], [], 0), (0, [13], [], -1000000), (42, [12, 7], [], 0), (5000, [0, 1, 2, 3, 4, 5, 6, 7, 8, 9, 10, 11, 12], [0, 1], 92), (0, [0], [], 274), (51, [1], [], 0), (90, [2], [], -2147483648), (91, [2], [], 2147483647), (90, [3], [], -2147483648), (91, [3], [], 2147483647), (0, [4], [], 274), (51, [5], [], 0), (90, [6], [], -2147483648), (91, [6], [], 2147483647), (90, [7], [], -2147483648), (91, [7], [], 2147483647), (90, [9], [], -2147483648), (91, [9], [], 2147483647), (90, [10], [], -2147483648), (91, [10], [], 2147483647), (90, [11], [], -2147483648), (91, [11], [], 2147483647), (90, [12], [], -2147483648), (91, [12], [], 2147483647)], (4000, [4, 5, 6, 7, 8, 9, 10, 11, 33], [3], 92))
theorem c_37w_92_6 {q0 : Nat} : vOkm T0 (eN e_37 L_37w A_37 mu_37 n_37 B_37 (some q0)) 4 g_37w_92_6 := vOk_inI fun ρ η f0 f1 f2 f3 f4 f5 f6 f7 f8 f9 f10 f11 f12 f13 f14 f15 f16 f17 f18 f19 f20 f21 f22 f23 f24 f25 f26 f27 f28 f29 f30 f31 f32 f33 f34 f35 f36 f37 f38 f39 f40 f41 f42 f43 f44 f45 f46 f47 f48 f49 f50 f51 f52 f53 f54 f55 f56 f57 f58 f59 f60 f61 f62 f63 f64 f65 f66 f67 f68 f69 => q_37w_12 (q0 := q0) (n0 := ρ 12) (n1 := ρ 11) (n2 := ρ 10) (n3 := ρ 9) (n4 := ρ 7) (n5 := ρ 6) (n6 := ρ 5) (n7 := ρ 4) (n8 := ρ 3) (n9 := ρ 2) (n10 := ρ 1) (n11 := ρ 0) (n12 := ρ 8) (n13 := ρ 13) (n14 := ρ 14) (n15 := ρ 15) (n16 := ρ 16) (n17 := ρ 17) (n18 := ρ 18) (n19 := ρ 19) (n20 := ρ 20) (n21 := ρ 21) (n22 := ρ 22) (n23 := ρ 23) (n24 := ρ 24) (n25 := ρ 25) (n26 := ρ 26) (n27 := ρ 27) (n28 := ρ 28) (n29 := ρ 29) (n30 := ρ 30) (n31 := ρ 31) (n32 := ρ 32) (n33 := ρ 33) (H0 := η 0) (H1 := η 1) (H2 := η 2) (H3 := η 3) f69 f68 f67 f66 f65 f64 f63 f62 f61 f60 f59 f58 f57 f56 f55 f54 f53 f52 f51 f50 f49 f48 f47 f46 f45 f44 f43 f42 f41 f40 f39 f38 f37 f36 f35 f34 f33 f32 f31 f30 f29 f28 f27 f26 f25 f24 f23 f22 f21 f20 f19 f18 f17 f16 f15 f14 f13 f12 f11 f10 f9 f8 f7 f6 f5 f4 f3 f2 f1 f0
theorem q_37w_13 {q0 : Nat} {n0 n1 n2 n3 n4 n5 n6 n7 n8 n9 n10 n11 n12 n13 n14 n15 n16 n17 n18 n19 n20 n21 n22 n23 n24 n25 n26 n27 n28 n29 n30 n31 n32 n33 n34 : Int} {H0 H1 H2 H3 H4 : gH} (f0 : n0 ≤ 2147483647) (f1 : (-2147483648) ≤ n0) (f2 : n1 ≤ 2147483647) (f3 : (-2147483648) ≤ n1) (f4 : n2 ≤ 2147483647) (f5 : (-2147483648) ≤ n2) (f6 : n3 ≤ 2147483647) (f7 : (-2147483648) ≤ n3) (f8 : n4 ≤ 2147483647) (f9 : (-2147483648) ≤ n4) (f10 : n5 ≤ 2147483647) (f11 : (-2147483648) ≤ n5) (f12 : 0 ≤ n6) (f13 : n7 = 274) (f14 : n8 ≤ 2147483647) (f15 : (-2147483648) ≤ n8) (f16 : n9 ≤ 2147483647) (f17 : (-2147483648) ≤ n9) (f18 : 0 ≤ n10) (f19 : n11 = 274) (f20 : (hLe T0 H0 H1 ∧ hFr s_37.2.2.2.2 H0 H1 ∧ hWt T0 H1) ∧ ((Ab_37_92 n11 n10 n9 n8 n7 n6 n5 n4 n12 n3 n2 n1 n0 H0 H1 ∧ Bb_37_92 n11 n10 n9 n8 n7 n6 n5 n4 n12 n3 n2 n1 n0 H0 H1) ∧ True) ∧ some q0 = some (mub_37_92 n11 n10 n9 n8 n7 n6 n5 n4 n12 n3 n2 n1 n0 H0 H1)) (f21 : n0 < n4) (f22 : n13 = (-1000000)) (f23 : n2 ≤ n0) (f24 : n14 = w32 (n0 - n2)) (f25 : n14 < n1) (f26 : n15 ≤ 2147483647) (f27 : (-2147483648) ≤ n15) (f28 : hK H1 (n6).toNat = 1) (f29 : n15 = hV H1 (n6).toNat 13) (f30 : 0 < n15) (f31 : n16 = 4) (f32 : n17 ≤ 2147483647) (f33 : (-2147483648) ≤ n17) (f34 : hK H1 (n6).toNat = 1) (f35 : n17 = hV H1 (n6).toNat 8) (f36 : n18 = w32 (n16 * n17)) (f37 : n19 = w32 (n0 - n2)) (f38 : n20 ≤ 2147483647) (f39 : (-2147483648) ≤ n20) (f40 : hK H1 (n6).toNat = 1) (f41 : n20 = hV H1 (n6).toNat 12) (f42 : n21 = w32 (n19 * n20)) (f43 : n22 ≤ 2147483647) (f44 : (-2147483648) ≤ n22) (f45 : hK H1 (n6).toNat = 1) (f46 : n22 = hV H1 (n6).toNat 13) (f47 : n23 = o32 (fun x y => x / y) n21 n22) (f48 : n24 = w32 (n18 + n23)) (f49 : n3 ≠ 0) (f50 : n25 ≤ 2147483647) (f51 : (-2147483648) ≤ n25) (f52 : (hLe T0 H1 H2 ∧ hFr s_38.2.2.2.2 H1 H2 ∧ ((0 : Int) = 0 → H2.length = H1.length) ∧ hWt T0 H2) ∧ True) (f53 : n26 = 275) (f54 : hK H2 (n7).toNat = 2) (f55 : n26 = hV H2 (n7).toNat 2) (f56 : n27 ≤ 2147483647) (f57 : (-2147483648) ≤ n27) (f58 : hK H2 (n26).toNat = 10) (f59 : n27 = hV H2 (n26).toNat 2) (f60 : n25 < n27) (f61 : n28 = 275) (f62 : hK H2 (n7).toNat = 2) (f63 : n28 = hV H2 (n7).toNat 2) (f64 : n29 ≤ 2147483647) (f65 : (-2147483648) ≤ n29) (f66 : (hLe T0 H2 H3 ∧ hFr s_153.2.2.2.2 H2 H3 ∧ ((0 : Int) = 0 → H3.length = H2.length) ∧ hWt T0 H3) ∧ (True ∧ nb_153 n29 n28 n25 H2 H3)) (f67 : n30 = 276) (f68 : hK H3 (n7).toNat = 2) (f69 : n30 = hV H3 (n7).toNat 3) (f70 : n31 = 240) (f71 : n32 = w32 (n5 * n31)) (f72 : n33 = w32 (n32 + n0)) (f73 : (hLe T0 H3 H4 ∧ hFr s_201k748.2.2.2.2 H3 H4 ∧ ((0 : Int) = 0 → H4.length = H3.length) ∧ hWt T0 H4) ∧ postb_201vk748 n30 n33 n29 H3 H4) (f74 : n34 = w32 (n0 + 1)) : Bb_37_92 n11 n10 n9 n8 n7 n6 n5 n4 n12 n3 n2 n1 n34 H0 H4 := by
  unfold Bb_37_92
  intro E mu ly p1 p2 p3 p4
  have gb := f20.2.1.1.2
  unfold Bb_37_92 at gb
  obtain ⟨e1, e2, e3, e5, e6, e7, e8, v0, v1, v2, rows⟩ := gb E mu ly p1 p2 p3 p4
  obtain ⟨z, k25, kr, k1, k0, lm⟩ := ly
  have ly := LYm_k lm
  obtain ⟨sk, ⟨m0, m1, m2, m3⟩, fb, k3⟩ := lm
  have fb1 := fb m0
  have z1 := SNC_fr f20.1.1 f20.1.2.1 (by decide +kernel) z
  have e24 : hV H1 24 = hV H0 24 := fRow f20.1.2.1 24 (by decide +kernel)
  have kr1 := KR_le f20.1.1 kr
  exfalso
  omega
def g_37w_92_7 : vG := ([(10, [34, 12], [], 1), (1201, [30, 33, 29], [3, 4], 0), (1, [33, 32, 12], [], 0), (3, [32, 6, 31], [], 0), (0, [31], [], 240), (20, [30, 4], [3], 3), (23, [4], [3], 2), (0, [30], [], 276), (1153, [29, 28, 25], [2, 3], 0), (90, [29], [], -2147483648), (91, [29], [], 2147483647), (20, [28, 4], [2], 2), (23, [4], [2], 2), (0, [28], [], 275), (42, [25, 27], [], 0), (20, [27, 26], [2], 2), (23, [26], [2], 10), (90, [27], [], -2147483648), (91, [27], [], 2147483647), (20, [26, 4], [2], 2), (23, [4], [2], 2), (0, [26], [], 275), (1038, [25, 8, 24], [1, 2], 0), (90, [25], [], -2147483648), (91, [25], [], 2147483647), (31, [9], [], 0), (1, [24, 18, 23], [], 0), (11, [23, 21, 22], [], 0), (20, [22, 5], [1], 13), (23, [5], [1], 1), (90, [22], [], -2147483648), (91, [22], [], 2147483647), (3, [21, 19, 20], [], 0), (20, [20, 5], [1], 12), (23, [5], [1], 1), (90, [20], [], -2147483648), (91, [20], [], 2147483647), (2, [19, 12, 10], [], 0), (3, [18, 16, 17], [], 0), (20, [17, 5], [1], 8), (23, [5], [1], 1), (90, [17], [], -2147483648), (91, [17], [], 2147483647), (0, [16], [], 4), (34, [15], [], 0), (20, [15, 5], [1], 13), (23, [5], [1], 1), (90, [15], [], -2147483648), (91, [15], [], 2147483647), (42, [14, 11], [], 0), (2, [14, 12, 10], [], 0), (43, [12, 10], [], 0), (0, [13], [], -1000000), (42, [12, 7], [], 0), (5000, [0, 1, 2, 3, 4, 5, 6, 7, 8, 9, 10, 11, 12], [0, 1], 92), (0, [0], [], 274), (51, [1], [], 0), (90, [2], [], -2147483648), (91, [2], [], 2147483647), (90, [3], [], -2147483648), (91, [3], [], 2147483647), (0, [4], [], 274), (51, [5], [], 0), (90, [6], [], -2147483648), (91, [6], [], 2147483647), (90, [7], [], -2147483648), (91, [7], [], 2147483647), (90, [9], [], -2147483648), (91, [9], [], 2147483647), (90, [10], [], -2147483648), (91, [10], [], 2147483647), (90, [11], [], -2147483648), (91, [11], [], 2147483647), (90, [12], [], -2147483648), (91, [12], [], 2147483647)], (4000, [4, 5, 6, 7, 8, 9, 10, 11, 34], [4], 92))
theorem c_37w_92_7 {q0 : Nat} : vOkm T0 (eN e_37 L_37w A_37 mu_37 n_37 B_37 (some q0)) 4 g_37w_92_7 := vOk_inI fun ρ η f0 f1 f2 f3 f4 f5 f6 f7 f8 f9 f10 f11 f12 f13 f14 f15 f16 f17 f18 f19 f20 f21 f22 f23 f24 f25 f26 f27 f28 f29 f30 f31 f32 f33 f34 f35 f36 f37 f38 f39 f40 f41 f42 f43 f44 f45 f46 f47 f48 f49 f50 f51 f52 f53 f54 f55 f56 f57 f58 f59 f60 f61 f62 f63 f64 f65 f66 f67 f68 f69 f70 f71 f72 f73 f74 => q_37w_13 (q0 := q0) (n0 := ρ 12) (n1 := ρ 11) (n2 := ρ 10) (n3 := ρ 9) (n4 := ρ 7) (n5 := ρ 6) (n6 := ρ 5) (n7 := ρ 4) (n8 := ρ 3) (n9 := ρ 2) (n10 := ρ 1) (n11 := ρ 0) (n12 := ρ 8) (n13 := ρ 13) (n14 := ρ 14) (n15 := ρ 15) (n16 := ρ 16) (n17 := ρ 17) (n18 := ρ 18) (n19 := ρ 19) (n20 := ρ 20) (n21 := ρ 21) (n22 := ρ 22) (n23 := ρ 23) (n24 := ρ 24) (n25 := ρ 25) (n26 := ρ 26) (n27 := ρ 27) (n28 := ρ 28) (n29 := ρ 29) (n30 := ρ 30) (n31 := ρ 31) (n32 := ρ 32) (n33 := ρ 33) (n34 := ρ 34) (H0 := η 0) (H1 := η 1) (H2 := η 2) (H3 := η 3) (H4 := η 4) f74 f73 f72 f71 f70 f69 f68 f67 f66 f65 f64 f63 f62 f61 f60 f59 f58 f57 f56 f55 f54 f53 f52 f51 f50 f49 f48 f47 f46 f45 f44 f43 f42 f41 f40 f39 f38 f37 f36 f35 f34 f33 f32 f31 f30 f29 f28 f27 f26 f25 f24 f23 f22 f21 f20 f19 f18 f17 f16 f15 f14 f13 f12 f11 f10 f9 f8 f7 f6 f5 f4 f3 f2 f1 f0
def p_37w_92 : List vG := [g_37w_92_0,
  g_37w_92_1,
  g_37w_92_2,
  g_37w_92_3,
  g_37w_92_4,
  g_37w_92_5,
  g_37w_92_6,
  g_37w_92_7]
theorem r_37w_92 : vCovBO (eRc e_37 L_37 cs_37 2000 (92, [(0, (3, 2, 274, 0)), (1, (3, 1, -1, 0)), (2, (0, -2147483648, 2147483647, 0)), (3, (0, -2147483648, 2147483647, 0)), (4, (2, 7, -1, 0)), (5, (0, -2147483648, 2147483647, 0)), (6, (0, -2147483648, 2147483647, 0)), (7, (0, -2147483648, 2147483647, 0)), (8, (0, -2147483648, 2147483647, 0))])) p_37w_92 = true := by decide +kernel
theorem m_37w (d : Nat) : eC e_37w (d + 4) := eC_ref (e := e_37) (L := L_37) (L' := L_37w) (cs := cs_37) (n := 2000) (d := d + 3) (A := A_37) (μ := mu_37) (tp := true) (p0 := p_37_s) (p1 := p_37w_s) (N := n_37) (B := B_37) rfl ⟨m_2v (d + 2), ⟨m_8y (d + 1), ⟨m_38 (d + 2), ⟨m_152w d, ⟨m_153w (d + 1), ⟨m_201vk748 (d + 2), trivial⟩⟩⟩⟩⟩⟩ rfl (.inr pre0_ok) (by decide +kernel) (fun _ => post0_ok) r_37_s (allC c_37_s_0 (allC c_37_s_1 (allC c_37_s_2 (allC c_37_s_3 (allC c_37_s_4 (allC c_37_s_5 allN)))))) (allC (.inl ⟨p_37_92, r_37_92, fun q0 => (allC c_37_92_0 (allC c_37_92_1 (allC c_37_92_2 (allC c_37_92_3 (allC c_37_92_4 (allC c_37_92_5 (allC c_37_92_6 (allC c_37_92_7 (allC c_37_92_8 allN)))))))))⟩) allN) ⟨⟨rfl, rfl, rfl, fun _ _ _ _ => trivial⟩, ⟨⟨rfl, rfl, rfl, fun _ _ _ _ => trivial⟩, (sub0 (sub1 (sub1 ⟨⟨rfl, rfl, rfl, fun _ _ _ _ => trivial⟩, trivial⟩)))⟩⟩ r_37w_s (allC c_37w_s_0 (allC c_37w_s_1 (allC c_37w_s_2 (allC c_37w_s_3 (allC c_37w_s_4 (allC c_37w_s_5 allN)))))) (allC ⟨p_37w_92, r_37w_92, fun q0 => (allC c_37w_92_0 (allC c_37w_92_1 (allC c_37w_92_2 (allC c_37w_92_3 (allC c_37w_92_4 (allC c_37w_92_5 (allC c_37w_92_6 (allC c_37w_92_7 allN))))))))⟩ allN)
/- Mixer.taken (II)I, more fully -/
def nb_39 (r a0 a1 a2 : Int) (h0 h : gH) : Prop := a1 = 0 → 0 ≤ a2 → a2 < 240 → KR h0 → r = hV h0 276 (a2).toNat
def n_39 : List Int → gH → gH → Prop := fun xs h0 h => match xs with
  | [r, a0, a1, a2] => nb_39 r a0 a1 a2 h0 h
  | _ => True
noncomputable def e_39w : vE := eV e_39 n_39
noncomputable def L_39w : List vE := [e_199vk748]
def B_39 : Int → List Int → gH → gH → Prop := fun c xs h0 h => True
theorem q_39w_0 {n0 n1 n2 n3 n4 n5 n6 n7 : Int} {H0 H1 : gH} (f0 : n0 ≤ 2147483647) (f1 : (-2147483648) ≤ n0) (f2 : n1 ≤ 2147483647) (f3 : (-2147483648) ≤ n1) (f4 : n2 = 274) (f5 : hWt T0 H0 ∧ True) (f6 : n3 = 276) (f7 : hK H0 (n2).toNat = 2) (f8 : n3 = hV H0 (n2).toNat 3) (f9 : n4 = 240) (f10 : n5 = w32 (n1 * n4)) (f11 : n6 = w32 (n5 + n0)) (f12 : n7 ≤ 2147483647) (f13 : (-2147483648) ≤ n7) (f14 : (hLe T0 H0 H1 ∧ hFr s_199k748.2.2.2.2 H0 H1 ∧ ((0 : Int) = 0 → H1.length = H0.length) ∧ hWt T0 H1) ∧ postb_199vk748 n7 n3 n6 H0 H1) : nb_39 n7 n2 n1 n0 H0 H1 := by
  unfold nb_39
  intro p1 p2 p3 kr
  have wi := f10
  rw [f9, p1] at wi
  unfold w32 at wi
  have wj := f11
  unfold w32 at wj
  have qa := f14.2
  unfold postb_199vk748 at qa
  have qa := atQ_r (q := 276) (n := 9600) qa f6 kr.1.2
  rw [if_pos (by omega), show n6 = n0 by omega] at qa
  exact qa
def g_39w_s_0 : vG := ([(1199, [7, 3, 6], [0, 1], 0), (90, [7], [], -2147483648), (91, [7], [], 2147483647), (1, [6, 5, 2], [], 0), (3, [5, 1, 4], [], 0), (0, [4], [], 240), (20, [3, 0], [0], 3), (23, [0], [0], 2), (0, [3], [], 276), (6000, [0, 1, 2], [0], 0), (0, [0], [], 274), (90, [1], [], -2147483648), (91, [1], [], 2147483647), (90, [2], [], -2147483648), (91, [2], [], 2147483647)], (3000, [7], [1], 14))
theorem c_39w_s_0 : vOkm T0 (eN e_39 L_39w A_39 mu_39 n_39 B_39 none) 3 g_39w_s_0 := vOk_inI fun ρ η f0 f1 f2 f3 f4 f5 f6 f7 f8 f9 f10 f11 f12 f13 f14 => q_39w_0 (n0 := ρ 2) (n1 := ρ 1) (n2 := ρ 0) (n3 := ρ 3) (n4 := ρ 4) (n5 := ρ 5) (n6 := ρ 6) (n7 := ρ 7) (H0 := η 0) (H1 := η 1) f14 f13 f12 f11 f10 f9 f8 f7 f6 f5 f4 f3 f2 f1 f0
def p_39w_s : List vG := [g_39w_s_0]
theorem r_39w_s : vCovBO (eR0 e_39 L_39 cs_39 2000) p_39w_s = true := by decide +kernel
theorem m_39w (d : Nat) : eC e_39w (d + 2) := eC_ref (e := e_39) (L := L_39) (L' := L_39w) (cs := cs_39) (n := 2000) (d := d + 1) (A := A_39) (μ := mu_39) (tp := true) (p0 := p_39_s) (p1 := p_39w_s) (N := n_39) (B := B_39) rfl ⟨m_199vk748 d, trivial⟩ rfl (.inr pre0_ok) (by decide +kernel) (fun _ => post0_ok) r_39_s allN allN ⟨⟨rfl, rfl, rfl, fun _ _ _ _ => trivial⟩, trivial⟩ r_39w_s (allC c_39w_s_0 allN) allN
/- Mixer.given (II)I, more fully -/
def nb_41 (r a0 a1 : Int) (h0 h : gH) : Prop := (a0 = -1000000 ∧ r = 0) ∨ (¬ a0 = -1000000 ∧ r = gvF a0 a1)
def n_41 : List Int → gH → gH → Prop := fun xs h0 h => match xs with
  | [r, a0, a1] => nb_41 r a0 a1 h0 h
  | _ => True
noncomputable def e_41w : vE := eV e_41 n_41
noncomputable def L_41w : List vE := []
def B_41 : Int → List Int → gH → gH → Prop := fun c xs h0 h => True
theorem q_41w_0 {n0 n1 n2 n3 n4 n5 : Int} {H0 : gH} (f0 : n0 ≤ 2147483647) (f1 : (-2147483648) ≤ n0) (f2 : n1 ≤ 2147483647) (f3 : (-2147483648) ≤ n1) (f4 : hWt T0 H0 ∧ True) (f5 : n2 = (-1000000)) (f6 : n1 ≠ n2) (f7 : n3 = w32 (n1 * n0)) (f8 : n4 = 100) (f9 : n5 = o32 (fun x y => x / y) n3 n4) : nb_41 n5 n1 n0 H0 H0 := by
  unfold nb_41
  refine .inr ⟨by omega, ?_⟩
  unfold gvF
  rw [f9, f7, f8]
def g_41w_s_0 : vG := ([(11, [5, 3, 4], [], 0), (0, [4], [], 100), (3, [3, 0, 1], [], 0), (41, [0, 2], [], 0), (0, [2], [], -1000000), (6000, [0, 1], [0], 0), (90, [0], [], -2147483648), (91, [0], [], 2147483647), (90, [1], [], -2147483648), (91, [1], [], 2147483647)], (3000, [5], [0], 16))
theorem c_41w_s_0 : vOkm T0 (eN e_41 L_41w A_41 mu_41 n_41 B_41 none) 2 g_41w_s_0 := vOk_inI fun ρ η f0 f1 f2 f3 f4 f5 f6 f7 f8 f9 => q_41w_0 (n0 := ρ 1) (n1 := ρ 0) (n2 := ρ 2) (n3 := ρ 3) (n4 := ρ 4) (n5 := ρ 5) (H0 := η 0) f9 f8 f7 f6 f5 f4 f3 f2 f1 f0
theorem q_41w_1 {n0 n1 n2 n3 : Int} {H0 : gH} (f0 : n0 ≤ 2147483647) (f1 : (-2147483648) ≤ n0) (f2 : n1 ≤ 2147483647) (f3 : (-2147483648) ≤ n1) (f4 : hWt T0 H0 ∧ True) (f5 : n2 = (-1000000)) (f6 : n1 = n2) (f7 : n3 = 0) : nb_41 n3 n1 n0 H0 H0 := by
  unfold nb_41
  exact .inl ⟨by omega, by omega⟩
def g_41w_s_1 : vG := ([(0, [3], [], 0), (40, [0, 2], [], 0), (0, [2], [], -1000000), (6000, [0, 1], [0], 0), (90, [0], [], -2147483648), (91, [0], [], 2147483647), (90, [1], [], -2147483648), (91, [1], [], 2147483647)], (3000, [3], [0], 16))
theorem c_41w_s_1 : vOkm T0 (eN e_41 L_41w A_41 mu_41 n_41 B_41 none) 2 g_41w_s_1 := vOk_inI fun ρ η f0 f1 f2 f3 f4 f5 f6 f7 => q_41w_1 (n0 := ρ 1) (n1 := ρ 0) (n2 := ρ 2) (n3 := ρ 3) (H0 := η 0) f7 f6 f5 f4 f3 f2 f1 f0
def p_41w_s : List vG := [g_41w_s_0,
  g_41w_s_1]
theorem r_41w_s : vCovBO (eR0 e_41 L_41 cs_41 2000) p_41w_s = true := by decide +kernel
theorem m_41w (d : Nat) : eC e_41w (d + 1) := eC_ref (e := e_41) (L := L_41) (L' := L_41w) (cs := cs_41) (n := 2000) (d := d + 0) (A := A_41) (μ := mu_41) (tp := true) (p0 := p_41_s) (p1 := p_41w_s) (N := n_41) (B := B_41) rfl trivial rfl (.inr pre0_ok) (by decide +kernel) (fun _ => post0_ok) r_41_s allN allN trivial r_41w_s (allC c_41w_s_0 (allC c_41w_s_1 allN)) allN
/- Tracer.isOfMusic (II)Z, more fully -/
def nb_140 (r a0 a1 a2 : Int) (h0 h : gH) : Prop := ∀ E : SE, SNC h0 E → 0 ≤ a2 → a2 < E.1 → E.2.1 (a2).toNat = 3 → (r = 1 ∧ (0 ≤ a1 ∧ a1 < E.1 ∧ RT E a1 = a2)) ∨ (r = 0 ∧ ¬ (0 ≤ a1 ∧ a1 < E.1 ∧ RT E a1 = a2))
def n_140 : List Int → gH → gH → Prop := fun xs h0 h => match xs with
  | [r, a0, a1, a2] => nb_140 r a0 a1 a2 h0 h
  | _ => True
noncomputable def e_140w : vE := eV e_140 n_140
noncomputable def L_140w : List vE := [e_3v]
def Bb_140_5 (a0 a1 a2 x0 x1 x2 x3 x4 : Int) (h0 h : gH) : Prop := ∀ E : SE, SNC h0 E → 0 ≤ a2 → a2 < E.1 → E.2.1 (a2).toNat = 3 → x1 = a1 ∧ x2 = a2 ∧ 0 ≤ x4 ∧ ((¬ (0 ≤ x3 ∧ x3 < E.1) ∧ ¬ (0 ≤ a1 ∧ a1 < E.1 ∧ RT E a1 = a2)) ∨ (0 ≤ x3 ∧ x3 < E.1 ∧ 0 ≤ a1 ∧ a1 < E.1 ∧ RT E x3 = RT E a1 ∧ x3 + x4 ≤ a1))
def B_140 : Int → List Int → gH → gH → Prop := fun c xs h0 h => match c.toNat with
  | 5 => (match xs with
    | [a0, a1, a2, x0, x1, x2, x3, x4] => Bb_140_5 a0 a1 a2 x0 x1 x2 x3 x4 h0 h
    | _ => False)
  | _ => True
theorem q_140w_0 {n0 n1 n2 n3 : Int} {H0 : gH} (f0 : n0 ≤ 2147483647) (f1 : (-2147483648) ≤ n0) (f2 : n1 ≤ 2147483647) (f3 : (-2147483648) ≤ n1) (f4 : n2 = 281) (f5 : hWt T0 H0 ∧ True) (f6 : n3 = 0) : Bb_140_5 n2 n1 n0 n2 n1 n0 n1 n3 H0 H0 := by
  unfold Bb_140_5
  intro E z p0 p1 k3
  refine ⟨rfl, rfl, by omega, ?_⟩
  by_cases c : 0 ≤ n1 ∧ n1 < E.1
  · exact .inr ⟨c.1, c.2, c.1, c.2, rfl, by omega⟩
  · exact .inl ⟨c, fun w => c ⟨w.1, w.2.1⟩⟩
def g_140w_s_0 : vG := ([(0, [3], [], 0), (6000, [0, 1, 2], [0], 0), (0, [0], [], 281), (90, [1], [], -2147483648), (91, [1], [], 2147483647), (90, [2], [], -2147483648), (91, [2], [], 2147483647)], (4000, [0, 1, 2, 1, 3], [0], 5))
theorem c_140w_s_0 : vOkm T0 (eN e_140 L_140w A_140 mu_140 n_140 B_140 none) 3 g_140w_s_0 := vOk_inI fun ρ η f0 f1 f2 f3 f4 f5 f6 => q_140w_0 (n0 := ρ 2) (n1 := ρ 1) (n2 := ρ 0) (n3 := ρ 3) (H0 := η 0) f6 f5 f4 f3 f2 f1 f0
def p_140w_s : List vG := [g_140w_s_0]
theorem r_140w_s : vCovBO (eR0 e_140 L_140 cs_140 2000) p_140w_s = true := by decide +kernel
theorem q_140w_1 {q0 : Nat} {n0 n1 n2 n3 n4 n5 n6 n7 n8 n9 : Int} {H0 H1 : gH} (f0 : n0 ≤ 2147483647) (f1 : (-2147483648) ≤ n0) (f2 : n1 ≤ 2147483647) (f3 : (-2147483648) ≤ n1) (f4 : n2 ≤ 2147483647) (f5 : (-2147483648) ≤ n2) (f6 : n3 ≤ 2147483647) (f7 : (-2147483648) ≤ n3) (f8 : n4 = 281) (f9 : n5 ≤ 2147483647) (f10 : (-2147483648) ≤ n5) (f11 : n6 ≤ 2147483647) (f12 : (-2147483648) ≤ n6) (f13 : n7 = 281) (f14 : (hLe T0 H0 H1 ∧ hFr s_140.2.2.2.2 H0 H1 ∧ hWt T0 H1) ∧ ((True ∧ Bb_140_5 n7 n6 n5 n4 n3 n2 n1 n0 H0 H1) ∧ True) ∧ some q0 = some (mub_140_5 n7 n6 n5 n4 n3 n2 n1 n0 H0 H1)) (f15 : n8 = 20) (f16 : n8 ≤ n0) (f17 : n1 ≠ n2) (f18 : n9 = 0) : nb_140 n9 n7 n6 n5 H0 H1 := by
  unfold nb_140
  intro E z p0 p1 k3
  have gb := f14.2.1.1.2
  unfold Bb_140_5 at gb
  obtain ⟨e1, e2, e4, e3⟩ := gb E z p0 p1 k3
  have h20 := z.2.1.1
  have rc := f18
  rcases e3 with ⟨w1, w2⟩ | ⟨w1, w2, w3, w4, w5, w6⟩
  · exact .inr ⟨rc, w2⟩
  · exfalso
    omega
def g_140w_5_0 : vG := ([(0, [9], [], 0), (41, [6, 5], [], 0), (43, [7, 8], [], 0), (0, [8], [], 20), (5000, [0, 1, 2, 3, 4, 5, 6, 7], [0, 1], 5), (0, [0], [], 281), (90, [1], [], -2147483648), (91, [1], [], 2147483647), (90, [2], [], -2147483648), (91, [2], [], 2147483647), (0, [3], [], 281), (90, [4], [], -2147483648), (91, [4], [], 2147483647), (90, [5], [], -2147483648), (91, [5], [], 2147483647), (90, [6], [], -2147483648), (91, [6], [], 2147483647), (90, [7], [], -2147483648), (91, [7], [], 2147483647)], (3000, [9], [1], 59))
theorem c_140w_5_0 {q0 : Nat} : vOkm T0 (eN e_140 L_140w A_140 mu_140 n_140 B_140 (some q0)) 3 g_140w_5_0 := vOk_inI fun ρ η f0 f1 f2 f3 f4 f5 f6 f7 f8 f9 f10 f11 f12 f13 f14 f15 f16 f17 f18 => q_140w_1 (q0 := q0) (n0 := ρ 7) (n1 := ρ 6) (n2 := ρ 5) (n3 := ρ 4) (n4 := ρ 3) (n5 := ρ 2) (n6 := ρ 1) (n7 := ρ 0) (n8 := ρ 8) (n9 := ρ 9) (H0 := η 0) (H1 := η 1) f18 f17 f16 f15 f14 f13 f12 f11 f10 f9 f8 f7 f6 f5 f4 f3 f2 f1 f0
theorem q_140w_2 {q0 : Nat} {n0 n1 n2 n3 n4 n5 n6 n7 n8 n9 : Int} {H0 H1 : gH} (f0 : n0 ≤ 2147483647) (f1 : (-2147483648) ≤ n0) (f2 : n1 ≤ 2147483647) (f3 : (-2147483648) ≤ n1) (f4 : n2 ≤ 2147483647) (f5 : (-2147483648) ≤ n2) (f6 : n3 ≤ 2147483647) (f7 : (-2147483648) ≤ n3) (f8 : n4 = 281) (f9 : n5 ≤ 2147483647) (f10 : (-2147483648) ≤ n5) (f11 : n6 ≤ 2147483647) (f12 : (-2147483648) ≤ n6) (f13 : n7 = 281) (f14 : (hLe T0 H0 H1 ∧ hFr s_140.2.2.2.2 H0 H1 ∧ hWt T0 H1) ∧ ((True ∧ Bb_140_5 n7 n6 n5 n4 n3 n2 n1 n0 H0 H1) ∧ True) ∧ some q0 = some (mub_140_5 n7 n6 n5 n4 n3 n2 n1 n0 H0 H1)) (f15 : n8 = 20) (f16 : n8 ≤ n0) (f17 : n1 = n2) (f18 : n9 = 1) : nb_140 n9 n7 n6 n5 H0 H1 := by
  unfold nb_140
  intro E z p0 p1 k3
  have gb := f14.2.1.1.2
  unfold Bb_140_5 at gb
  obtain ⟨e1, e2, e4, e3⟩ := gb E z p0 p1 k3
  have h20 := z.2.1.1
  have rc := f18
  rcases e3 with ⟨w1, w2⟩ | ⟨w1, w2, w3, w4, w5, w6⟩
  · exact absurd ⟨by omega, by omega⟩ w1
  · have q : n1 = n5 := by omega
    rw [q, (CH_n (E := E) (s := n5) (by omega)).1] at w5
    exact .inl ⟨rc, w3, w4, w5.symm⟩
def g_140w_5_1 : vG := ([(0, [9], [], 1), (40, [6, 5], [], 0), (43, [7, 8], [], 0), (0, [8], [], 20), (5000, [0, 1, 2, 3, 4, 5, 6, 7], [0, 1], 5), (0, [0], [], 281), (90, [1], [], -2147483648), (91, [1], [], 2147483647), (90, [2], [], -2147483648), (91, [2], [], 2147483647), (0, [3], [], 281), (90, [4], [], -2147483648), (91, [4], [], 2147483647), (90, [5], [], -2147483648), (91, [5], [], 2147483647), (90, [6], [], -2147483648), (91, [6], [], 2147483647), (90, [7], [], -2147483648), (91, [7], [], 2147483647)], (3000, [9], [1], 59))
theorem c_140w_5_1 {q0 : Nat} : vOkm T0 (eN e_140 L_140w A_140 mu_140 n_140 B_140 (some q0)) 3 g_140w_5_1 := vOk_inI fun ρ η f0 f1 f2 f3 f4 f5 f6 f7 f8 f9 f10 f11 f12 f13 f14 f15 f16 f17 f18 => q_140w_2 (q0 := q0) (n0 := ρ 7) (n1 := ρ 6) (n2 := ρ 5) (n3 := ρ 4) (n4 := ρ 3) (n5 := ρ 2) (n6 := ρ 1) (n7 := ρ 0) (n8 := ρ 8) (n9 := ρ 9) (H0 := η 0) (H1 := η 1) f18 f17 f16 f15 f14 f13 f12 f11 f10 f9 f8 f7 f6 f5 f4 f3 f2 f1 f0
theorem q_140w_3 {q0 : Nat} {n0 n1 n2 n3 n4 n5 n6 n7 n8 n9 : Int} {H0 H1 : gH} (f0 : n0 ≤ 2147483647) (f1 : (-2147483648) ≤ n0) (f2 : n1 ≤ 2147483647) (f3 : (-2147483648) ≤ n1) (f4 : n2 ≤ 2147483647) (f5 : (-2147483648) ≤ n2) (f6 : n3 ≤ 2147483647) (f7 : (-2147483648) ≤ n3) (f8 : n4 = 281) (f9 : n5 ≤ 2147483647) (f10 : (-2147483648) ≤ n5) (f11 : n6 ≤ 2147483647) (f12 : (-2147483648) ≤ n6) (f13 : n7 = 281) (f14 : (hLe T0 H0 H1 ∧ hFr s_140.2.2.2.2 H0 H1 ∧ hWt T0 H1) ∧ ((True ∧ Bb_140_5 n7 n6 n5 n4 n3 n2 n1 n0 H0 H1) ∧ True) ∧ some q0 = some (mub_140_5 n7 n6 n5 n4 n3 n2 n1 n0 H0 H1)) (f15 : n8 = 20) (f16 : n0 < n8) (f17 : n1 = n2) (f18 : n1 ≠ n2) (f19 : n9 = 0) : nb_140 n9 n7 n6 n5 H0 H1 := by
  unfold nb_140
  intro E z p0 p1 k3
  have gb := f14.2.1.1.2
  unfold Bb_140_5 at gb
  obtain ⟨e1, e2, e4, e3⟩ := gb E z p0 p1 k3
  have h20 := z.2.1.1
  have rc := f19
  rcases e3 with ⟨w1, w2⟩ | ⟨w1, w2, w3, w4, w5, w6⟩
  · exact .inr ⟨rc, w2⟩
  · exfalso
    omega
def g_140w_5_2 : vG := ([(0, [9], [], 0), (41, [6, 5], [], 0), (40, [6, 5], [], 0), (42, [7, 8], [], 0), (0, [8], [], 20), (5000, [0, 1, 2, 3, 4, 5, 6, 7], [0, 1], 5), (0, [0], [], 281), (90, [1], [], -2147483648), (91, [1], [], 2147483647), (90, [2], [], -2147483648), (91, [2], [], 2147483647), (0, [3], [], 281), (90, [4], [], -2147483648), (91, [4], [], 2147483647), (90, [5], [], -2147483648), (91, [5], [], 2147483647), (90, [6], [], -2147483648), (91, [6], [], 2147483647), (90, [7], [], -2147483648), (91, [7], [], 2147483647)], (3000, [9], [1], 59))
theorem c_140w_5_2 {q0 : Nat} : vOkm T0 (eN e_140 L_140w A_140 mu_140 n_140 B_140 (some q0)) 3 g_140w_5_2 := vOk_inI fun ρ η f0 f1 f2 f3 f4 f5 f6 f7 f8 f9 f10 f11 f12 f13 f14 f15 f16 f17 f18 f19 => q_140w_3 (q0 := q0) (n0 := ρ 7) (n1 := ρ 6) (n2 := ρ 5) (n3 := ρ 4) (n4 := ρ 3) (n5 := ρ 2) (n6 := ρ 1) (n7 := ρ 0) (n8 := ρ 8) (n9 := ρ 9) (H0 := η 0) (H1 := η 1) f19 f18 f17 f16 f15 f14 f13 f12 f11 f10 f9 f8 f7 f6 f5 f4 f3 f2 f1 f0
theorem q_140w_4 {q0 : Nat} {n0 n1 n2 n3 n4 n5 n6 n7 n8 n9 : Int} {H0 H1 : gH} (f0 : n0 ≤ 2147483647) (f1 : (-2147483648) ≤ n0) (f2 : n1 ≤ 2147483647) (f3 : (-2147483648) ≤ n1) (f4 : n2 ≤ 2147483647) (f5 : (-2147483648) ≤ n2) (f6 : n3 ≤ 2147483647) (f7 : (-2147483648) ≤ n3) (f8 : n4 = 281) (f9 : n5 ≤ 2147483647) (f10 : (-2147483648) ≤ n5) (f11 : n6 ≤ 2147483647) (f12 : (-2147483648) ≤ n6) (f13 : n7 = 281) (f14 : (hLe T0 H0 H1 ∧ hFr s_140.2.2.2.2 H0 H1 ∧ hWt T0 H1) ∧ ((True ∧ Bb_140_5 n7 n6 n5 n4 n3 n2 n1 n0 H0 H1) ∧ True) ∧ some q0 = some (mub_140_5 n7 n6 n5 n4 n3 n2 n1 n0 H0 H1)) (f15 : n8 = 20) (f16 : n0 < n8) (f17 : n1 = n2) (f18 : n1 = n2) (f19 : n9 = 1) : nb_140 n9 n7 n6 n5 H0 H1 := by
  unfold nb_140
  intro E z p0 p1 k3
  have gb := f14.2.1.1.2
  unfold Bb_140_5 at gb
  obtain ⟨e1, e2, e4, e3⟩ := gb E z p0 p1 k3
  have h20 := z.2.1.1
  have rc := f19
  rcases e3 with ⟨w1, w2⟩ | ⟨w1, w2, w3, w4, w5, w6⟩
  · exact absurd ⟨by omega, by omega⟩ w1
  · have q : n1 = n5 := by omega
    rw [q, (CH_n (E := E) (s := n5) (by omega)).1] at w5
    exact .inl ⟨rc, w3, w4, w5.symm⟩
def g_140w_5_3 : vG := ([(0, [9], [], 1), (40, [6, 5], [], 0), (40, [6, 5], [], 0), (42, [7, 8], [], 0), (0, [8], [], 20), (5000, [0, 1, 2, 3, 4, 5, 6, 7], [0, 1], 5), (0, [0], [], 281), (90, [1], [], -2147483648), (91, [1], [], 2147483647), (90, [2], [], -2147483648), (91, [2], [], 2147483647), (0, [3], [], 281), (90, [4], [], -2147483648), (91, [4], [], 2147483647), (90, [5], [], -2147483648), (91, [5], [], 2147483647), (90, [6], [], -2147483648), (91, [6], [], 2147483647), (90, [7], [], -2147483648), (91, [7], [], 2147483647)], (3000, [9], [1], 59))
theorem c_140w_5_3 {q0 : Nat} : vOkm T0 (eN e_140 L_140w A_140 mu_140 n_140 B_140 (some q0)) 3 g_140w_5_3 := vOk_inI fun ρ η f0 f1 f2 f3 f4 f5 f6 f7 f8 f9 f10 f11 f12 f13 f14 f15 f16 f17 f18 f19 => q_140w_4 (q0 := q0) (n0 := ρ 7) (n1 := ρ 6) (n2 := ρ 5) (n3 := ρ 4) (n4 := ρ 3) (n5 := ρ 2) (n6 := ρ 1) (n7 := ρ 0) (n8 := ρ 8) (n9 := ρ 9) (H0 := η 0) (H1 := η 1) f19 f18 f17 f16 f15 f14 f13 f12 f11 f10 f9 f8 f7 f6 f5 f4 f3 f2 f1 f0
theorem q_140w_5 {q0 : Nat} {n0 n1 n2 n3 n4 n5 n6 n7 n8 n9 n10 n11 n12 n13 : Int} {H0 H1 H2 : gH} (f0 : n0 ≤ 2147483647) (f1 : (-2147483648) ≤ n0) (f2 : n1 ≤ 2147483647) (f3 : (-2147483648) ≤ n1) (f4 : n2 ≤ 2147483647) (f5 : (-2147483648) ≤ n2) (f6 : n3 ≤ 2147483647) (f7 : (-2147483648) ≤ n3) (f8 : n4 = 281) (f9 : n5 ≤ 2147483647) (f10 : (-2147483648) ≤ n5) (f11 : n6 ≤ 2147483647) (f12 : (-2147483648) ≤ n6) (f13 : n7 = 281) (f14 : (hLe T0 H0 H1 ∧ hFr s_140.2.2.2.2 H0 H1 ∧ hWt T0 H1) ∧ ((True ∧ Bb_140_5 n7 n6 n5 n4 n3 n2 n1 n0 H0 H1) ∧ True) ∧ some q0 = some (mub_140_5 n7 n6 n5 n4 n3 n2 n1 n0 H0 H1)) (f15 : n8 = 20) (f16 : n0 < n8) (f17 : n1 ≠ n2) (f18 : n9 = 23) (f19 : hK H1 (n4).toNat = 9) (f20 : n9 = hV H1 (n4).toNat 0) (f21 : n10 = 4) (f22 : (hLe T0 H1 H2 ∧ hFr s_3.2.2.2.2 H1 H2 ∧ ((0 : Int) = 0 → H2.length = H1.length) ∧ hWt T0 H2) ∧ postb_3v n11 n9 n1 n10 H1 H2) (f23 : n11 = -1) (f24 : n12 = (-1)) (f25 : n13 = w32 (n0 + 1)) : Bb_140_5 n7 n6 n5 n4 n3 n2 n12 n13 H0 H2 := by
  unfold Bb_140_5
  intro E z p0 p1 k3
  have gb := f14.2.1.1.2
  unfold Bb_140_5 at gb
  obtain ⟨e1, e2, e4, e3⟩ := gb E z p0 p1 k3
  have h20 := z.2.1.1
  have wn := f25
  unfold w32 at wn
  have z1 := SNC_fr f14.1.1 f14.1.2.1 (by decide +kernel) z
  have qk := f22.2
  unfold postb_3v at qk
  rw [f21] at qk
  unfold KV at qk
  rw [z1.1] at qk
  refine ⟨e1, e2, by omega, .inl ⟨by omega, fun w => ?_⟩⟩
  rcases e3 with ⟨w1, w2⟩ | ⟨w1, w2, w3, w4, w5, w6⟩
  · exact w2 w
  · have y := z1.2.2.1 (n1).toNat (by omega)
    have yp := y.1
    have y0 := y.2.2.1
    have kn4 : ¬ E.2.1 (n1).toNat = 4 := fun e => by
      rcases qk with q | q
      · omega
      · exact q.2 ⟨w1, w2, yp, y0.trans e⟩
    rw [(CH_n (E := E) kn4).1, w.2.2] at w5
    omega
def g_140w_5_4 : vG := ([(10, [13, 7], [], 1), (0, [12], [], -1), (50, [11], [], 0), (1003, [11, 9, 6, 10], [1, 2], 0), (0, [10], [], 4), (20, [9, 3], [1], 0), (23, [3], [1], 9), (0, [9], [], 23), (41, [6, 5], [], 0), (42, [7, 8], [], 0), (0, [8], [], 20), (5000, [0, 1, 2, 3, 4, 5, 6, 7], [0, 1], 5), (0, [0], [], 281), (90, [1], [], -2147483648), (91, [1], [], 2147483647), (90, [2], [], -2147483648), (91, [2], [], 2147483647), (0, [3], [], 281), (90, [4], [], -2147483648), (91, [4], [], 2147483647), (90, [5], [], -2147483648), (91, [5], [], 2147483647), (90, [6], [], -2147483648), (91, [6], [], 2147483647), (90, [7], [], -2147483648), (91, [7], [], 2147483647)], (4000, [3, 4, 5, 12, 13], [2], 5))
theorem c_140w_5_4 {q0 : Nat} : vOkm T0 (eN e_140 L_140w A_140 mu_140 n_140 B_140 (some q0)) 3 g_140w_5_4 := vOk_inI fun ρ η f0 f1 f2 f3 f4 f5 f6 f7 f8 f9 f10 f11 f12 f13 f14 f15 f16 f17 f18 f19 f20 f21 f22 f23 f24 f25 => q_140w_5 (q0 := q0) (n0 := ρ 7) (n1 := ρ 6) (n2 := ρ 5) (n3 := ρ 4) (n4 := ρ 3) (n5 := ρ 2) (n6 := ρ 1) (n7 := ρ 0) (n8 := ρ 8) (n9 := ρ 9) (n10 := ρ 10) (n11 := ρ 11) (n12 := ρ 12) (n13 := ρ 13) (H0 := η 0) (H1 := η 1) (H2 := η 2) f25 f24 f23 f22 f21 f20 f19 f18 f17 f16 f15 f14 f13 f12 f11 f10 f9 f8 f7 f6 f5 f4 f3 f2 f1 f0
theorem q_140w_6 {q0 : Nat} {n0 n1 n2 n3 n4 n5 n6 n7 n8 n9 n10 n11 n12 n13 : Int} {H0 H1 H2 : gH} (f0 : n0 ≤ 2147483647) (f1 : (-2147483648) ≤ n0) (f2 : n1 ≤ 2147483647) (f3 : (-2147483648) ≤ n1) (f4 : n2 ≤ 2147483647) (f5 : (-2147483648) ≤ n2) (f6 : n3 ≤ 2147483647) (f7 : (-2147483648) ≤ n3) (f8 : n4 = 281) (f9 : n5 ≤ 2147483647) (f10 : (-2147483648) ≤ n5) (f11 : n6 ≤ 2147483647) (f12 : (-2147483648) ≤ n6) (f13 : n7 = 281) (f14 : (hLe T0 H0 H1 ∧ hFr s_140.2.2.2.2 H0 H1 ∧ hWt T0 H1) ∧ ((True ∧ Bb_140_5 n7 n6 n5 n4 n3 n2 n1 n0 H0 H1) ∧ True) ∧ some q0 = some (mub_140_5 n7 n6 n5 n4 n3 n2 n1 n0 H0 H1)) (f15 : n8 = 20) (f16 : n0 < n8) (f17 : n1 ≠ n2) (f18 : n9 = 23) (f19 : hK H1 (n4).toNat = 9) (f20 : n9 = hV H1 (n4).toNat 0) (f21 : n10 = 4) (f22 : (hLe T0 H1 H2 ∧ hFr s_3.2.2.2.2 H1 H2 ∧ ((0 : Int) = 0 → H2.length = H1.length) ∧ hWt T0 H2) ∧ postb_3v n11 n9 n1 n10 H1 H2) (f23 : 0 ≤ n11) (f24 : n12 ≤ 2147483647) (f25 : (-2147483648) ≤ n12) (f26 : hK H2 (n11).toNat = 7) (f27 : n12 = hV H2 (n11).toNat 3) (f28 : n13 = w32 (n0 + 1)) : Bb_140_5 n7 n6 n5 n4 n3 n2 n12 n13 H0 H2 := by
  unfold Bb_140_5
  intro E z p0 p1 k3
  have gb := f14.2.1.1.2
  unfold Bb_140_5 at gb
  obtain ⟨e1, e2, e4, e3⟩ := gb E z p0 p1 k3
  have h20 := z.2.1.1
  have wn := f28
  unfold w32 at wn
  have z1 := SNC_fr f14.1.1 f14.1.2.1 (by decide +kernel) z
  have qk := f22.2
  unfold postb_3v at qk
  rw [f21] at qk
  unfold KV at qk
  rw [z1.1] at qk
  have qk := qk.resolve_right (fun w => by omega)
  obtain ⟨q1, q2, q3, q4, q5, q6⟩ := qk
  rcases e3 with ⟨w1, w2⟩ | ⟨w1, w2, w3, w4, w5, w6⟩
  · exact absurd ⟨q1, q2⟩ w1
  · have y := z1.2.2.1 (n1).toNat (by omega)
    have k4 : E.2.1 (n1).toNat = 4 := y.2.2.1.symm.trans q5
    have w := (z.2.1.2 (n1).toNat (by omega)).1 k4
    have xs : n12 = E.2.2.1 (n1).toNat := by
      have u := f27.trans (f22.1.2.1.2.2 _ 7 q6 rfl 3 (by decide +kernel))
      rw [q4] at u
      exact u.trans y.2.2.2.2.2.1
    have d := (CH_4 z.2.1 q1 q2 k4).1
    rw [← xs] at d
    exact ⟨e1, e2, by omega, .inr ⟨by omega, by omega, w3, w4, d.symm.trans w5, by omega⟩⟩
def g_140w_5_5 : vG := ([(10, [13, 7], [], 1), (20, [12, 11], [2], 3), (23, [11], [2], 7), (90, [12], [], -2147483648), (91, [12], [], 2147483647), (51, [11], [], 0), (1003, [11, 9, 6, 10], [1, 2], 0), (0, [10], [], 4), (20, [9, 3], [1], 0), (23, [3], [1], 9), (0, [9], [], 23), (41, [6, 5], [], 0), (42, [7, 8], [], 0), (0, [8], [], 20), (5000, [0, 1, 2, 3, 4, 5, 6, 7], [0, 1], 5), (0, [0], [], 281), (90, [1], [], -2147483648), (91, [1], [], 2147483647), (90, [2], [], -2147483648), (91, [2], [], 2147483647), (0, [3], [], 281), (90, [4], [], -2147483648), (91, [4], [], 2147483647), (90, [5], [], -2147483648), (91, [5], [], 2147483647), (90, [6], [], -2147483648), (91, [6], [], 2147483647), (90, [7], [], -2147483648), (91, [7], [], 2147483647)], (4000, [3, 4, 5, 12, 13], [2], 5))
theorem c_140w_5_5 {q0 : Nat} : vOkm T0 (eN e_140 L_140w A_140 mu_140 n_140 B_140 (some q0)) 3 g_140w_5_5 := vOk_inI fun ρ η f0 f1 f2 f3 f4 f5 f6 f7 f8 f9 f10 f11 f12 f13 f14 f15 f16 f17 f18 f19 f20 f21 f22 f23 f24 f25 f26 f27 f28 => q_140w_6 (q0 := q0) (n0 := ρ 7) (n1 := ρ 6) (n2 := ρ 5) (n3 := ρ 4) (n4 := ρ 3) (n5 := ρ 2) (n6 := ρ 1) (n7 := ρ 0) (n8 := ρ 8) (n9 := ρ 9) (n10 := ρ 10) (n11 := ρ 11) (n12 := ρ 12) (n13 := ρ 13) (H0 := η 0) (H1 := η 1) (H2 := η 2) f28 f27 f26 f25 f24 f23 f22 f21 f20 f19 f18 f17 f16 f15 f14 f13 f12 f11 f10 f9 f8 f7 f6 f5 f4 f3 f2 f1 f0
def p_140w_5 : List vG := [g_140w_5_0,
  g_140w_5_1,
  g_140w_5_2,
  g_140w_5_3,
  g_140w_5_4,
  g_140w_5_5]
theorem r_140w_5 : vCovBO (eRc e_140 L_140 cs_140 2000 (5, [(0, (3, 9, 281, 0)), (1, (0, -2147483648, 2147483647, 0)), (2, (0, -2147483648, 2147483647, 0)), (3, (0, -2147483648, 2147483647, 0)), (4, (0, -2147483648, 2147483647, 0))])) p_140w_5 = true := by decide +kernel
theorem m_140w (d : Nat) : eC e_140w (d + 3) := eC_ref (e := e_140) (L := L_140) (L' := L_140w) (cs := cs_140) (n := 2000) (d := d + 2) (A := A_140) (μ := mu_140) (tp := true) (p0 := p_140_s) (p1 := p_140w_s) (N := n_140) (B := B_140) rfl ⟨m_3v d, trivial⟩ rfl (.inr pre0_ok) (by decide +kernel) (fun _ => post0_ok) r_140_s (allC c_140_s_0 allN) (allC (.inl ⟨p_140_5, r_140_5, fun q0 => (allC c_140_5_0 (allC c_140_5_1 allN))⟩) allN) ⟨⟨rfl, rfl, rfl, fun _ _ _ _ => trivial⟩, trivial⟩ r_140w_s (allC c_140w_s_0 allN) (allC ⟨p_140w_5, r_140w_5, fun q0 => (allC c_140w_5_0 (allC c_140w_5_1 (allC c_140w_5_2 (allC c_140w_5_3 (allC c_140w_5_4 (allC c_140w_5_5 allN))))))⟩ allN)
