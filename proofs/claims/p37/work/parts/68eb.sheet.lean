/-! CONTRACTS of methods told more fully. -/
/- MixStageModel.isThere (II)Z, more fully -/
def nb_273 (r a0 a1 a2 : Int) (h0 h : gH) : Prop := SEok (RE h0) → FBc (lrN (nowR (hV h0 340) (recR h0 (hV h0 344 (a1).toNat).toNat, hV h0 345 (a1).toNat))) → 0 ≤ a2 → a2 ≤ 240 → 0 ≤ (lrN (nowR (hV h0 340) (recR h0 (hV h0 344 (a1).toNat).toNat, hV h0 345 (a1).toNat))).2.1 → (lrN (nowR (hV h0 340) (recR h0 (hV h0 344 (a1).toNat).toNat, hV h0 345 (a1).toNat))).2.1 < hV h0 285 64 → hV h0 328 (RT (RE h0) (lrN (nowR (hV h0 340) (recR h0 (hV h0 344 (a1).toNat).toNat, hV h0 345 (a1).toNat))).2.1).toNat ≤ 3 → ¬ hV h0 328 ((lrN (nowR (hV h0 340) (recR h0 (hV h0 344 (a1).toNat).toNat, hV h0 345 (a1).toNat))).2.1).toNat = 1 → (r = 1 ∧ HEp (RE h0) (lrN (nowR (hV h0 340) (recR h0 (hV h0 344 (a1).toNat).toNat, hV h0 345 (a1).toNat))) a2 ∧ hV h 285 88 = lyI (lrN (nowR (hV h0 340) (recR h0 (hV h0 344 (a1).toNat).toNat, hV h0 345 (a1).toNat))) a2) ∨ (r = 0 ∧ ¬ HEp (RE h0) (lrN (nowR (hV h0 340) (recR h0 (hV h0 344 (a1).toNat).toNat, hV h0 345 (a1).toNat))) a2)
def n_273 : List Int → gH → gH → Prop := fun xs h0 h => match xs with
  | [r, a0, a1, a2] => nb_273 r a0 a1 a2 h0 h
  | _ => True
noncomputable def e_273w : vE := eV e_273 n_273
noncomputable def L_273w : List vE := [e_250, e_265w, e_271w]
def Bb_273_75 (a0 a1 a2 x0 x1 x2 x3 x4 x5 : Int) (h0 h : gH) : Prop := SEok (RE h0) → FBc (lrN (nowR (hV h0 340) (recR h0 (hV h0 344 (a1).toNat).toNat, hV h0 345 (a1).toNat))) → 0 ≤ a2 → a2 ≤ 240 → 0 ≤ (lrN (nowR (hV h0 340) (recR h0 (hV h0 344 (a1).toNat).toNat, hV h0 345 (a1).toNat))).2.1 → (lrN (nowR (hV h0 340) (recR h0 (hV h0 344 (a1).toNat).toNat, hV h0 345 (a1).toNat))).2.1 < hV h0 285 64 → hV h0 328 (RT (RE h0) (lrN (nowR (hV h0 340) (recR h0 (hV h0 344 (a1).toNat).toNat, hV h0 345 (a1).toNat))).2.1).toNat ≤ 3 → ¬ hV h0 328 ((lrN (nowR (hV h0 340) (recR h0 (hV h0 344 (a1).toNat).toNat, hV h0 345 (a1).toNat))).2.1).toNat = 1 → x5 = snF (lrN (nowR (hV h0 340) (recR h0 (hV h0 344 (a1).toNat).toNat, hV h0 345 (a1).toNat))) a2 ∧ 0 ≤ x5 ∧ ((lrN (nowR (hV h0 340) (recR h0 (hV h0 344 (a1).toNat).toNat, hV h0 345 (a1).toNat))).2.2.2.2.1 = -1 ∨ x5 < w32 (4 * (lrN (nowR (hV h0 340) (recR h0 (hV h0 344 (a1).toNat).toNat, hV h0 345 (a1).toNat))).2.2.2.2.1))
def Bb_273_182 (a0 a1 a2 x0 x1 x2 x3 x4 x5 : Int) (h0 h : gH) : Prop := SEok (RE h0) → FBc (lrN (nowR (hV h0 340) (recR h0 (hV h0 344 (a1).toNat).toNat, hV h0 345 (a1).toNat))) → 0 ≤ a2 → a2 ≤ 240 → 0 ≤ (lrN (nowR (hV h0 340) (recR h0 (hV h0 344 (a1).toNat).toNat, hV h0 345 (a1).toNat))).2.1 → (lrN (nowR (hV h0 340) (recR h0 (hV h0 344 (a1).toNat).toNat, hV h0 345 (a1).toNat))).2.1 < hV h0 285 64 → hV h0 328 (RT (RE h0) (lrN (nowR (hV h0 340) (recR h0 (hV h0 344 (a1).toNat).toNat, hV h0 345 (a1).toNat))).2.1).toNat ≤ 3 → ¬ hV h0 328 ((lrN (nowR (hV h0 340) (recR h0 (hV h0 344 (a1).toNat).toNat, hV h0 345 (a1).toNat))).2.1).toNat = 1 → hV h 285 88 = lyI (lrN (nowR (hV h0 340) (recR h0 (hV h0 344 (a1).toNat).toNat, hV h0 345 (a1).toNat))) a2 ∧ x5 = snF (lrN (nowR (hV h0 340) (recR h0 (hV h0 344 (a1).toNat).toNat, hV h0 345 (a1).toNat))) a2 ∧ 0 ≤ x5 ∧ ((lrN (nowR (hV h0 340) (recR h0 (hV h0 344 (a1).toNat).toNat, hV h0 345 (a1).toNat))).2.2.2.2.1 = -1 ∨ x5 < w32 (4 * (lrN (nowR (hV h0 340) (recR h0 (hV h0 344 (a1).toNat).toNat, hV h0 345 (a1).toNat))).2.2.2.2.1))
def B_273 : Int → List Int → gH → gH → Prop := fun c xs h0 h => match c.toNat with
  | 75 => (match xs with
    | [a0, a1, a2, x0, x1, x2, x3, x4, x5] => Bb_273_75 a0 a1 a2 x0 x1 x2 x3 x4 x5 h0 h
    | _ => False)
  | 182 => (match xs with
    | [a0, a1, a2, x0, x1, x2, x3, x4, x5] => Bb_273_182 a0 a1 a2 x0 x1 x2 x3 x4 x5 h0 h
    | _ => False)
  | _ => True
theorem q_273w_0 {n0 n1 n2 n3 n4 n5 n6 n7 n8 n9 n10 n11 n12 : Int} {H0 H1 H2 : gH} (f0 : n0 ≤ 2147483647) (f1 : (-2147483648) ≤ n0) (f2 : n1 ≤ 39) (f3 : 0 ≤ n1) (f4 : n2 = 285) (f5 : hWt T0 H0 ∧ preb_273 n2 n1 n0 H0) (f6 : n3 = 344) (f7 : hK H0 (n2).toNat = 12) (f8 : n3 = hV H0 (n2).toNat 83) (f9 : n4 ≤ 1007) (f10 : 0 ≤ n4) (f11 : n4 = hV H0 (n3).toNat (n1).toNat) (f12 : n5 = 300) (f13 : hK H0 (n2).toNat = 12) (f14 : n5 = hV H0 (n2).toNat 26) (f15 : n6 ≤ 9999) (f16 : (-1) ≤ n6) (f17 : n6 = hV H0 (n5).toNat (n4).toNat) (f18 : n7 = 4) (f19 : n8 ≤ 10999) (f20 : (-10999) ≤ n8) (f21 : (hLe T0 H0 H1 ∧ hFr s_271.2.2.2.2 H0 H1 ∧ ((0 : Int) = 0 → H1.length = H0.length) ∧ hWt T0 H1) ∧ (True ∧ nb_271 n8 n2 n1 H0 H1)) (f22 : n9 = w32 (n7 * n8)) (f23 : n10 = w32 (n0 - n9)) (f24 : n11 ≤ 1) (f25 : 0 ≤ n11) (f26 : (hLe T0 H1 H2 ∧ hFr s_250.2.2.2.2 H1 H2 ∧ ((0 : Int) = 0 → H2.length = H1.length) ∧ hWt T0 H2) ∧ postb_250 n11 n2 n6 H1 H2) (f27 : n11 = 0) (f28 : n12 = 0) : nb_273 n12 n2 n1 n0 H0 H2 := by
  unfold nb_273
  intro sk fb b0 b1 s0 s1 r3 kn1
  have pz := f5.2
  unfold preb_273 at pz
  obtain ⟨z0, xq, so, k0⟩ := pz
  have d11 := rdW (q := 344) f11 f6
  have d17 := rdW (q := 300) f17 f12
  have d344 : n4 = hV H0 344 (n1).toNat := d11
  have el := lrN_R (h := H0) (mk := hV H0 340) (sh := hV H0 345 (n1).toNat) k0
  have m0 : (lrN (nowR (hV H0 340) (recR H0 (hV H0 344 (n1).toNat).toNat, hV H0 345 (n1).toNat))).1 = 0 := congrArg (fun y : LR => y.1) el
  have g_sn : (lrN (nowR (hV H0 340) (recR H0 (hV H0 344 (n1).toNat).toNat, hV H0 345 (n1).toNat))).2.1 = hV H0 300 (hV H0 344 (n1).toNat).toNat := congrArg (fun y : LR => y.2.1) el
  have g_fr : (lrN (nowR (hV H0 340) (recR H0 (hV H0 344 (n1).toNat).toNat, hV H0 345 (n1).toNat))).2.2.1 = frM (hV H0 340) (hV H0 301 (hV H0 344 (n1).toNat).toNat) (hV H0 302 (hV H0 344 (n1).toNat).toNat) (hV H0 345 (n1).toNat) := congrArg (fun y : LR => y.2.2.1) el
  have g_fo : (lrN (nowR (hV H0 340) (recR H0 (hV H0 344 (n1).toNat).toNat, hV H0 345 (n1).toNat))).2.2.2.2.1 = hV H0 305 (6 * (hV H0 344 (n1).toNat).toNat + 1) := congrArg (fun y : LR => y.2.2.2.2.1) el
  have e300 : n6 = (lrN (nowR (hV H0 340) (recR H0 (hV H0 344 (n1).toNat).toNat, hV H0 345 (n1).toNat))).2.1 := by
    rw [g_sn, d17, d344]
  have fr := f21.2.2
  unfold nb_271 at fr
  rw [← g_fr] at fr
  have xs : n10 = snF (lrN (nowR (hV H0 340) (recR H0 (hV H0 344 (n1).toNat).toNat, hV H0 345 (n1).toNat))) n0 := by
    unfold snF
    rw [← fr, f23, f22, f18]
  have sn := sn_in fb m0 b0 b1
  have fb1 := fb m0
  have qi := f26.2
  unfold postb_250 at qi
  have s64 : hV H2 285 64 = hV H0 285 64 := (f26.1.2.1.1 285 64 (by decide +kernel)).trans (f21.1.2.1.1 285 64 (by decide +kernel))
  exfalso
  omega
def g_273w_s_0 : vG := ([(0, [12], [], 0), (30, [11], [], 0), (1250, [11, 0, 6], [1, 2], 0), (90, [11], [], 0), (91, [11], [], 1), (2, [10, 2, 9], [], 0), (3, [9, 7, 8], [], 0), (1271, [8, 0, 1], [0, 1], 0), (90, [8], [], -10999), (91, [8], [], 10999), (0, [7], [], 4), (22, [6, 5, 4], [0], 0), (90, [6], [], -1), (91, [6], [], 9999), (20, [5, 0], [0], 26), (23, [0], [0], 12), (0, [5], [], 300), (22, [4, 3, 1], [0], 0), (90, [4], [], 0), (91, [4], [], 1007), (20, [3, 0], [0], 83), (23, [0], [0], 12), (0, [3], [], 344), (6000, [0, 1, 2], [0], 0), (0, [0], [], 285), (90, [1], [], 0), (91, [1], [], 39), (90, [2], [], -2147483648), (91, [2], [], 2147483647)], (3000, [12], [2], 74))
theorem c_273w_s_0 : vOkm T0 (eN e_273 L_273w A_273 mu_273 n_273 B_273 none) 3 g_273w_s_0 := vOk_inI fun ρ η f0 f1 f2 f3 f4 f5 f6 f7 f8 f9 f10 f11 f12 f13 f14 f15 f16 f17 f18 f19 f20 f21 f22 f23 f24 f25 f26 f27 f28 => q_273w_0 (n0 := ρ 2) (n1 := ρ 1) (n2 := ρ 0) (n3 := ρ 3) (n4 := ρ 4) (n5 := ρ 5) (n6 := ρ 6) (n7 := ρ 7) (n8 := ρ 8) (n9 := ρ 9) (n10 := ρ 10) (n11 := ρ 11) (n12 := ρ 12) (H0 := η 0) (H1 := η 1) (H2 := η 2) f28 f27 f26 f25 f24 f23 f22 f21 f20 f19 f18 f17 f16 f15 f14 f13 f12 f11 f10 f9 f8 f7 f6 f5 f4 f3 f2 f1 f0
theorem q_273w_1 {n0 n1 n2 n3 n4 n5 n6 n7 n8 n9 n10 n11 n12 : Int} {H0 H1 H2 : gH} (f0 : n0 ≤ 2147483647) (f1 : (-2147483648) ≤ n0) (f2 : n1 ≤ 39) (f3 : 0 ≤ n1) (f4 : n2 = 285) (f5 : hWt T0 H0 ∧ preb_273 n2 n1 n0 H0) (f6 : n3 = 344) (f7 : hK H0 (n2).toNat = 12) (f8 : n3 = hV H0 (n2).toNat 83) (f9 : n4 ≤ 1007) (f10 : 0 ≤ n4) (f11 : n4 = hV H0 (n3).toNat (n1).toNat) (f12 : n5 = 300) (f13 : hK H0 (n2).toNat = 12) (f14 : n5 = hV H0 (n2).toNat 26) (f15 : n6 ≤ 9999) (f16 : (-1) ≤ n6) (f17 : n6 = hV H0 (n5).toNat (n4).toNat) (f18 : n7 = 4) (f19 : n8 ≤ 10999) (f20 : (-10999) ≤ n8) (f21 : (hLe T0 H0 H1 ∧ hFr s_271.2.2.2.2 H0 H1 ∧ ((0 : Int) = 0 → H1.length = H0.length) ∧ hWt T0 H1) ∧ (True ∧ nb_271 n8 n2 n1 H0 H1)) (f22 : n9 = w32 (n7 * n8)) (f23 : n10 = w32 (n0 - n9)) (f24 : n11 ≤ 1) (f25 : 0 ≤ n11) (f26 : (hLe T0 H1 H2 ∧ hFr s_250.2.2.2.2 H1 H2 ∧ ((0 : Int) = 0 → H2.length = H1.length) ∧ hWt T0 H2) ∧ postb_250 n11 n2 n6 H1 H2) (f27 : n11 ≠ 0) (f28 : n10 < 0) (f29 : n12 = 0) : nb_273 n12 n2 n1 n0 H0 H2 := by
  unfold nb_273
  intro sk fb b0 b1 s0 s1 r3 kn1
  have pz := f5.2
  unfold preb_273 at pz
  obtain ⟨z0, xq, so, k0⟩ := pz
  have d11 := rdW (q := 344) f11 f6
  have d17 := rdW (q := 300) f17 f12
  have d344 : n4 = hV H0 344 (n1).toNat := d11
  have el := lrN_R (h := H0) (mk := hV H0 340) (sh := hV H0 345 (n1).toNat) k0
  have m0 : (lrN (nowR (hV H0 340) (recR H0 (hV H0 344 (n1).toNat).toNat, hV H0 345 (n1).toNat))).1 = 0 := congrArg (fun y : LR => y.1) el
  have g_sn : (lrN (nowR (hV H0 340) (recR H0 (hV H0 344 (n1).toNat).toNat, hV H0 345 (n1).toNat))).2.1 = hV H0 300 (hV H0 344 (n1).toNat).toNat := congrArg (fun y : LR => y.2.1) el
  have g_fr : (lrN (nowR (hV H0 340) (recR H0 (hV H0 344 (n1).toNat).toNat, hV H0 345 (n1).toNat))).2.2.1 = frM (hV H0 340) (hV H0 301 (hV H0 344 (n1).toNat).toNat) (hV H0 302 (hV H0 344 (n1).toNat).toNat) (hV H0 345 (n1).toNat) := congrArg (fun y : LR => y.2.2.1) el
  have g_fo : (lrN (nowR (hV H0 340) (recR H0 (hV H0 344 (n1).toNat).toNat, hV H0 345 (n1).toNat))).2.2.2.2.1 = hV H0 305 (6 * (hV H0 344 (n1).toNat).toNat + 1) := congrArg (fun y : LR => y.2.2.2.2.1) el
  have e300 : n6 = (lrN (nowR (hV H0 340) (recR H0 (hV H0 344 (n1).toNat).toNat, hV H0 345 (n1).toNat))).2.1 := by
    rw [g_sn, d17, d344]
  have fr := f21.2.2
  unfold nb_271 at fr
  rw [← g_fr] at fr
  have xs : n10 = snF (lrN (nowR (hV H0 340) (recR H0 (hV H0 344 (n1).toNat).toNat, hV H0 345 (n1).toNat))) n0 := by
    unfold snF
    rw [← fr, f23, f22, f18]
  have sn := sn_in fb m0 b0 b1
  have fb1 := fb m0
  have qi := f26.2
  unfold postb_250 at qi
  have s64 : hV H2 285 64 = hV H0 285 64 := (f26.1.2.1.1 285 64 (by decide +kernel)).trans (f21.1.2.1.1 285 64 (by decide +kernel))
  exact .inr ⟨by omega, fun w => by
    have w1 := w.1
    have w2 := w.2.1
    omega⟩
def g_273w_s_1 : vG := ([(0, [12], [], 0), (32, [10], [], 0), (31, [11], [], 0), (1250, [11, 0, 6], [1, 2], 0), (90, [11], [], 0), (91, [11], [], 1), (2, [10, 2, 9], [], 0), (3, [9, 7, 8], [], 0), (1271, [8, 0, 1], [0, 1], 0), (90, [8], [], -10999), (91, [8], [], 10999), (0, [7], [], 4), (22, [6, 5, 4], [0], 0), (90, [6], [], -1), (91, [6], [], 9999), (20, [5, 0], [0], 26), (23, [0], [0], 12), (0, [5], [], 300), (22, [4, 3, 1], [0], 0), (90, [4], [], 0), (91, [4], [], 1007), (20, [3, 0], [0], 83), (23, [0], [0], 12), (0, [3], [], 344), (6000, [0, 1, 2], [0], 0), (0, [0], [], 285), (90, [1], [], 0), (91, [1], [], 39), (90, [2], [], -2147483648), (91, [2], [], 2147483647)], (3000, [12], [2], 74))
theorem c_273w_s_1 : vOkm T0 (eN e_273 L_273w A_273 mu_273 n_273 B_273 none) 3 g_273w_s_1 := vOk_inI fun ρ η f0 f1 f2 f3 f4 f5 f6 f7 f8 f9 f10 f11 f12 f13 f14 f15 f16 f17 f18 f19 f20 f21 f22 f23 f24 f25 f26 f27 f28 f29 => q_273w_1 (n0 := ρ 2) (n1 := ρ 1) (n2 := ρ 0) (n3 := ρ 3) (n4 := ρ 4) (n5 := ρ 5) (n6 := ρ 6) (n7 := ρ 7) (n8 := ρ 8) (n9 := ρ 9) (n10 := ρ 10) (n11 := ρ 11) (n12 := ρ 12) (H0 := η 0) (H1 := η 1) (H2 := η 2) f29 f28 f27 f26 f25 f24 f23 f22 f21 f20 f19 f18 f17 f16 f15 f14 f13 f12 f11 f10 f9 f8 f7 f6 f5 f4 f3 f2 f1 f0
theorem q_273w_2 {n0 n1 n2 n3 n4 n5 n6 n7 n8 n9 n10 n11 n12 n13 n14 n15 n16 n17 n18 : Int} {H0 H1 H2 : gH} (f0 : n0 ≤ 2147483647) (f1 : (-2147483648) ≤ n0) (f2 : n1 ≤ 39) (f3 : 0 ≤ n1) (f4 : n2 = 285) (f5 : hWt T0 H0 ∧ preb_273 n2 n1 n0 H0) (f6 : n3 = 344) (f7 : hK H0 (n2).toNat = 12) (f8 : n3 = hV H0 (n2).toNat 83) (f9 : n4 ≤ 1007) (f10 : 0 ≤ n4) (f11 : n4 = hV H0 (n3).toNat (n1).toNat) (f12 : n5 = 300) (f13 : hK H0 (n2).toNat = 12) (f14 : n5 = hV H0 (n2).toNat 26) (f15 : n6 ≤ 9999) (f16 : (-1) ≤ n6) (f17 : n6 = hV H0 (n5).toNat (n4).toNat) (f18 : n7 = 4) (f19 : n8 ≤ 10999) (f20 : (-10999) ≤ n8) (f21 : (hLe T0 H0 H1 ∧ hFr s_271.2.2.2.2 H0 H1 ∧ ((0 : Int) = 0 → H1.length = H0.length) ∧ hWt T0 H1) ∧ (True ∧ nb_271 n8 n2 n1 H0 H1)) (f22 : n9 = w32 (n7 * n8)) (f23 : n10 = w32 (n0 - n9)) (f24 : n11 ≤ 1) (f25 : 0 ≤ n11) (f26 : (hLe T0 H1 H2 ∧ hFr s_250.2.2.2.2 H1 H2 ∧ ((0 : Int) = 0 → H2.length = H1.length) ∧ hWt T0 H2) ∧ postb_250 n11 n2 n6 H1 H2) (f27 : n11 ≠ 0) (f28 : 0 ≤ n10) (f29 : n12 = 305) (f30 : hK H2 (n2).toNat = 12) (f31 : n12 = hV H2 (n2).toNat 31) (f32 : n13 = 6) (f33 : n14 = w32 (n13 * n4)) (f34 : n15 = 1) (f35 : n16 = w32 (n14 + n15)) (f36 : n17 ≤ 9999) (f37 : (-1) ≤ n17) (f38 : n17 = hV H2 (n12).toNat (n16).toNat) (f39 : n18 = (-1)) (f40 : n17 = n18) : Bb_273_75 n2 n1 n0 n2 n1 n0 n4 n6 n10 H0 H2 := by
  unfold Bb_273_75
  intro sk fb b0 b1 s0 s1 r3 kn1
  have pz := f5.2
  unfold preb_273 at pz
  obtain ⟨z0, xq, so, k0⟩ := pz
  have d11 := rdW (q := 344) f11 f6
  have d17 := rdW (q := 300) f17 f12
  have d38 := rdW (q := 305) f38 f29
  rw [show hV H2 305 = hV H0 305 from (fRow f26.1.2.1 305 (by decide +kernel)).trans (fRow f21.1.2.1 305 (by decide +kernel))] at d38
  have d344 : n4 = hV H0 344 (n1).toNat := d11
  have el := lrN_R (h := H0) (mk := hV H0 340) (sh := hV H0 345 (n1).toNat) k0
  have m0 : (lrN (nowR (hV H0 340) (recR H0 (hV H0 344 (n1).toNat).toNat, hV H0 345 (n1).toNat))).1 = 0 := congrArg (fun y : LR => y.1) el
  have g_sn : (lrN (nowR (hV H0 340) (recR H0 (hV H0 344 (n1).toNat).toNat, hV H0 345 (n1).toNat))).2.1 = hV H0 300 (hV H0 344 (n1).toNat).toNat := congrArg (fun y : LR => y.2.1) el
  have g_fr : (lrN (nowR (hV H0 340) (recR H0 (hV H0 344 (n1).toNat).toNat, hV H0 345 (n1).toNat))).2.2.1 = frM (hV H0 340) (hV H0 301 (hV H0 344 (n1).toNat).toNat) (hV H0 302 (hV H0 344 (n1).toNat).toNat) (hV H0 345 (n1).toNat) := congrArg (fun y : LR => y.2.2.1) el
  have g_fo : (lrN (nowR (hV H0 340) (recR H0 (hV H0 344 (n1).toNat).toNat, hV H0 345 (n1).toNat))).2.2.2.2.1 = hV H0 305 (6 * (hV H0 344 (n1).toNat).toNat + 1) := congrArg (fun y : LR => y.2.2.2.2.1) el
  have e300 : n6 = (lrN (nowR (hV H0 340) (recR H0 (hV H0 344 (n1).toNat).toNat, hV H0 345 (n1).toNat))).2.1 := by
    rw [g_sn, d17, d344]
  have fr := f21.2.2
  unfold nb_271 at fr
  rw [← g_fr] at fr
  have xs : n10 = snF (lrN (nowR (hV H0 340) (recR H0 (hV H0 344 (n1).toNat).toNat, hV H0 345 (n1).toNat))) n0 := by
    unfold snF
    rw [← fr, f23, f22, f18]
  have sn := sn_in fb m0 b0 b1
  have fb1 := fb m0
  have qi := f26.2
  unfold postb_250 at qi
  have s64 : hV H2 285 64 = hV H0 285 64 := (f26.1.2.1.1 285 64 (by decide +kernel)).trans (f21.1.2.1.1 285 64 (by decide +kernel))
  have w22 := f22
  unfold w32 at w22
  rw [f18] at w22
  have w23 := f23
  unfold w32 at w23
  have w33 := f33
  unfold w32 at w33
  rw [f32] at w33
  have w35 := f35
  unfold w32 at w35
  have p33 : n14 = 6 * n4 := by
    have w := f33
    rw [f32, w32_id (by omega) (by omega)] at w
    omega
  have p35 : n16 = n14 + 1 := by
    have w := f35
    rw [f34, w32_id (by omega) (by omega)] at w
    omega
  have x38 : n17 = (lrN (nowR (hV H0 340) (recR H0 (hV H0 344 (n1).toNat).toNat, hV H0 345 (n1).toNat))).2.2.2.2.1 := by
    rw [g_fo, d38]
    refine congrArg (hV H0 305) ?_
    omega
  exact ⟨xs, by omega, by omega⟩
def g_273w_s_2 : vG := ([(40, [17, 18], [], 0), (0, [18], [], -1), (22, [17, 12, 16], [2], 0), (90, [17], [], -1), (91, [17], [], 9999), (1, [16, 14, 15], [], 0), (0, [15], [], 1), (3, [14, 13, 4], [], 0), (0, [13], [], 6), (20, [12, 0], [2], 31), (23, [0], [2], 12), (0, [12], [], 305), (33, [10], [], 0), (31, [11], [], 0), (1250, [11, 0, 6], [1, 2], 0), (90, [11], [], 0), (91, [11], [], 1), (2, [10, 2, 9], [], 0), (3, [9, 7, 8], [], 0), (1271, [8, 0, 1], [0, 1], 0), (90, [8], [], -10999), (91, [8], [], 10999), (0, [7], [], 4), (22, [6, 5, 4], [0], 0), (90, [6], [], -1), (91, [6], [], 9999), (20, [5, 0], [0], 26), (23, [0], [0], 12), (0, [5], [], 300), (22, [4, 3, 1], [0], 0), (90, [4], [], 0), (91, [4], [], 1007), (20, [3, 0], [0], 83), (23, [0], [0], 12), (0, [3], [], 344), (6000, [0, 1, 2], [0], 0), (0, [0], [], 285), (90, [1], [], 0), (91, [1], [], 39), (90, [2], [], -2147483648), (91, [2], [], 2147483647)], (4000, [0, 1, 2, 4, 6, 10], [2], 75))
theorem c_273w_s_2 : vOkm T0 (eN e_273 L_273w A_273 mu_273 n_273 B_273 none) 3 g_273w_s_2 := vOk_inI fun ρ η f0 f1 f2 f3 f4 f5 f6 f7 f8 f9 f10 f11 f12 f13 f14 f15 f16 f17 f18 f19 f20 f21 f22 f23 f24 f25 f26 f27 f28 f29 f30 f31 f32 f33 f34 f35 f36 f37 f38 f39 f40 => q_273w_2 (n0 := ρ 2) (n1 := ρ 1) (n2 := ρ 0) (n3 := ρ 3) (n4 := ρ 4) (n5 := ρ 5) (n6 := ρ 6) (n7 := ρ 7) (n8 := ρ 8) (n9 := ρ 9) (n10 := ρ 10) (n11 := ρ 11) (n12 := ρ 12) (n13 := ρ 13) (n14 := ρ 14) (n15 := ρ 15) (n16 := ρ 16) (n17 := ρ 17) (n18 := ρ 18) (H0 := η 0) (H1 := η 1) (H2 := η 2) f40 f39 f38 f37 f36 f35 f34 f33 f32 f31 f30 f29 f28 f27 f26 f25 f24 f23 f22 f21 f20 f19 f18 f17 f16 f15 f14 f13 f12 f11 f10 f9 f8 f7 f6 f5 f4 f3 f2 f1 f0
theorem q_273w_3 {n0 n1 n2 n3 n4 n5 n6 n7 n8 n9 n10 n11 n12 n13 n14 n15 n16 n17 n18 n19 n20 n21 n22 n23 n24 n25 n26 : Int} {H0 H1 H2 : gH} (f0 : n0 ≤ 2147483647) (f1 : (-2147483648) ≤ n0) (f2 : n1 ≤ 39) (f3 : 0 ≤ n1) (f4 : n2 = 285) (f5 : hWt T0 H0 ∧ preb_273 n2 n1 n0 H0) (f6 : n3 = 344) (f7 : hK H0 (n2).toNat = 12) (f8 : n3 = hV H0 (n2).toNat 83) (f9 : n4 ≤ 1007) (f10 : 0 ≤ n4) (f11 : n4 = hV H0 (n3).toNat (n1).toNat) (f12 : n5 = 300) (f13 : hK H0 (n2).toNat = 12) (f14 : n5 = hV H0 (n2).toNat 26) (f15 : n6 ≤ 9999) (f16 : (-1) ≤ n6) (f17 : n6 = hV H0 (n5).toNat (n4).toNat) (f18 : n7 = 4) (f19 : n8 ≤ 10999) (f20 : (-10999) ≤ n8) (f21 : (hLe T0 H0 H1 ∧ hFr s_271.2.2.2.2 H0 H1 ∧ ((0 : Int) = 0 → H1.length = H0.length) ∧ hWt T0 H1) ∧ (True ∧ nb_271 n8 n2 n1 H0 H1)) (f22 : n9 = w32 (n7 * n8)) (f23 : n10 = w32 (n0 - n9)) (f24 : n11 ≤ 1) (f25 : 0 ≤ n11) (f26 : (hLe T0 H1 H2 ∧ hFr s_250.2.2.2.2 H1 H2 ∧ ((0 : Int) = 0 → H2.length = H1.length) ∧ hWt T0 H2) ∧ postb_250 n11 n2 n6 H1 H2) (f27 : n11 ≠ 0) (f28 : 0 ≤ n10) (f29 : n12 = 305) (f30 : hK H2 (n2).toNat = 12) (f31 : n12 = hV H2 (n2).toNat 31) (f32 : n13 = 6) (f33 : n14 = w32 (n13 * n4)) (f34 : n15 = 1) (f35 : n16 = w32 (n14 + n15)) (f36 : n17 ≤ 9999) (f37 : (-1) ≤ n17) (f38 : n17 = hV H2 (n12).toNat (n16).toNat) (f39 : n18 = (-1)) (f40 : n17 ≠ n18) (f41 : n19 = 4) (f42 : n20 = 305) (f43 : hK H2 (n2).toNat = 12) (f44 : n20 = hV H2 (n2).toNat 31) (f45 : n21 = 6) (f46 : n22 = w32 (n21 * n4)) (f47 : n23 = 1) (f48 : n24 = w32 (n22 + n23)) (f49 : n25 ≤ 9999) (f50 : (-1) ≤ n25) (f51 : n25 = hV H2 (n20).toNat (n24).toNat) (f52 : n26 = w32 (n19 * n25)) (f53 : n10 < n26) : Bb_273_75 n2 n1 n0 n2 n1 n0 n4 n6 n10 H0 H2 := by
  unfold Bb_273_75
  intro sk fb b0 b1 s0 s1 r3 kn1
  have pz := f5.2
  unfold preb_273 at pz
  obtain ⟨z0, xq, so, k0⟩ := pz
  have d11 := rdW (q := 344) f11 f6
  have d17 := rdW (q := 300) f17 f12
  have d38 := rdW (q := 305) f38 f29
  have d51 := rdW (q := 305) f51 f42
  rw [show hV H2 305 = hV H0 305 from (fRow f26.1.2.1 305 (by decide +kernel)).trans (fRow f21.1.2.1 305 (by decide +kernel))] at d38
  rw [show hV H2 305 = hV H0 305 from (fRow f26.1.2.1 305 (by decide +kernel)).trans (fRow f21.1.2.1 305 (by decide +kernel))] at d51
  have d344 : n4 = hV H0 344 (n1).toNat := d11
  have el := lrN_R (h := H0) (mk := hV H0 340) (sh := hV H0 345 (n1).toNat) k0
  have m0 : (lrN (nowR (hV H0 340) (recR H0 (hV H0 344 (n1).toNat).toNat, hV H0 345 (n1).toNat))).1 = 0 := congrArg (fun y : LR => y.1) el
  have g_sn : (lrN (nowR (hV H0 340) (recR H0 (hV H0 344 (n1).toNat).toNat, hV H0 345 (n1).toNat))).2.1 = hV H0 300 (hV H0 344 (n1).toNat).toNat := congrArg (fun y : LR => y.2.1) el
  have g_fr : (lrN (nowR (hV H0 340) (recR H0 (hV H0 344 (n1).toNat).toNat, hV H0 345 (n1).toNat))).2.2.1 = frM (hV H0 340) (hV H0 301 (hV H0 344 (n1).toNat).toNat) (hV H0 302 (hV H0 344 (n1).toNat).toNat) (hV H0 345 (n1).toNat) := congrArg (fun y : LR => y.2.2.1) el
  have g_fo : (lrN (nowR (hV H0 340) (recR H0 (hV H0 344 (n1).toNat).toNat, hV H0 345 (n1).toNat))).2.2.2.2.1 = hV H0 305 (6 * (hV H0 344 (n1).toNat).toNat + 1) := congrArg (fun y : LR => y.2.2.2.2.1) el
  have e300 : n6 = (lrN (nowR (hV H0 340) (recR H0 (hV H0 344 (n1).toNat).toNat, hV H0 345 (n1).toNat))).2.1 := by
    rw [g_sn, d17, d344]
  have fr := f21.2.2
  unfold nb_271 at fr
  rw [← g_fr] at fr
  have xs : n10 = snF (lrN (nowR (hV H0 340) (recR H0 (hV H0 344 (n1).toNat).toNat, hV H0 345 (n1).toNat))) n0 := by
    unfold snF
    rw [← fr, f23, f22, f18]
  have sn := sn_in fb m0 b0 b1
  have fb1 := fb m0
  have qi := f26.2
  unfold postb_250 at qi
  have s64 : hV H2 285 64 = hV H0 285 64 := (f26.1.2.1.1 285 64 (by decide +kernel)).trans (f21.1.2.1.1 285 64 (by decide +kernel))
  have w22 := f22
  unfold w32 at w22
  rw [f18] at w22
  have w23 := f23
  unfold w32 at w23
  have w33 := f33
  unfold w32 at w33
  rw [f32] at w33
  have w35 := f35
  unfold w32 at w35
  have w46 := f46
  unfold w32 at w46
  rw [f45] at w46
  have w48 := f48
  unfold w32 at w48
  have w52 := f52
  unfold w32 at w52
  rw [f41] at w52
  have p33 : n14 = 6 * n4 := by
    have w := f33
    rw [f32, w32_id (by omega) (by omega)] at w
    omega
  have p35 : n16 = n14 + 1 := by
    have w := f35
    rw [f34, w32_id (by omega) (by omega)] at w
    omega
  have x38 : n17 = (lrN (nowR (hV H0 340) (recR H0 (hV H0 344 (n1).toNat).toNat, hV H0 345 (n1).toNat))).2.2.2.2.1 := by
    rw [g_fo, d38]
    refine congrArg (hV H0 305) ?_
    omega
  have p46 : n22 = 6 * n4 := by
    have w := f46
    rw [f45, w32_id (by omega) (by omega)] at w
    omega
  have p48 : n24 = n22 + 1 := by
    have w := f48
    rw [f47, w32_id (by omega) (by omega)] at w
    omega
  have x51 : n25 = (lrN (nowR (hV H0 340) (recR H0 (hV H0 344 (n1).toNat).toNat, hV H0 345 (n1).toNat))).2.2.2.2.1 := by
    rw [g_fo, d51]
    refine congrArg (hV H0 305) ?_
    omega
  have v52 : n26 = w32 (4 * (lrN (nowR (hV H0 340) (recR H0 (hV H0 344 (n1).toNat).toNat, hV H0 345 (n1).toNat))).2.2.2.2.1) := by
    have w := f52
    rw [f41, x51] at w
    exact w
  exact ⟨xs, by omega, by omega⟩
def g_273w_s_3 : vG := ([(42, [10, 26], [], 0), (3, [26, 19, 25], [], 0), (22, [25, 20, 24], [2], 0), (90, [25], [], -1), (91, [25], [], 9999), (1, [24, 22, 23], [], 0), (0, [23], [], 1), (3, [22, 21, 4], [], 0), (0, [21], [], 6), (20, [20, 0], [2], 31), (23, [0], [2], 12), (0, [20], [], 305), (0, [19], [], 4), (41, [17, 18], [], 0), (0, [18], [], -1), (22, [17, 12, 16], [2], 0), (90, [17], [], -1), (91, [17], [], 9999), (1, [16, 14, 15], [], 0), (0, [15], [], 1), (3, [14, 13, 4], [], 0), (0, [13], [], 6), (20, [12, 0], [2], 31), (23, [0], [2], 12), (0, [12], [], 305), (33, [10], [], 0), (31, [11], [], 0), (1250, [11, 0, 6], [1, 2], 0), (90, [11], [], 0), (91, [11], [], 1), (2, [10, 2, 9], [], 0), (3, [9, 7, 8], [], 0), (1271, [8, 0, 1], [0, 1], 0), (90, [8], [], -10999), (91, [8], [], 10999), (0, [7], [], 4), (22, [6, 5, 4], [0], 0), (90, [6], [], -1), (91, [6], [], 9999), (20, [5, 0], [0], 26), (23, [0], [0], 12), (0, [5], [], 300), (22, [4, 3, 1], [0], 0), (90, [4], [], 0), (91, [4], [], 1007), (20, [3, 0], [0], 83), (23, [0], [0], 12), (0, [3], [], 344), (6000, [0, 1, 2], [0], 0), (0, [0], [], 285), (90, [1], [], 0), (91, [1], [], 39), (90, [2], [], -2147483648), (91, [2], [], 2147483647)], (4000, [0, 1, 2, 4, 6, 10], [2], 75))
theorem c_273w_s_3 : vOkm T0 (eN e_273 L_273w A_273 mu_273 n_273 B_273 none) 3 g_273w_s_3 := vOk_inI fun ρ η f0 f1 f2 f3 f4 f5 f6 f7 f8 f9 f10 f11 f12 f13 f14 f15 f16 f17 f18 f19 f20 f21 f22 f23 f24 f25 f26 f27 f28 f29 f30 f31 f32 f33 f34 f35 f36 f37 f38 f39 f40 f41 f42 f43 f44 f45 f46 f47 f48 f49 f50 f51 f52 f53 => q_273w_3 (n0 := ρ 2) (n1 := ρ 1) (n2 := ρ 0) (n3 := ρ 3) (n4 := ρ 4) (n5 := ρ 5) (n6 := ρ 6) (n7 := ρ 7) (n8 := ρ 8) (n9 := ρ 9) (n10 := ρ 10) (n11 := ρ 11) (n12 := ρ 12) (n13 := ρ 13) (n14 := ρ 14) (n15 := ρ 15) (n16 := ρ 16) (n17 := ρ 17) (n18 := ρ 18) (n19 := ρ 19) (n20 := ρ 20) (n21 := ρ 21) (n22 := ρ 22) (n23 := ρ 23) (n24 := ρ 24) (n25 := ρ 25) (n26 := ρ 26) (H0 := η 0) (H1 := η 1) (H2 := η 2) f53 f52 f51 f50 f49 f48 f47 f46 f45 f44 f43 f42 f41 f40 f39 f38 f37 f36 f35 f34 f33 f32 f31 f30 f29 f28 f27 f26 f25 f24 f23 f22 f21 f20 f19 f18 f17 f16 f15 f14 f13 f12 f11 f10 f9 f8 f7 f6 f5 f4 f3 f2 f1 f0
theorem q_273w_4 {n0 n1 n2 n3 n4 n5 n6 n7 n8 n9 n10 n11 n12 n13 n14 n15 n16 n17 n18 n19 n20 n21 n22 n23 n24 n25 n26 n27 : Int} {H0 H1 H2 : gH} (f0 : n0 ≤ 2147483647) (f1 : (-2147483648) ≤ n0) (f2 : n1 ≤ 39) (f3 : 0 ≤ n1) (f4 : n2 = 285) (f5 : hWt T0 H0 ∧ preb_273 n2 n1 n0 H0) (f6 : n3 = 344) (f7 : hK H0 (n2).toNat = 12) (f8 : n3 = hV H0 (n2).toNat 83) (f9 : n4 ≤ 1007) (f10 : 0 ≤ n4) (f11 : n4 = hV H0 (n3).toNat (n1).toNat) (f12 : n5 = 300) (f13 : hK H0 (n2).toNat = 12) (f14 : n5 = hV H0 (n2).toNat 26) (f15 : n6 ≤ 9999) (f16 : (-1) ≤ n6) (f17 : n6 = hV H0 (n5).toNat (n4).toNat) (f18 : n7 = 4) (f19 : n8 ≤ 10999) (f20 : (-10999) ≤ n8) (f21 : (hLe T0 H0 H1 ∧ hFr s_271.2.2.2.2 H0 H1 ∧ ((0 : Int) = 0 → H1.length = H0.length) ∧ hWt T0 H1) ∧ (True ∧ nb_271 n8 n2 n1 H0 H1)) (f22 : n9 = w32 (n7 * n8)) (f23 : n10 = w32 (n0 - n9)) (f24 : n11 ≤ 1) (f25 : 0 ≤ n11) (f26 : (hLe T0 H1 H2 ∧ hFr s_250.2.2.2.2 H1 H2 ∧ ((0 : Int) = 0 → H2.length = H1.length) ∧ hWt T0 H2) ∧ postb_250 n11 n2 n6 H1 H2) (f27 : n11 ≠ 0) (f28 : 0 ≤ n10) (f29 : n12 = 305) (f30 : hK H2 (n2).toNat = 12) (f31 : n12 = hV H2 (n2).toNat 31) (f32 : n13 = 6) (f33 : n14 = w32 (n13 * n4)) (f34 : n15 = 1) (f35 : n16 = w32 (n14 + n15)) (f36 : n17 ≤ 9999) (f37 : (-1) ≤ n17) (f38 : n17 = hV H2 (n12).toNat (n16).toNat) (f39 : n18 = (-1)) (f40 : n17 ≠ n18) (f41 : n19 = 4) (f42 : n20 = 305) (f43 : hK H2 (n2).toNat = 12) (f44 : n20 = hV H2 (n2).toNat 31) (f45 : n21 = 6) (f46 : n22 = w32 (n21 * n4)) (f47 : n23 = 1) (f48 : n24 = w32 (n22 + n23)) (f49 : n25 ≤ 9999) (f50 : (-1) ≤ n25) (f51 : n25 = hV H2 (n20).toNat (n24).toNat) (f52 : n26 = w32 (n19 * n25)) (f53 : n26 ≤ n10) (f54 : n27 = 0) : nb_273 n27 n2 n1 n0 H0 H2 := by
  unfold nb_273
  intro sk fb b0 b1 s0 s1 r3 kn1
  have pz := f5.2
  unfold preb_273 at pz
  obtain ⟨z0, xq, so, k0⟩ := pz
  have d11 := rdW (q := 344) f11 f6
  have d17 := rdW (q := 300) f17 f12
  have d38 := rdW (q := 305) f38 f29
  have d51 := rdW (q := 305) f51 f42
  rw [show hV H2 305 = hV H0 305 from (fRow f26.1.2.1 305 (by decide +kernel)).trans (fRow f21.1.2.1 305 (by decide +kernel))] at d38
  rw [show hV H2 305 = hV H0 305 from (fRow f26.1.2.1 305 (by decide +kernel)).trans (fRow f21.1.2.1 305 (by decide +kernel))] at d51
  have d344 : n4 = hV H0 344 (n1).toNat := d11
  have el := lrN_R (h := H0) (mk := hV H0 340) (sh := hV H0 345 (n1).toNat) k0
  have m0 : (lrN (nowR (hV H0 340) (recR H0 (hV H0 344 (n1).toNat).toNat, hV H0 345 (n1).toNat))).1 = 0 := congrArg (fun y : LR => y.1) el
  have g_sn : (lrN (nowR (hV H0 340) (recR H0 (hV H0 344 (n1).toNat).toNat, hV H0 345 (n1).toNat))).2.1 = hV H0 300 (hV H0 344 (n1).toNat).toNat := congrArg (fun y : LR => y.2.1) el
  have g_fr : (lrN (nowR (hV H0 340) (recR H0 (hV H0 344 (n1).toNat).toNat, hV H0 345 (n1).toNat))).2.2.1 = frM (hV H0 340) (hV H0 301 (hV H0 344 (n1).toNat).toNat) (hV H0 302 (hV H0 344 (n1).toNat).toNat) (hV H0 345 (n1).toNat) := congrArg (fun y : LR => y.2.2.1) el
  have g_fo : (lrN (nowR (hV H0 340) (recR H0 (hV H0 344 (n1).toNat).toNat, hV H0 345 (n1).toNat))).2.2.2.2.1 = hV H0 305 (6 * (hV H0 344 (n1).toNat).toNat + 1) := congrArg (fun y : LR => y.2.2.2.2.1) el
  have e300 : n6 = (lrN (nowR (hV H0 340) (recR H0 (hV H0 344 (n1).toNat).toNat, hV H0 345 (n1).toNat))).2.1 := by
    rw [g_sn, d17, d344]
  have fr := f21.2.2
  unfold nb_271 at fr
  rw [← g_fr] at fr
  have xs : n10 = snF (lrN (nowR (hV H0 340) (recR H0 (hV H0 344 (n1).toNat).toNat, hV H0 345 (n1).toNat))) n0 := by
    unfold snF
    rw [← fr, f23, f22, f18]
  have sn := sn_in fb m0 b0 b1
  have fb1 := fb m0
  have qi := f26.2
  unfold postb_250 at qi
  have s64 : hV H2 285 64 = hV H0 285 64 := (f26.1.2.1.1 285 64 (by decide +kernel)).trans (f21.1.2.1.1 285 64 (by decide +kernel))
  have w22 := f22
  unfold w32 at w22
  rw [f18] at w22
  have w23 := f23
  unfold w32 at w23
  have w33 := f33
  unfold w32 at w33
  rw [f32] at w33
  have w35 := f35
  unfold w32 at w35
  have w46 := f46
  unfold w32 at w46
  rw [f45] at w46
  have w48 := f48
  unfold w32 at w48
  have w52 := f52
  unfold w32 at w52
  rw [f41] at w52
  have p33 : n14 = 6 * n4 := by
    have w := f33
    rw [f32, w32_id (by omega) (by omega)] at w
    omega
  have p35 : n16 = n14 + 1 := by
    have w := f35
    rw [f34, w32_id (by omega) (by omega)] at w
    omega
  have x38 : n17 = (lrN (nowR (hV H0 340) (recR H0 (hV H0 344 (n1).toNat).toNat, hV H0 345 (n1).toNat))).2.2.2.2.1 := by
    rw [g_fo, d38]
    refine congrArg (hV H0 305) ?_
    omega
  have p46 : n22 = 6 * n4 := by
    have w := f46
    rw [f45, w32_id (by omega) (by omega)] at w
    omega
  have p48 : n24 = n22 + 1 := by
    have w := f48
    rw [f47, w32_id (by omega) (by omega)] at w
    omega
  have x51 : n25 = (lrN (nowR (hV H0 340) (recR H0 (hV H0 344 (n1).toNat).toNat, hV H0 345 (n1).toNat))).2.2.2.2.1 := by
    rw [g_fo, d51]
    refine congrArg (hV H0 305) ?_
    omega
  have v52 : n26 = w32 (4 * (lrN (nowR (hV H0 340) (recR H0 (hV H0 344 (n1).toNat).toNat, hV H0 345 (n1).toNat))).2.2.2.2.1) := by
    have w := f52
    rw [f41, x51] at w
    exact w
  exact .inr ⟨by omega, fun w => by
    have w1 := w.1
    have w2 := w.2.1
    omega⟩
def g_273w_s_4 : vG := ([(0, [27], [], 0), (43, [10, 26], [], 0), (3, [26, 19, 25], [], 0), (22, [25, 20, 24], [2], 0), (90, [25], [], -1), (91, [25], [], 9999), (1, [24, 22, 23], [], 0), (0, [23], [], 1), (3, [22, 21, 4], [], 0), (0, [21], [], 6), (20, [20, 0], [2], 31), (23, [0], [2], 12), (0, [20], [], 305), (0, [19], [], 4), (41, [17, 18], [], 0), (0, [18], [], -1), (22, [17, 12, 16], [2], 0), (90, [17], [], -1), (91, [17], [], 9999), (1, [16, 14, 15], [], 0), (0, [15], [], 1), (3, [14, 13, 4], [], 0), (0, [13], [], 6), (20, [12, 0], [2], 31), (23, [0], [2], 12), (0, [12], [], 305), (33, [10], [], 0), (31, [11], [], 0), (1250, [11, 0, 6], [1, 2], 0), (90, [11], [], 0), (91, [11], [], 1), (2, [10, 2, 9], [], 0), (3, [9, 7, 8], [], 0), (1271, [8, 0, 1], [0, 1], 0), (90, [8], [], -10999), (91, [8], [], 10999), (0, [7], [], 4), (22, [6, 5, 4], [0], 0), (90, [6], [], -1), (91, [6], [], 9999), (20, [5, 0], [0], 26), (23, [0], [0], 12), (0, [5], [], 300), (22, [4, 3, 1], [0], 0), (90, [4], [], 0), (91, [4], [], 1007), (20, [3, 0], [0], 83), (23, [0], [0], 12), (0, [3], [], 344), (6000, [0, 1, 2], [0], 0), (0, [0], [], 285), (90, [1], [], 0), (91, [1], [], 39), (90, [2], [], -2147483648), (91, [2], [], 2147483647)], (3000, [27], [2], 74))
theorem c_273w_s_4 : vOkm T0 (eN e_273 L_273w A_273 mu_273 n_273 B_273 none) 3 g_273w_s_4 := vOk_inI fun ρ η f0 f1 f2 f3 f4 f5 f6 f7 f8 f9 f10 f11 f12 f13 f14 f15 f16 f17 f18 f19 f20 f21 f22 f23 f24 f25 f26 f27 f28 f29 f30 f31 f32 f33 f34 f35 f36 f37 f38 f39 f40 f41 f42 f43 f44 f45 f46 f47 f48 f49 f50 f51 f52 f53 f54 => q_273w_4 (n0 := ρ 2) (n1 := ρ 1) (n2 := ρ 0) (n3 := ρ 3) (n4 := ρ 4) (n5 := ρ 5) (n6 := ρ 6) (n7 := ρ 7) (n8 := ρ 8) (n9 := ρ 9) (n10 := ρ 10) (n11 := ρ 11) (n12 := ρ 12) (n13 := ρ 13) (n14 := ρ 14) (n15 := ρ 15) (n16 := ρ 16) (n17 := ρ 17) (n18 := ρ 18) (n19 := ρ 19) (n20 := ρ 20) (n21 := ρ 21) (n22 := ρ 22) (n23 := ρ 23) (n24 := ρ 24) (n25 := ρ 25) (n26 := ρ 26) (n27 := ρ 27) (H0 := η 0) (H1 := η 1) (H2 := η 2) f54 f53 f52 f51 f50 f49 f48 f47 f46 f45 f44 f43 f42 f41 f40 f39 f38 f37 f36 f35 f34 f33 f32 f31 f30 f29 f28 f27 f26 f25 f24 f23 f22 f21 f20 f19 f18 f17 f16 f15 f14 f13 f12 f11 f10 f9 f8 f7 f6 f5 f4 f3 f2 f1 f0
def p_273w_s : List vG := [g_273w_s_0,
  g_273w_s_1,
  g_273w_s_2,
  g_273w_s_3,
  g_273w_s_4]
theorem r_273w_s : vCovBO (eR0 e_273 L_273 cs_273 2000) p_273w_s = true := by decide +kernel
theorem q_273w_5 {q0 : Nat} {n0 n1 n2 n3 n4 n5 n6 n7 n8 n9 n10 n11 n12 n13 n14 n15 n16 n17 n18 n19 n20 n21 n22 n23 n24 n25 n26 n27 n28 n29 n30 n31 n32 n33 : Int} {H0 H1 H2 : gH} (f0 : n0 ≤ 2147483647) (f1 : (-2147483648) ≤ n0) (f2 : n1 ≤ 19) (f3 : 0 ≤ n1) (f4 : n2 ≤ 1007) (f5 : 0 ≤ n2) (f6 : n3 ≤ 2147483647) (f7 : (-2147483648) ≤ n3) (f8 : n4 ≤ 39) (f9 : 0 ≤ n4) (f10 : n5 = 285) (f11 : n6 ≤ 2147483647) (f12 : (-2147483648) ≤ n6) (f13 : n7 ≤ 39) (f14 : 0 ≤ n7) (f15 : n8 = 285) (f16 : (hLe T0 H0 H1 ∧ hFr s_273.2.2.2.2 H0 H1 ∧ hWt T0 H1) ∧ ((Ab_273_75 n8 n7 n6 n5 n4 n3 n2 n1 n0 H0 H1 ∧ Bb_273_75 n8 n7 n6 n5 n4 n3 n2 n1 n0 H0 H1) ∧ preb_273 n8 n7 n6 H0) ∧ some q0 = some (mub_273_75 n8 n7 n6 n5 n4 n3 n2 n1 n0 H0 H1)) (f17 : n9 = 4) (f18 : n10 = 305) (f19 : hK H1 (n5).toNat = 12) (f20 : n10 = hV H1 (n5).toNat 31) (f21 : n11 = 6) (f22 : n12 = w32 (n11 * n2)) (f23 : n13 ≤ 9999) (f24 : (-1) ≤ n13) (f25 : n13 = hV H1 (n10).toNat (n12).toNat) (f26 : n14 = w32 (n9 * n13)) (f27 : n15 = 305) (f28 : hK H1 (n5).toNat = 12) (f29 : n15 = hV H1 (n5).toNat 31) (f30 : n16 = 6) (f31 : n17 = w32 (n16 * n2)) (f32 : n18 = 3) (f33 : n19 = w32 (n17 + n18)) (f34 : n20 ≤ 9999) (f35 : (-1) ≤ n20) (f36 : n20 = hV H1 (n15).toNat (n19).toNat) (f37 : n21 = w32 (n0 * n20)) (f38 : n22 = 305) (f39 : hK H1 (n5).toNat = 12) (f40 : n22 = hV H1 (n5).toNat 31) (f41 : n23 = 6) (f42 : n24 = w32 (n23 * n2)) (f43 : n25 = 4) (f44 : n26 = w32 (n24 + n25)) (f45 : n27 ≤ 9999) (f46 : (-1) ≤ n27) (f47 : n27 = hV H1 (n22).toNat (n26).toNat) (f48 : n28 = o32 (fun x y => x / y) n21 n27) (f49 : n29 = w32 (n14 + n28)) (f50 : hK H1 (n5).toNat = 12) (f51 : n30 = 88) (f52 : hUpd H2 H1 n5 n30 n29) (f53 : n31 = 328) (f54 : hK H2 (n5).toNat = 12) (f55 : n31 = hV H2 (n5).toNat 66) (f56 : n32 ≤ 6) (f57 : 0 ≤ n32) (f58 : n32 = hV H2 (n31).toNat (n1).toNat) (f59 : n33 = 1) (f60 : n32 ≠ n33) : Bb_273_182 n8 n7 n6 n5 n4 n3 n2 n1 n0 H0 H2 := by
  unfold Bb_273_182
  intro sk fb b0 b1 s0 s1 r3 kn1
  have pz := f16.2.1.2
  unfold preb_273 at pz
  obtain ⟨z0, xq, so, k0⟩ := pz
  have gb := f16.2.1.1.2
  unfold Bb_273_75 at gb
  have gb := gb sk fb b0 b1 s0 s1 r3 kn1
  have ga := f16.2.1.1.1
  unfold Ab_273_75 at ga
  obtain ⟨h1, h2, h3, h4, h5, h6⟩ := ga
  have c344 : hV H1 344 = hV H0 344 := fRow f16.1.2.1 344 (by decide +kernel)
  have c300 : hV H1 300 = hV H0 300 := fRow f16.1.2.1 300 (by decide +kernel)
  rw [c344] at h3
  rw [c300] at h4
  obtain ⟨g1, g2, g3⟩ := gb
  have el := lrN_R (h := H0) (mk := hV H0 340) (sh := hV H0 345 (n7).toNat) k0
  have m0 : (lrN (nowR (hV H0 340) (recR H0 (hV H0 344 (n7).toNat).toNat, hV H0 345 (n7).toNat))).1 = 0 := congrArg (fun y : LR => y.1) el
  have g_sn : (lrN (nowR (hV H0 340) (recR H0 (hV H0 344 (n7).toNat).toNat, hV H0 345 (n7).toNat))).2.1 = hV H0 300 (hV H0 344 (n7).toNat).toNat := congrArg (fun y : LR => y.2.1) el
  have g_fm : (lrN (nowR (hV H0 340) (recR H0 (hV H0 344 (n7).toNat).toNat, hV H0 345 (n7).toNat))).2.2.2.1 = hV H0 305 (6 * (hV H0 344 (n7).toNat).toNat) := congrArg (fun y : LR => y.2.2.2.1) el
  have g_up : (lrN (nowR (hV H0 340) (recR H0 (hV H0 344 (n7).toNat).toNat, hV H0 345 (n7).toNat))).2.2.2.2.2.2.1 = hV H0 305 (6 * (hV H0 344 (n7).toNat).toNat + 3) := congrArg (fun y : LR => y.2.2.2.2.2.2.1) el
  have g_lo : (lrN (nowR (hV H0 340) (recR H0 (hV H0 344 (n7).toNat).toNat, hV H0 345 (n7).toNat))).2.2.2.2.2.2.2 = hV H0 305 (6 * (hV H0 344 (n7).toNat).toNat + 4) := congrArg (fun y : LR => y.2.2.2.2.2.2.2) el
  have d25 := rdW (q := 305) f25 f18
  have d36 := rdW (q := 305) f36 f27
  have d47 := rdW (q := 305) f47 f38
  have d58 := rdW (q := 328) f58 f53
  rw [show hV H1 305 = hV H0 305 from fRow f16.1.2.1 305 (by decide +kernel)] at d25
  rw [show hV H1 305 = hV H0 305 from fRow f16.1.2.1 305 (by decide +kernel)] at d36
  rw [show hV H1 305 = hV H0 305 from fRow f16.1.2.1 305 (by decide +kernel)] at d47
  rw [show hV H2 328 = hV H0 328 from (uRowNe f52 328 (by rw [f10]; decide)).trans (fRow f16.1.2.1 328 (by decide +kernel))] at d58
  have e4 : n1 = (lrN (nowR (hV H0 340) (recR H0 (hV H0 344 (n7).toNat).toNat, hV H0 345 (n7).toNat))).2.1 := by
    rw [g_sn, h4, h3]
  have xk : n32 = hV H0 328 ((lrN (nowR (hV H0 340) (recR H0 (hV H0 344 (n7).toNat).toNat, hV H0 345 (n7).toNat))).2.1).toNat := by
    rw [← e4]
    exact d58
  have w22 := f22
  unfold w32 at w22
  rw [f21] at w22
  have w26 := f26
  unfold w32 at w26
  rw [f17] at w26
  have w31 := f31
  unfold w32 at w31
  rw [f30] at w31
  have w33 := f33
  unfold w32 at w33
  have w42 := f42
  unfold w32 at w42
  rw [f41] at w42
  have w44 := f44
  unfold w32 at w44
  have w49 := f49
  unfold w32 at w49
  have h3n : (n2).toNat = (hV H0 344 (n7).toNat).toNat := congrArg Int.toNat h3
  have p22 : n12 = 6 * n2 := by
    have w := f22
    rw [f21, w32_id (by omega) (by omega)] at w
    omega
  have x25 : n13 = (lrN (nowR (hV H0 340) (recR H0 (hV H0 344 (n7).toNat).toNat, hV H0 345 (n7).toNat))).2.2.2.1 := by
    rw [g_fm, d25]
    refine congrArg (hV H0 305) ?_
    omega
  have p31 : n17 = 6 * n2 := by
    have w := f31
    rw [f30, w32_id (by omega) (by omega)] at w
    omega
  have p33 : n19 = n17 + 3 := by
    have w := f33
    rw [f32, w32_id (by omega) (by omega)] at w
    omega
  have x36 : n20 = (lrN (nowR (hV H0 340) (recR H0 (hV H0 344 (n7).toNat).toNat, hV H0 345 (n7).toNat))).2.2.2.2.2.2.1 := by
    rw [g_up, d36]
    refine congrArg (hV H0 305) ?_
    omega
  have p42 : n24 = 6 * n2 := by
    have w := f42
    rw [f41, w32_id (by omega) (by omega)] at w
    omega
  have p44 : n26 = n24 + 4 := by
    have w := f44
    rw [f43, w32_id (by omega) (by omega)] at w
    omega
  have x47 : n27 = (lrN (nowR (hV H0 340) (recR H0 (hV H0 344 (n7).toNat).toNat, hV H0 345 (n7).toNat))).2.2.2.2.2.2.2 := by
    rw [g_lo, d47]
    refine congrArg (hV H0 305) ?_
    omega
  have hi : n29 = lyI (lrN (nowR (hV H0 340) (recR H0 (hV H0 344 (n7).toNat).toNat, hV H0 345 (n7).toNat))) n6 := by
    unfold lyI
    rw [← x25, ← x36, ← x47, ← g1, f49, f26, f17, f48, f37]
  have u88 : hV H2 285 88 = n29 := uSame f52 285 88 (by rw [f10]; rfl) (by rw [f51]; rfl)
  exact ⟨u88.trans hi, g1, g2, g3⟩
def g_273w_75_0 : vG := ([(41, [32, 33], [], 0), (0, [33], [], 1), (22, [32, 31, 7], [2], 0), (90, [32], [], 0), (91, [32], [], 6), (20, [31, 3], [2], 66), (23, [3], [2], 12), (0, [31], [], 328), (80, [3, 30, 29], [2, 1], 0), (0, [30], [], 88), (23, [3], [1], 12), (1, [29, 14, 28], [], 0), (11, [28, 21, 27], [], 0), (22, [27, 22, 26], [1], 0), (90, [27], [], -1), (91, [27], [], 9999), (1, [26, 24, 25], [], 0), (0, [25], [], 4), (3, [24, 23, 6], [], 0), (0, [23], [], 6), (20, [22, 3], [1], 31), (23, [3], [1], 12), (0, [22], [], 305), (3, [21, 8, 20], [], 0), (22, [20, 15, 19], [1], 0), (90, [20], [], -1), (91, [20], [], 9999), (1, [19, 17, 18], [], 0), (0, [18], [], 3), (3, [17, 16, 6], [], 0), (0, [16], [], 6), (20, [15, 3], [1], 31), (23, [3], [1], 12), (0, [15], [], 305), (3, [14, 9, 13], [], 0), (22, [13, 10, 12], [1], 0), (90, [13], [], -1), (91, [13], [], 9999), (3, [12, 11, 6], [], 0), (0, [11], [], 6), (20, [10, 3], [1], 31), (23, [3], [1], 12), (0, [10], [], 305), (0, [9], [], 4), (5000, [0, 1, 2, 3, 4, 5, 6, 7, 8], [0, 1], 75), (0, [0], [], 285), (90, [1], [], 0), (91, [1], [], 39), (90, [2], [], -2147483648), (91, [2], [], 2147483647), (0, [3], [], 285), (90, [4], [], 0), (91, [4], [], 39), (90, [5], [], -2147483648), (91, [5], [], 2147483647), (90, [6], [], 0), (91, [6], [], 1007), (90, [7], [], 0), (91, [7], [], 19), (90, [8], [], -2147483648), (91, [8], [], 2147483647)], (4000, [3, 4, 5, 6, 7, 8], [2], 182))
theorem c_273w_75_0 {q0 : Nat} : vOkm T0 (eN e_273 L_273w A_273 mu_273 n_273 B_273 (some q0)) 3 g_273w_75_0 := vOk_inI fun ρ η f0 f1 f2 f3 f4 f5 f6 f7 f8 f9 f10 f11 f12 f13 f14 f15 f16 f17 f18 f19 f20 f21 f22 f23 f24 f25 f26 f27 f28 f29 f30 f31 f32 f33 f34 f35 f36 f37 f38 f39 f40 f41 f42 f43 f44 f45 f46 f47 f48 f49 f50 f51 f52 f53 f54 f55 f56 f57 f58 f59 f60 => q_273w_5 (q0 := q0) (n0 := ρ 8) (n1 := ρ 7) (n2 := ρ 6) (n3 := ρ 5) (n4 := ρ 4) (n5 := ρ 3) (n6 := ρ 2) (n7 := ρ 1) (n8 := ρ 0) (n9 := ρ 9) (n10 := ρ 10) (n11 := ρ 11) (n12 := ρ 12) (n13 := ρ 13) (n14 := ρ 14) (n15 := ρ 15) (n16 := ρ 16) (n17 := ρ 17) (n18 := ρ 18) (n19 := ρ 19) (n20 := ρ 20) (n21 := ρ 21) (n22 := ρ 22) (n23 := ρ 23) (n24 := ρ 24) (n25 := ρ 25) (n26 := ρ 26) (n27 := ρ 27) (n28 := ρ 28) (n29 := ρ 29) (n30 := ρ 30) (n31 := ρ 31) (n32 := ρ 32) (n33 := ρ 33) (H0 := η 0) (H1 := η 1) (H2 := η 2) f60 f59 f58 f57 f56 f55 f54 f53 f52 f51 f50 f49 f48 f47 f46 f45 f44 f43 f42 f41 f40 f39 f38 f37 f36 f35 f34 f33 f32 f31 f30 f29 f28 f27 f26 f25 f24 f23 f22 f21 f20 f19 f18 f17 f16 f15 f14 f13 f12 f11 f10 f9 f8 f7 f6 f5 f4 f3 f2 f1 f0
theorem q_273w_6 {q0 : Nat} {n0 n1 n2 n3 n4 n5 n6 n7 n8 n9 n10 n11 n12 n13 n14 n15 n16 n17 n18 n19 n20 n21 n22 n23 n24 n25 n26 n27 n28 n29 n30 n31 n32 n33 n34 n35 n36 : Int} {H0 H1 H2 : gH} (f0 : n0 ≤ 2147483647) (f1 : (-2147483648) ≤ n0) (f2 : n1 ≤ 19) (f3 : 0 ≤ n1) (f4 : n2 ≤ 1007) (f5 : 0 ≤ n2) (f6 : n3 ≤ 2147483647) (f7 : (-2147483648) ≤ n3) (f8 : n4 ≤ 39) (f9 : 0 ≤ n4) (f10 : n5 = 285) (f11 : n6 ≤ 2147483647) (f12 : (-2147483648) ≤ n6) (f13 : n7 ≤ 39) (f14 : 0 ≤ n7) (f15 : n8 = 285) (f16 : (hLe T0 H0 H1 ∧ hFr s_273.2.2.2.2 H0 H1 ∧ hWt T0 H1) ∧ ((Ab_273_75 n8 n7 n6 n5 n4 n3 n2 n1 n0 H0 H1 ∧ Bb_273_75 n8 n7 n6 n5 n4 n3 n2 n1 n0 H0 H1) ∧ preb_273 n8 n7 n6 H0) ∧ some q0 = some (mub_273_75 n8 n7 n6 n5 n4 n3 n2 n1 n0 H0 H1)) (f17 : n9 = 4) (f18 : n10 = 305) (f19 : hK H1 (n5).toNat = 12) (f20 : n10 = hV H1 (n5).toNat 31) (f21 : n11 = 6) (f22 : n12 = w32 (n11 * n2)) (f23 : n13 ≤ 9999) (f24 : (-1) ≤ n13) (f25 : n13 = hV H1 (n10).toNat (n12).toNat) (f26 : n14 = w32 (n9 * n13)) (f27 : n15 = 305) (f28 : hK H1 (n5).toNat = 12) (f29 : n15 = hV H1 (n5).toNat 31) (f30 : n16 = 6) (f31 : n17 = w32 (n16 * n2)) (f32 : n18 = 3) (f33 : n19 = w32 (n17 + n18)) (f34 : n20 ≤ 9999) (f35 : (-1) ≤ n20) (f36 : n20 = hV H1 (n15).toNat (n19).toNat) (f37 : n21 = w32 (n0 * n20)) (f38 : n22 = 305) (f39 : hK H1 (n5).toNat = 12) (f40 : n22 = hV H1 (n5).toNat 31) (f41 : n23 = 6) (f42 : n24 = w32 (n23 * n2)) (f43 : n25 = 4) (f44 : n26 = w32 (n24 + n25)) (f45 : n27 ≤ 9999) (f46 : (-1) ≤ n27) (f47 : n27 = hV H1 (n22).toNat (n26).toNat) (f48 : n28 = o32 (fun x y => x / y) n21 n27) (f49 : n29 = w32 (n14 + n28)) (f50 : hK H1 (n5).toNat = 12) (f51 : n30 = 88) (f52 : hUpd H2 H1 n5 n30 n29) (f53 : n31 = 328) (f54 : hK H2 (n5).toNat = 12) (f55 : n31 = hV H2 (n5).toNat 66) (f56 : n32 ≤ 6) (f57 : 0 ≤ n32) (f58 : n32 = hV H2 (n31).toNat (n1).toNat) (f59 : n33 = 1) (f60 : n32 = n33) (f61 : n34 ≤ 2147483647) (f62 : (-2147483648) ≤ n34) (f63 : hK H2 (n5).toNat = 12) (f64 : n34 = hV H2 (n5).toNat 88) (f65 : n35 = 331) (f66 : hK H2 (n5).toNat = 12) (f67 : n35 = hV H2 (n5).toNat 69) (f68 : n36 ≤ 2147483647) (f69 : (-2147483648) ≤ n36) (f70 : n36 = hV H2 (n35).toNat (n1).toNat) (f71 : n34 < n36) : Bb_273_182 n8 n7 n6 n5 n4 n3 n2 n1 n0 H0 H2 := by
  unfold Bb_273_182
  intro sk fb b0 b1 s0 s1 r3 kn1
  have pz := f16.2.1.2
  unfold preb_273 at pz
  obtain ⟨z0, xq, so, k0⟩ := pz
  have gb := f16.2.1.1.2
  unfold Bb_273_75 at gb
  have gb := gb sk fb b0 b1 s0 s1 r3 kn1
  have ga := f16.2.1.1.1
  unfold Ab_273_75 at ga
  obtain ⟨h1, h2, h3, h4, h5, h6⟩ := ga
  have c344 : hV H1 344 = hV H0 344 := fRow f16.1.2.1 344 (by decide +kernel)
  have c300 : hV H1 300 = hV H0 300 := fRow f16.1.2.1 300 (by decide +kernel)
  rw [c344] at h3
  rw [c300] at h4
  obtain ⟨g1, g2, g3⟩ := gb
  have el := lrN_R (h := H0) (mk := hV H0 340) (sh := hV H0 345 (n7).toNat) k0
  have m0 : (lrN (nowR (hV H0 340) (recR H0 (hV H0 344 (n7).toNat).toNat, hV H0 345 (n7).toNat))).1 = 0 := congrArg (fun y : LR => y.1) el
  have g_sn : (lrN (nowR (hV H0 340) (recR H0 (hV H0 344 (n7).toNat).toNat, hV H0 345 (n7).toNat))).2.1 = hV H0 300 (hV H0 344 (n7).toNat).toNat := congrArg (fun y : LR => y.2.1) el
  have g_fm : (lrN (nowR (hV H0 340) (recR H0 (hV H0 344 (n7).toNat).toNat, hV H0 345 (n7).toNat))).2.2.2.1 = hV H0 305 (6 * (hV H0 344 (n7).toNat).toNat) := congrArg (fun y : LR => y.2.2.2.1) el
  have g_up : (lrN (nowR (hV H0 340) (recR H0 (hV H0 344 (n7).toNat).toNat, hV H0 345 (n7).toNat))).2.2.2.2.2.2.1 = hV H0 305 (6 * (hV H0 344 (n7).toNat).toNat + 3) := congrArg (fun y : LR => y.2.2.2.2.2.2.1) el
  have g_lo : (lrN (nowR (hV H0 340) (recR H0 (hV H0 344 (n7).toNat).toNat, hV H0 345 (n7).toNat))).2.2.2.2.2.2.2 = hV H0 305 (6 * (hV H0 344 (n7).toNat).toNat + 4) := congrArg (fun y : LR => y.2.2.2.2.2.2.2) el
  have d25 := rdW (q := 305) f25 f18
  have d36 := rdW (q := 305) f36 f27
  have d47 := rdW (q := 305) f47 f38
  have d58 := rdW (q := 328) f58 f53
  have d64 := rdS (q := 285) f64 f10
  have d70 := rdW (q := 331) f70 f65
  rw [show hV H1 305 = hV H0 305 from fRow f16.1.2.1 305 (by decide +kernel)] at d25
  rw [show hV H1 305 = hV H0 305 from fRow f16.1.2.1 305 (by decide +kernel)] at d36
  rw [show hV H1 305 = hV H0 305 from fRow f16.1.2.1 305 (by decide +kernel)] at d47
  rw [show hV H2 328 = hV H0 328 from (uRowNe f52 328 (by rw [f10]; decide)).trans (fRow f16.1.2.1 328 (by decide +kernel))] at d58
  rw [show hV H2 331 = hV H0 331 from (uRowNe f52 331 (by rw [f10]; decide)).trans (fRow f16.1.2.1 331 (by decide +kernel))] at d70
  have e4 : n1 = (lrN (nowR (hV H0 340) (recR H0 (hV H0 344 (n7).toNat).toNat, hV H0 345 (n7).toNat))).2.1 := by
    rw [g_sn, h4, h3]
  have xk : n32 = hV H0 328 ((lrN (nowR (hV H0 340) (recR H0 (hV H0 344 (n7).toNat).toNat, hV H0 345 (n7).toNat))).2.1).toNat := by
    rw [← e4]
    exact d58
  exfalso
  omega
def g_273w_75_1 : vG := ([(42, [34, 36], [], 0), (22, [36, 35, 7], [2], 0), (90, [36], [], -2147483648), (91, [36], [], 2147483647), (20, [35, 3], [2], 69), (23, [3], [2], 12), (0, [35], [], 331), (20, [34, 3], [2], 88), (23, [3], [2], 12), (90, [34], [], -2147483648), (91, [34], [], 2147483647), (40, [32, 33], [], 0), (0, [33], [], 1), (22, [32, 31, 7], [2], 0), (90, [32], [], 0), (91, [32], [], 6), (20, [31, 3], [2], 66), (23, [3], [2], 12), (0, [31], [], 328), (80, [3, 30, 29], [2, 1], 0), (0, [30], [], 88), (23, [3], [1], 12), (1, [29, 14, 28], [], 0), (11, [28, 21, 27], [], 0), (22, [27, 22, 26], [1], 0), (90, [27], [], -1), (91, [27], [], 9999), (1, [26, 24, 25], [], 0), (0, [25], [], 4), (3, [24, 23, 6], [], 0), (0, [23], [], 6), (20, [22, 3], [1], 31), (23, [3], [1], 12), (0, [22], [], 305), (3, [21, 8, 20], [], 0), (22, [20, 15, 19], [1], 0), (90, [20], [], -1), (91, [20], [], 9999), (1, [19, 17, 18], [], 0), (0, [18], [], 3), (3, [17, 16, 6], [], 0), (0, [16], [], 6), (20, [15, 3], [1], 31), (23, [3], [1], 12), (0, [15], [], 305), (3, [14, 9, 13], [], 0), (22, [13, 10, 12], [1], 0), (90, [13], [], -1), (91, [13], [], 9999), (3, [12, 11, 6], [], 0), (0, [11], [], 6), (20, [10, 3], [1], 31), (23, [3], [1], 12), (0, [10], [], 305), (0, [9], [], 4), (5000, [0, 1, 2, 3, 4, 5, 6, 7, 8], [0, 1], 75), (0, [0], [], 285), (90, [1], [], 0), (91, [1], [], 39), (90, [2], [], -2147483648), (91, [2], [], 2147483647), (0, [3], [], 285), (90, [4], [], 0), (91, [4], [], 39), (90, [5], [], -2147483648), (91, [5], [], 2147483647), (90, [6], [], 0), (91, [6], [], 1007), (90, [7], [], 0), (91, [7], [], 19), (90, [8], [], -2147483648), (91, [8], [], 2147483647)], (4000, [3, 4, 5, 6, 7, 8], [2], 182))
theorem c_273w_75_1 {q0 : Nat} : vOkm T0 (eN e_273 L_273w A_273 mu_273 n_273 B_273 (some q0)) 3 g_273w_75_1 := vOk_inI fun ρ η f0 f1 f2 f3 f4 f5 f6 f7 f8 f9 f10 f11 f12 f13 f14 f15 f16 f17 f18 f19 f20 f21 f22 f23 f24 f25 f26 f27 f28 f29 f30 f31 f32 f33 f34 f35 f36 f37 f38 f39 f40 f41 f42 f43 f44 f45 f46 f47 f48 f49 f50 f51 f52 f53 f54 f55 f56 f57 f58 f59 f60 f61 f62 f63 f64 f65 f66 f67 f68 f69 f70 f71 => q_273w_6 (q0 := q0) (n0 := ρ 8) (n1 := ρ 7) (n2 := ρ 6) (n3 := ρ 5) (n4 := ρ 4) (n5 := ρ 3) (n6 := ρ 2) (n7 := ρ 1) (n8 := ρ 0) (n9 := ρ 9) (n10 := ρ 10) (n11 := ρ 11) (n12 := ρ 12) (n13 := ρ 13) (n14 := ρ 14) (n15 := ρ 15) (n16 := ρ 16) (n17 := ρ 17) (n18 := ρ 18) (n19 := ρ 19) (n20 := ρ 20) (n21 := ρ 21) (n22 := ρ 22) (n23 := ρ 23) (n24 := ρ 24) (n25 := ρ 25) (n26 := ρ 26) (n27 := ρ 27) (n28 := ρ 28) (n29 := ρ 29) (n30 := ρ 30) (n31 := ρ 31) (n32 := ρ 32) (n33 := ρ 33) (n34 := ρ 34) (n35 := ρ 35) (n36 := ρ 36) (H0 := η 0) (H1 := η 1) (H2 := η 2) f71 f70 f69 f68 f67 f66 f65 f64 f63 f62 f61 f60 f59 f58 f57 f56 f55 f54 f53 f52 f51 f50 f49 f48 f47 f46 f45 f44 f43 f42 f41 f40 f39 f38 f37 f36 f35 f34 f33 f32 f31 f30 f29 f28 f27 f26 f25 f24 f23 f22 f21 f20 f19 f18 f17 f16 f15 f14 f13 f12 f11 f10 f9 f8 f7 f6 f5 f4 f3 f2 f1 f0
theorem q_273w_7 {q0 : Nat} {n0 n1 n2 n3 n4 n5 n6 n7 n8 n9 n10 n11 n12 n13 n14 n15 n16 n17 n18 n19 n20 n21 n22 n23 n24 n25 n26 n27 n28 n29 n30 n31 n32 n33 n34 n35 n36 n37 n38 n39 n40 n41 n42 n43 n44 n45 n46 n47 n48 n49 n50 : Int} {H0 H1 H2 H3 : gH} (f0 : n0 ≤ 2147483647) (f1 : (-2147483648) ≤ n0) (f2 : n1 ≤ 19) (f3 : 0 ≤ n1) (f4 : n2 ≤ 1007) (f5 : 0 ≤ n2) (f6 : n3 ≤ 2147483647) (f7 : (-2147483648) ≤ n3) (f8 : n4 ≤ 39) (f9 : 0 ≤ n4) (f10 : n5 = 285) (f11 : n6 ≤ 2147483647) (f12 : (-2147483648) ≤ n6) (f13 : n7 ≤ 39) (f14 : 0 ≤ n7) (f15 : n8 = 285) (f16 : (hLe T0 H0 H1 ∧ hFr s_273.2.2.2.2 H0 H1 ∧ hWt T0 H1) ∧ ((Ab_273_75 n8 n7 n6 n5 n4 n3 n2 n1 n0 H0 H1 ∧ Bb_273_75 n8 n7 n6 n5 n4 n3 n2 n1 n0 H0 H1) ∧ preb_273 n8 n7 n6 H0) ∧ some q0 = some (mub_273_75 n8 n7 n6 n5 n4 n3 n2 n1 n0 H0 H1)) (f17 : n9 = 4) (f18 : n10 = 305) (f19 : hK H1 (n5).toNat = 12) (f20 : n10 = hV H1 (n5).toNat 31) (f21 : n11 = 6) (f22 : n12 = w32 (n11 * n2)) (f23 : n13 ≤ 9999) (f24 : (-1) ≤ n13) (f25 : n13 = hV H1 (n10).toNat (n12).toNat) (f26 : n14 = w32 (n9 * n13)) (f27 : n15 = 305) (f28 : hK H1 (n5).toNat = 12) (f29 : n15 = hV H1 (n5).toNat 31) (f30 : n16 = 6) (f31 : n17 = w32 (n16 * n2)) (f32 : n18 = 3) (f33 : n19 = w32 (n17 + n18)) (f34 : n20 ≤ 9999) (f35 : (-1) ≤ n20) (f36 : n20 = hV H1 (n15).toNat (n19).toNat) (f37 : n21 = w32 (n0 * n20)) (f38 : n22 = 305) (f39 : hK H1 (n5).toNat = 12) (f40 : n22 = hV H1 (n5).toNat 31) (f41 : n23 = 6) (f42 : n24 = w32 (n23 * n2)) (f43 : n25 = 4) (f44 : n26 = w32 (n24 + n25)) (f45 : n27 ≤ 9999) (f46 : (-1) ≤ n27) (f47 : n27 = hV H1 (n22).toNat (n26).toNat) (f48 : n28 = o32 (fun x y => x / y) n21 n27) (f49 : n29 = w32 (n14 + n28)) (f50 : hK H1 (n5).toNat = 12) (f51 : n30 = 88) (f52 : hUpd H2 H1 n5 n30 n29) (f53 : n31 = 328) (f54 : hK H2 (n5).toNat = 12) (f55 : n31 = hV H2 (n5).toNat 66) (f56 : n32 ≤ 6) (f57 : 0 ≤ n32) (f58 : n32 = hV H2 (n31).toNat (n1).toNat) (f59 : n33 = 1) (f60 : n32 = n33) (f61 : n34 ≤ 2147483647) (f62 : (-2147483648) ≤ n34) (f63 : hK H2 (n5).toNat = 12) (f64 : n34 = hV H2 (n5).toNat 88) (f65 : n35 = 331) (f66 : hK H2 (n5).toNat = 12) (f67 : n35 = hV H2 (n5).toNat 69) (f68 : n36 ≤ 2147483647) (f69 : (-2147483648) ≤ n36) (f70 : n36 = hV H2 (n35).toNat (n1).toNat) (f71 : n36 ≤ n34) (f72 : n37 = 330) (f73 : hK H2 (n5).toNat = 12) (f74 : n37 = hV H2 (n5).toNat 68) (f75 : n38 ≤ 2147483647) (f76 : (-2147483648) ≤ n38) (f77 : n38 = hV H2 (n37).toNat (n1).toNat) (f78 : n39 ≤ 2147483647) (f79 : (-2147483648) ≤ n39) (f80 : hK H2 (n5).toNat = 12) (f81 : n39 = hV H2 (n5).toNat 88) (f82 : n40 = 330) (f83 : hK H2 (n5).toNat = 12) (f84 : n40 = hV H2 (n5).toNat 68) (f85 : n41 ≤ 2147483647) (f86 : (-2147483648) ≤ n41) (f87 : n41 = hV H2 (n40).toNat (n1).toNat) (f88 : n42 = w32 (n39 - n41)) (f89 : n43 = 331) (f90 : hK H2 (n5).toNat = 12) (f91 : n43 = hV H2 (n5).toNat 69) (f92 : n44 ≤ 2147483647) (f93 : (-2147483648) ≤ n44) (f94 : n44 = hV H2 (n43).toNat (n1).toNat) (f95 : n45 = 330) (f96 : hK H2 (n5).toNat = 12) (f97 : n45 = hV H2 (n5).toNat 68) (f98 : n46 ≤ 2147483647) (f99 : (-2147483648) ≤ n46) (f100 : n46 = hV H2 (n45).toNat (n1).toNat) (f101 : n47 = w32 (n44 - n46)) (f102 : n48 = o32 (fun x y => x - x / y * y) n42 n47) (f103 : n49 = w32 (n38 + n48)) (f104 : hK H2 (n5).toNat = 12) (f105 : n50 = 88) (f106 : hUpd H3 H2 n5 n50 n49) : Bb_273_182 n8 n7 n6 n5 n4 n3 n2 n1 n0 H0 H3 := by
  unfold Bb_273_182
  intro sk fb b0 b1 s0 s1 r3 kn1
  have pz := f16.2.1.2
  unfold preb_273 at pz
  obtain ⟨z0, xq, so, k0⟩ := pz
  have gb := f16.2.1.1.2
  unfold Bb_273_75 at gb
  have gb := gb sk fb b0 b1 s0 s1 r3 kn1
  have ga := f16.2.1.1.1
  unfold Ab_273_75 at ga
  obtain ⟨h1, h2, h3, h4, h5, h6⟩ := ga
  have c344 : hV H1 344 = hV H0 344 := fRow f16.1.2.1 344 (by decide +kernel)
  have c300 : hV H1 300 = hV H0 300 := fRow f16.1.2.1 300 (by decide +kernel)
  rw [c344] at h3
  rw [c300] at h4
  obtain ⟨g1, g2, g3⟩ := gb
  have el := lrN_R (h := H0) (mk := hV H0 340) (sh := hV H0 345 (n7).toNat) k0
  have m0 : (lrN (nowR (hV H0 340) (recR H0 (hV H0 344 (n7).toNat).toNat, hV H0 345 (n7).toNat))).1 = 0 := congrArg (fun y : LR => y.1) el
  have g_sn : (lrN (nowR (hV H0 340) (recR H0 (hV H0 344 (n7).toNat).toNat, hV H0 345 (n7).toNat))).2.1 = hV H0 300 (hV H0 344 (n7).toNat).toNat := congrArg (fun y : LR => y.2.1) el
  have g_fm : (lrN (nowR (hV H0 340) (recR H0 (hV H0 344 (n7).toNat).toNat, hV H0 345 (n7).toNat))).2.2.2.1 = hV H0 305 (6 * (hV H0 344 (n7).toNat).toNat) := congrArg (fun y : LR => y.2.2.2.1) el
  have g_up : (lrN (nowR (hV H0 340) (recR H0 (hV H0 344 (n7).toNat).toNat, hV H0 345 (n7).toNat))).2.2.2.2.2.2.1 = hV H0 305 (6 * (hV H0 344 (n7).toNat).toNat + 3) := congrArg (fun y : LR => y.2.2.2.2.2.2.1) el
  have g_lo : (lrN (nowR (hV H0 340) (recR H0 (hV H0 344 (n7).toNat).toNat, hV H0 345 (n7).toNat))).2.2.2.2.2.2.2 = hV H0 305 (6 * (hV H0 344 (n7).toNat).toNat + 4) := congrArg (fun y : LR => y.2.2.2.2.2.2.2) el
  have d25 := rdW (q := 305) f25 f18
  have d36 := rdW (q := 305) f36 f27
  have d47 := rdW (q := 305) f47 f38
  have d58 := rdW (q := 328) f58 f53
  have d64 := rdS (q := 285) f64 f10
  have d70 := rdW (q := 331) f70 f65
  have d77 := rdW (q := 330) f77 f72
  have d81 := rdS (q := 285) f81 f10
  have d87 := rdW (q := 330) f87 f82
  have d94 := rdW (q := 331) f94 f89
  have d100 := rdW (q := 330) f100 f95
  rw [show hV H1 305 = hV H0 305 from fRow f16.1.2.1 305 (by decide +kernel)] at d25
  rw [show hV H1 305 = hV H0 305 from fRow f16.1.2.1 305 (by decide +kernel)] at d36
  rw [show hV H1 305 = hV H0 305 from fRow f16.1.2.1 305 (by decide +kernel)] at d47
  rw [show hV H2 328 = hV H0 328 from (uRowNe f52 328 (by rw [f10]; decide)).trans (fRow f16.1.2.1 328 (by decide +kernel))] at d58
  rw [show hV H2 331 = hV H0 331 from (uRowNe f52 331 (by rw [f10]; decide)).trans (fRow f16.1.2.1 331 (by decide +kernel))] at d70
  rw [show hV H2 330 = hV H0 330 from (uRowNe f52 330 (by rw [f10]; decide)).trans (fRow f16.1.2.1 330 (by decide +kernel))] at d77
  rw [show hV H2 330 = hV H0 330 from (uRowNe f52 330 (by rw [f10]; decide)).trans (fRow f16.1.2.1 330 (by decide +kernel))] at d87
  rw [show hV H2 331 = hV H0 331 from (uRowNe f52 331 (by rw [f10]; decide)).trans (fRow f16.1.2.1 331 (by decide +kernel))] at d94
  rw [show hV H2 330 = hV H0 330 from (uRowNe f52 330 (by rw [f10]; decide)).trans (fRow f16.1.2.1 330 (by decide +kernel))] at d100
  have e4 : n1 = (lrN (nowR (hV H0 340) (recR H0 (hV H0 344 (n7).toNat).toNat, hV H0 345 (n7).toNat))).2.1 := by
    rw [g_sn, h4, h3]
  have xk : n32 = hV H0 328 ((lrN (nowR (hV H0 340) (recR H0 (hV H0 344 (n7).toNat).toNat, hV H0 345 (n7).toNat))).2.1).toNat := by
    rw [← e4]
    exact d58
  exfalso
  omega
def g_273w_75_2 : vG := ([(80, [3, 50, 49], [3, 2], 0), (0, [50], [], 88), (23, [3], [2], 12), (1, [49, 38, 48], [], 0), (12, [48, 42, 47], [], 0), (2, [47, 44, 46], [], 0), (22, [46, 45, 7], [2], 0), (90, [46], [], -2147483648), (91, [46], [], 2147483647), (20, [45, 3], [2], 68), (23, [3], [2], 12), (0, [45], [], 330), (22, [44, 43, 7], [2], 0), (90, [44], [], -2147483648), (91, [44], [], 2147483647), (20, [43, 3], [2], 69), (23, [3], [2], 12), (0, [43], [], 331), (2, [42, 39, 41], [], 0), (22, [41, 40, 7], [2], 0), (90, [41], [], -2147483648), (91, [41], [], 2147483647), (20, [40, 3], [2], 68), (23, [3], [2], 12), (0, [40], [], 330), (20, [39, 3], [2], 88), (23, [3], [2], 12), (90, [39], [], -2147483648), (91, [39], [], 2147483647), (22, [38, 37, 7], [2], 0), (90, [38], [], -2147483648), (91, [38], [], 2147483647), (20, [37, 3], [2], 68), (23, [3], [2], 12), (0, [37], [], 330), (43, [34, 36], [], 0), (22, [36, 35, 7], [2], 0), (90, [36], [], -2147483648), (91, [36], [], 2147483647), (20, [35, 3], [2], 69), (23, [3], [2], 12), (0, [35], [], 331), (20, [34, 3], [2], 88), (23, [3], [2], 12), (90, [34], [], -2147483648), (91, [34], [], 2147483647), (40, [32, 33], [], 0), (0, [33], [], 1), (22, [32, 31, 7], [2], 0), (90, [32], [], 0), (91, [32], [], 6), (20, [31, 3], [2], 66), (23, [3], [2], 12), (0, [31], [], 328), (80, [3, 30, 29], [2, 1], 0), (0, [30], [], 88), (23, [3], [1], 12), (1, [29, 14, 28], [], 0), (11, [28, 21, 27], [], 0), (22, [27, 22, 26], [1], 0), (90, [27], [], -1), (91, [27], [], 9999), (1, [26, 24, 25], [], 0), (0, [25], [], 4), (3, [24, 23, 6], [], 0), (0, [23], [], 6), (20, [22, 3], [1], 31), (23, [3], [1], 12), (0, [22], [], 305), (3, [21, 8, 20], [], 0), (22, [20, 15, 19], [1], 0), (90, [20], [], -1), (91, [20], [], 9999), (1, [19, 17, 18], [], 0), (0, [18], [], 3), (3, [17, 16, 6], [], 0), (0, [16], [], 6), (20, [15, 3], [1], 31), (23, [3], [1], 12), (0, [15], [], 305), (3, [14, 9, 13], [], 0), (22, [13, 10, 12], [1], 0), (90, [13], [], -1), (91, [13], [], 9999), (3, [12, 11, 6], [], 0), (0, [11], [], 6), (20, [10, 3], [1], 31), (23, [3], [1], 12), (0, [10], [], 305), (0, [9], [], 4), (5000, [0, 1, 2, 3, 4, 5, 6, 7, 8], [0, 1], 75), (0, [0], [], 285), (90, [1], [], 0), (91, [1], [], 39), (90, [2], [], -2147483648), (91, [2], [], 2147483647), (0, [3], [], 285), (90, [4], [], 0), (91, [4], [], 39), (90, [5], [], -2147483648), (91, [5], [], 2147483647), (90, [6], [], 0), (91, [6], [], 1007), (90, [7], [], 0), (91, [7], [], 19), (90, [8], [], -2147483648), (91, [8], [], 2147483647)], (4000, [3, 4, 5, 6, 7, 8], [3], 182))
theorem c_273w_75_2 {q0 : Nat} : vOkm T0 (eN e_273 L_273w A_273 mu_273 n_273 B_273 (some q0)) 3 g_273w_75_2 := vOk_inI fun ρ η f0 f1 f2 f3 f4 f5 f6 f7 f8 f9 f10 f11 f12 f13 f14 f15 f16 f17 f18 f19 f20 f21 f22 f23 f24 f25 f26 f27 f28 f29 f30 f31 f32 f33 f34 f35 f36 f37 f38 f39 f40 f41 f42 f43 f44 f45 f46 f47 f48 f49 f50 f51 f52 f53 f54 f55 f56 f57 f58 f59 f60 f61 f62 f63 f64 f65 f66 f67 f68 f69 f70 f71 f72 f73 f74 f75 f76 f77 f78 f79 f80 f81 f82 f83 f84 f85 f86 f87 f88 f89 f90 f91 f92 f93 f94 f95 f96 f97 f98 f99 f100 f101 f102 f103 f104 f105 f106 => q_273w_7 (q0 := q0) (n0 := ρ 8) (n1 := ρ 7) (n2 := ρ 6) (n3 := ρ 5) (n4 := ρ 4) (n5 := ρ 3) (n6 := ρ 2) (n7 := ρ 1) (n8 := ρ 0) (n9 := ρ 9) (n10 := ρ 10) (n11 := ρ 11) (n12 := ρ 12) (n13 := ρ 13) (n14 := ρ 14) (n15 := ρ 15) (n16 := ρ 16) (n17 := ρ 17) (n18 := ρ 18) (n19 := ρ 19) (n20 := ρ 20) (n21 := ρ 21) (n22 := ρ 22) (n23 := ρ 23) (n24 := ρ 24) (n25 := ρ 25) (n26 := ρ 26) (n27 := ρ 27) (n28 := ρ 28) (n29 := ρ 29) (n30 := ρ 30) (n31 := ρ 31) (n32 := ρ 32) (n33 := ρ 33) (n34 := ρ 34) (n35 := ρ 35) (n36 := ρ 36) (n37 := ρ 37) (n38 := ρ 38) (n39 := ρ 39) (n40 := ρ 40) (n41 := ρ 41) (n42 := ρ 42) (n43 := ρ 43) (n44 := ρ 44) (n45 := ρ 45) (n46 := ρ 46) (n47 := ρ 47) (n48 := ρ 48) (n49 := ρ 49) (n50 := ρ 50) (H0 := η 0) (H1 := η 1) (H2 := η 2) (H3 := η 3) f106 f105 f104 f103 f102 f101 f100 f99 f98 f97 f96 f95 f94 f93 f92 f91 f90 f89 f88 f87 f86 f85 f84 f83 f82 f81 f80 f79 f78 f77 f76 f75 f74 f73 f72 f71 f70 f69 f68 f67 f66 f65 f64 f63 f62 f61 f60 f59 f58 f57 f56 f55 f54 f53 f52 f51 f50 f49 f48 f47 f46 f45 f44 f43 f42 f41 f40 f39 f38 f37 f36 f35 f34 f33 f32 f31 f30 f29 f28 f27 f26 f25 f24 f23 f22 f21 f20 f19 f18 f17 f16 f15 f14 f13 f12 f11 f10 f9 f8 f7 f6 f5 f4 f3 f2 f1 f0
def p_273w_75 : List vG := [g_273w_75_0,
  g_273w_75_1,
  g_273w_75_2]
theorem r_273w_75 : vCovBO (eRc e_273 L_273 cs_273 2000 (75, [(0, (3, 12, 285, 0)), (1, (0, 0, 39, 0)), (2, (0, -2147483648, 2147483647, 0)), (3, (0, 0, 1007, 0)), (4, (0, 0, 19, 0)), (5, (0, -2147483648, 2147483647, 0))])) p_273w_75 = true := by decide +kernel
theorem q_273w_8 {q0 : Nat} {n0 n1 n2 n3 n4 n5 n6 n7 n8 n9 n10 n11 : Int} {H0 H1 H2 : gH} (f0 : n0 ≤ 2147483647) (f1 : (-2147483648) ≤ n0) (f2 : n1 ≤ 19) (f3 : 0 ≤ n1) (f4 : n2 ≤ 1007) (f5 : 0 ≤ n2) (f6 : n3 ≤ 2147483647) (f7 : (-2147483648) ≤ n3) (f8 : n4 ≤ 39) (f9 : 0 ≤ n4) (f10 : n5 = 285) (f11 : n6 ≤ 2147483647) (f12 : (-2147483648) ≤ n6) (f13 : n7 ≤ 39) (f14 : 0 ≤ n7) (f15 : n8 = 285) (f16 : (hLe T0 H0 H1 ∧ hFr s_273.2.2.2.2 H0 H1 ∧ hWt T0 H1) ∧ ((Ab_273_182 n8 n7 n6 n5 n4 n3 n2 n1 n0 H0 H1 ∧ Bb_273_182 n8 n7 n6 n5 n4 n3 n2 n1 n0 H0 H1) ∧ preb_273 n8 n7 n6 H0) ∧ some q0 = some (mub_273_182 n8 n7 n6 n5 n4 n3 n2 n1 n0 H0 H1)) (f17 : n9 ≤ 2147483647) (f18 : (-2147483648) ≤ n9) (f19 : hK H1 (n5).toNat = 12) (f20 : n9 = hV H1 (n5).toNat 88) (f21 : n10 ≤ 240) (f22 : 0 ≤ n10) (f23 : (hLe T0 H1 H2 ∧ hFr s_265.2.2.2.2 H1 H2 ∧ ((0 : Int) = 0 → H2.length = H1.length) ∧ hWt T0 H2) ∧ (postb_265 n10 n5 n1 H1 H2 ∧ nb_265 n10 n5 n1 H1 H2)) (f24 : n10 ≤ n9) (f25 : n11 = 0) : nb_273 n11 n8 n7 n6 H0 H2 := by
  unfold nb_273
  intro sk fb b0 b1 s0 s1 r3 kn1
  have pz := f16.2.1.2
  unfold preb_273 at pz
  obtain ⟨z0, xq, so, k0⟩ := pz
  have gb := f16.2.1.1.2
  unfold Bb_273_182 at gb
  have gb := gb sk fb b0 b1 s0 s1 r3 kn1
  have ga := f16.2.1.1.1
  unfold Ab_273_182 at ga
  obtain ⟨h1, h2, h3, h4, h5, h6⟩ := ga
  have c344 : hV H1 344 = hV H0 344 := fRow f16.1.2.1 344 (by decide +kernel)
  have c300 : hV H1 300 = hV H0 300 := fRow f16.1.2.1 300 (by decide +kernel)
  rw [c344] at h3
  rw [c300] at h4
  obtain ⟨g0, g1, g2, g3⟩ := gb
  have el := lrN_R (h := H0) (mk := hV H0 340) (sh := hV H0 345 (n7).toNat) k0
  have m0 : (lrN (nowR (hV H0 340) (recR H0 (hV H0 344 (n7).toNat).toNat, hV H0 345 (n7).toNat))).1 = 0 := congrArg (fun y : LR => y.1) el
  have g_sn : (lrN (nowR (hV H0 340) (recR H0 (hV H0 344 (n7).toNat).toNat, hV H0 345 (n7).toNat))).2.1 = hV H0 300 (hV H0 344 (n7).toNat).toNat := congrArg (fun y : LR => y.2.1) el
  have e4 : n1 = (lrN (nowR (hV H0 340) (recR H0 (hV H0 344 (n7).toNat).toNat, hV H0 345 (n7).toNat))).2.1 := by
    rw [g_sn, h4, h3]
  have d20 := rdS (q := 285) f20 f10
  have x88 : n9 = lyI (lrN (nowR (hV H0 340) (recR H0 (hV H0 344 (n7).toNat).toNat, hV H0 345 (n7).toNat))) n6 := d20.trans (g0)
  have er : RE H1 = RE H0 := RE_fr f16.1.2.1 (by decide +kernel)
  have ql := f23.2.2
  unfold nb_265 at ql
  rw [er, e4] at ql
  have ql := ql sk (by rw [show hV H1 328 = hV H0 328 from fRow f16.1.2.1 328 (by decide +kernel)]; exact r3)
  have rc := f25
  exact .inr ⟨rc, fun w => by
    have := w.2.2
    omega⟩
def g_273w_182_0 : vG := ([(0, [11], [], 0), (43, [9, 10], [], 0), (1265, [10, 3, 7], [1, 2], 0), (90, [10], [], 0), (91, [10], [], 240), (20, [9, 3], [1], 88), (23, [3], [1], 12), (90, [9], [], -2147483648), (91, [9], [], 2147483647), (5000, [0, 1, 2, 3, 4, 5, 6, 7, 8], [0, 1], 182), (0, [0], [], 285), (90, [1], [], 0), (91, [1], [], 39), (90, [2], [], -2147483648), (91, [2], [], 2147483647), (0, [3], [], 285), (90, [4], [], 0), (91, [4], [], 39), (90, [5], [], -2147483648), (91, [5], [], 2147483647), (90, [6], [], 0), (91, [6], [], 1007), (90, [7], [], 0), (91, [7], [], 19), (90, [8], [], -2147483648), (91, [8], [], 2147483647)], (3000, [11], [2], 200))
theorem c_273w_182_0 {q0 : Nat} : vOkm T0 (eN e_273 L_273w A_273 mu_273 n_273 B_273 (some q0)) 3 g_273w_182_0 := vOk_inI fun ρ η f0 f1 f2 f3 f4 f5 f6 f7 f8 f9 f10 f11 f12 f13 f14 f15 f16 f17 f18 f19 f20 f21 f22 f23 f24 f25 => q_273w_8 (q0 := q0) (n0 := ρ 8) (n1 := ρ 7) (n2 := ρ 6) (n3 := ρ 5) (n4 := ρ 4) (n5 := ρ 3) (n6 := ρ 2) (n7 := ρ 1) (n8 := ρ 0) (n9 := ρ 9) (n10 := ρ 10) (n11 := ρ 11) (H0 := η 0) (H1 := η 1) (H2 := η 2) f25 f24 f23 f22 f21 f20 f19 f18 f17 f16 f15 f14 f13 f12 f11 f10 f9 f8 f7 f6 f5 f4 f3 f2 f1 f0
theorem q_273w_9 {q0 : Nat} {n0 n1 n2 n3 n4 n5 n6 n7 n8 n9 n10 n11 : Int} {H0 H1 H2 : gH} (f0 : n0 ≤ 2147483647) (f1 : (-2147483648) ≤ n0) (f2 : n1 ≤ 19) (f3 : 0 ≤ n1) (f4 : n2 ≤ 1007) (f5 : 0 ≤ n2) (f6 : n3 ≤ 2147483647) (f7 : (-2147483648) ≤ n3) (f8 : n4 ≤ 39) (f9 : 0 ≤ n4) (f10 : n5 = 285) (f11 : n6 ≤ 2147483647) (f12 : (-2147483648) ≤ n6) (f13 : n7 ≤ 39) (f14 : 0 ≤ n7) (f15 : n8 = 285) (f16 : (hLe T0 H0 H1 ∧ hFr s_273.2.2.2.2 H0 H1 ∧ hWt T0 H1) ∧ ((Ab_273_182 n8 n7 n6 n5 n4 n3 n2 n1 n0 H0 H1 ∧ Bb_273_182 n8 n7 n6 n5 n4 n3 n2 n1 n0 H0 H1) ∧ preb_273 n8 n7 n6 H0) ∧ some q0 = some (mub_273_182 n8 n7 n6 n5 n4 n3 n2 n1 n0 H0 H1)) (f17 : n9 ≤ 2147483647) (f18 : (-2147483648) ≤ n9) (f19 : hK H1 (n5).toNat = 12) (f20 : n9 = hV H1 (n5).toNat 88) (f21 : n10 ≤ 240) (f22 : 0 ≤ n10) (f23 : (hLe T0 H1 H2 ∧ hFr s_265.2.2.2.2 H1 H2 ∧ ((0 : Int) = 0 → H2.length = H1.length) ∧ hWt T0 H2) ∧ (postb_265 n10 n5 n1 H1 H2 ∧ nb_265 n10 n5 n1 H1 H2)) (f24 : n9 < n10) (f25 : n11 = 1) : nb_273 n11 n8 n7 n6 H0 H2 := by
  unfold nb_273
  intro sk fb b0 b1 s0 s1 r3 kn1
  have pz := f16.2.1.2
  unfold preb_273 at pz
  obtain ⟨z0, xq, so, k0⟩ := pz
  have gb := f16.2.1.1.2
  unfold Bb_273_182 at gb
  have gb := gb sk fb b0 b1 s0 s1 r3 kn1
  have ga := f16.2.1.1.1
  unfold Ab_273_182 at ga
  obtain ⟨h1, h2, h3, h4, h5, h6⟩ := ga
  have c344 : hV H1 344 = hV H0 344 := fRow f16.1.2.1 344 (by decide +kernel)
  have c300 : hV H1 300 = hV H0 300 := fRow f16.1.2.1 300 (by decide +kernel)
  rw [c344] at h3
  rw [c300] at h4
  obtain ⟨g0, g1, g2, g3⟩ := gb
  have el := lrN_R (h := H0) (mk := hV H0 340) (sh := hV H0 345 (n7).toNat) k0
  have m0 : (lrN (nowR (hV H0 340) (recR H0 (hV H0 344 (n7).toNat).toNat, hV H0 345 (n7).toNat))).1 = 0 := congrArg (fun y : LR => y.1) el
  have g_sn : (lrN (nowR (hV H0 340) (recR H0 (hV H0 344 (n7).toNat).toNat, hV H0 345 (n7).toNat))).2.1 = hV H0 300 (hV H0 344 (n7).toNat).toNat := congrArg (fun y : LR => y.2.1) el
  have e4 : n1 = (lrN (nowR (hV H0 340) (recR H0 (hV H0 344 (n7).toNat).toNat, hV H0 345 (n7).toNat))).2.1 := by
    rw [g_sn, h4, h3]
  have d20 := rdS (q := 285) f20 f10
  have x88 : n9 = lyI (lrN (nowR (hV H0 340) (recR H0 (hV H0 344 (n7).toNat).toNat, hV H0 345 (n7).toNat))) n6 := d20.trans (g0)
  have er : RE H1 = RE H0 := RE_fr f16.1.2.1 (by decide +kernel)
  have ql := f23.2.2
  unfold nb_265 at ql
  rw [er, e4] at ql
  have ql := ql sk (by rw [show hV H1 328 = hV H0 328 from fRow f16.1.2.1 328 (by decide +kernel)]; exact r3)
  have rc := f25
  exact .inl ⟨rc, ⟨by omega, by omega, by omega⟩, (show hV H2 285 88 = hV H1 285 88 from f23.1.2.1.1 285 88 (by decide +kernel)).trans g0⟩
def g_273w_182_1 : vG := ([(0, [11], [], 1), (42, [9, 10], [], 0), (1265, [10, 3, 7], [1, 2], 0), (90, [10], [], 0), (91, [10], [], 240), (20, [9, 3], [1], 88), (23, [3], [1], 12), (90, [9], [], -2147483648), (91, [9], [], 2147483647), (5000, [0, 1, 2, 3, 4, 5, 6, 7, 8], [0, 1], 182), (0, [0], [], 285), (90, [1], [], 0), (91, [1], [], 39), (90, [2], [], -2147483648), (91, [2], [], 2147483647), (0, [3], [], 285), (90, [4], [], 0), (91, [4], [], 39), (90, [5], [], -2147483648), (91, [5], [], 2147483647), (90, [6], [], 0), (91, [6], [], 1007), (90, [7], [], 0), (91, [7], [], 19), (90, [8], [], -2147483648), (91, [8], [], 2147483647)], (3000, [11], [2], 200))
theorem c_273w_182_1 {q0 : Nat} : vOkm T0 (eN e_273 L_273w A_273 mu_273 n_273 B_273 (some q0)) 3 g_273w_182_1 := vOk_inI fun ρ η f0 f1 f2 f3 f4 f5 f6 f7 f8 f9 f10 f11 f12 f13 f14 f15 f16 f17 f18 f19 f20 f21 f22 f23 f24 f25 => q_273w_9 (q0 := q0) (n0 := ρ 8) (n1 := ρ 7) (n2 := ρ 6) (n3 := ρ 5) (n4 := ρ 4) (n5 := ρ 3) (n6 := ρ 2) (n7 := ρ 1) (n8 := ρ 0) (n9 := ρ 9) (n10 := ρ 10) (n11 := ρ 11) (H0 := η 0) (H1 := η 1) (H2 := η 2) f25 f24 f23 f22 f21 f20 f19 f18 f17 f16 f15 f14 f13 f12 f11 f10 f9 f8 f7 f6 f5 f4 f3 f2 f1 f0
def p_273w_182 : List vG := [g_273w_182_0,
  g_273w_182_1]
theorem r_273w_182 : vCovBO (eRc e_273 L_273 cs_273 2000 (182, [(0, (3, 12, 285, 0)), (1, (0, 0, 39, 0)), (2, (0, -2147483648, 2147483647, 0)), (3, (0, 0, 1007, 0)), (4, (0, 0, 19, 0)), (5, (0, -2147483648, 2147483647, 0))])) p_273w_182 = true := by decide +kernel
theorem m_273w (d : Nat) : eC e_273w (d + 3) := eC_ref (e := e_273) (L := L_273) (L' := L_273w) (cs := cs_273) (n := 2000) (d := d + 2) (A := A_273) (μ := mu_273) (tp := false) (p0 := p_273_s) (p1 := p_273w_s) (N := n_273) (B := B_273) rfl ⟨m_250 (d + 1), ⟨m_265w (d + 1), ⟨m_271w d, trivial⟩⟩⟩ rfl (.inl rfl) (by decide +kernel) (fun z => nomatch z) r_273_s (allC c_273_s_0 (allC c_273_s_1 (allC c_273_s_2 (allC c_273_s_3 (allC c_273_s_4 (allC c_273_s_5 (allC c_273_s_6 (allC c_273_s_7 (allC c_273_s_8 (allC c_273_s_9 (allC c_273_s_10 (allC c_273_s_11 allN)))))))))))) (allC (.inl ⟨p_273_75, r_273_75, fun q0 => (allC c_273_75_0 (allC c_273_75_1 (allC c_273_75_2 (allC c_273_75_3 (allC c_273_75_4 (allC c_273_75_5 (allC c_273_75_6 (allC c_273_75_7 allN))))))))⟩) (allC (.inl ⟨p_273_182, r_273_182, fun q0 => (allC c_273_182_0 (allC c_273_182_1 (allC c_273_182_2 allN)))⟩) allN)) (sub0 (sub1 (sub1 trivial))) r_273w_s (allC c_273w_s_0 (allC c_273w_s_1 (allC c_273w_s_2 (allC c_273w_s_3 (allC c_273w_s_4 allN))))) (allC ⟨p_273w_75, r_273w_75, fun q0 => (allC c_273w_75_0 (allC c_273w_75_1 (allC c_273w_75_2 allN)))⟩ (allC ⟨p_273w_182, r_273w_182, fun q0 => (allC c_273w_182_0 (allC c_273w_182_1 allN))⟩ allN))
