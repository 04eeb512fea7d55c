/- MixStageModel.holds (I)Z, more fully -/
def nb_239 (r a0 a1 : Int) (h0 h : gH) : Prop := ∀ (u : List Op × List Lit) (cl ch ll lh : Int), 0 ≤ cl → 0 ≤ ll → rgR h0 cl ch ll lh (a1).toNat (some u) → GRl (some u) → (r = 1 ∧ rV (VAr h0) u = some (hV h 285 59)) ∨ (r = 0 ∧ rV (VAr h0) u = none)
def n_239 : List Int → gH → gH → Prop := fun xs h0 h => match xs with
  | [r, a0, a1] => nb_239 r a0 a1 h0 h
  | _ => True
noncomputable def e_239w : vE := eV e_239 n_239
noncomputable def L_239w : List vE := [e_238w]
def Bb_239_56 (a0 a1 x0 x1 x2 x3 x4 : Int) (h0 h : gH) : Prop := ∀ (u : List Op × List Lit) (cl ch ll lh : Int), 0 ≤ cl → 0 ≤ ll → rgR h0 cl ch ll lh (a1).toNat (some u) → GRl (some u) → ∃ j : Nat, x4 = hV h0 310 (a1).toNat + (j : Int) ∧ j ≤ u.2.length ∧ HDi h (VAr h0) u x2 x3 j
def Bb_239_198 (a0 a1 x0 x1 x2 x3 x4 x5 x6 x7 : Int) (h0 h : gH) : Prop := ∀ (u : List Op × List Lit) (cl ch ll lh : Int), 0 ≤ cl → 0 ≤ ll → rgR h0 cl ch ll lh (a1).toNat (some u) → GRl (some u) → ∃ j : Nat, x4 = hV h0 310 (a1).toNat + (j : Int) ∧ j < u.2.length ∧ HDl h (VAr h0) u x2 x3 j x7
def Bb_239_224 (a0 a1 x0 x1 x2 x3 x4 x5 x6 x7 : Int) (h0 h : gH) : Prop := ∀ (u : List Op × List Lit) (cl ch ll lh : Int), 0 ≤ cl → 0 ≤ ll → rgR h0 cl ch ll lh (a1).toNat (some u) → GRl (some u) → ∃ j : Nat, x4 = hV h0 310 (a1).toNat + (j : Int) ∧ j < u.2.length ∧ HDm h (VAr h0) u x2 x3 j x7
def B_239 : Int → List Int → gH → gH → Prop := fun c xs h0 h => match c.toNat with
  | 56 => (match xs with
    | [a0, a1, x0, x1, x2, x3, x4] => Bb_239_56 a0 a1 x0 x1 x2 x3 x4 h0 h
    | _ => False)
  | 198 => (match xs with
    | [a0, a1, x0, x1, x2, x3, x4, x5, x6, x7] => Bb_239_198 a0 a1 x0 x1 x2 x3 x4 x5 x6 x7 h0 h
    | _ => False)
  | 224 => (match xs with
    | [a0, a1, x0, x1, x2, x3, x4, x5, x6, x7] => Bb_239_224 a0 a1 x0 x1 x2 x3 x4 x5 x6 x7 h0 h
    | _ => False)
  | _ => True
theorem q_239w_0 {n0 n1 n2 n3 n4 n5 n6 n7 n8 n9 n10 n11 n12 n13 n14 n15 n16 n17 : Int} {H0 H1 H2 H3 : gH} (f0 : n0 ≤ 23) (f1 : 0 ≤ n0) (f2 : n1 = 285) (f3 : hWt T0 H0 ∧ preb_239 n1 n0 H0) (f4 : n2 = 0) (f5 : hK H0 (n1).toNat = 12) (f6 : n3 = 58) (f7 : hUpd H1 H0 n1 n3 n2) (f8 : n4 = 308) (f9 : hK H1 (n1).toNat = 12) (f10 : n4 = hV H1 (n1).toNat 38) (f11 : n5 ≤ 1200) (f12 : 0 ≤ n5) (f13 : n5 = hV H1 (n4).toNat (n0).toNat) (f14 : n6 = 309) (f15 : hK H1 (n1).toNat = 12) (f16 : n6 = hV H1 (n1).toNat 39) (f17 : n7 ≤ 1200) (f18 : 0 ≤ n7) (f19 : n7 = hV H1 (n6).toNat (n0).toNat) (f20 : n8 ≤ 2147483647) (f21 : (-2147483648) ≤ n8) (f22 : (hLe T0 H1 H2 ∧ hFr s_238.2.2.2.2 H1 H2 ∧ ((0 : Int) = 0 → H2.length = H1.length) ∧ hWt T0 H2) ∧ (True ∧ nb_238 n8 n1 n5 n7 H1 H2)) (f23 : hK H2 (n1).toNat = 12) (f24 : n9 = 59) (f25 : hUpd H3 H2 n1 n9 n8) (f26 : n10 = 310) (f27 : hK H3 (n1).toNat = 12) (f28 : n10 = hV H3 (n1).toNat 40) (f29 : n11 ≤ 400) (f30 : 0 ≤ n11) (f31 : n11 = hV H3 (n10).toNat (n0).toNat) (f32 : n12 = 311) (f33 : hK H3 (n1).toNat = 12) (f34 : n12 = hV H3 (n1).toNat 41) (f35 : n13 ≤ 400) (f36 : 0 ≤ n13) (f37 : n13 = hV H3 (n12).toNat (n0).toNat) (f38 : n11 ≠ n13) (f39 : n14 = 0) (f40 : n15 = 0) (f41 : n16 = 310) (f42 : hK H3 (n1).toNat = 12) (f43 : n16 = hV H3 (n1).toNat 40) (f44 : n17 ≤ 400) (f45 : 0 ≤ n17) (f46 : n17 = hV H3 (n16).toNat (n0).toNat) : Bb_239_56 n1 n0 n1 n0 n14 n15 n17 H0 H3 := by
  unfold Bb_239_56
  intro u cl ch ll lh c0 l0 rg gr
  obtain ⟨g1, g2, g3⟩ := gr u rfl
  have d13 := rdW (q := 308) f13 f8
  have d19 := rdW (q := 309) f19 f14
  have d31 := rdW (q := 310) f31 f26
  have d37 := rdW (q := 311) f37 f32
  have d46 := rdW (q := 310) f46 f41
  have rgb : rgR H1 cl ch ll lh (n0).toNat (some u) := rgR_k (XRk_up f7 (.inl (by rw [f2, f6]; decide))) (YRs_up f7 (.inl (by rw [f2, f6]; decide))) (ZRs_up f7 (by rw [f2]; decide)) rg
  obtain ⟨r1, r2, r3, r4, r5, r6⟩ := rg
  have q := f22.2.2
  unfold nb_238 at q
  have v13 : n5 = hV H0 308 (n0).toNat := by rw [d13, show hV H1 308 = hV H0 308 from uRowNe f7 308 (by rw [f2]; decide)]
  have v19 : n7 = hV H0 309 (n0).toNat := by rw [d19, show hV H1 309 = hV H0 309 from uRowNe f7 309 (by rw [f2]; decide)]
  have v31 : n11 = hV H0 310 (n0).toNat := by rw [d31, show hV H3 310 = hV H0 310 from (uRowNe f25 310 (by rw [f2]; decide)).trans ((fRow f22.1.2.1 310 (by decide +kernel)).trans (uRowNe f7 310 (by rw [f2]; decide)))]
  have v37 : n13 = hV H0 311 (n0).toNat := by rw [d37, show hV H3 311 = hV H0 311 from (uRowNe f25 311 (by rw [f2]; decide)).trans ((fRow f22.1.2.1 311 (by decide +kernel)).trans (uRowNe f7 311 (by rw [f2]; decide)))]
  have v46 : n17 = hV H0 310 (n0).toNat := by rw [d46, show hV H3 310 = hV H0 310 from (uRowNe f25 310 (by rw [f2]; decide)).trans ((fRow f22.1.2.1 310 (by decide +kernel)).trans (uRowNe f7 310 (by rw [f2]; decide)))]
  rw [v13, v19, show VAr H1 = VAr H0 from VAr_eq (uRowNe f7 323 (by rw [f2]; decide))] at q
  have tm := q cl ch u.1 (CDr_k (XRk_up f7 (.inl (by rw [f2, f6]; decide))) r2) c0 g1
  have ln : ∀ L : List Lit, (L.length : Int) = 0 ↔ L = [] := fun L => ⟨fun w => List.length_eq_zero_iff.mp (by omega), fun w => by rw [w]; rfl⟩
  have l2 := ln u.2
  refine ⟨0, by show _ = _ + ((0 : Nat) : Int); omega, Nat.zero_le _, HD_0 tm ((uSame f7 285 58 (by rw [f2]; rfl) (by rw [f6]; rfl)).trans f4) (uSlot f25 285 58 (by rw [f24]; decide)) (uSame f25 285 59 (by rw [f2]; rfl) (by rw [f24]; rfl)) (.inr ⟨f39, fun w => by
    have := l2.mpr w
    omega⟩) (by omega)⟩
def g_239w_s_0 : vG := ([(22, [17, 16, 1], [3], 0), (90, [17], [], 0), (91, [17], [], 400), (20, [16, 0], [3], 40), (23, [0], [3], 12), (0, [16], [], 310), (0, [15], [], 0), (0, [14], [], 0), (41, [11, 13], [], 0), (22, [13, 12, 1], [3], 0), (90, [13], [], 0), (91, [13], [], 400), (20, [12, 0], [3], 41), (23, [0], [3], 12), (0, [12], [], 311), (22, [11, 10, 1], [3], 0), (90, [11], [], 0), (91, [11], [], 400), (20, [10, 0], [3], 40), (23, [0], [3], 12), (0, [10], [], 310), (80, [0, 9, 8], [3, 2], 0), (0, [9], [], 59), (23, [0], [2], 12), (1238, [8, 0, 5, 7], [1, 2], 0), (90, [8], [], -2147483648), (91, [8], [], 2147483647), (22, [7, 6, 1], [1], 0), (90, [7], [], 0), (91, [7], [], 1200), (20, [6, 0], [1], 39), (23, [0], [1], 12), (0, [6], [], 309), (22, [5, 4, 1], [1], 0), (90, [5], [], 0), (91, [5], [], 1200), (20, [4, 0], [1], 38), (23, [0], [1], 12), (0, [4], [], 308), (80, [0, 3, 2], [1, 0], 0), (0, [3], [], 58), (23, [0], [0], 12), (0, [2], [], 0), (6000, [0, 1], [0], 0), (0, [0], [], 285), (90, [1], [], 0), (91, [1], [], 23)], (4000, [0, 1, 14, 15, 17], [3], 56))
theorem c_239w_s_0 : vOkm T0 (eN e_239 L_239w A_239 mu_239 n_239 B_239 none) 2 g_239w_s_0 := vOk_inI fun ρ η f0 f1 f2 f3 f4 f5 f6 f7 f8 f9 f10 f11 f12 f13 f14 f15 f16 f17 f18 f19 f20 f21 f22 f23 f24 f25 f26 f27 f28 f29 f30 f31 f32 f33 f34 f35 f36 f37 f38 f39 f40 f41 f42 f43 f44 f45 f46 => q_239w_0 (n0 := ρ 1) (n1 := ρ 0) (n2 := ρ 2) (n3 := ρ 3) (n4 := ρ 4) (n5 := ρ 5) (n6 := ρ 6) (n7 := ρ 7) (n8 := ρ 8) (n9 := ρ 9) (n10 := ρ 10) (n11 := ρ 11) (n12 := ρ 12) (n13 := ρ 13) (n14 := ρ 14) (n15 := ρ 15) (n16 := ρ 16) (n17 := ρ 17) (H0 := η 0) (H1 := η 1) (H2 := η 2) (H3 := η 3) f46 f45 f44 f43 f42 f41 f40 f39 f38 f37 f36 f35 f34 f33 f32 f31 f30 f29 f28 f27 f26 f25 f24 f23 f22 f21 f20 f19 f18 f17 f16 f15 f14 f13 f12 f11 f10 f9 f8 f7 f6 f5 f4 f3 f2 f1 f0
theorem q_239w_1 {n0 n1 n2 n3 n4 n5 n6 n7 n8 n9 n10 n11 n12 n13 n14 n15 n16 n17 : Int} {H0 H1 H2 H3 : gH} (f0 : n0 ≤ 23) (f1 : 0 ≤ n0) (f2 : n1 = 285) (f3 : hWt T0 H0 ∧ preb_239 n1 n0 H0) (f4 : n2 = 0) (f5 : hK H0 (n1).toNat = 12) (f6 : n3 = 58) (f7 : hUpd H1 H0 n1 n3 n2) (f8 : n4 = 308) (f9 : hK H1 (n1).toNat = 12) (f10 : n4 = hV H1 (n1).toNat 38) (f11 : n5 ≤ 1200) (f12 : 0 ≤ n5) (f13 : n5 = hV H1 (n4).toNat (n0).toNat) (f14 : n6 = 309) (f15 : hK H1 (n1).toNat = 12) (f16 : n6 = hV H1 (n1).toNat 39) (f17 : n7 ≤ 1200) (f18 : 0 ≤ n7) (f19 : n7 = hV H1 (n6).toNat (n0).toNat) (f20 : n8 ≤ 2147483647) (f21 : (-2147483648) ≤ n8) (f22 : (hLe T0 H1 H2 ∧ hFr s_238.2.2.2.2 H1 H2 ∧ ((0 : Int) = 0 → H2.length = H1.length) ∧ hWt T0 H2) ∧ (True ∧ nb_238 n8 n1 n5 n7 H1 H2)) (f23 : hK H2 (n1).toNat = 12) (f24 : n9 = 59) (f25 : hUpd H3 H2 n1 n9 n8) (f26 : n10 = 310) (f27 : hK H3 (n1).toNat = 12) (f28 : n10 = hV H3 (n1).toNat 40) (f29 : n11 ≤ 400) (f30 : 0 ≤ n11) (f31 : n11 = hV H3 (n10).toNat (n0).toNat) (f32 : n12 = 311) (f33 : hK H3 (n1).toNat = 12) (f34 : n12 = hV H3 (n1).toNat 41) (f35 : n13 ≤ 400) (f36 : 0 ≤ n13) (f37 : n13 = hV H3 (n12).toNat (n0).toNat) (f38 : n11 = n13) (f39 : n14 = 1) (f40 : n15 = 0) (f41 : n16 = 310) (f42 : hK H3 (n1).toNat = 12) (f43 : n16 = hV H3 (n1).toNat 40) (f44 : n17 ≤ 400) (f45 : 0 ≤ n17) (f46 : n17 = hV H3 (n16).toNat (n0).toNat) : Bb_239_56 n1 n0 n1 n0 n14 n15 n17 H0 H3 := by
  unfold Bb_239_56
  intro u cl ch ll lh c0 l0 rg gr
  obtain ⟨g1, g2, g3⟩ := gr u rfl
  have d13 := rdW (q := 308) f13 f8
  have d19 := rdW (q := 309) f19 f14
  have d31 := rdW (q := 310) f31 f26
  have d37 := rdW (q := 311) f37 f32
  have d46 := rdW (q := 310) f46 f41
  have rgb : rgR H1 cl ch ll lh (n0).toNat (some u) := rgR_k (XRk_up f7 (.inl (by rw [f2, f6]; decide))) (YRs_up f7 (.inl (by rw [f2, f6]; decide))) (ZRs_up f7 (by rw [f2]; decide)) rg
  obtain ⟨r1, r2, r3, r4, r5, r6⟩ := rg
  have q := f22.2.2
  unfold nb_238 at q
  have v13 : n5 = hV H0 308 (n0).toNat := by rw [d13, show hV H1 308 = hV H0 308 from uRowNe f7 308 (by rw [f2]; decide)]
  have v19 : n7 = hV H0 309 (n0).toNat := by rw [d19, show hV H1 309 = hV H0 309 from uRowNe f7 309 (by rw [f2]; decide)]
  have v31 : n11 = hV H0 310 (n0).toNat := by rw [d31, show hV H3 310 = hV H0 310 from (uRowNe f25 310 (by rw [f2]; decide)).trans ((fRow f22.1.2.1 310 (by decide +kernel)).trans (uRowNe f7 310 (by rw [f2]; decide)))]
  have v37 : n13 = hV H0 311 (n0).toNat := by rw [d37, show hV H3 311 = hV H0 311 from (uRowNe f25 311 (by rw [f2]; decide)).trans ((fRow f22.1.2.1 311 (by decide +kernel)).trans (uRowNe f7 311 (by rw [f2]; decide)))]
  have v46 : n17 = hV H0 310 (n0).toNat := by rw [d46, show hV H3 310 = hV H0 310 from (uRowNe f25 310 (by rw [f2]; decide)).trans ((fRow f22.1.2.1 310 (by decide +kernel)).trans (uRowNe f7 310 (by rw [f2]; decide)))]
  rw [v13, v19, show VAr H1 = VAr H0 from VAr_eq (uRowNe f7 323 (by rw [f2]; decide))] at q
  have tm := q cl ch u.1 (CDr_k (XRk_up f7 (.inl (by rw [f2, f6]; decide))) r2) c0 g1
  have ln : ∀ L : List Lit, (L.length : Int) = 0 ↔ L = [] := fun L => ⟨fun w => List.length_eq_zero_iff.mp (by omega), fun w => by rw [w]; rfl⟩
  have l2 := ln u.2
  refine ⟨0, by show _ = _ + ((0 : Nat) : Int); omega, Nat.zero_le _, HD_0 tm ((uSame f7 285 58 (by rw [f2]; rfl) (by rw [f6]; rfl)).trans f4) (uSlot f25 285 58 (by rw [f24]; decide)) (uSame f25 285 59 (by rw [f2]; rfl) (by rw [f24]; rfl)) (.inl ⟨f39, l2.mp (by omega)⟩) (by omega)⟩
def g_239w_s_1 : vG := ([(22, [17, 16, 1], [3], 0), (90, [17], [], 0), (91, [17], [], 400), (20, [16, 0], [3], 40), (23, [0], [3], 12), (0, [16], [], 310), (0, [15], [], 0), (0, [14], [], 1), (40, [11, 13], [], 0), (22, [13, 12, 1], [3], 0), (90, [13], [], 0), (91, [13], [], 400), (20, [12, 0], [3], 41), (23, [0], [3], 12), (0, [12], [], 311), (22, [11, 10, 1], [3], 0), (90, [11], [], 0), (91, [11], [], 400), (20, [10, 0], [3], 40), (23, [0], [3], 12), (0, [10], [], 310), (80, [0, 9, 8], [3, 2], 0), (0, [9], [], 59), (23, [0], [2], 12), (1238, [8, 0, 5, 7], [1, 2], 0), (90, [8], [], -2147483648), (91, [8], [], 2147483647), (22, [7, 6, 1], [1], 0), (90, [7], [], 0), (91, [7], [], 1200), (20, [6, 0], [1], 39), (23, [0], [1], 12), (0, [6], [], 309), (22, [5, 4, 1], [1], 0), (90, [5], [], 0), (91, [5], [], 1200), (20, [4, 0], [1], 38), (23, [0], [1], 12), (0, [4], [], 308), (80, [0, 3, 2], [1, 0], 0), (0, [3], [], 58), (23, [0], [0], 12), (0, [2], [], 0), (6000, [0, 1], [0], 0), (0, [0], [], 285), (90, [1], [], 0), (91, [1], [], 23)], (4000, [0, 1, 14, 15, 17], [3], 56))
theorem c_239w_s_1 : vOkm T0 (eN e_239 L_239w A_239 mu_239 n_239 B_239 none) 2 g_239w_s_1 := vOk_inI fun ρ η f0 f1 f2 f3 f4 f5 f6 f7 f8 f9 f10 f11 f12 f13 f14 f15 f16 f17 f18 f19 f20 f21 f22 f23 f24 f25 f26 f27 f28 f29 f30 f31 f32 f33 f34 f35 f36 f37 f38 f39 f40 f41 f42 f43 f44 f45 f46 => q_239w_1 (n0 := ρ 1) (n1 := ρ 0) (n2 := ρ 2) (n3 := ρ 3) (n4 := ρ 4) (n5 := ρ 5) (n6 := ρ 6) (n7 := ρ 7) (n8 := ρ 8) (n9 := ρ 9) (n10 := ρ 10) (n11 := ρ 11) (n12 := ρ 12) (n13 := ρ 13) (n14 := ρ 14) (n15 := ρ 15) (n16 := ρ 16) (n17 := ρ 17) (H0 := η 0) (H1 := η 1) (H2 := η 2) (H3 := η 3) f46 f45 f44 f43 f42 f41 f40 f39 f38 f37 f36 f35 f34 f33 f32 f31 f30 f29 f28 f27 f26 f25 f24 f23 f22 f21 f20 f19 f18 f17 f16 f15 f14 f13 f12 f11 f10 f9 f8 f7 f6 f5 f4 f3 f2 f1 f0
def p_239w_s : List vG := [g_239w_s_0,
  g_239w_s_1]
theorem r_239w_s : vCovBO (eR0 e_239 L_239 cs_239 2000) p_239w_s = true := by decide +kernel
theorem q_239w_2 {q0 : Nat} {n0 n1 n2 n3 n4 n5 n6 n7 n8 n9 n10 : Int} {H0 H1 : gH} (f0 : n0 ≤ 400) (f1 : 0 ≤ n0) (f2 : n1 ≤ 1) (f3 : 0 ≤ n1) (f4 : n2 ≤ 1) (f5 : 0 ≤ n2) (f6 : n3 ≤ 23) (f7 : 0 ≤ n3) (f8 : n4 = 285) (f9 : n5 ≤ 23) (f10 : 0 ≤ n5) (f11 : n6 = 285) (f12 : (hLe T0 H0 H1 ∧ hFr s_239.2.2.2.2 H0 H1 ∧ hWt T0 H1) ∧ ((Ab_239_56 n6 n5 n4 n3 n2 n1 n0 H0 H1 ∧ Bb_239_56 n6 n5 n4 n3 n2 n1 n0 H0 H1) ∧ preb_239 n6 n5 H0) ∧ some q0 = some (mub_239_56 n6 n5 n4 n3 n2 n1 n0 H0 H1)) (f13 : n7 = 311) (f14 : hK H1 (n4).toNat = 12) (f15 : n7 = hV H1 (n4).toNat 41) (f16 : n8 ≤ 400) (f17 : 0 ≤ n8) (f18 : n8 = hV H1 (n7).toNat (n3).toNat) (f19 : n8 ≤ n0) (f20 : n2 ≠ 0) (f21 : n9 ≤ 1) (f22 : 0 ≤ n9) (f23 : hK H1 (n4).toNat = 12) (f24 : n9 = hV H1 (n4).toNat 58) (f25 : n9 ≠ 0) (f26 : n10 = 0) : nb_239 n10 n6 n5 H0 H1 := by
  unfold nb_239
  intro u cl ch ll lh c0 l0 rg gr
  obtain ⟨g1, g2, g3⟩ := gr u rfl
  have gb := f12.2.1.1.2
  unfold Bb_239_56 at gb
  obtain ⟨jj, ej, jl, hd_⟩ := gb u cl ch ll lh c0 l0 rg gr
  have ab := f12.2.1.1.1
  unfold Ab_239_56 at ab
  have e1 := ab.1
  have d18 := rdW (q := 311) f18 f13
  have d24 := rdS (q := 285) f24 f8
  have xk : XRk H0 H1 := XRk_fr f12.1.2.1 (by decide +kernel)
  have yk : YRs H0 H1 := YRs_fr f12.1.2.1 (by decide +kernel)
  have zk : ZRs H0 H1 := ZRs_fr f12.1.2.1 (by decide +kernel)
  obtain ⟨r1, r2, r3, r4, r5, r6⟩ := rg
  have v11 : n8 = hV H0 311 (n5).toNat := by rw [d18, zk 311 (by decide) (by decide), e1]
  have rc := f26
  exact HD_end hd_ (by omega) (by omega) (by omega) (by omega)
def g_239w_56_0 : vG := ([(0, [10], [], 0), (31, [9], [], 0), (20, [9, 2], [1], 58), (23, [2], [1], 12), (90, [9], [], 0), (91, [9], [], 1), (31, [4], [], 0), (43, [6, 8], [], 0), (22, [8, 7, 3], [1], 0), (90, [8], [], 0), (91, [8], [], 400), (20, [7, 2], [1], 41), (23, [2], [1], 12), (0, [7], [], 311), (5000, [0, 1, 2, 3, 4, 5, 6], [0, 1], 56), (0, [0], [], 285), (90, [1], [], 0), (91, [1], [], 23), (0, [2], [], 285), (90, [3], [], 0), (91, [3], [], 23), (90, [4], [], 0), (91, [4], [], 1), (90, [5], [], 0), (91, [5], [], 1), (90, [6], [], 0), (91, [6], [], 400)], (3000, [10], [1], 272))
theorem c_239w_56_0 {q0 : Nat} : vOkm T0 (eN e_239 L_239w A_239 mu_239 n_239 B_239 (some q0)) 2 g_239w_56_0 := vOk_inI fun ρ η f0 f1 f2 f3 f4 f5 f6 f7 f8 f9 f10 f11 f12 f13 f14 f15 f16 f17 f18 f19 f20 f21 f22 f23 f24 f25 f26 => q_239w_2 (q0 := q0) (n0 := ρ 6) (n1 := ρ 5) (n2 := ρ 4) (n3 := ρ 3) (n4 := ρ 2) (n5 := ρ 1) (n6 := ρ 0) (n7 := ρ 7) (n8 := ρ 8) (n9 := ρ 9) (n10 := ρ 10) (H0 := η 0) (H1 := η 1) f26 f25 f24 f23 f22 f21 f20 f19 f18 f17 f16 f15 f14 f13 f12 f11 f10 f9 f8 f7 f6 f5 f4 f3 f2 f1 f0
theorem q_239w_3 {q0 : Nat} {n0 n1 n2 n3 n4 n5 n6 n7 n8 n9 n10 : Int} {H0 H1 : gH} (f0 : n0 ≤ 400) (f1 : 0 ≤ n0) (f2 : n1 ≤ 1) (f3 : 0 ≤ n1) (f4 : n2 ≤ 1) (f5 : 0 ≤ n2) (f6 : n3 ≤ 23) (f7 : 0 ≤ n3) (f8 : n4 = 285) (f9 : n5 ≤ 23) (f10 : 0 ≤ n5) (f11 : n6 = 285) (f12 : (hLe T0 H0 H1 ∧ hFr s_239.2.2.2.2 H0 H1 ∧ hWt T0 H1) ∧ ((Ab_239_56 n6 n5 n4 n3 n2 n1 n0 H0 H1 ∧ Bb_239_56 n6 n5 n4 n3 n2 n1 n0 H0 H1) ∧ preb_239 n6 n5 H0) ∧ some q0 = some (mub_239_56 n6 n5 n4 n3 n2 n1 n0 H0 H1)) (f13 : n7 = 311) (f14 : hK H1 (n4).toNat = 12) (f15 : n7 = hV H1 (n4).toNat 41) (f16 : n8 ≤ 400) (f17 : 0 ≤ n8) (f18 : n8 = hV H1 (n7).toNat (n3).toNat) (f19 : n8 ≤ n0) (f20 : n2 ≠ 0) (f21 : n9 ≤ 1) (f22 : 0 ≤ n9) (f23 : hK H1 (n4).toNat = 12) (f24 : n9 = hV H1 (n4).toNat 58) (f25 : n9 = 0) (f26 : n10 = 1) : nb_239 n10 n6 n5 H0 H1 := by
  unfold nb_239
  intro u cl ch ll lh c0 l0 rg gr
  obtain ⟨g1, g2, g3⟩ := gr u rfl
  have gb := f12.2.1.1.2
  unfold Bb_239_56 at gb
  obtain ⟨jj, ej, jl, hd_⟩ := gb u cl ch ll lh c0 l0 rg gr
  have ab := f12.2.1.1.1
  unfold Ab_239_56 at ab
  have e1 := ab.1
  have d18 := rdW (q := 311) f18 f13
  have d24 := rdS (q := 285) f24 f8
  have xk : XRk H0 H1 := XRk_fr f12.1.2.1 (by decide +kernel)
  have yk : YRs H0 H1 := YRs_fr f12.1.2.1 (by decide +kernel)
  have zk : ZRs H0 H1 := ZRs_fr f12.1.2.1 (by decide +kernel)
  obtain ⟨r1, r2, r3, r4, r5, r6⟩ := rg
  have v11 : n8 = hV H0 311 (n5).toNat := by rw [d18, zk 311 (by decide) (by decide), e1]
  have rc := f26
  exact HD_end hd_ (by omega) (by omega) (by omega) (by omega)
def g_239w_56_1 : vG := ([(0, [10], [], 1), (30, [9], [], 0), (20, [9, 2], [1], 58), (23, [2], [1], 12), (90, [9], [], 0), (91, [9], [], 1), (31, [4], [], 0), (43, [6, 8], [], 0), (22, [8, 7, 3], [1], 0), (90, [8], [], 0), (91, [8], [], 400), (20, [7, 2], [1], 41), (23, [2], [1], 12), (0, [7], [], 311), (5000, [0, 1, 2, 3, 4, 5, 6], [0, 1], 56), (0, [0], [], 285), (90, [1], [], 0), (91, [1], [], 23), (0, [2], [], 285), (90, [3], [], 0), (91, [3], [], 23), (90, [4], [], 0), (91, [4], [], 1), (90, [5], [], 0), (91, [5], [], 1), (90, [6], [], 0), (91, [6], [], 400)], (3000, [10], [1], 272))
theorem c_239w_56_1 {q0 : Nat} : vOkm T0 (eN e_239 L_239w A_239 mu_239 n_239 B_239 (some q0)) 2 g_239w_56_1 := vOk_inI fun ρ η f0 f1 f2 f3 f4 f5 f6 f7 f8 f9 f10 f11 f12 f13 f14 f15 f16 f17 f18 f19 f20 f21 f22 f23 f24 f25 f26 => q_239w_3 (q0 := q0) (n0 := ρ 6) (n1 := ρ 5) (n2 := ρ 4) (n3 := ρ 3) (n4 := ρ 2) (n5 := ρ 1) (n6 := ρ 0) (n7 := ρ 7) (n8 := ρ 8) (n9 := ρ 9) (n10 := ρ 10) (H0 := η 0) (H1 := η 1) f26 f25 f24 f23 f22 f21 f20 f19 f18 f17 f16 f15 f14 f13 f12 f11 f10 f9 f8 f7 f6 f5 f4 f3 f2 f1 f0
theorem q_239w_4 {q0 : Nat} {n0 n1 n2 n3 n4 n5 n6 n7 n8 n9 : Int} {H0 H1 : gH} (f0 : n0 ≤ 400) (f1 : 0 ≤ n0) (f2 : n1 ≤ 1) (f3 : 0 ≤ n1) (f4 : n2 ≤ 1) (f5 : 0 ≤ n2) (f6 : n3 ≤ 23) (f7 : 0 ≤ n3) (f8 : n4 = 285) (f9 : n5 ≤ 23) (f10 : 0 ≤ n5) (f11 : n6 = 285) (f12 : (hLe T0 H0 H1 ∧ hFr s_239.2.2.2.2 H0 H1 ∧ hWt T0 H1) ∧ ((Ab_239_56 n6 n5 n4 n3 n2 n1 n0 H0 H1 ∧ Bb_239_56 n6 n5 n4 n3 n2 n1 n0 H0 H1) ∧ preb_239 n6 n5 H0) ∧ some q0 = some (mub_239_56 n6 n5 n4 n3 n2 n1 n0 H0 H1)) (f13 : n7 = 311) (f14 : hK H1 (n4).toNat = 12) (f15 : n7 = hV H1 (n4).toNat 41) (f16 : n8 ≤ 400) (f17 : 0 ≤ n8) (f18 : n8 = hV H1 (n7).toNat (n3).toNat) (f19 : n8 ≤ n0) (f20 : n2 = 0) (f21 : n1 = 0) (f22 : n9 = 0) : nb_239 n9 n6 n5 H0 H1 := by
  unfold nb_239
  intro u cl ch ll lh c0 l0 rg gr
  obtain ⟨g1, g2, g3⟩ := gr u rfl
  have gb := f12.2.1.1.2
  unfold Bb_239_56 at gb
  obtain ⟨jj, ej, jl, hd_⟩ := gb u cl ch ll lh c0 l0 rg gr
  have ab := f12.2.1.1.1
  unfold Ab_239_56 at ab
  have e1 := ab.1
  have d18 := rdW (q := 311) f18 f13
  have xk : XRk H0 H1 := XRk_fr f12.1.2.1 (by decide +kernel)
  have yk : YRs H0 H1 := YRs_fr f12.1.2.1 (by decide +kernel)
  have zk : ZRs H0 H1 := ZRs_fr f12.1.2.1 (by decide +kernel)
  obtain ⟨r1, r2, r3, r4, r5, r6⟩ := rg
  have v11 : n8 = hV H0 311 (n5).toNat := by rw [d18, zk 311 (by decide) (by decide), e1]
  have rc := f22
  exact HD_end hd_ (by omega) (by omega) (by omega) (by omega)
def g_239w_56_2 : vG := ([(0, [9], [], 0), (30, [5], [], 0), (30, [4], [], 0), (43, [6, 8], [], 0), (22, [8, 7, 3], [1], 0), (90, [8], [], 0), (91, [8], [], 400), (20, [7, 2], [1], 41), (23, [2], [1], 12), (0, [7], [], 311), (5000, [0, 1, 2, 3, 4, 5, 6], [0, 1], 56), (0, [0], [], 285), (90, [1], [], 0), (91, [1], [], 23), (0, [2], [], 285), (90, [3], [], 0), (91, [3], [], 23), (90, [4], [], 0), (91, [4], [], 1), (90, [5], [], 0), (91, [5], [], 1), (90, [6], [], 0), (91, [6], [], 400)], (3000, [9], [1], 272))
theorem c_239w_56_2 {q0 : Nat} : vOkm T0 (eN e_239 L_239w A_239 mu_239 n_239 B_239 (some q0)) 2 g_239w_56_2 := vOk_inI fun ρ η f0 f1 f2 f3 f4 f5 f6 f7 f8 f9 f10 f11 f12 f13 f14 f15 f16 f17 f18 f19 f20 f21 f22 => q_239w_4 (q0 := q0) (n0 := ρ 6) (n1 := ρ 5) (n2 := ρ 4) (n3 := ρ 3) (n4 := ρ 2) (n5 := ρ 1) (n6 := ρ 0) (n7 := ρ 7) (n8 := ρ 8) (n9 := ρ 9) (H0 := η 0) (H1 := η 1) f22 f21 f20 f19 f18 f17 f16 f15 f14 f13 f12 f11 f10 f9 f8 f7 f6 f5 f4 f3 f2 f1 f0
theorem q_239w_5 {q0 : Nat} {n0 n1 n2 n3 n4 n5 n6 n7 n8 n9 n10 : Int} {H0 H1 : gH} (f0 : n0 ≤ 400) (f1 : 0 ≤ n0) (f2 : n1 ≤ 1) (f3 : 0 ≤ n1) (f4 : n2 ≤ 1) (f5 : 0 ≤ n2) (f6 : n3 ≤ 23) (f7 : 0 ≤ n3) (f8 : n4 = 285) (f9 : n5 ≤ 23) (f10 : 0 ≤ n5) (f11 : n6 = 285) (f12 : (hLe T0 H0 H1 ∧ hFr s_239.2.2.2.2 H0 H1 ∧ hWt T0 H1) ∧ ((Ab_239_56 n6 n5 n4 n3 n2 n1 n0 H0 H1 ∧ Bb_239_56 n6 n5 n4 n3 n2 n1 n0 H0 H1) ∧ preb_239 n6 n5 H0) ∧ some q0 = some (mub_239_56 n6 n5 n4 n3 n2 n1 n0 H0 H1)) (f13 : n7 = 311) (f14 : hK H1 (n4).toNat = 12) (f15 : n7 = hV H1 (n4).toNat 41) (f16 : n8 ≤ 400) (f17 : 0 ≤ n8) (f18 : n8 = hV H1 (n7).toNat (n3).toNat) (f19 : n8 ≤ n0) (f20 : n2 = 0) (f21 : n1 ≠ 0) (f22 : n9 ≤ 1) (f23 : 0 ≤ n9) (f24 : hK H1 (n4).toNat = 12) (f25 : n9 = hV H1 (n4).toNat 58) (f26 : n9 ≠ 0) (f27 : n10 = 0) : nb_239 n10 n6 n5 H0 H1 := by
  unfold nb_239
  intro u cl ch ll lh c0 l0 rg gr
  obtain ⟨g1, g2, g3⟩ := gr u rfl
  have gb := f12.2.1.1.2
  unfold Bb_239_56 at gb
  obtain ⟨jj, ej, jl, hd_⟩ := gb u cl ch ll lh c0 l0 rg gr
  have ab := f12.2.1.1.1
  unfold Ab_239_56 at ab
  have e1 := ab.1
  have d18 := rdW (q := 311) f18 f13
  have d25 := rdS (q := 285) f25 f8
  have xk : XRk H0 H1 := XRk_fr f12.1.2.1 (by decide +kernel)
  have yk : YRs H0 H1 := YRs_fr f12.1.2.1 (by decide +kernel)
  have zk : ZRs H0 H1 := ZRs_fr f12.1.2.1 (by decide +kernel)
  obtain ⟨r1, r2, r3, r4, r5, r6⟩ := rg
  have v11 : n8 = hV H0 311 (n5).toNat := by rw [d18, zk 311 (by decide) (by decide), e1]
  have rc := f27
  exact HD_end hd_ (by omega) (by omega) (by omega) (by omega)
def g_239w_56_3 : vG := ([(0, [10], [], 0), (31, [9], [], 0), (20, [9, 2], [1], 58), (23, [2], [1], 12), (90, [9], [], 0), (91, [9], [], 1), (31, [5], [], 0), (30, [4], [], 0), (43, [6, 8], [], 0), (22, [8, 7, 3], [1], 0), (90, [8], [], 0), (91, [8], [], 400), (20, [7, 2], [1], 41), (23, [2], [1], 12), (0, [7], [], 311), (5000, [0, 1, 2, 3, 4, 5, 6], [0, 1], 56), (0, [0], [], 285), (90, [1], [], 0), (91, [1], [], 23), (0, [2], [], 285), (90, [3], [], 0), (91, [3], [], 23), (90, [4], [], 0), (91, [4], [], 1), (90, [5], [], 0), (91, [5], [], 1), (90, [6], [], 0), (91, [6], [], 400)], (3000, [10], [1], 272))
theorem c_239w_56_3 {q0 : Nat} : vOkm T0 (eN e_239 L_239w A_239 mu_239 n_239 B_239 (some q0)) 2 g_239w_56_3 := vOk_inI fun ρ η f0 f1 f2 f3 f4 f5 f6 f7 f8 f9 f10 f11 f12 f13 f14 f15 f16 f17 f18 f19 f20 f21 f22 f23 f24 f25 f26 f27 => q_239w_5 (q0 := q0) (n0 := ρ 6) (n1 := ρ 5) (n2 := ρ 4) (n3 := ρ 3) (n4 := ρ 2) (n5 := ρ 1) (n6 := ρ 0) (n7 := ρ 7) (n8 := ρ 8) (n9 := ρ 9) (n10 := ρ 10) (H0 := η 0) (H1 := η 1) f27 f26 f25 f24 f23 f22 f21 f20 f19 f18 f17 f16 f15 f14 f13 f12 f11 f10 f9 f8 f7 f6 f5 f4 f3 f2 f1 f0
theorem q_239w_6 {q0 : Nat} {n0 n1 n2 n3 n4 n5 n6 n7 n8 n9 n10 : Int} {H0 H1 : gH} (f0 : n0 ≤ 400) (f1 : 0 ≤ n0) (f2 : n1 ≤ 1) (f3 : 0 ≤ n1) (f4 : n2 ≤ 1) (f5 : 0 ≤ n2) (f6 : n3 ≤ 23) (f7 : 0 ≤ n3) (f8 : n4 = 285) (f9 : n5 ≤ 23) (f10 : 0 ≤ n5) (f11 : n6 = 285) (f12 : (hLe T0 H0 H1 ∧ hFr s_239.2.2.2.2 H0 H1 ∧ hWt T0 H1) ∧ ((Ab_239_56 n6 n5 n4 n3 n2 n1 n0 H0 H1 ∧ Bb_239_56 n6 n5 n4 n3 n2 n1 n0 H0 H1) ∧ preb_239 n6 n5 H0) ∧ some q0 = some (mub_239_56 n6 n5 n4 n3 n2 n1 n0 H0 H1)) (f13 : n7 = 311) (f14 : hK H1 (n4).toNat = 12) (f15 : n7 = hV H1 (n4).toNat 41) (f16 : n8 ≤ 400) (f17 : 0 ≤ n8) (f18 : n8 = hV H1 (n7).toNat (n3).toNat) (f19 : n8 ≤ n0) (f20 : n2 = 0) (f21 : n1 ≠ 0) (f22 : n9 ≤ 1) (f23 : 0 ≤ n9) (f24 : hK H1 (n4).toNat = 12) (f25 : n9 = hV H1 (n4).toNat 58) (f26 : n9 = 0) (f27 : n10 = 1) : nb_239 n10 n6 n5 H0 H1 := by
  unfold nb_239
  intro u cl ch ll lh c0 l0 rg gr
  obtain ⟨g1, g2, g3⟩ := gr u rfl
  have gb := f12.2.1.1.2
  unfold Bb_239_56 at gb
  obtain ⟨jj, ej, jl, hd_⟩ := gb u cl ch ll lh c0 l0 rg gr
  have ab := f12.2.1.1.1
  unfold Ab_239_56 at ab
  have e1 := ab.1
  have d18 := rdW (q := 311) f18 f13
  have d25 := rdS (q := 285) f25 f8
  have xk : XRk H0 H1 := XRk_fr f12.1.2.1 (by decide +kernel)
  have yk : YRs H0 H1 := YRs_fr f12.1.2.1 (by decide +kernel)
  have zk : ZRs H0 H1 := ZRs_fr f12.1.2.1 (by decide +kernel)
  obtain ⟨r1, r2, r3, r4, r5, r6⟩ := rg
  have v11 : n8 = hV H0 311 (n5).toNat := by rw [d18, zk 311 (by decide) (by decide), e1]
  have rc := f27
  exact HD_end hd_ (by omega) (by omega) (by omega) (by omega)
def g_239w_56_4 : vG := ([(0, [10], [], 1), (30, [9], [], 0), (20, [9, 2], [1], 58), (23, [2], [1], 12), (90, [9], [], 0), (91, [9], [], 1), (31, [5], [], 0), (30, [4], [], 0), (43, [6, 8], [], 0), (22, [8, 7, 3], [1], 0), (90, [8], [], 0), (91, [8], [], 400), (20, [7, 2], [1], 41), (23, [2], [1], 12), (0, [7], [], 311), (5000, [0, 1, 2, 3, 4, 5, 6], [0, 1], 56), (0, [0], [], 285), (90, [1], [], 0), (91, [1], [], 23), (0, [2], [], 285), (90, [3], [], 0), (91, [3], [], 23), (90, [4], [], 0), (91, [4], [], 1), (90, [5], [], 0), (91, [5], [], 1), (90, [6], [], 0), (91, [6], [], 400)], (3000, [10], [1], 272))
theorem c_239w_56_4 {q0 : Nat} : vOkm T0 (eN e_239 L_239w A_239 mu_239 n_239 B_239 (some q0)) 2 g_239w_56_4 := vOk_inI fun ρ η f0 f1 f2 f3 f4 f5 f6 f7 f8 f9 f10 f11 f12 f13 f14 f15 f16 f17 f18 f19 f20 f21 f22 f23 f24 f25 f26 f27 => q_239w_6 (q0 := q0) (n0 := ρ 6) (n1 := ρ 5) (n2 := ρ 4) (n3 := ρ 3) (n4 := ρ 2) (n5 := ρ 1) (n6 := ρ 0) (n7 := ρ 7) (n8 := ρ 8) (n9 := ρ 9) (n10 := ρ 10) (H0 := η 0) (H1 := η 1) f27 f26 f25 f24 f23 f22 f21 f20 f19 f18 f17 f16 f15 f14 f13 f12 f11 f10 f9 f8 f7 f6 f5 f4 f3 f2 f1 f0
theorem q_239w_7 {q0 : Nat} {n0 n1 n2 n3 n4 n5 n6 n7 n8 n9 n10 n11 n12 n13 n14 n15 n16 n17 n18 n19 n20 n21 n22 n23 n24 n25 n26 n27 : Int} {H0 H1 H2 H3 : gH} (f0 : n0 ≤ 400) (f1 : 0 ≤ n0) (f2 : n1 ≤ 1) (f3 : 0 ≤ n1) (f4 : n2 ≤ 1) (f5 : 0 ≤ n2) (f6 : n3 ≤ 23) (f7 : 0 ≤ n3) (f8 : n4 = 285) (f9 : n5 ≤ 23) (f10 : 0 ≤ n5) (f11 : n6 = 285) (f12 : (hLe T0 H0 H1 ∧ hFr s_239.2.2.2.2 H0 H1 ∧ hWt T0 H1) ∧ ((Ab_239_56 n6 n5 n4 n3 n2 n1 n0 H0 H1 ∧ Bb_239_56 n6 n5 n4 n3 n2 n1 n0 H0 H1) ∧ preb_239 n6 n5 H0) ∧ some q0 = some (mub_239_56 n6 n5 n4 n3 n2 n1 n0 H0 H1)) (f13 : n7 = 311) (f14 : hK H1 (n4).toNat = 12) (f15 : n7 = hV H1 (n4).toNat 41) (f16 : n8 ≤ 400) (f17 : 0 ≤ n8) (f18 : n8 = hV H1 (n7).toNat (n3).toNat) (f19 : n0 < n8) (f20 : n9 = 317) (f21 : hK H1 (n4).toNat = 12) (f22 : n9 = hV H1 (n4).toNat 48) (f23 : n10 ≤ 1200) (f24 : 0 ≤ n10) (f25 : n10 = hV H1 (n9).toNat (n0).toNat) (f26 : n11 = 318) (f27 : hK H1 (n4).toNat = 12) (f28 : n11 = hV H1 (n4).toNat 49) (f29 : n12 ≤ 1200) (f30 : 0 ≤ n12) (f31 : n12 = hV H1 (n11).toNat (n0).toNat) (f32 : n13 ≤ 2147483647) (f33 : (-2147483648) ≤ n13) (f34 : (hLe T0 H1 H2 ∧ hFr s_238.2.2.2.2 H1 H2 ∧ ((0 : Int) = 0 → H2.length = H1.length) ∧ hWt T0 H2) ∧ (True ∧ nb_238 n13 n4 n10 n12 H1 H2)) (f35 : n14 = 318) (f36 : hK H2 (n4).toNat = 12) (f37 : n14 = hV H2 (n4).toNat 49) (f38 : n15 ≤ 1200) (f39 : 0 ≤ n15) (f40 : n15 = hV H2 (n14).toNat (n0).toNat) (f41 : n16 = 319) (f42 : hK H2 (n4).toNat = 12) (f43 : n16 = hV H2 (n4).toNat 50) (f44 : n17 ≤ 1200) (f45 : 0 ≤ n17) (f46 : n17 = hV H2 (n16).toNat (n0).toNat) (f47 : n18 ≤ 2147483647) (f48 : (-2147483648) ≤ n18) (f49 : (hLe T0 H2 H3 ∧ hFr s_238.2.2.2.2 H2 H3 ∧ ((0 : Int) = 0 → H3.length = H2.length) ∧ hWt T0 H3) ∧ (True ∧ nb_238 n18 n4 n15 n17 H2 H3)) (f50 : n19 = 314) (f51 : hK H3 (n4).toNat = 12) (f52 : n19 = hV H3 (n4).toNat 45) (f53 : n20 ≤ 3) (f54 : 0 ≤ n20) (f55 : n20 = hV H3 (n19).toNat (n0).toNat) (f56 : n20 ≠ 0) (f57 : n21 = 314) (f58 : hK H3 (n4).toNat = 12) (f59 : n21 = hV H3 (n4).toNat 45) (f60 : n22 ≤ 3) (f61 : 0 ≤ n22) (f62 : n22 = hV H3 (n21).toNat (n0).toNat) (f63 : n23 = 1) (f64 : n22 ≠ n23) (f65 : n24 = 314) (f66 : hK H3 (n4).toNat = 12) (f67 : n24 = hV H3 (n4).toNat 45) (f68 : n25 ≤ 3) (f69 : 0 ≤ n25) (f70 : n25 = hV H3 (n24).toNat (n0).toNat) (f71 : n26 = 2) (f72 : n25 ≠ n26) (f73 : n18 < n13) (f74 : n27 = 0) : Bb_239_198 n6 n5 n4 n3 n2 n1 n0 n13 n18 n27 H0 H3 := by
  unfold Bb_239_198
  intro u cl ch ll lh c0 l0 rg gr
  obtain ⟨g1, g2, g3⟩ := gr u rfl
  have gb := f12.2.1.1.2
  unfold Bb_239_56 at gb
  obtain ⟨jj, ej, jl, hd_⟩ := gb u cl ch ll lh c0 l0 rg gr
  have ab := f12.2.1.1.1
  unfold Ab_239_56 at ab
  have e1 := ab.1
  have d18 := rdW (q := 311) f18 f13
  have d25 := rdW (q := 317) f25 f20
  have d31 := rdW (q := 318) f31 f26
  have d40 := rdW (q := 318) f40 f35
  have d46 := rdW (q := 319) f46 f41
  have d55 := rdW (q := 314) f55 f50
  have d62 := rdW (q := 314) f62 f57
  have d70 := rdW (q := 314) f70 f65
  have xk : XRk H0 H1 := XRk_fr f12.1.2.1 (by decide +kernel)
  have yk : YRs H0 H1 := YRs_fr f12.1.2.1 (by decide +kernel)
  have zk : ZRs H0 H1 := ZRs_fr f12.1.2.1 (by decide +kernel)
  obtain ⟨r1, r2, r3, r4, r5, r6⟩ := rg
  have v11 : n8 = hV H0 311 (n5).toNat := by rw [d18, zk 311 (by decide) (by decide), e1]
  have hl : jj < u.2.length := by omega
  obtain ⟨li, hli⟩ : ∃ li, u.2[jj]? = some li := ⟨_, List.getElem?_eq_getElem hl⟩
  have lr := LIr_k xk yk (r6 jj li hli)
  obtain ⟨y1, y2, y3, y4, y5⟩ := lr
  have gl := g2 li (List.mem_of_getElem? hli)
  obtain ⟨k0, k3, ge1, ge2⟩ := gl
  have ix : (hV H0 310 (n5).toNat).toNat + jj = (n0).toNat := by omega
  rw [ix] at y1 y2 y3 y4 y5
  have ev0 : VAr H1 = VAr H0 := VAr_eq (fRow f12.1.2.1 323 (by decide +kernel))
  have ev1 : VAr H2 = VAr H0 := (VAr_eq (fRow f34.1.2.1 323 (by decide +kernel))).trans ev0
  have v25 : n10 = hV H1 317 (n0).toNat := by rw [d25]
  have v31 : n12 = hV H1 318 (n0).toNat := by rw [d31]
  have v40 : n15 = hV H1 318 (n0).toNat := by rw [d40, show hV H2 318 = hV H1 318 from fRow f34.1.2.1 318 (by decide +kernel)]
  have v46 : n17 = hV H1 319 (n0).toNat := by rw [d46, show hV H2 319 = hV H1 319 from fRow f34.1.2.1 319 (by decide +kernel)]
  have v55 : n20 = hV H1 314 (n0).toNat := by rw [d55, show hV H3 314 = hV H1 314 from (fRow f49.1.2.1 314 (by decide +kernel)).trans (fRow f34.1.2.1 314 (by decide +kernel))]
  have v62 : n22 = hV H1 314 (n0).toNat := by rw [d62, show hV H3 314 = hV H1 314 from (fRow f49.1.2.1 314 (by decide +kernel)).trans (fRow f34.1.2.1 314 (by decide +kernel))]
  have v70 : n25 = hV H1 314 (n0).toNat := by rw [d70, show hV H3 314 = hV H1 314 from (fRow f49.1.2.1 314 (by decide +kernel)).trans (fRow f34.1.2.1 314 (by decide +kernel))]
  have q1 := f34.2.2
  unfold nb_238 at q1
  rw [v25, v31, ev0] at q1
  have t1 := q1 cl ch li.2.1 y4 c0 ge1
  have q2 := f49.2.2
  unfold nb_238 at q2
  rw [v40, v46, ev1] at q2
  have t2 := q2 cl ch li.2.2 (CDr_k (XRk_fr f34.1.2.1 (by decide +kernel)) y5) c0 ge2
  have ex : n27 = b2i (lCmp li.1.1 n13 n18) := by
    unfold lCmp
    rw [if_neg (show ¬ li.1.1 = 0 by omega), if_neg (show ¬ li.1.1 = 1 by omega), if_neg (show ¬ li.1.1 = 2 by omega), decide_eq_false (show ¬ (n13 ≤ n18) by omega)]
    exact f74
  exact ⟨jj, ej, hl, HD_lit hd_ hli t1 t2 ((f49.1.2.1.1 285 59 (by decide +kernel)).trans (f34.1.2.1.1 285 59 (by decide +kernel))) ex⟩
def g_239w_56_5 : vG := ([(0, [27], [], 0), (44, [13, 18], [], 0), (41, [25, 26], [], 0), (0, [26], [], 2), (22, [25, 24, 6], [3], 0), (90, [25], [], 0), (91, [25], [], 3), (20, [24, 2], [3], 45), (23, [2], [3], 12), (0, [24], [], 314), (41, [22, 23], [], 0), (0, [23], [], 1), (22, [22, 21, 6], [3], 0), (90, [22], [], 0), (91, [22], [], 3), (20, [21, 2], [3], 45), (23, [2], [3], 12), (0, [21], [], 314), (31, [20], [], 0), (22, [20, 19, 6], [3], 0), (90, [20], [], 0), (91, [20], [], 3), (20, [19, 2], [3], 45), (23, [2], [3], 12), (0, [19], [], 314), (1238, [18, 2, 15, 17], [2, 3], 0), (90, [18], [], -2147483648), (91, [18], [], 2147483647), (22, [17, 16, 6], [2], 0), (90, [17], [], 0), (91, [17], [], 1200), (20, [16, 2], [2], 50), (23, [2], [2], 12), (0, [16], [], 319), (22, [15, 14, 6], [2], 0), (90, [15], [], 0), (91, [15], [], 1200), (20, [14, 2], [2], 49), (23, [2], [2], 12), (0, [14], [], 318), (1238, [13, 2, 10, 12], [1, 2], 0), (90, [13], [], -2147483648), (91, [13], [], 2147483647), (22, [12, 11, 6], [1], 0), (90, [12], [], 0), (91, [12], [], 1200), (20, [11, 2], [1], 49), (23, [2], [1], 12), (0, [11], [], 318), (22, [10, 9, 6], [1], 0), (90, [10], [], 0), (91, [10], [], 1200), (20, [9, 2], [1], 48), (23, [2], [1], 12), (0, [9], [], 317), (42, [6, 8], [], 0), (22, [8, 7, 3], [1], 0), (90, [8], [], 0), (91, [8], [], 400), (20, [7, 2], [1], 41), (23, [2], [1], 12), (0, [7], [], 311), (5000, [0, 1, 2, 3, 4, 5, 6], [0, 1], 56), (0, [0], [], 285), (90, [1], [], 0), (91, [1], [], 23), (0, [2], [], 285), (90, [3], [], 0), (91, [3], [], 23), (90, [4], [], 0), (91, [4], [], 1), (90, [5], [], 0), (91, [5], [], 1), (90, [6], [], 0), (91, [6], [], 400)], (4000, [2, 3, 4, 5, 6, 13, 18, 27], [3], 198))
theorem c_239w_56_5 {q0 : Nat} : vOkm T0 (eN e_239 L_239w A_239 mu_239 n_239 B_239 (some q0)) 2 g_239w_56_5 := vOk_inI fun ρ η f0 f1 f2 f3 f4 f5 f6 f7 f8 f9 f10 f11 f12 f13 f14 f15 f16 f17 f18 f19 f20 f21 f22 f23 f24 f25 f26 f27 f28 f29 f30 f31 f32 f33 f34 f35 f36 f37 f38 f39 f40 f41 f42 f43 f44 f45 f46 f47 f48 f49 f50 f51 f52 f53 f54 f55 f56 f57 f58 f59 f60 f61 f62 f63 f64 f65 f66 f67 f68 f69 f70 f71 f72 f73 f74 => q_239w_7 (q0 := q0) (n0 := ρ 6) (n1 := ρ 5) (n2 := ρ 4) (n3 := ρ 3) (n4 := ρ 2) (n5 := ρ 1) (n6 := ρ 0) (n7 := ρ 7) (n8 := ρ 8) (n9 := ρ 9) (n10 := ρ 10) (n11 := ρ 11) (n12 := ρ 12) (n13 := ρ 13) (n14 := ρ 14) (n15 := ρ 15) (n16 := ρ 16) (n17 := ρ 17) (n18 := ρ 18) (n19 := ρ 19) (n20 := ρ 20) (n21 := ρ 21) (n22 := ρ 22) (n23 := ρ 23) (n24 := ρ 24) (n25 := ρ 25) (n26 := ρ 26) (n27 := ρ 27) (H0 := η 0) (H1 := η 1) (H2 := η 2) (H3 := η 3) f74 f73 f72 f71 f70 f69 f68 f67 f66 f65 f64 f63 f62 f61 f60 f59 f58 f57 f56 f55 f54 f53 f52 f51 f50 f49 f48 f47 f46 f45 f44 f43 f42 f41 f40 f39 f38 f37 f36 f35 f34 f33 f32 f31 f30 f29 f28 f27 f26 f25 f24 f23 f22 f21 f20 f19 f18 f17 f16 f15 f14 f13 f12 f11 f10 f9 f8 f7 f6 f5 f4 f3 f2 f1 f0
theorem q_239w_8 {q0 : Nat} {n0 n1 n2 n3 n4 n5 n6 n7 n8 n9 n10 n11 n12 n13 n14 n15 n16 n17 n18 n19 n20 n21 n22 n23 n24 n25 n26 n27 : Int} {H0 H1 H2 H3 : gH} (f0 : n0 ≤ 400) (f1 : 0 ≤ n0) (f2 : n1 ≤ 1) (f3 : 0 ≤ n1) (f4 : n2 ≤ 1) (f5 : 0 ≤ n2) (f6 : n3 ≤ 23) (f7 : 0 ≤ n3) (f8 : n4 = 285) (f9 : n5 ≤ 23) (f10 : 0 ≤ n5) (f11 : n6 = 285) (f12 : (hLe T0 H0 H1 ∧ hFr s_239.2.2.2.2 H0 H1 ∧ hWt T0 H1) ∧ ((Ab_239_56 n6 n5 n4 n3 n2 n1 n0 H0 H1 ∧ Bb_239_56 n6 n5 n4 n3 n2 n1 n0 H0 H1) ∧ preb_239 n6 n5 H0) ∧ some q0 = some (mub_239_56 n6 n5 n4 n3 n2 n1 n0 H0 H1)) (f13 : n7 = 311) (f14 : hK H1 (n4).toNat = 12) (f15 : n7 = hV H1 (n4).toNat 41) (f16 : n8 ≤ 400) (f17 : 0 ≤ n8) (f18 : n8 = hV H1 (n7).toNat (n3).toNat) (f19 : n0 < n8) (f20 : n9 = 317) (f21 : hK H1 (n4).toNat = 12) (f22 : n9 = hV H1 (n4).toNat 48) (f23 : n10 ≤ 1200) (f24 : 0 ≤ n10) (f25 : n10 = hV H1 (n9).toNat (n0).toNat) (f26 : n11 = 318) (f27 : hK H1 (n4).toNat = 12) (f28 : n11 = hV H1 (n4).toNat 49) (f29 : n12 ≤ 1200) (f30 : 0 ≤ n12) (f31 : n12 = hV H1 (n11).toNat (n0).toNat) (f32 : n13 ≤ 2147483647) (f33 : (-2147483648) ≤ n13) (f34 : (hLe T0 H1 H2 ∧ hFr s_238.2.2.2.2 H1 H2 ∧ ((0 : Int) = 0 → H2.length = H1.length) ∧ hWt T0 H2) ∧ (True ∧ nb_238 n13 n4 n10 n12 H1 H2)) (f35 : n14 = 318) (f36 : hK H2 (n4).toNat = 12) (f37 : n14 = hV H2 (n4).toNat 49) (f38 : n15 ≤ 1200) (f39 : 0 ≤ n15) (f40 : n15 = hV H2 (n14).toNat (n0).toNat) (f41 : n16 = 319) (f42 : hK H2 (n4).toNat = 12) (f43 : n16 = hV H2 (n4).toNat 50) (f44 : n17 ≤ 1200) (f45 : 0 ≤ n17) (f46 : n17 = hV H2 (n16).toNat (n0).toNat) (f47 : n18 ≤ 2147483647) (f48 : (-2147483648) ≤ n18) (f49 : (hLe T0 H2 H3 ∧ hFr s_238.2.2.2.2 H2 H3 ∧ ((0 : Int) = 0 → H3.length = H2.length) ∧ hWt T0 H3) ∧ (True ∧ nb_238 n18 n4 n15 n17 H2 H3)) (f50 : n19 = 314) (f51 : hK H3 (n4).toNat = 12) (f52 : n19 = hV H3 (n4).toNat 45) (f53 : n20 ≤ 3) (f54 : 0 ≤ n20) (f55 : n20 = hV H3 (n19).toNat (n0).toNat) (f56 : n20 ≠ 0) (f57 : n21 = 314) (f58 : hK H3 (n4).toNat = 12) (f59 : n21 = hV H3 (n4).toNat 45) (f60 : n22 ≤ 3) (f61 : 0 ≤ n22) (f62 : n22 = hV H3 (n21).toNat (n0).toNat) (f63 : n23 = 1) (f64 : n22 ≠ n23) (f65 : n24 = 314) (f66 : hK H3 (n4).toNat = 12) (f67 : n24 = hV H3 (n4).toNat 45) (f68 : n25 ≤ 3) (f69 : 0 ≤ n25) (f70 : n25 = hV H3 (n24).toNat (n0).toNat) (f71 : n26 = 2) (f72 : n25 ≠ n26) (f73 : n13 ≤ n18) (f74 : n27 = 1) : Bb_239_198 n6 n5 n4 n3 n2 n1 n0 n13 n18 n27 H0 H3 := by
  unfold Bb_239_198
  intro u cl ch ll lh c0 l0 rg gr
  obtain ⟨g1, g2, g3⟩ := gr u rfl
  have gb := f12.2.1.1.2
  unfold Bb_239_56 at gb
  obtain ⟨jj, ej, jl, hd_⟩ := gb u cl ch ll lh c0 l0 rg gr
  have ab := f12.2.1.1.1
  unfold Ab_239_56 at ab
  have e1 := ab.1
  have d18 := rdW (q := 311) f18 f13
  have d25 := rdW (q := 317) f25 f20
  have d31 := rdW (q := 318) f31 f26
  have d40 := rdW (q := 318) f40 f35
  have d46 := rdW (q := 319) f46 f41
  have d55 := rdW (q := 314) f55 f50
  have d62 := rdW (q := 314) f62 f57
  have d70 := rdW (q := 314) f70 f65
  have xk : XRk H0 H1 := XRk_fr f12.1.2.1 (by decide +kernel)
  have yk : YRs H0 H1 := YRs_fr f12.1.2.1 (by decide +kernel)
  have zk : ZRs H0 H1 := ZRs_fr f12.1.2.1 (by decide +kernel)
  obtain ⟨r1, r2, r3, r4, r5, r6⟩ := rg
  have v11 : n8 = hV H0 311 (n5).toNat := by rw [d18, zk 311 (by decide) (by decide), e1]
  have hl : jj < u.2.length := by omega
  obtain ⟨li, hli⟩ : ∃ li, u.2[jj]? = some li := ⟨_, List.getElem?_eq_getElem hl⟩
  have lr := LIr_k xk yk (r6 jj li hli)
  obtain ⟨y1, y2, y3, y4, y5⟩ := lr
  have gl := g2 li (List.mem_of_getElem? hli)
  obtain ⟨k0, k3, ge1, ge2⟩ := gl
  have ix : (hV H0 310 (n5).toNat).toNat + jj = (n0).toNat := by omega
  rw [ix] at y1 y2 y3 y4 y5
  have ev0 : VAr H1 = VAr H0 := VAr_eq (fRow f12.1.2.1 323 (by decide +kernel))
  have ev1 : VAr H2 = VAr H0 := (VAr_eq (fRow f34.1.2.1 323 (by decide +kernel))).trans ev0
  have v25 : n10 = hV H1 317 (n0).toNat := by rw [d25]
  have v31 : n12 = hV H1 318 (n0).toNat := by rw [d31]
  have v40 : n15 = hV H1 318 (n0).toNat := by rw [d40, show hV H2 318 = hV H1 318 from fRow f34.1.2.1 318 (by decide +kernel)]
  have v46 : n17 = hV H1 319 (n0).toNat := by rw [d46, show hV H2 319 = hV H1 319 from fRow f34.1.2.1 319 (by decide +kernel)]
  have v55 : n20 = hV H1 314 (n0).toNat := by rw [d55, show hV H3 314 = hV H1 314 from (fRow f49.1.2.1 314 (by decide +kernel)).trans (fRow f34.1.2.1 314 (by decide +kernel))]
  have v62 : n22 = hV H1 314 (n0).toNat := by rw [d62, show hV H3 314 = hV H1 314 from (fRow f49.1.2.1 314 (by decide +kernel)).trans (fRow f34.1.2.1 314 (by decide +kernel))]
  have v70 : n25 = hV H1 314 (n0).toNat := by rw [d70, show hV H3 314 = hV H1 314 from (fRow f49.1.2.1 314 (by decide +kernel)).trans (fRow f34.1.2.1 314 (by decide +kernel))]
  have q1 := f34.2.2
  unfold nb_238 at q1
  rw [v25, v31, ev0] at q1
  have t1 := q1 cl ch li.2.1 y4 c0 ge1
  have q2 := f49.2.2
  unfold nb_238 at q2
  rw [v40, v46, ev1] at q2
  have t2 := q2 cl ch li.2.2 (CDr_k (XRk_fr f34.1.2.1 (by decide +kernel)) y5) c0 ge2
  have ex : n27 = b2i (lCmp li.1.1 n13 n18) := by
    unfold lCmp
    rw [if_neg (show ¬ li.1.1 = 0 by omega), if_neg (show ¬ li.1.1 = 1 by omega), if_neg (show ¬ li.1.1 = 2 by omega), decide_eq_true (show n13 ≤ n18 by omega)]
    exact f74
  exact ⟨jj, ej, hl, HD_lit hd_ hli t1 t2 ((f49.1.2.1.1 285 59 (by decide +kernel)).trans (f34.1.2.1.1 285 59 (by decide +kernel))) ex⟩
def g_239w_56_6 : vG := ([(0, [27], [], 1), (45, [13, 18], [], 0), (41, [25, 26], [], 0), (0, [26], [], 2), (22, [25, 24, 6], [3], 0), (90, [25], [], 0), (91, [25], [], 3), (20, [24, 2], [3], 45), (23, [2], [3], 12), (0, [24], [], 314), (41, [22, 23], [], 0), (0, [23], [], 1), (22, [22, 21, 6], [3], 0), (90, [22], [], 0), (91, [22], [], 3), (20, [21, 2], [3], 45), (23, [2], [3], 12), (0, [21], [], 314), (31, [20], [], 0), (22, [20, 19, 6], [3], 0), (90, [20], [], 0), (91, [20], [], 3), (20, [19, 2], [3], 45), (23, [2], [3], 12), (0, [19], [], 314), (1238, [18, 2, 15, 17], [2, 3], 0), (90, [18], [], -2147483648), (91, [18], [], 2147483647), (22, [17, 16, 6], [2], 0), (90, [17], [], 0), (91, [17], [], 1200), (20, [16, 2], [2], 50), (23, [2], [2], 12), (0, [16], [], 319), (22, [15, 14, 6], [2], 0), (90, [15], [], 0), (91, [15], [], 1200), (20, [14, 2], [2], 49), (23, [2], [2], 12), (0, [14], [], 318), (1238, [13, 2, 10, 12], [1, 2], 0), (90, [13], [], -2147483648), (91, [13], [], 2147483647), (22, [12, 11, 6], [1], 0), (90, [12], [], 0), (91, [12], [], 1200), (20, [11, 2], [1], 49), (23, [2], [1], 12), (0, [11], [], 318), (22, [10, 9, 6], [1], 0), (90, [10], [], 0), (91, [10], [], 1200), (20, [9, 2], [1], 48), (23, [2], [1], 12), (0, [9], [], 317), (42, [6, 8], [], 0), (22, [8, 7, 3], [1], 0), (90, [8], [], 0), (91, [8], [], 400), (20, [7, 2], [1], 41), (23, [2], [1], 12), (0, [7], [], 311), (5000, [0, 1, 2, 3, 4, 5, 6], [0, 1], 56), (0, [0], [], 285), (90, [1], [], 0), (91, [1], [], 23), (0, [2], [], 285), (90, [3], [], 0), (91, [3], [], 23), (90, [4], [], 0), (91, [4], [], 1), (90, [5], [], 0), (91, [5], [], 1), (90, [6], [], 0), (91, [6], [], 400)], (4000, [2, 3, 4, 5, 6, 13, 18, 27], [3], 198))
theorem c_239w_56_6 {q0 : Nat} : vOkm T0 (eN e_239 L_239w A_239 mu_239 n_239 B_239 (some q0)) 2 g_239w_56_6 := vOk_inI fun ρ η f0 f1 f2 f3 f4 f5 f6 f7 f8 f9 f10 f11 f12 f13 f14 f15 f16 f17 f18 f19 f20 f21 f22 f23 f24 f25 f26 f27 f28 f29 f30 f31 f32 f33 f34 f35 f36 f37 f38 f39 f40 f41 f42 f43 f44 f45 f46 f47 f48 f49 f50 f51 f52 f53 f54 f55 f56 f57 f58 f59 f60 f61 f62 f63 f64 f65 f66 f67 f68 f69 f70 f71 f72 f73 f74 => q_239w_8 (q0 := q0) (n0 := ρ 6) (n1 := ρ 5) (n2 := ρ 4) (n3 := ρ 3) (n4 := ρ 2) (n5 := ρ 1) (n6 := ρ 0) (n7 := ρ 7) (n8 := ρ 8) (n9 := ρ 9) (n10 := ρ 10) (n11 := ρ 11) (n12 := ρ 12) (n13 := ρ 13) (n14 := ρ 14) (n15 := ρ 15) (n16 := ρ 16) (n17 := ρ 17) (n18 := ρ 18) (n19 := ρ 19) (n20 := ρ 20) (n21 := ρ 21) (n22 := ρ 22) (n23 := ρ 23) (n24 := ρ 24) (n25 := ρ 25) (n26 := ρ 26) (n27 := ρ 27) (H0 := η 0) (H1 := η 1) (H2 := η 2) (H3 := η 3) f74 f73 f72 f71 f70 f69 f68 f67 f66 f65 f64 f63 f62 f61 f60 f59 f58 f57 f56 f55 f54 f53 f52 f51 f50 f49 f48 f47 f46 f45 f44 f43 f42 f41 f40 f39 f38 f37 f36 f35 f34 f33 f32 f31 f30 f29 f28 f27 f26 f25 f24 f23 f22 f21 f20 f19 f18 f17 f16 f15 f14 f13 f12 f11 f10 f9 f8 f7 f6 f5 f4 f3 f2 f1 f0
theorem q_239w_9 {q0 : Nat} {n0 n1 n2 n3 n4 n5 n6 n7 n8 n9 n10 n11 n12 n13 n14 n15 n16 n17 n18 n19 n20 n21 n22 n23 n24 n25 n26 n27 : Int} {H0 H1 H2 H3 : gH} (f0 : n0 ≤ 400) (f1 : 0 ≤ n0) (f2 : n1 ≤ 1) (f3 : 0 ≤ n1) (f4 : n2 ≤ 1) (f5 : 0 ≤ n2) (f6 : n3 ≤ 23) (f7 : 0 ≤ n3) (f8 : n4 = 285) (f9 : n5 ≤ 23) (f10 : 0 ≤ n5) (f11 : n6 = 285) (f12 : (hLe T0 H0 H1 ∧ hFr s_239.2.2.2.2 H0 H1 ∧ hWt T0 H1) ∧ ((Ab_239_56 n6 n5 n4 n3 n2 n1 n0 H0 H1 ∧ Bb_239_56 n6 n5 n4 n3 n2 n1 n0 H0 H1) ∧ preb_239 n6 n5 H0) ∧ some q0 = some (mub_239_56 n6 n5 n4 n3 n2 n1 n0 H0 H1)) (f13 : n7 = 311) (f14 : hK H1 (n4).toNat = 12) (f15 : n7 = hV H1 (n4).toNat 41) (f16 : n8 ≤ 400) (f17 : 0 ≤ n8) (f18 : n8 = hV H1 (n7).toNat (n3).toNat) (f19 : n0 < n8) (f20 : n9 = 317) (f21 : hK H1 (n4).toNat = 12) (f22 : n9 = hV H1 (n4).toNat 48) (f23 : n10 ≤ 1200) (f24 : 0 ≤ n10) (f25 : n10 = hV H1 (n9).toNat (n0).toNat) (f26 : n11 = 318) (f27 : hK H1 (n4).toNat = 12) (f28 : n11 = hV H1 (n4).toNat 49) (f29 : n12 ≤ 1200) (f30 : 0 ≤ n12) (f31 : n12 = hV H1 (n11).toNat (n0).toNat) (f32 : n13 ≤ 2147483647) (f33 : (-2147483648) ≤ n13) (f34 : (hLe T0 H1 H2 ∧ hFr s_238.2.2.2.2 H1 H2 ∧ ((0 : Int) = 0 → H2.length = H1.length) ∧ hWt T0 H2) ∧ (True ∧ nb_238 n13 n4 n10 n12 H1 H2)) (f35 : n14 = 318) (f36 : hK H2 (n4).toNat = 12) (f37 : n14 = hV H2 (n4).toNat 49) (f38 : n15 ≤ 1200) (f39 : 0 ≤ n15) (f40 : n15 = hV H2 (n14).toNat (n0).toNat) (f41 : n16 = 319) (f42 : hK H2 (n4).toNat = 12) (f43 : n16 = hV H2 (n4).toNat 50) (f44 : n17 ≤ 1200) (f45 : 0 ≤ n17) (f46 : n17 = hV H2 (n16).toNat (n0).toNat) (f47 : n18 ≤ 2147483647) (f48 : (-2147483648) ≤ n18) (f49 : (hLe T0 H2 H3 ∧ hFr s_238.2.2.2.2 H2 H3 ∧ ((0 : Int) = 0 → H3.length = H2.length) ∧ hWt T0 H3) ∧ (True ∧ nb_238 n18 n4 n15 n17 H2 H3)) (f50 : n19 = 314) (f51 : hK H3 (n4).toNat = 12) (f52 : n19 = hV H3 (n4).toNat 45) (f53 : n20 ≤ 3) (f54 : 0 ≤ n20) (f55 : n20 = hV H3 (n19).toNat (n0).toNat) (f56 : n20 ≠ 0) (f57 : n21 = 314) (f58 : hK H3 (n4).toNat = 12) (f59 : n21 = hV H3 (n4).toNat 45) (f60 : n22 ≤ 3) (f61 : 0 ≤ n22) (f62 : n22 = hV H3 (n21).toNat (n0).toNat) (f63 : n23 = 1) (f64 : n22 ≠ n23) (f65 : n24 = 314) (f66 : hK H3 (n4).toNat = 12) (f67 : n24 = hV H3 (n4).toNat 45) (f68 : n25 ≤ 3) (f69 : 0 ≤ n25) (f70 : n25 = hV H3 (n24).toNat (n0).toNat) (f71 : n26 = 2) (f72 : n25 = n26) (f73 : n18 ≤ n13) (f74 : n27 = 0) : Bb_239_198 n6 n5 n4 n3 n2 n1 n0 n13 n18 n27 H0 H3 := by
  unfold Bb_239_198
  intro u cl ch ll lh c0 l0 rg gr
  obtain ⟨g1, g2, g3⟩ := gr u rfl
  have gb := f12.2.1.1.2
  unfold Bb_239_56 at gb
  obtain ⟨jj, ej, jl, hd_⟩ := gb u cl ch ll lh c0 l0 rg gr
  have ab := f12.2.1.1.1
  unfold Ab_239_56 at ab
  have e1 := ab.1
  have d18 := rdW (q := 311) f18 f13
  have d25 := rdW (q := 317) f25 f20
  have d31 := rdW (q := 318) f31 f26
  have d40 := rdW (q := 318) f40 f35
  have d46 := rdW (q := 319) f46 f41
  have d55 := rdW (q := 314) f55 f50
  have d62 := rdW (q := 314) f62 f57
  have d70 := rdW (q := 314) f70 f65
  have xk : XRk H0 H1 := XRk_fr f12.1.2.1 (by decide +kernel)
  have yk : YRs H0 H1 := YRs_fr f12.1.2.1 (by decide +kernel)
  have zk : ZRs H0 H1 := ZRs_fr f12.1.2.1 (by decide +kernel)
  obtain ⟨r1, r2, r3, r4, r5, r6⟩ := rg
  have v11 : n8 = hV H0 311 (n5).toNat := by rw [d18, zk 311 (by decide) (by decide), e1]
  have hl : jj < u.2.length := by omega
  obtain ⟨li, hli⟩ : ∃ li, u.2[jj]? = some li := ⟨_, List.getElem?_eq_getElem hl⟩
  have lr := LIr_k xk yk (r6 jj li hli)
  obtain ⟨y1, y2, y3, y4, y5⟩ := lr
  have gl := g2 li (List.mem_of_getElem? hli)
  obtain ⟨k0, k3, ge1, ge2⟩ := gl
  have ix : (hV H0 310 (n5).toNat).toNat + jj = (n0).toNat := by omega
  rw [ix] at y1 y2 y3 y4 y5
  have ev0 : VAr H1 = VAr H0 := VAr_eq (fRow f12.1.2.1 323 (by decide +kernel))
  have ev1 : VAr H2 = VAr H0 := (VAr_eq (fRow f34.1.2.1 323 (by decide +kernel))).trans ev0
  have v25 : n10 = hV H1 317 (n0).toNat := by rw [d25]
  have v31 : n12 = hV H1 318 (n0).toNat := by rw [d31]
  have v40 : n15 = hV H1 318 (n0).toNat := by rw [d40, show hV H2 318 = hV H1 318 from fRow f34.1.2.1 318 (by decide +kernel)]
  have v46 : n17 = hV H1 319 (n0).toNat := by rw [d46, show hV H2 319 = hV H1 319 from fRow f34.1.2.1 319 (by decide +kernel)]
  have v55 : n20 = hV H1 314 (n0).toNat := by rw [d55, show hV H3 314 = hV H1 314 from (fRow f49.1.2.1 314 (by decide +kernel)).trans (fRow f34.1.2.1 314 (by decide +kernel))]
  have v62 : n22 = hV H1 314 (n0).toNat := by rw [d62, show hV H3 314 = hV H1 314 from (fRow f49.1.2.1 314 (by decide +kernel)).trans (fRow f34.1.2.1 314 (by decide +kernel))]
  have v70 : n25 = hV H1 314 (n0).toNat := by rw [d70, show hV H3 314 = hV H1 314 from (fRow f49.1.2.1 314 (by decide +kernel)).trans (fRow f34.1.2.1 314 (by decide +kernel))]
  have q1 := f34.2.2
  unfold nb_238 at q1
  rw [v25, v31, ev0] at q1
  have t1 := q1 cl ch li.2.1 y4 c0 ge1
  have q2 := f49.2.2
  unfold nb_238 at q2
  rw [v40, v46, ev1] at q2
  have t2 := q2 cl ch li.2.2 (CDr_k (XRk_fr f34.1.2.1 (by decide +kernel)) y5) c0 ge2
  have ex : n27 = b2i (lCmp li.1.1 n13 n18) := by
    unfold lCmp
    rw [if_neg (show ¬ li.1.1 = 0 by omega), if_neg (show ¬ li.1.1 = 1 by omega), if_pos (show li.1.1 = 2 by omega), decide_eq_false (show ¬ (n13 < n18) by omega)]
    exact f74
  exact ⟨jj, ej, hl, HD_lit hd_ hli t1 t2 ((f49.1.2.1.1 285 59 (by decide +kernel)).trans (f34.1.2.1.1 285 59 (by decide +kernel))) ex⟩
def g_239w_56_7 : vG := ([(0, [27], [], 0), (43, [13, 18], [], 0), (40, [25, 26], [], 0), (0, [26], [], 2), (22, [25, 24, 6], [3], 0), (90, [25], [], 0), (91, [25], [], 3), (20, [24, 2], [3], 45), (23, [2], [3], 12), (0, [24], [], 314), (41, [22, 23], [], 0), (0, [23], [], 1), (22, [22, 21, 6], [3], 0), (90, [22], [], 0), (91, [22], [], 3), (20, [21, 2], [3], 45), (23, [2], [3], 12), (0, [21], [], 314), (31, [20], [], 0), (22, [20, 19, 6], [3], 0), (90, [20], [], 0), (91, [20], [], 3), (20, [19, 2], [3], 45), (23, [2], [3], 12), (0, [19], [], 314), (1238, [18, 2, 15, 17], [2, 3], 0), (90, [18], [], -2147483648), (91, [18], [], 2147483647), (22, [17, 16, 6], [2], 0), (90, [17], [], 0), (91, [17], [], 1200), (20, [16, 2], [2], 50), (23, [2], [2], 12), (0, [16], [], 319), (22, [15, 14, 6], [2], 0), (90, [15], [], 0), (91, [15], [], 1200), (20, [14, 2], [2], 49), (23, [2], [2], 12), (0, [14], [], 318), (1238, [13, 2, 10, 12], [1, 2], 0), (90, [13], [], -2147483648), (91, [13], [], 2147483647), (22, [12, 11, 6], [1], 0), (90, [12], [], 0), (91, [12], [], 1200), (20, [11, 2], [1], 49), (23, [2], [1], 12), (0, [11], [], 318), (22, [10, 9, 6], [1], 0), (90, [10], [], 0), (91, [10], [], 1200), (20, [9, 2], [1], 48), (23, [2], [1], 12), (0, [9], [], 317), (42, [6, 8], [], 0), (22, [8, 7, 3], [1], 0), (90, [8], [], 0), (91, [8], [], 400), (20, [7, 2], [1], 41), (23, [2], [1], 12), (0, [7], [], 311), (5000, [0, 1, 2, 3, 4, 5, 6], [0, 1], 56), (0, [0], [], 285), (90, [1], [], 0), (91, [1], [], 23), (0, [2], [], 285), (90, [3], [], 0), (91, [3], [], 23), (90, [4], [], 0), (91, [4], [], 1), (90, [5], [], 0), (91, [5], [], 1), (90, [6], [], 0), (91, [6], [], 400)], (4000, [2, 3, 4, 5, 6, 13, 18, 27], [3], 198))
theorem c_239w_56_7 {q0 : Nat} : vOkm T0 (eN e_239 L_239w A_239 mu_239 n_239 B_239 (some q0)) 2 g_239w_56_7 := vOk_inI fun ρ η f0 f1 f2 f3 f4 f5 f6 f7 f8 f9 f10 f11 f12 f13 f14 f15 f16 f17 f18 f19 f20 f21 f22 f23 f24 f25 f26 f27 f28 f29 f30 f31 f32 f33 f34 f35 f36 f37 f38 f39 f40 f41 f42 f43 f44 f45 f46 f47 f48 f49 f50 f51 f52 f53 f54 f55 f56 f57 f58 f59 f60 f61 f62 f63 f64 f65 f66 f67 f68 f69 f70 f71 f72 f73 f74 => q_239w_9 (q0 := q0) (n0 := ρ 6) (n1 := ρ 5) (n2 := ρ 4) (n3 := ρ 3) (n4 := ρ 2) (n5 := ρ 1) (n6 := ρ 0) (n7 := ρ 7) (n8 := ρ 8) (n9 := ρ 9) (n10 := ρ 10) (n11 := ρ 11) (n12 := ρ 12) (n13 := ρ 13) (n14 := ρ 14) (n15 := ρ 15) (n16 := ρ 16) (n17 := ρ 17) (n18 := ρ 18) (n19 := ρ 19) (n20 := ρ 20) (n21 := ρ 21) (n22 := ρ 22) (n23 := ρ 23) (n24 := ρ 24) (n25 := ρ 25) (n26 := ρ 26) (n27 := ρ 27) (H0 := η 0) (H1 := η 1) (H2 := η 2) (H3 := η 3) f74 f73 f72 f71 f70 f69 f68 f67 f66 f65 f64 f63 f62 f61 f60 f59 f58 f57 f56 f55 f54 f53 f52 f51 f50 f49 f48 f47 f46 f45 f44 f43 f42 f41 f40 f39 f38 f37 f36 f35 f34 f33 f32 f31 f30 f29 f28 f27 f26 f25 f24 f23 f22 f21 f20 f19 f18 f17 f16 f15 f14 f13 f12 f11 f10 f9 f8 f7 f6 f5 f4 f3 f2 f1 f0
theorem q_239w_10 {q0 : Nat} {n0 n1 n2 n3 n4 n5 n6 n7 n8 n9 n10 n11 n12 n13 n14 n15 n16 n17 n18 n19 n20 n21 n22 n23 n24 n25 n26 n27 : Int} {H0 H1 H2 H3 : gH} (f0 : n0 ≤ 400) (f1 : 0 ≤ n0) (f2 : n1 ≤ 1) (f3 : 0 ≤ n1) (f4 : n2 ≤ 1) (f5 : 0 ≤ n2) (f6 : n3 ≤ 23) (f7 : 0 ≤ n3) (f8 : n4 = 285) (f9 : n5 ≤ 23) (f10 : 0 ≤ n5) (f11 : n6 = 285) (f12 : (hLe T0 H0 H1 ∧ hFr s_239.2.2.2.2 H0 H1 ∧ hWt T0 H1) ∧ ((Ab_239_56 n6 n5 n4 n3 n2 n1 n0 H0 H1 ∧ Bb_239_56 n6 n5 n4 n3 n2 n1 n0 H0 H1) ∧ preb_239 n6 n5 H0) ∧ some q0 = some (mub_239_56 n6 n5 n4 n3 n2 n1 n0 H0 H1)) (f13 : n7 = 311) (f14 : hK H1 (n4).toNat = 12) (f15 : n7 = hV H1 (n4).toNat 41) (f16 : n8 ≤ 400) (f17 : 0 ≤ n8) (f18 : n8 = hV H1 (n7).toNat (n3).toNat) (f19 : n0 < n8) (f20 : n9 = 317) (f21 : hK H1 (n4).toNat = 12) (f22 : n9 = hV H1 (n4).toNat 48) (f23 : n10 ≤ 1200) (f24 : 0 ≤ n10) (f25 : n10 = hV H1 (n9).toNat (n0).toNat) (f26 : n11 = 318) (f27 : hK H1 (n4).toNat = 12) (f28 : n11 = hV H1 (n4).toNat 49) (f29 : n12 ≤ 1200) (f30 : 0 ≤ n12) (f31 : n12 = hV H1 (n11).toNat (n0).toNat) (f32 : n13 ≤ 2147483647) (f33 : (-2147483648) ≤ n13) (f34 : (hLe T0 H1 H2 ∧ hFr s_238.2.2.2.2 H1 H2 ∧ ((0 : Int) = 0 → H2.length = H1.length) ∧ hWt T0 H2) ∧ (True ∧ nb_238 n13 n4 n10 n12 H1 H2)) (f35 : n14 = 318) (f36 : hK H2 (n4).toNat = 12) (f37 : n14 = hV H2 (n4).toNat 49) (f38 : n15 ≤ 1200) (f39 : 0 ≤ n15) (f40 : n15 = hV H2 (n14).toNat (n0).toNat) (f41 : n16 = 319) (f42 : hK H2 (n4).toNat = 12) (f43 : n16 = hV H2 (n4).toNat 50) (f44 : n17 ≤ 1200) (f45 : 0 ≤ n17) (f46 : n17 = hV H2 (n16).toNat (n0).toNat) (f47 : n18 ≤ 2147483647) (f48 : (-2147483648) ≤ n18) (f49 : (hLe T0 H2 H3 ∧ hFr s_238.2.2.2.2 H2 H3 ∧ ((0 : Int) = 0 → H3.length = H2.length) ∧ hWt T0 H3) ∧ (True ∧ nb_238 n18 n4 n15 n17 H2 H3)) (f50 : n19 = 314) (f51 : hK H3 (n4).toNat = 12) (f52 : n19 = hV H3 (n4).toNat 45) (f53 : n20 ≤ 3) (f54 : 0 ≤ n20) (f55 : n20 = hV H3 (n19).toNat (n0).toNat) (f56 : n20 ≠ 0) (f57 : n21 = 314) (f58 : hK H3 (n4).toNat = 12) (f59 : n21 = hV H3 (n4).toNat 45) (f60 : n22 ≤ 3) (f61 : 0 ≤ n22) (f62 : n22 = hV H3 (n21).toNat (n0).toNat) (f63 : n23 = 1) (f64 : n22 ≠ n23) (f65 : n24 = 314) (f66 : hK H3 (n4).toNat = 12) (f67 : n24 = hV H3 (n4).toNat 45) (f68 : n25 ≤ 3) (f69 : 0 ≤ n25) (f70 : n25 = hV H3 (n24).toNat (n0).toNat) (f71 : n26 = 2) (f72 : n25 = n26) (f73 : n13 < n18) (f74 : n27 = 1) : Bb_239_198 n6 n5 n4 n3 n2 n1 n0 n13 n18 n27 H0 H3 := by
  unfold Bb_239_198
  intro u cl ch ll lh c0 l0 rg gr
  obtain ⟨g1, g2, g3⟩ := gr u rfl
  have gb := f12.2.1.1.2
  unfold Bb_239_56 at gb
  obtain ⟨jj, ej, jl, hd_⟩ := gb u cl ch ll lh c0 l0 rg gr
  have ab := f12.2.1.1.1
  unfold Ab_239_56 at ab
  have e1 := ab.1
  have d18 := rdW (q := 311) f18 f13
  have d25 := rdW (q := 317) f25 f20
  have d31 := rdW (q := 318) f31 f26
  have d40 := rdW (q := 318) f40 f35
  have d46 := rdW (q := 319) f46 f41
  have d55 := rdW (q := 314) f55 f50
  have d62 := rdW (q := 314) f62 f57
  have d70 := rdW (q := 314) f70 f65
  have xk : XRk H0 H1 := XRk_fr f12.1.2.1 (by decide +kernel)
  have yk : YRs H0 H1 := YRs_fr f12.1.2.1 (by decide +kernel)
  have zk : ZRs H0 H1 := ZRs_fr f12.1.2.1 (by decide +kernel)
  obtain ⟨r1, r2, r3, r4, r5, r6⟩ := rg
  have v11 : n8 = hV H0 311 (n5).toNat := by rw [d18, zk 311 (by decide) (by decide), e1]
  have hl : jj < u.2.length := by omega
  obtain ⟨li, hli⟩ : ∃ li, u.2[jj]? = some li := ⟨_, List.getElem?_eq_getElem hl⟩
  have lr := LIr_k xk yk (r6 jj li hli)
  obtain ⟨y1, y2, y3, y4, y5⟩ := lr
  have gl := g2 li (List.mem_of_getElem? hli)
  obtain ⟨k0, k3, ge1, ge2⟩ := gl
  have ix : (hV H0 310 (n5).toNat).toNat + jj = (n0).toNat := by omega
  rw [ix] at y1 y2 y3 y4 y5
  have ev0 : VAr H1 = VAr H0 := VAr_eq (fRow f12.1.2.1 323 (by decide +kernel))
  have ev1 : VAr H2 = VAr H0 := (VAr_eq (fRow f34.1.2.1 323 (by decide +kernel))).trans ev0
  have v25 : n10 = hV H1 317 (n0).toNat := by rw [d25]
  have v31 : n12 = hV H1 318 (n0).toNat := by rw [d31]
  have v40 : n15 = hV H1 318 (n0).toNat := by rw [d40, show hV H2 318 = hV H1 318 from fRow f34.1.2.1 318 (by decide +kernel)]
  have v46 : n17 = hV H1 319 (n0).toNat := by rw [d46, show hV H2 319 = hV H1 319 from fRow f34.1.2.1 319 (by decide +kernel)]
  have v55 : n20 = hV H1 314 (n0).toNat := by rw [d55, show hV H3 314 = hV H1 314 from (fRow f49.1.2.1 314 (by decide +kernel)).trans (fRow f34.1.2.1 314 (by decide +kernel))]
  have v62 : n22 = hV H1 314 (n0).toNat := by rw [d62, show hV H3 314 = hV H1 314 from (fRow f49.1.2.1 314 (by decide +kernel)).trans (fRow f34.1.2.1 314 (by decide +kernel))]
  have v70 : n25 = hV H1 314 (n0).toNat := by rw [d70, show hV H3 314 = hV H1 314 from (fRow f49.1.2.1 314 (by decide +kernel)).trans (fRow f34.1.2.1 314 (by decide +kernel))]
  have q1 := f34.2.2
  unfold nb_238 at q1
  rw [v25, v31, ev0] at q1
  have t1 := q1 cl ch li.2.1 y4 c0 ge1
  have q2 := f49.2.2
  unfold nb_238 at q2
  rw [v40, v46, ev1] at q2
  have t2 := q2 cl ch li.2.2 (CDr_k (XRk_fr f34.1.2.1 (by decide +kernel)) y5) c0 ge2
  have ex : n27 = b2i (lCmp li.1.1 n13 n18) := by
    unfold lCmp
    rw [if_neg (show ¬ li.1.1 = 0 by omega), if_neg (show ¬ li.1.1 = 1 by omega), if_pos (show li.1.1 = 2 by omega), decide_eq_true (show n13 < n18 by omega)]
    exact f74
  exact ⟨jj, ej, hl, HD_lit hd_ hli t1 t2 ((f49.1.2.1.1 285 59 (by decide +kernel)).trans (f34.1.2.1.1 285 59 (by decide +kernel))) ex⟩
def g_239w_56_8 : vG := ([(0, [27], [], 1), (42, [13, 18], [], 0), (40, [25, 26], [], 0), (0, [26], [], 2), (22, [25, 24, 6], [3], 0), (90, [25], [], 0), (91, [25], [], 3), (20, [24, 2], [3], 45), (23, [2], [3], 12), (0, [24], [], 314), (41, [22, 23], [], 0), (0, [23], [], 1), (22, [22, 21, 6], [3], 0), (90, [22], [], 0), (91, [22], [], 3), (20, [21, 2], [3], 45), (23, [2], [3], 12), (0, [21], [], 314), (31, [20], [], 0), (22, [20, 19, 6], [3], 0), (90, [20], [], 0), (91, [20], [], 3), (20, [19, 2], [3], 45), (23, [2], [3], 12), (0, [19], [], 314), (1238, [18, 2, 15, 17], [2, 3], 0), (90, [18], [], -2147483648), (91, [18], [], 2147483647), (22, [17, 16, 6], [2], 0), (90, [17], [], 0), (91, [17], [], 1200), (20, [16, 2], [2], 50), (23, [2], [2], 12), (0, [16], [], 319), (22, [15, 14, 6], [2], 0), (90, [15], [], 0), (91, [15], [], 1200), (20, [14, 2], [2], 49), (23, [2], [2], 12), (0, [14], [], 318), (1238, [13, 2, 10, 12], [1, 2], 0), (90, [13], [], -2147483648), (91, [13], [], 2147483647), (22, [12, 11, 6], [1], 0), (90, [12], [], 0), (91, [12], [], 1200), (20, [11, 2], [1], 49), (23, [2], [1], 12), (0, [11], [], 318), (22, [10, 9, 6], [1], 0), (90, [10], [], 0), (91, [10], [], 1200), (20, [9, 2], [1], 48), (23, [2], [1], 12), (0, [9], [], 317), (42, [6, 8], [], 0), (22, [8, 7, 3], [1], 0), (90, [8], [], 0), (91, [8], [], 400), (20, [7, 2], [1], 41), (23, [2], [1], 12), (0, [7], [], 311), (5000, [0, 1, 2, 3, 4, 5, 6], [0, 1], 56), (0, [0], [], 285), (90, [1], [], 0), (91, [1], [], 23), (0, [2], [], 285), (90, [3], [], 0), (91, [3], [], 23), (90, [4], [], 0), (91, [4], [], 1), (90, [5], [], 0), (91, [5], [], 1), (90, [6], [], 0), (91, [6], [], 400)], (4000, [2, 3, 4, 5, 6, 13, 18, 27], [3], 198))
theorem c_239w_56_8 {q0 : Nat} : vOkm T0 (eN e_239 L_239w A_239 mu_239 n_239 B_239 (some q0)) 2 g_239w_56_8 := vOk_inI fun ρ η f0 f1 f2 f3 f4 f5 f6 f7 f8 f9 f10 f11 f12 f13 f14 f15 f16 f17 f18 f19 f20 f21 f22 f23 f24 f25 f26 f27 f28 f29 f30 f31 f32 f33 f34 f35 f36 f37 f38 f39 f40 f41 f42 f43 f44 f45 f46 f47 f48 f49 f50 f51 f52 f53 f54 f55 f56 f57 f58 f59 f60 f61 f62 f63 f64 f65 f66 f67 f68 f69 f70 f71 f72 f73 f74 => q_239w_10 (q0 := q0) (n0 := ρ 6) (n1 := ρ 5) (n2 := ρ 4) (n3 := ρ 3) (n4 := ρ 2) (n5 := ρ 1) (n6 := ρ 0) (n7 := ρ 7) (n8 := ρ 8) (n9 := ρ 9) (n10 := ρ 10) (n11 := ρ 11) (n12 := ρ 12) (n13 := ρ 13) (n14 := ρ 14) (n15 := ρ 15) (n16 := ρ 16) (n17 := ρ 17) (n18 := ρ 18) (n19 := ρ 19) (n20 := ρ 20) (n21 := ρ 21) (n22 := ρ 22) (n23 := ρ 23) (n24 := ρ 24) (n25 := ρ 25) (n26 := ρ 26) (n27 := ρ 27) (H0 := η 0) (H1 := η 1) (H2 := η 2) (H3 := η 3) f74 f73 f72 f71 f70 f69 f68 f67 f66 f65 f64 f63 f62 f61 f60 f59 f58 f57 f56 f55 f54 f53 f52 f51 f50 f49 f48 f47 f46 f45 f44 f43 f42 f41 f40 f39 f38 f37 f36 f35 f34 f33 f32 f31 f30 f29 f28 f27 f26 f25 f24 f23 f22 f21 f20 f19 f18 f17 f16 f15 f14 f13 f12 f11 f10 f9 f8 f7 f6 f5 f4 f3 f2 f1 f0
theorem q_239w_11 {q0 : Nat} {n0 n1 n2 n3 n4 n5 n6 n7 n8 n9 n10 n11 n12 n13 n14 n15 n16 n17 n18 n19 n20 n21 n22 n23 n24 : Int} {H0 H1 H2 H3 : gH} (f0 : n0 ≤ 400) (f1 : 0 ≤ n0) (f2 : n1 ≤ 1) (f3 : 0 ≤ n1) (f4 : n2 ≤ 1) (f5 : 0 ≤ n2) (f6 : n3 ≤ 23) (f7 : 0 ≤ n3) (f8 : n4 = 285) (f9 : n5 ≤ 23) (f10 : 0 ≤ n5) (f11 : n6 = 285) (f12 : (hLe T0 H0 H1 ∧ hFr s_239.2.2.2.2 H0 H1 ∧ hWt T0 H1) ∧ ((Ab_239_56 n6 n5 n4 n3 n2 n1 n0 H0 H1 ∧ Bb_239_56 n6 n5 n4 n3 n2 n1 n0 H0 H1) ∧ preb_239 n6 n5 H0) ∧ some q0 = some (mub_239_56 n6 n5 n4 n3 n2 n1 n0 H0 H1)) (f13 : n7 = 311) (f14 : hK H1 (n4).toNat = 12) (f15 : n7 = hV H1 (n4).toNat 41) (f16 : n8 ≤ 400) (f17 : 0 ≤ n8) (f18 : n8 = hV H1 (n7).toNat (n3).toNat) (f19 : n0 < n8) (f20 : n9 = 317) (f21 : hK H1 (n4).toNat = 12) (f22 : n9 = hV H1 (n4).toNat 48) (f23 : n10 ≤ 1200) (f24 : 0 ≤ n10) (f25 : n10 = hV H1 (n9).toNat (n0).toNat) (f26 : n11 = 318) (f27 : hK H1 (n4).toNat = 12) (f28 : n11 = hV H1 (n4).toNat 49) (f29 : n12 ≤ 1200) (f30 : 0 ≤ n12) (f31 : n12 = hV H1 (n11).toNat (n0).toNat) (f32 : n13 ≤ 2147483647) (f33 : (-2147483648) ≤ n13) (f34 : (hLe T0 H1 H2 ∧ hFr s_238.2.2.2.2 H1 H2 ∧ ((0 : Int) = 0 → H2.length = H1.length) ∧ hWt T0 H2) ∧ (True ∧ nb_238 n13 n4 n10 n12 H1 H2)) (f35 : n14 = 318) (f36 : hK H2 (n4).toNat = 12) (f37 : n14 = hV H2 (n4).toNat 49) (f38 : n15 ≤ 1200) (f39 : 0 ≤ n15) (f40 : n15 = hV H2 (n14).toNat (n0).toNat) (f41 : n16 = 319) (f42 : hK H2 (n4).toNat = 12) (f43 : n16 = hV H2 (n4).toNat 50) (f44 : n17 ≤ 1200) (f45 : 0 ≤ n17) (f46 : n17 = hV H2 (n16).toNat (n0).toNat) (f47 : n18 ≤ 2147483647) (f48 : (-2147483648) ≤ n18) (f49 : (hLe T0 H2 H3 ∧ hFr s_238.2.2.2.2 H2 H3 ∧ ((0 : Int) = 0 → H3.length = H2.length) ∧ hWt T0 H3) ∧ (True ∧ nb_238 n18 n4 n15 n17 H2 H3)) (f50 : n19 = 314) (f51 : hK H3 (n4).toNat = 12) (f52 : n19 = hV H3 (n4).toNat 45) (f53 : n20 ≤ 3) (f54 : 0 ≤ n20) (f55 : n20 = hV H3 (n19).toNat (n0).toNat) (f56 : n20 ≠ 0) (f57 : n21 = 314) (f58 : hK H3 (n4).toNat = 12) (f59 : n21 = hV H3 (n4).toNat 45) (f60 : n22 ≤ 3) (f61 : 0 ≤ n22) (f62 : n22 = hV H3 (n21).toNat (n0).toNat) (f63 : n23 = 1) (f64 : n22 = n23) (f65 : n13 = n18) (f66 : n24 = 0) : Bb_239_198 n6 n5 n4 n3 n2 n1 n0 n13 n18 n24 H0 H3 := by
  unfold Bb_239_198
  intro u cl ch ll lh c0 l0 rg gr
  obtain ⟨g1, g2, g3⟩ := gr u rfl
  have gb := f12.2.1.1.2
  unfold Bb_239_56 at gb
  obtain ⟨jj, ej, jl, hd_⟩ := gb u cl ch ll lh c0 l0 rg gr
  have ab := f12.2.1.1.1
  unfold Ab_239_56 at ab
  have e1 := ab.1
  have d18 := rdW (q := 311) f18 f13
  have d25 := rdW (q := 317) f25 f20
  have d31 := rdW (q := 318) f31 f26
  have d40 := rdW (q := 318) f40 f35
  have d46 := rdW (q := 319) f46 f41
  have d55 := rdW (q := 314) f55 f50
  have d62 := rdW (q := 314) f62 f57
  have xk : XRk H0 H1 := XRk_fr f12.1.2.1 (by decide +kernel)
  have yk : YRs H0 H1 := YRs_fr f12.1.2.1 (by decide +kernel)
  have zk : ZRs H0 H1 := ZRs_fr f12.1.2.1 (by decide +kernel)
  obtain ⟨r1, r2, r3, r4, r5, r6⟩ := rg
  have v11 : n8 = hV H0 311 (n5).toNat := by rw [d18, zk 311 (by decide) (by decide), e1]
  have hl : jj < u.2.length := by omega
  obtain ⟨li, hli⟩ : ∃ li, u.2[jj]? = some li := ⟨_, List.getElem?_eq_getElem hl⟩
  have lr := LIr_k xk yk (r6 jj li hli)
  obtain ⟨y1, y2, y3, y4, y5⟩ := lr
  have gl := g2 li (List.mem_of_getElem? hli)
  obtain ⟨k0, k3, ge1, ge2⟩ := gl
  have ix : (hV H0 310 (n5).toNat).toNat + jj = (n0).toNat := by omega
  rw [ix] at y1 y2 y3 y4 y5
  have ev0 : VAr H1 = VAr H0 := VAr_eq (fRow f12.1.2.1 323 (by decide +kernel))
  have ev1 : VAr H2 = VAr H0 := (VAr_eq (fRow f34.1.2.1 323 (by decide +kernel))).trans ev0
  have v25 : n10 = hV H1 317 (n0).toNat := by rw [d25]
  have v31 : n12 = hV H1 318 (n0).toNat := by rw [d31]
  have v40 : n15 = hV H1 318 (n0).toNat := by rw [d40, show hV H2 318 = hV H1 318 from fRow f34.1.2.1 318 (by decide +kernel)]
  have v46 : n17 = hV H1 319 (n0).toNat := by rw [d46, show hV H2 319 = hV H1 319 from fRow f34.1.2.1 319 (by decide +kernel)]
  have v55 : n20 = hV H1 314 (n0).toNat := by rw [d55, show hV H3 314 = hV H1 314 from (fRow f49.1.2.1 314 (by decide +kernel)).trans (fRow f34.1.2.1 314 (by decide +kernel))]
  have v62 : n22 = hV H1 314 (n0).toNat := by rw [d62, show hV H3 314 = hV H1 314 from (fRow f49.1.2.1 314 (by decide +kernel)).trans (fRow f34.1.2.1 314 (by decide +kernel))]
  have q1 := f34.2.2
  unfold nb_238 at q1
  rw [v25, v31, ev0] at q1
  have t1 := q1 cl ch li.2.1 y4 c0 ge1
  have q2 := f49.2.2
  unfold nb_238 at q2
  rw [v40, v46, ev1] at q2
  have t2 := q2 cl ch li.2.2 (CDr_k (XRk_fr f34.1.2.1 (by decide +kernel)) y5) c0 ge2
  have ex : n24 = b2i (lCmp li.1.1 n13 n18) := by
    unfold lCmp
    rw [if_neg (show ¬ li.1.1 = 0 by omega), if_pos (show li.1.1 = 1 by omega), decide_eq_false (show ¬ (¬ n13 = n18) by omega)]
    exact f66
  exact ⟨jj, ej, hl, HD_lit hd_ hli t1 t2 ((f49.1.2.1.1 285 59 (by decide +kernel)).trans (f34.1.2.1.1 285 59 (by decide +kernel))) ex⟩
def g_239w_56_9 : vG := ([(0, [24], [], 0), (40, [13, 18], [], 0), (40, [22, 23], [], 0), (0, [23], [], 1), (22, [22, 21, 6], [3], 0), (90, [22], [], 0), (91, [22], [], 3), (20, [21, 2], [3], 45), (23, [2], [3], 12), (0, [21], [], 314), (31, [20], [], 0), (22, [20, 19, 6], [3], 0), (90, [20], [], 0), (91, [20], [], 3), (20, [19, 2], [3], 45), (23, [2], [3], 12), (0, [19], [], 314), (1238, [18, 2, 15, 17], [2, 3], 0), (90, [18], [], -2147483648), (91, [18], [], 2147483647), (22, [17, 16, 6], [2], 0), (90, [17], [], 0), (91, [17], [], 1200), (20, [16, 2], [2], 50), (23, [2], [2], 12), (0, [16], [], 319), (22, [15, 14, 6], [2], 0), (90, [15], [], 0), (91, [15], [], 1200), (20, [14, 2], [2], 49), (23, [2], [2], 12), (0, [14], [], 318), (1238, [13, 2, 10, 12], [1, 2], 0), (90, [13], [], -2147483648), (91, [13], [], 2147483647), (22, [12, 11, 6], [1], 0), (90, [12], [], 0), (91, [12], [], 1200), (20, [11, 2], [1], 49), (23, [2], [1], 12), (0, [11], [], 318), (22, [10, 9, 6], [1], 0), (90, [10], [], 0), (91, [10], [], 1200), (20, [9, 2], [1], 48), (23, [2], [1], 12), (0, [9], [], 317), (42, [6, 8], [], 0), (22, [8, 7, 3], [1], 0), (90, [8], [], 0), (91, [8], [], 400), (20, [7, 2], [1], 41), (23, [2], [1], 12), (0, [7], [], 311), (5000, [0, 1, 2, 3, 4, 5, 6], [0, 1], 56), (0, [0], [], 285), (90, [1], [], 0), (91, [1], [], 23), (0, [2], [], 285), (90, [3], [], 0), (91, [3], [], 23), (90, [4], [], 0), (91, [4], [], 1), (90, [5], [], 0), (91, [5], [], 1), (90, [6], [], 0), (91, [6], [], 400)], (4000, [2, 3, 4, 5, 6, 13, 18, 24], [3], 198))
theorem c_239w_56_9 {q0 : Nat} : vOkm T0 (eN e_239 L_239w A_239 mu_239 n_239 B_239 (some q0)) 2 g_239w_56_9 := vOk_inI fun ρ η f0 f1 f2 f3 f4 f5 f6 f7 f8 f9 f10 f11 f12 f13 f14 f15 f16 f17 f18 f19 f20 f21 f22 f23 f24 f25 f26 f27 f28 f29 f30 f31 f32 f33 f34 f35 f36 f37 f38 f39 f40 f41 f42 f43 f44 f45 f46 f47 f48 f49 f50 f51 f52 f53 f54 f55 f56 f57 f58 f59 f60 f61 f62 f63 f64 f65 f66 => q_239w_11 (q0 := q0) (n0 := ρ 6) (n1 := ρ 5) (n2 := ρ 4) (n3 := ρ 3) (n4 := ρ 2) (n5 := ρ 1) (n6 := ρ 0) (n7 := ρ 7) (n8 := ρ 8) (n9 := ρ 9) (n10 := ρ 10) (n11 := ρ 11) (n12 := ρ 12) (n13 := ρ 13) (n14 := ρ 14) (n15 := ρ 15) (n16 := ρ 16) (n17 := ρ 17) (n18 := ρ 18) (n19 := ρ 19) (n20 := ρ 20) (n21 := ρ 21) (n22 := ρ 22) (n23 := ρ 23) (n24 := ρ 24) (H0 := η 0) (H1 := η 1) (H2 := η 2) (H3 := η 3) f66 f65 f64 f63 f62 f61 f60 f59 f58 f57 f56 f55 f54 f53 f52 f51 f50 f49 f48 f47 f46 f45 f44 f43 f42 f41 f40 f39 f38 f37 f36 f35 f34 f33 f32 f31 f30 f29 f28 f27 f26 f25 f24 f23 f22 f21 f20 f19 f18 f17 f16 f15 f14 f13 f12 f11 f10 f9 f8 f7 f6 f5 f4 f3 f2 f1 f0
theorem q_239w_12 {q0 : Nat} {n0 n1 n2 n3 n4 n5 n6 n7 n8 n9 n10 n11 n12 n13 n14 n15 n16 n17 n18 n19 n20 n21 n22 n23 n24 : Int} {H0 H1 H2 H3 : gH} (f0 : n0 ≤ 400) (f1 : 0 ≤ n0) (f2 : n1 ≤ 1) (f3 : 0 ≤ n1) (f4 : n2 ≤ 1) (f5 : 0 ≤ n2) (f6 : n3 ≤ 23) (f7 : 0 ≤ n3) (f8 : n4 = 285) (f9 : n5 ≤ 23) (f10 : 0 ≤ n5) (f11 : n6 = 285) (f12 : (hLe T0 H0 H1 ∧ hFr s_239.2.2.2.2 H0 H1 ∧ hWt T0 H1) ∧ ((Ab_239_56 n6 n5 n4 n3 n2 n1 n0 H0 H1 ∧ Bb_239_56 n6 n5 n4 n3 n2 n1 n0 H0 H1) ∧ preb_239 n6 n5 H0) ∧ some q0 = some (mub_239_56 n6 n5 n4 n3 n2 n1 n0 H0 H1)) (f13 : n7 = 311) (f14 : hK H1 (n4).toNat = 12) (f15 : n7 = hV H1 (n4).toNat 41) (f16 : n8 ≤ 400) (f17 : 0 ≤ n8) (f18 : n8 = hV H1 (n7).toNat (n3).toNat) (f19 : n0 < n8) (f20 : n9 = 317) (f21 : hK H1 (n4).toNat = 12) (f22 : n9 = hV H1 (n4).toNat 48) (f23 : n10 ≤ 1200) (f24 : 0 ≤ n10) (f25 : n10 = hV H1 (n9).toNat (n0).toNat) (f26 : n11 = 318) (f27 : hK H1 (n4).toNat = 12) (f28 : n11 = hV H1 (n4).toNat 49) (f29 : n12 ≤ 1200) (f30 : 0 ≤ n12) (f31 : n12 = hV H1 (n11).toNat (n0).toNat) (f32 : n13 ≤ 2147483647) (f33 : (-2147483648) ≤ n13) (f34 : (hLe T0 H1 H2 ∧ hFr s_238.2.2.2.2 H1 H2 ∧ ((0 : Int) = 0 → H2.length = H1.length) ∧ hWt T0 H2) ∧ (True ∧ nb_238 n13 n4 n10 n12 H1 H2)) (f35 : n14 = 318) (f36 : hK H2 (n4).toNat = 12) (f37 : n14 = hV H2 (n4).toNat 49) (f38 : n15 ≤ 1200) (f39 : 0 ≤ n15) (f40 : n15 = hV H2 (n14).toNat (n0).toNat) (f41 : n16 = 319) (f42 : hK H2 (n4).toNat = 12) (f43 : n16 = hV H2 (n4).toNat 50) (f44 : n17 ≤ 1200) (f45 : 0 ≤ n17) (f46 : n17 = hV H2 (n16).toNat (n0).toNat) (f47 : n18 ≤ 2147483647) (f48 : (-2147483648) ≤ n18) (f49 : (hLe T0 H2 H3 ∧ hFr s_238.2.2.2.2 H2 H3 ∧ ((0 : Int) = 0 → H3.length = H2.length) ∧ hWt T0 H3) ∧ (True ∧ nb_238 n18 n4 n15 n17 H2 H3)) (f50 : n19 = 314) (f51 : hK H3 (n4).toNat = 12) (f52 : n19 = hV H3 (n4).toNat 45) (f53 : n20 ≤ 3) (f54 : 0 ≤ n20) (f55 : n20 = hV H3 (n19).toNat (n0).toNat) (f56 : n20 ≠ 0) (f57 : n21 = 314) (f58 : hK H3 (n4).toNat = 12) (f59 : n21 = hV H3 (n4).toNat 45) (f60 : n22 ≤ 3) (f61 : 0 ≤ n22) (f62 : n22 = hV H3 (n21).toNat (n0).toNat) (f63 : n23 = 1) (f64 : n22 = n23) (f65 : n13 ≠ n18) (f66 : n24 = 1) : Bb_239_198 n6 n5 n4 n3 n2 n1 n0 n13 n18 n24 H0 H3 := by
  unfold Bb_239_198
  intro u cl ch ll lh c0 l0 rg gr
  obtain ⟨g1, g2, g3⟩ := gr u rfl
  have gb := f12.2.1.1.2
  unfold Bb_239_56 at gb
  obtain ⟨jj, ej, jl, hd_⟩ := gb u cl ch ll lh c0 l0 rg gr
  have ab := f12.2.1.1.1
  unfold Ab_239_56 at ab
  have e1 := ab.1
  have d18 := rdW (q := 311) f18 f13
  have d25 := rdW (q := 317) f25 f20
  have d31 := rdW (q := 318) f31 f26
  have d40 := rdW (q := 318) f40 f35
  have d46 := rdW (q := 319) f46 f41
  have d55 := rdW (q := 314) f55 f50
  have d62 := rdW (q := 314) f62 f57
  have xk : XRk H0 H1 := XRk_fr f12.1.2.1 (by decide +kernel)
  have yk : YRs H0 H1 := YRs_fr f12.1.2.1 (by decide +kernel)
  have zk : ZRs H0 H1 := ZRs_fr f12.1.2.1 (by decide +kernel)
  obtain ⟨r1, r2, r3, r4, r5, r6⟩ := rg
  have v11 : n8 = hV H0 311 (n5).toNat := by rw [d18, zk 311 (by decide) (by decide), e1]
  have hl : jj < u.2.length := by omega
  obtain ⟨li, hli⟩ : ∃ li, u.2[jj]? = some li := ⟨_, List.getElem?_eq_getElem hl⟩
  have lr := LIr_k xk yk (r6 jj li hli)
  obtain ⟨y1, y2, y3, y4, y5⟩ := lr
  have gl := g2 li (List.mem_of_getElem? hli)
  obtain ⟨k0, k3, ge1, ge2⟩ := gl
  have ix : (hV H0 310 (n5).toNat).toNat + jj = (n0).toNat := by omega
  rw [ix] at y1 y2 y3 y4 y5
  have ev0 : VAr H1 = VAr H0 := VAr_eq (fRow f12.1.2.1 323 (by decide +kernel))
  have ev1 : VAr H2 = VAr H0 := (VAr_eq (fRow f34.1.2.1 323 (by decide +kernel))).trans ev0
  have v25 : n10 = hV H1 317 (n0).toNat := by rw [d25]
  have v31 : n12 = hV H1 318 (n0).toNat := by rw [d31]
  have v40 : n15 = hV H1 318 (n0).toNat := by rw [d40, show hV H2 318 = hV H1 318 from fRow f34.1.2.1 318 (by decide +kernel)]
  have v46 : n17 = hV H1 319 (n0).toNat := by rw [d46, show hV H2 319 = hV H1 319 from fRow f34.1.2.1 319 (by decide +kernel)]
  have v55 : n20 = hV H1 314 (n0).toNat := by rw [d55, show hV H3 314 = hV H1 314 from (fRow f49.1.2.1 314 (by decide +kernel)).trans (fRow f34.1.2.1 314 (by decide +kernel))]
  have v62 : n22 = hV H1 314 (n0).toNat := by rw [d62, show hV H3 314 = hV H1 314 from (fRow f49.1.2.1 314 (by decide +kernel)).trans (fRow f34.1.2.1 314 (by decide +kernel))]
  have q1 := f34.2.2
  unfold nb_238 at q1
  rw [v25, v31, ev0] at q1
  have t1 := q1 cl ch li.2.1 y4 c0 ge1
  have q2 := f49.2.2
  unfold nb_238 at q2
  rw [v40, v46, ev1] at q2
  have t2 := q2 cl ch li.2.2 (CDr_k (XRk_fr f34.1.2.1 (by decide +kernel)) y5) c0 ge2
  have ex : n24 = b2i (lCmp li.1.1 n13 n18) := by
    unfold lCmp
    rw [if_neg (show ¬ li.1.1 = 0 by omega), if_pos (show li.1.1 = 1 by omega), decide_eq_true (show ¬ n13 = n18 by omega)]
    exact f66
  exact ⟨jj, ej, hl, HD_lit hd_ hli t1 t2 ((f49.1.2.1.1 285 59 (by decide +kernel)).trans (f34.1.2.1.1 285 59 (by decide +kernel))) ex⟩
def g_239w_56_10 : vG := ([(0, [24], [], 1), (41, [13, 18], [], 0), (40, [22, 23], [], 0), (0, [23], [], 1), (22, [22, 21, 6], [3], 0), (90, [22], [], 0), (91, [22], [], 3), (20, [21, 2], [3], 45), (23, [2], [3], 12), (0, [21], [], 314), (31, [20], [], 0), (22, [20, 19, 6], [3], 0), (90, [20], [], 0), (91, [20], [], 3), (20, [19, 2], [3], 45), (23, [2], [3], 12), (0, [19], [], 314), (1238, [18, 2, 15, 17], [2, 3], 0), (90, [18], [], -2147483648), (91, [18], [], 2147483647), (22, [17, 16, 6], [2], 0), (90, [17], [], 0), (91, [17], [], 1200), (20, [16, 2], [2], 50), (23, [2], [2], 12), (0, [16], [], 319), (22, [15, 14, 6], [2], 0), (90, [15], [], 0), (91, [15], [], 1200), (20, [14, 2], [2], 49), (23, [2], [2], 12), (0, [14], [], 318), (1238, [13, 2, 10, 12], [1, 2], 0), (90, [13], [], -2147483648), (91, [13], [], 2147483647), (22, [12, 11, 6], [1], 0), (90, [12], [], 0), (91, [12], [], 1200), (20, [11, 2], [1], 49), (23, [2], [1], 12), (0, [11], [], 318), (22, [10, 9, 6], [1], 0), (90, [10], [], 0), (91, [10], [], 1200), (20, [9, 2], [1], 48), (23, [2], [1], 12), (0, [9], [], 317), (42, [6, 8], [], 0), (22, [8, 7, 3], [1], 0), (90, [8], [], 0), (91, [8], [], 400), (20, [7, 2], [1], 41), (23, [2], [1], 12), (0, [7], [], 311), (5000, [0, 1, 2, 3, 4, 5, 6], [0, 1], 56), (0, [0], [], 285), (90, [1], [], 0), (91, [1], [], 23), (0, [2], [], 285), (90, [3], [], 0), (91, [3], [], 23), (90, [4], [], 0), (91, [4], [], 1), (90, [5], [], 0), (91, [5], [], 1), (90, [6], [], 0), (91, [6], [], 400)], (4000, [2, 3, 4, 5, 6, 13, 18, 24], [3], 198))
theorem c_239w_56_10 {q0 : Nat} : vOkm T0 (eN e_239 L_239w A_239 mu_239 n_239 B_239 (some q0)) 2 g_239w_56_10 := vOk_inI fun ρ η f0 f1 f2 f3 f4 f5 f6 f7 f8 f9 f10 f11 f12 f13 f14 f15 f16 f17 f18 f19 f20 f21 f22 f23 f24 f25 f26 f27 f28 f29 f30 f31 f32 f33 f34 f35 f36 f37 f38 f39 f40 f41 f42 f43 f44 f45 f46 f47 f48 f49 f50 f51 f52 f53 f54 f55 f56 f57 f58 f59 f60 f61 f62 f63 f64 f65 f66 => q_239w_12 (q0 := q0) (n0 := ρ 6) (n1 := ρ 5) (n2 := ρ 4) (n3 := ρ 3) (n4 := ρ 2) (n5 := ρ 1) (n6 := ρ 0) (n7 := ρ 7) (n8 := ρ 8) (n9 := ρ 9) (n10 := ρ 10) (n11 := ρ 11) (n12 := ρ 12) (n13 := ρ 13) (n14 := ρ 14) (n15 := ρ 15) (n16 := ρ 16) (n17 := ρ 17) (n18 := ρ 18) (n19 := ρ 19) (n20 := ρ 20) (n21 := ρ 21) (n22 := ρ 22) (n23 := ρ 23) (n24 := ρ 24) (H0 := η 0) (H1 := η 1) (H2 := η 2) (H3 := η 3) f66 f65 f64 f63 f62 f61 f60 f59 f58 f57 f56 f55 f54 f53 f52 f51 f50 f49 f48 f47 f46 f45 f44 f43 f42 f41 f40 f39 f38 f37 f36 f35 f34 f33 f32 f31 f30 f29 f28 f27 f26 f25 f24 f23 f22 f21 f20 f19 f18 f17 f16 f15 f14 f13 f12 f11 f10 f9 f8 f7 f6 f5 f4 f3 f2 f1 f0
theorem q_239w_13 {q0 : Nat} {n0 n1 n2 n3 n4 n5 n6 n7 n8 n9 n10 n11 n12 n13 n14 n15 n16 n17 n18 n19 n20 n21 : Int} {H0 H1 H2 H3 : gH} (f0 : n0 ≤ 400) (f1 : 0 ≤ n0) (f2 : n1 ≤ 1) (f3 : 0 ≤ n1) (f4 : n2 ≤ 1) (f5 : 0 ≤ n2) (f6 : n3 ≤ 23) (f7 : 0 ≤ n3) (f8 : n4 = 285) (f9 : n5 ≤ 23) (f10 : 0 ≤ n5) (f11 : n6 = 285) (f12 : (hLe T0 H0 H1 ∧ hFr s_239.2.2.2.2 H0 H1 ∧ hWt T0 H1) ∧ ((Ab_239_56 n6 n5 n4 n3 n2 n1 n0 H0 H1 ∧ Bb_239_56 n6 n5 n4 n3 n2 n1 n0 H0 H1) ∧ preb_239 n6 n5 H0) ∧ some q0 = some (mub_239_56 n6 n5 n4 n3 n2 n1 n0 H0 H1)) (f13 : n7 = 311) (f14 : hK H1 (n4).toNat = 12) (f15 : n7 = hV H1 (n4).toNat 41) (f16 : n8 ≤ 400) (f17 : 0 ≤ n8) (f18 : n8 = hV H1 (n7).toNat (n3).toNat) (f19 : n0 < n8) (f20 : n9 = 317) (f21 : hK H1 (n4).toNat = 12) (f22 : n9 = hV H1 (n4).toNat 48) (f23 : n10 ≤ 1200) (f24 : 0 ≤ n10) (f25 : n10 = hV H1 (n9).toNat (n0).toNat) (f26 : n11 = 318) (f27 : hK H1 (n4).toNat = 12) (f28 : n11 = hV H1 (n4).toNat 49) (f29 : n12 ≤ 1200) (f30 : 0 ≤ n12) (f31 : n12 = hV H1 (n11).toNat (n0).toNat) (f32 : n13 ≤ 2147483647) (f33 : (-2147483648) ≤ n13) (f34 : (hLe T0 H1 H2 ∧ hFr s_238.2.2.2.2 H1 H2 ∧ ((0 : Int) = 0 → H2.length = H1.length) ∧ hWt T0 H2) ∧ (True ∧ nb_238 n13 n4 n10 n12 H1 H2)) (f35 : n14 = 318) (f36 : hK H2 (n4).toNat = 12) (f37 : n14 = hV H2 (n4).toNat 49) (f38 : n15 ≤ 1200) (f39 : 0 ≤ n15) (f40 : n15 = hV H2 (n14).toNat (n0).toNat) (f41 : n16 = 319) (f42 : hK H2 (n4).toNat = 12) (f43 : n16 = hV H2 (n4).toNat 50) (f44 : n17 ≤ 1200) (f45 : 0 ≤ n17) (f46 : n17 = hV H2 (n16).toNat (n0).toNat) (f47 : n18 ≤ 2147483647) (f48 : (-2147483648) ≤ n18) (f49 : (hLe T0 H2 H3 ∧ hFr s_238.2.2.2.2 H2 H3 ∧ ((0 : Int) = 0 → H3.length = H2.length) ∧ hWt T0 H3) ∧ (True ∧ nb_238 n18 n4 n15 n17 H2 H3)) (f50 : n19 = 314) (f51 : hK H3 (n4).toNat = 12) (f52 : n19 = hV H3 (n4).toNat 45) (f53 : n20 ≤ 3) (f54 : 0 ≤ n20) (f55 : n20 = hV H3 (n19).toNat (n0).toNat) (f56 : n20 = 0) (f57 : n13 ≠ n18) (f58 : n21 = 0) : Bb_239_198 n6 n5 n4 n3 n2 n1 n0 n13 n18 n21 H0 H3 := by
  unfold Bb_239_198
  intro u cl ch ll lh c0 l0 rg gr
  obtain ⟨g1, g2, g3⟩ := gr u rfl
  have gb := f12.2.1.1.2
  unfold Bb_239_56 at gb
  obtain ⟨jj, ej, jl, hd_⟩ := gb u cl ch ll lh c0 l0 rg gr
  have ab := f12.2.1.1.1
  unfold Ab_239_56 at ab
  have e1 := ab.1
  have d18 := rdW (q := 311) f18 f13
  have d25 := rdW (q := 317) f25 f20
  have d31 := rdW (q := 318) f31 f26
  have d40 := rdW (q := 318) f40 f35
  have d46 := rdW (q := 319) f46 f41
  have d55 := rdW (q := 314) f55 f50
  have xk : XRk H0 H1 := XRk_fr f12.1.2.1 (by decide +kernel)
  have yk : YRs H0 H1 := YRs_fr f12.1.2.1 (by decide +kernel)
  have zk : ZRs H0 H1 := ZRs_fr f12.1.2.1 (by decide +kernel)
  obtain ⟨r1, r2, r3, r4, r5, r6⟩ := rg
  have v11 : n8 = hV H0 311 (n5).toNat := by rw [d18, zk 311 (by decide) (by decide), e1]
  have hl : jj < u.2.length := by omega
  obtain ⟨li, hli⟩ : ∃ li, u.2[jj]? = some li := ⟨_, List.getElem?_eq_getElem hl⟩
  have lr := LIr_k xk yk (r6 jj li hli)
  obtain ⟨y1, y2, y3, y4, y5⟩ := lr
  have gl := g2 li (List.mem_of_getElem? hli)
  obtain ⟨k0, k3, ge1, ge2⟩ := gl
  have ix : (hV H0 310 (n5).toNat).toNat + jj = (n0).toNat := by omega
  rw [ix] at y1 y2 y3 y4 y5
  have ev0 : VAr H1 = VAr H0 := VAr_eq (fRow f12.1.2.1 323 (by decide +kernel))
  have ev1 : VAr H2 = VAr H0 := (VAr_eq (fRow f34.1.2.1 323 (by decide +kernel))).trans ev0
  have v25 : n10 = hV H1 317 (n0).toNat := by rw [d25]
  have v31 : n12 = hV H1 318 (n0).toNat := by rw [d31]
  have v40 : n15 = hV H1 318 (n0).toNat := by rw [d40, show hV H2 318 = hV H1 318 from fRow f34.1.2.1 318 (by decide +kernel)]
  have v46 : n17 = hV H1 319 (n0).toNat := by rw [d46, show hV H2 319 = hV H1 319 from fRow f34.1.2.1 319 (by decide +kernel)]
  have v55 : n20 = hV H1 314 (n0).toNat := by rw [d55, show hV H3 314 = hV H1 314 from (fRow f49.1.2.1 314 (by decide +kernel)).trans (fRow f34.1.2.1 314 (by decide +kernel))]
  have q1 := f34.2.2
  unfold nb_238 at q1
  rw [v25, v31, ev0] at q1
  have t1 := q1 cl ch li.2.1 y4 c0 ge1
  have q2 := f49.2.2
  unfold nb_238 at q2
  rw [v40, v46, ev1] at q2
  have t2 := q2 cl ch li.2.2 (CDr_k (XRk_fr f34.1.2.1 (by decide +kernel)) y5) c0 ge2
  have ex : n21 = b2i (lCmp li.1.1 n13 n18) := by
    unfold lCmp
    rw [if_pos (show li.1.1 = 0 by omega), decide_eq_false (show ¬ (n13 = n18) by omega)]
    exact f58
  exact ⟨jj, ej, hl, HD_lit hd_ hli t1 t2 ((f49.1.2.1.1 285 59 (by decide +kernel)).trans (f34.1.2.1.1 285 59 (by decide +kernel))) ex⟩
def g_239w_56_11 : vG := ([(0, [21], [], 0), (41, [13, 18], [], 0), (30, [20], [], 0), (22, [20, 19, 6], [3], 0), (90, [20], [], 0), (91, [20], [], 3), (20, [19, 2], [3], 45), (23, [2], [3], 12), (0, [19], [], 314), (1238, [18, 2, 15, 17], [2, 3], 0), (90, [18], [], -2147483648), (91, [18], [], 2147483647), (22, [17, 16, 6], [2], 0), (90, [17], [], 0), (91, [17], [], 1200), (20, [16, 2], [2], 50), (23, [2], [2], 12), (0, [16], [], 319), (22, [15, 14, 6], [2], 0), (90, [15], [], 0), (91, [15], [], 1200), (20, [14, 2], [2], 49), (23, [2], [2], 12), (0, [14], [], 318), (1238, [13, 2, 10, 12], [1, 2], 0), (90, [13], [], -2147483648), (91, [13], [], 2147483647), (22, [12, 11, 6], [1], 0), (90, [12], [], 0), (91, [12], [], 1200), (20, [11, 2], [1], 49), (23, [2], [1], 12), (0, [11], [], 318), (22, [10, 9, 6], [1], 0), (90, [10], [], 0), (91, [10], [], 1200), (20, [9, 2], [1], 48), (23, [2], [1], 12), (0, [9], [], 317), (42, [6, 8], [], 0), (22, [8, 7, 3], [1], 0), (90, [8], [], 0), (91, [8], [], 400), (20, [7, 2], [1], 41), (23, [2], [1], 12), (0, [7], [], 311), (5000, [0, 1, 2, 3, 4, 5, 6], [0, 1], 56), (0, [0], [], 285), (90, [1], [], 0), (91, [1], [], 23), (0, [2], [], 285), (90, [3], [], 0), (91, [3], [], 23), (90, [4], [], 0), (91, [4], [], 1), (90, [5], [], 0), (91, [5], [], 1), (90, [6], [], 0), (91, [6], [], 400)], (4000, [2, 3, 4, 5, 6, 13, 18, 21], [3], 198))
theorem c_239w_56_11 {q0 : Nat} : vOkm T0 (eN e_239 L_239w A_239 mu_239 n_239 B_239 (some q0)) 2 g_239w_56_11 := vOk_inI fun ρ η f0 f1 f2 f3 f4 f5 f6 f7 f8 f9 f10 f11 f12 f13 f14 f15 f16 f17 f18 f19 f20 f21 f22 f23 f24 f25 f26 f27 f28 f29 f30 f31 f32 f33 f34 f35 f36 f37 f38 f39 f40 f41 f42 f43 f44 f45 f46 f47 f48 f49 f50 f51 f52 f53 f54 f55 f56 f57 f58 => q_239w_13 (q0 := q0) (n0 := ρ 6) (n1 := ρ 5) (n2 := ρ 4) (n3 := ρ 3) (n4 := ρ 2) (n5 := ρ 1) (n6 := ρ 0) (n7 := ρ 7) (n8 := ρ 8) (n9 := ρ 9) (n10 := ρ 10) (n11 := ρ 11) (n12 := ρ 12) (n13 := ρ 13) (n14 := ρ 14) (n15 := ρ 15) (n16 := ρ 16) (n17 := ρ 17) (n18 := ρ 18) (n19 := ρ 19) (n20 := ρ 20) (n21 := ρ 21) (H0 := η 0) (H1 := η 1) (H2 := η 2) (H3 := η 3) f58 f57 f56 f55 f54 f53 f52 f51 f50 f49 f48 f47 f46 f45 f44 f43 f42 f41 f40 f39 f38 f37 f36 f35 f34 f33 f32 f31 f30 f29 f28 f27 f26 f25 f24 f23 f22 f21 f20 f19 f18 f17 f16 f15 f14 f13 f12 f11 f10 f9 f8 f7 f6 f5 f4 f3 f2 f1 f0
theorem q_239w_14 {q0 : Nat} {n0 n1 n2 n3 n4 n5 n6 n7 n8 n9 n10 n11 n12 n13 n14 n15 n16 n17 n18 n19 n20 n21 : Int} {H0 H1 H2 H3 : gH} (f0 : n0 ≤ 400) (f1 : 0 ≤ n0) (f2 : n1 ≤ 1) (f3 : 0 ≤ n1) (f4 : n2 ≤ 1) (f5 : 0 ≤ n2) (f6 : n3 ≤ 23) (f7 : 0 ≤ n3) (f8 : n4 = 285) (f9 : n5 ≤ 23) (f10 : 0 ≤ n5) (f11 : n6 = 285) (f12 : (hLe T0 H0 H1 ∧ hFr s_239.2.2.2.2 H0 H1 ∧ hWt T0 H1) ∧ ((Ab_239_56 n6 n5 n4 n3 n2 n1 n0 H0 H1 ∧ Bb_239_56 n6 n5 n4 n3 n2 n1 n0 H0 H1) ∧ preb_239 n6 n5 H0) ∧ some q0 = some (mub_239_56 n6 n5 n4 n3 n2 n1 n0 H0 H1)) (f13 : n7 = 311) (f14 : hK H1 (n4).toNat = 12) (f15 : n7 = hV H1 (n4).toNat 41) (f16 : n8 ≤ 400) (f17 : 0 ≤ n8) (f18 : n8 = hV H1 (n7).toNat (n3).toNat) (f19 : n0 < n8) (f20 : n9 = 317) (f21 : hK H1 (n4).toNat = 12) (f22 : n9 = hV H1 (n4).toNat 48) (f23 : n10 ≤ 1200) (f24 : 0 ≤ n10) (f25 : n10 = hV H1 (n9).toNat (n0).toNat) (f26 : n11 = 318) (f27 : hK H1 (n4).toNat = 12) (f28 : n11 = hV H1 (n4).toNat 49) (f29 : n12 ≤ 1200) (f30 : 0 ≤ n12) (f31 : n12 = hV H1 (n11).toNat (n0).toNat) (f32 : n13 ≤ 2147483647) (f33 : (-2147483648) ≤ n13) (f34 : (hLe T0 H1 H2 ∧ hFr s_238.2.2.2.2 H1 H2 ∧ ((0 : Int) = 0 → H2.length = H1.length) ∧ hWt T0 H2) ∧ (True ∧ nb_238 n13 n4 n10 n12 H1 H2)) (f35 : n14 = 318) (f36 : hK H2 (n4).toNat = 12) (f37 : n14 = hV H2 (n4).toNat 49) (f38 : n15 ≤ 1200) (f39 : 0 ≤ n15) (f40 : n15 = hV H2 (n14).toNat (n0).toNat) (f41 : n16 = 319) (f42 : hK H2 (n4).toNat = 12) (f43 : n16 = hV H2 (n4).toNat 50) (f44 : n17 ≤ 1200) (f45 : 0 ≤ n17) (f46 : n17 = hV H2 (n16).toNat (n0).toNat) (f47 : n18 ≤ 2147483647) (f48 : (-2147483648) ≤ n18) (f49 : (hLe T0 H2 H3 ∧ hFr s_238.2.2.2.2 H2 H3 ∧ ((0 : Int) = 0 → H3.length = H2.length) ∧ hWt T0 H3) ∧ (True ∧ nb_238 n18 n4 n15 n17 H2 H3)) (f50 : n19 = 314) (f51 : hK H3 (n4).toNat = 12) (f52 : n19 = hV H3 (n4).toNat 45) (f53 : n20 ≤ 3) (f54 : 0 ≤ n20) (f55 : n20 = hV H3 (n19).toNat (n0).toNat) (f56 : n20 = 0) (f57 : n13 = n18) (f58 : n21 = 1) : Bb_239_198 n6 n5 n4 n3 n2 n1 n0 n13 n18 n21 H0 H3 := by
  unfold Bb_239_198
  intro u cl ch ll lh c0 l0 rg gr
  obtain ⟨g1, g2, g3⟩ := gr u rfl
  have gb := f12.2.1.1.2
  unfold Bb_239_56 at gb
  obtain ⟨jj, ej, jl, hd_⟩ := gb u cl ch ll lh c0 l0 rg gr
  have ab := f12.2.1.1.1
  unfold Ab_239_56 at ab
  have e1 := ab.1
  have d18 := rdW (q := 311) f18 f13
  have d25 := rdW (q := 317) f25 f20
  have d31 := rdW (q := 318) f31 f26
  have d40 := rdW (q := 318) f40 f35
  have d46 := rdW (q := 319) f46 f41
  have d55 := rdW (q := 314) f55 f50
  have xk : XRk H0 H1 := XRk_fr f12.1.2.1 (by decide +kernel)
  have yk : YRs H0 H1 := YRs_fr f12.1.2.1 (by decide +kernel)
  have zk : ZRs H0 H1 := ZRs_fr f12.1.2.1 (by decide +kernel)
  obtain ⟨r1, r2, r3, r4, r5, r6⟩ := rg
  have v11 : n8 = hV H0 311 (n5).toNat := by rw [d18, zk 311 (by decide) (by decide), e1]
  have hl : jj < u.2.length := by omega
  obtain ⟨li, hli⟩ : ∃ li, u.2[jj]? = some li := ⟨_, List.getElem?_eq_getElem hl⟩
  have lr := LIr_k xk yk (r6 jj li hli)
  obtain ⟨y1, y2, y3, y4, y5⟩ := lr
  have gl := g2 li (List.mem_of_getElem? hli)
  obtain ⟨k0, k3, ge1, ge2⟩ := gl
  have ix : (hV H0 310 (n5).toNat).toNat + jj = (n0).toNat := by omega
  rw [ix] at y1 y2 y3 y4 y5
  have ev0 : VAr H1 = VAr H0 := VAr_eq (fRow f12.1.2.1 323 (by decide +kernel))
  have ev1 : VAr H2 = VAr H0 := (VAr_eq (fRow f34.1.2.1 323 (by decide +kernel))).trans ev0
  have v25 : n10 = hV H1 317 (n0).toNat := by rw [d25]
  have v31 : n12 = hV H1 318 (n0).toNat := by rw [d31]
  have v40 : n15 = hV H1 318 (n0).toNat := by rw [d40, show hV H2 318 = hV H1 318 from fRow f34.1.2.1 318 (by decide +kernel)]
  have v46 : n17 = hV H1 319 (n0).toNat := by rw [d46, show hV H2 319 = hV H1 319 from fRow f34.1.2.1 319 (by decide +kernel)]
  have v55 : n20 = hV H1 314 (n0).toNat := by rw [d55, show hV H3 314 = hV H1 314 from (fRow f49.1.2.1 314 (by decide +kernel)).trans (fRow f34.1.2.1 314 (by decide +kernel))]
  have q1 := f34.2.2
  unfold nb_238 at q1
  rw [v25, v31, ev0] at q1
  have t1 := q1 cl ch li.2.1 y4 c0 ge1
  have q2 := f49.2.2
  unfold nb_238 at q2
  rw [v40, v46, ev1] at q2
  have t2 := q2 cl ch li.2.2 (CDr_k (XRk_fr f34.1.2.1 (by decide +kernel)) y5) c0 ge2
  have ex : n21 = b2i (lCmp li.1.1 n13 n18) := by
    unfold lCmp
    rw [if_pos (show li.1.1 = 0 by omega), decide_eq_true (show n13 = n18 by omega)]
    exact f58
  exact ⟨jj, ej, hl, HD_lit hd_ hli t1 t2 ((f49.1.2.1.1 285 59 (by decide +kernel)).trans (f34.1.2.1.1 285 59 (by decide +kernel))) ex⟩
def g_239w_56_12 : vG := ([(0, [21], [], 1), (40, [13, 18], [], 0), (30, [20], [], 0), (22, [20, 19, 6], [3], 0), (90, [20], [], 0), (91, [20], [], 3), (20, [19, 2], [3], 45), (23, [2], [3], 12), (0, [19], [], 314), (1238, [18, 2, 15, 17], [2, 3], 0), (90, [18], [], -2147483648), (91, [18], [], 2147483647), (22, [17, 16, 6], [2], 0), (90, [17], [], 0), (91, [17], [], 1200), (20, [16, 2], [2], 50), (23, [2], [2], 12), (0, [16], [], 319), (22, [15, 14, 6], [2], 0), (90, [15], [], 0), (91, [15], [], 1200), (20, [14, 2], [2], 49), (23, [2], [2], 12), (0, [14], [], 318), (1238, [13, 2, 10, 12], [1, 2], 0), (90, [13], [], -2147483648), (91, [13], [], 2147483647), (22, [12, 11, 6], [1], 0), (90, [12], [], 0), (91, [12], [], 1200), (20, [11, 2], [1], 49), (23, [2], [1], 12), (0, [11], [], 318), (22, [10, 9, 6], [1], 0), (90, [10], [], 0), (91, [10], [], 1200), (20, [9, 2], [1], 48), (23, [2], [1], 12), (0, [9], [], 317), (42, [6, 8], [], 0), (22, [8, 7, 3], [1], 0), (90, [8], [], 0), (91, [8], [], 400), (20, [7, 2], [1], 41), (23, [2], [1], 12), (0, [7], [], 311), (5000, [0, 1, 2, 3, 4, 5, 6], [0, 1], 56), (0, [0], [], 285), (90, [1], [], 0), (91, [1], [], 23), (0, [2], [], 285), (90, [3], [], 0), (91, [3], [], 23), (90, [4], [], 0), (91, [4], [], 1), (90, [5], [], 0), (91, [5], [], 1), (90, [6], [], 0), (91, [6], [], 400)], (4000, [2, 3, 4, 5, 6, 13, 18, 21], [3], 198))
theorem c_239w_56_12 {q0 : Nat} : vOkm T0 (eN e_239 L_239w A_239 mu_239 n_239 B_239 (some q0)) 2 g_239w_56_12 := vOk_inI fun ρ η f0 f1 f2 f3 f4 f5 f6 f7 f8 f9 f10 f11 f12 f13 f14 f15 f16 f17 f18 f19 f20 f21 f22 f23 f24 f25 f26 f27 f28 f29 f30 f31 f32 f33 f34 f35 f36 f37 f38 f39 f40 f41 f42 f43 f44 f45 f46 f47 f48 f49 f50 f51 f52 f53 f54 f55 f56 f57 f58 => q_239w_14 (q0 := q0) (n0 := ρ 6) (n1 := ρ 5) (n2 := ρ 4) (n3 := ρ 3) (n4 := ρ 2) (n5 := ρ 1) (n6 := ρ 0) (n7 := ρ 7) (n8 := ρ 8) (n9 := ρ 9) (n10 := ρ 10) (n11 := ρ 11) (n12 := ρ 12) (n13 := ρ 13) (n14 := ρ 14) (n15 := ρ 15) (n16 := ρ 16) (n17 := ρ 17) (n18 := ρ 18) (n19 := ρ 19) (n20 := ρ 20) (n21 := ρ 21) (H0 := η 0) (H1 := η 1) (H2 := η 2) (H3 := η 3) f58 f57 f56 f55 f54 f53 f52 f51 f50 f49 f48 f47 f46 f45 f44 f43 f42 f41 f40 f39 f38 f37 f36 f35 f34 f33 f32 f31 f30 f29 f28 f27 f26 f25 f24 f23 f22 f21 f20 f19 f18 f17 f16 f15 f14 f13 f12 f11 f10 f9 f8 f7 f6 f5 f4 f3 f2 f1 f0
def p_239w_56 : List vG := [g_239w_56_0,
  g_239w_56_1,
  g_239w_56_2,
  g_239w_56_3,
  g_239w_56_4,
  g_239w_56_5,
  g_239w_56_6,
  g_239w_56_7,
  g_239w_56_8,
  g_239w_56_9,
  g_239w_56_10,
  g_239w_56_11,
  g_239w_56_12]
theorem r_239w_56 : vCovBO (eRc e_239 L_239 cs_239 2000 (56, [(0, (3, 12, 285, 0)), (1, (0, 0, 23, 0)), (2, (0, 0, 1, 0)), (3, (0, 0, 1, 0)), (4, (0, 0, 400, 0))])) p_239w_56 = true := by decide +kernel
theorem q_239w_15 {q0 : Nat} {n0 n1 n2 n3 n4 n5 n6 n7 n8 n9 n10 n11 : Int} {H0 H1 : gH} (f0 : n0 ≤ 1) (f1 : 0 ≤ n0) (f2 : n1 ≤ 2147483647) (f3 : (-2147483648) ≤ n1) (f4 : n2 ≤ 2147483647) (f5 : (-2147483648) ≤ n2) (f6 : n3 ≤ 399) (f7 : 0 ≤ n3) (f8 : n4 ≤ 1) (f9 : 0 ≤ n4) (f10 : n5 ≤ 1) (f11 : 0 ≤ n5) (f12 : n6 ≤ 23) (f13 : 0 ≤ n6) (f14 : n7 = 285) (f15 : n8 ≤ 23) (f16 : 0 ≤ n8) (f17 : n9 = 285) (f18 : (hLe T0 H0 H1 ∧ hFr s_239.2.2.2.2 H0 H1 ∧ hWt T0 H1) ∧ ((Ab_239_198 n9 n8 n7 n6 n5 n4 n3 n2 n1 n0 H0 H1 ∧ Bb_239_198 n9 n8 n7 n6 n5 n4 n3 n2 n1 n0 H0 H1) ∧ preb_239 n9 n8 H0) ∧ some q0 = some (mub_239_198 n9 n8 n7 n6 n5 n4 n3 n2 n1 n0 H0 H1)) (f19 : n10 = 316) (f20 : hK H1 (n7).toNat = 12) (f21 : n10 = hV H1 (n7).toNat 47) (f22 : n11 ≤ 1) (f23 : 0 ≤ n11) (f24 : n11 = hV H1 (n10).toNat (n3).toNat) (f25 : n11 = 0) : Bb_239_224 n9 n8 n7 n6 n5 n4 n3 n2 n1 n0 H0 H1 := by
  unfold Bb_239_224
  intro u cl ch ll lh c0 l0 rg gr
  obtain ⟨g1, g2, g3⟩ := gr u rfl
  have gb := f18.2.1.1.2
  unfold Bb_239_198 at gb
  obtain ⟨jj, ej, jl, hd_⟩ := gb u cl ch ll lh c0 l0 rg gr
  have ab := f18.2.1.1.1
  unfold Ab_239_198 at ab
  have e1 := ab.1
  have d24 := rdW (q := 316) f24 f19
  have xk : XRk H0 H1 := XRk_fr f18.1.2.1 (by decide +kernel)
  have yk : YRs H0 H1 := YRs_fr f18.1.2.1 (by decide +kernel)
  have zk : ZRs H0 H1 := ZRs_fr f18.1.2.1 (by decide +kernel)
  obtain ⟨r1, r2, r3, r4, r5, r6⟩ := rg
  have en : ∀ l, u.2[jj]? = some l → n11 = b2i l.1.2.2 := fun l hl => by
    have w := (LIr_k xk yk (r6 jj l hl)).2.2.1
    rw [show (hV H0 310 (n8).toNat).toNat + jj = (n3).toNat by omega] at w
    rw [d24]
    exact w
  exact ⟨jj, ej, jl, HD_or hd_ en (by omega) (by omega) (by omega)⟩
def g_239w_198_0 : vG := ([(30, [11], [], 0), (22, [11, 10, 6], [1], 0), (90, [11], [], 0), (91, [11], [], 1), (20, [10, 2], [1], 47), (23, [2], [1], 12), (0, [10], [], 316), (5000, [0, 1, 2, 3, 4, 5, 6, 7, 8, 9], [0, 1], 198), (0, [0], [], 285), (90, [1], [], 0), (91, [1], [], 23), (0, [2], [], 285), (90, [3], [], 0), (91, [3], [], 23), (90, [4], [], 0), (91, [4], [], 1), (90, [5], [], 0), (91, [5], [], 1), (90, [6], [], 0), (91, [6], [], 399), (90, [7], [], -2147483648), (91, [7], [], 2147483647), (90, [8], [], -2147483648), (91, [8], [], 2147483647), (90, [9], [], 0), (91, [9], [], 1)], (4000, [2, 3, 4, 5, 6, 7, 8, 9], [1], 224))
theorem c_239w_198_0 {q0 : Nat} : vOkm T0 (eN e_239 L_239w A_239 mu_239 n_239 B_239 (some q0)) 2 g_239w_198_0 := vOk_inI fun ρ η f0 f1 f2 f3 f4 f5 f6 f7 f8 f9 f10 f11 f12 f13 f14 f15 f16 f17 f18 f19 f20 f21 f22 f23 f24 f25 => q_239w_15 (q0 := q0) (n0 := ρ 9) (n1 := ρ 8) (n2 := ρ 7) (n3 := ρ 6) (n4 := ρ 5) (n5 := ρ 4) (n6 := ρ 3) (n7 := ρ 2) (n8 := ρ 1) (n9 := ρ 0) (n10 := ρ 10) (n11 := ρ 11) (H0 := η 0) (H1 := η 1) f25 f24 f23 f22 f21 f20 f19 f18 f17 f16 f15 f14 f13 f12 f11 f10 f9 f8 f7 f6 f5 f4 f3 f2 f1 f0
theorem q_239w_16 {q0 : Nat} {n0 n1 n2 n3 n4 n5 n6 n7 n8 n9 n10 n11 n12 n13 : Int} {H0 H1 : gH} (f0 : n0 ≤ 1) (f1 : 0 ≤ n0) (f2 : n1 ≤ 2147483647) (f3 : (-2147483648) ≤ n1) (f4 : n2 ≤ 2147483647) (f5 : (-2147483648) ≤ n2) (f6 : n3 ≤ 399) (f7 : 0 ≤ n3) (f8 : n4 ≤ 1) (f9 : 0 ≤ n4) (f10 : n5 ≤ 1) (f11 : 0 ≤ n5) (f12 : n6 ≤ 23) (f13 : 0 ≤ n6) (f14 : n7 = 285) (f15 : n8 ≤ 23) (f16 : 0 ≤ n8) (f17 : n9 = 285) (f18 : (hLe T0 H0 H1 ∧ hFr s_239.2.2.2.2 H0 H1 ∧ hWt T0 H1) ∧ ((Ab_239_198 n9 n8 n7 n6 n5 n4 n3 n2 n1 n0 H0 H1 ∧ Bb_239_198 n9 n8 n7 n6 n5 n4 n3 n2 n1 n0 H0 H1) ∧ preb_239 n9 n8 H0) ∧ some q0 = some (mub_239_198 n9 n8 n7 n6 n5 n4 n3 n2 n1 n0 H0 H1)) (f19 : n10 = 316) (f20 : hK H1 (n7).toNat = 12) (f21 : n10 = hV H1 (n7).toNat 47) (f22 : n11 ≤ 1) (f23 : 0 ≤ n11) (f24 : n11 = hV H1 (n10).toNat (n3).toNat) (f25 : n11 ≠ 0) (f26 : n5 ≠ 0) (f27 : n12 = 1) (f28 : n13 = 1) : Bb_239_224 n9 n8 n7 n6 n12 n13 n3 n2 n1 n0 H0 H1 := by
  unfold Bb_239_224
  intro u cl ch ll lh c0 l0 rg gr
  obtain ⟨g1, g2, g3⟩ := gr u rfl
  have gb := f18.2.1.1.2
  unfold Bb_239_198 at gb
  obtain ⟨jj, ej, jl, hd_⟩ := gb u cl ch ll lh c0 l0 rg gr
  have ab := f18.2.1.1.1
  unfold Ab_239_198 at ab
  have e1 := ab.1
  have d24 := rdW (q := 316) f24 f19
  have xk : XRk H0 H1 := XRk_fr f18.1.2.1 (by decide +kernel)
  have yk : YRs H0 H1 := YRs_fr f18.1.2.1 (by decide +kernel)
  have zk : ZRs H0 H1 := ZRs_fr f18.1.2.1 (by decide +kernel)
  obtain ⟨r1, r2, r3, r4, r5, r6⟩ := rg
  have en : ∀ l, u.2[jj]? = some l → n11 = b2i l.1.2.2 := fun l hl => by
    have w := (LIr_k xk yk (r6 jj l hl)).2.2.1
    rw [show (hV H0 310 (n8).toNat).toNat + jj = (n3).toNat by omega] at w
    rw [d24]
    exact w
  exact ⟨jj, ej, jl, HD_or hd_ en (by omega) (by omega) (by omega)⟩
def g_239w_198_1 : vG := ([(0, [13], [], 1), (0, [12], [], 1), (31, [4], [], 0), (31, [11], [], 0), (22, [11, 10, 6], [1], 0), (90, [11], [], 0), (91, [11], [], 1), (20, [10, 2], [1], 47), (23, [2], [1], 12), (0, [10], [], 316), (5000, [0, 1, 2, 3, 4, 5, 6, 7, 8, 9], [0, 1], 198), (0, [0], [], 285), (90, [1], [], 0), (91, [1], [], 23), (0, [2], [], 285), (90, [3], [], 0), (91, [3], [], 23), (90, [4], [], 0), (91, [4], [], 1), (90, [5], [], 0), (91, [5], [], 1), (90, [6], [], 0), (91, [6], [], 399), (90, [7], [], -2147483648), (91, [7], [], 2147483647), (90, [8], [], -2147483648), (91, [8], [], 2147483647), (90, [9], [], 0), (91, [9], [], 1)], (4000, [2, 3, 12, 13, 6, 7, 8, 9], [1], 224))
theorem c_239w_198_1 {q0 : Nat} : vOkm T0 (eN e_239 L_239w A_239 mu_239 n_239 B_239 (some q0)) 2 g_239w_198_1 := vOk_inI fun ρ η f0 f1 f2 f3 f4 f5 f6 f7 f8 f9 f10 f11 f12 f13 f14 f15 f16 f17 f18 f19 f20 f21 f22 f23 f24 f25 f26 f27 f28 => q_239w_16 (q0 := q0) (n0 := ρ 9) (n1 := ρ 8) (n2 := ρ 7) (n3 := ρ 6) (n4 := ρ 5) (n5 := ρ 4) (n6 := ρ 3) (n7 := ρ 2) (n8 := ρ 1) (n9 := ρ 0) (n10 := ρ 10) (n11 := ρ 11) (n12 := ρ 12) (n13 := ρ 13) (H0 := η 0) (H1 := η 1) f28 f27 f26 f25 f24 f23 f22 f21 f20 f19 f18 f17 f16 f15 f14 f13 f12 f11 f10 f9 f8 f7 f6 f5 f4 f3 f2 f1 f0
theorem q_239w_17 {q0 : Nat} {n0 n1 n2 n3 n4 n5 n6 n7 n8 n9 n10 n11 n12 n13 : Int} {H0 H1 : gH} (f0 : n0 ≤ 1) (f1 : 0 ≤ n0) (f2 : n1 ≤ 2147483647) (f3 : (-2147483648) ≤ n1) (f4 : n2 ≤ 2147483647) (f5 : (-2147483648) ≤ n2) (f6 : n3 ≤ 399) (f7 : 0 ≤ n3) (f8 : n4 ≤ 1) (f9 : 0 ≤ n4) (f10 : n5 ≤ 1) (f11 : 0 ≤ n5) (f12 : n6 ≤ 23) (f13 : 0 ≤ n6) (f14 : n7 = 285) (f15 : n8 ≤ 23) (f16 : 0 ≤ n8) (f17 : n9 = 285) (f18 : (hLe T0 H0 H1 ∧ hFr s_239.2.2.2.2 H0 H1 ∧ hWt T0 H1) ∧ ((Ab_239_198 n9 n8 n7 n6 n5 n4 n3 n2 n1 n0 H0 H1 ∧ Bb_239_198 n9 n8 n7 n6 n5 n4 n3 n2 n1 n0 H0 H1) ∧ preb_239 n9 n8 H0) ∧ some q0 = some (mub_239_198 n9 n8 n7 n6 n5 n4 n3 n2 n1 n0 H0 H1)) (f19 : n10 = 316) (f20 : hK H1 (n7).toNat = 12) (f21 : n10 = hV H1 (n7).toNat 47) (f22 : n11 ≤ 1) (f23 : 0 ≤ n11) (f24 : n11 = hV H1 (n10).toNat (n3).toNat) (f25 : n11 ≠ 0) (f26 : n5 = 0) (f27 : n4 = 0) (f28 : n12 = 0) (f29 : n13 = 1) : Bb_239_224 n9 n8 n7 n6 n12 n13 n3 n2 n1 n0 H0 H1 := by
  unfold Bb_239_224
  intro u cl ch ll lh c0 l0 rg gr
  obtain ⟨g1, g2, g3⟩ := gr u rfl
  have gb := f18.2.1.1.2
  unfold Bb_239_198 at gb
  obtain ⟨jj, ej, jl, hd_⟩ := gb u cl ch ll lh c0 l0 rg gr
  have ab := f18.2.1.1.1
  unfold Ab_239_198 at ab
  have e1 := ab.1
  have d24 := rdW (q := 316) f24 f19
  have xk : XRk H0 H1 := XRk_fr f18.1.2.1 (by decide +kernel)
  have yk : YRs H0 H1 := YRs_fr f18.1.2.1 (by decide +kernel)
  have zk : ZRs H0 H1 := ZRs_fr f18.1.2.1 (by decide +kernel)
  obtain ⟨r1, r2, r3, r4, r5, r6⟩ := rg
  have en : ∀ l, u.2[jj]? = some l → n11 = b2i l.1.2.2 := fun l hl => by
    have w := (LIr_k xk yk (r6 jj l hl)).2.2.1
    rw [show (hV H0 310 (n8).toNat).toNat + jj = (n3).toNat by omega] at w
    rw [d24]
    exact w
  exact ⟨jj, ej, jl, HD_or hd_ en (by omega) (by omega) (by omega)⟩
def g_239w_198_2 : vG := ([(0, [13], [], 1), (0, [12], [], 0), (30, [5], [], 0), (30, [4], [], 0), (31, [11], [], 0), (22, [11, 10, 6], [1], 0), (90, [11], [], 0), (91, [11], [], 1), (20, [10, 2], [1], 47), (23, [2], [1], 12), (0, [10], [], 316), (5000, [0, 1, 2, 3, 4, 5, 6, 7, 8, 9], [0, 1], 198), (0, [0], [], 285), (90, [1], [], 0), (91, [1], [], 23), (0, [2], [], 285), (90, [3], [], 0), (91, [3], [], 23), (90, [4], [], 0), (91, [4], [], 1), (90, [5], [], 0), (91, [5], [], 1), (90, [6], [], 0), (91, [6], [], 399), (90, [7], [], -2147483648), (91, [7], [], 2147483647), (90, [8], [], -2147483648), (91, [8], [], 2147483647), (90, [9], [], 0), (91, [9], [], 1)], (4000, [2, 3, 12, 13, 6, 7, 8, 9], [1], 224))
theorem c_239w_198_2 {q0 : Nat} : vOkm T0 (eN e_239 L_239w A_239 mu_239 n_239 B_239 (some q0)) 2 g_239w_198_2 := vOk_inI fun ρ η f0 f1 f2 f3 f4 f5 f6 f7 f8 f9 f10 f11 f12 f13 f14 f15 f16 f17 f18 f19 f20 f21 f22 f23 f24 f25 f26 f27 f28 f29 => q_239w_17 (q0 := q0) (n0 := ρ 9) (n1 := ρ 8) (n2 := ρ 7) (n3 := ρ 6) (n4 := ρ 5) (n5 := ρ 4) (n6 := ρ 3) (n7 := ρ 2) (n8 := ρ 1) (n9 := ρ 0) (n10 := ρ 10) (n11 := ρ 11) (n12 := ρ 12) (n13 := ρ 13) (H0 := η 0) (H1 := η 1) f29 f28 f27 f26 f25 f24 f23 f22 f21 f20 f19 f18 f17 f16 f15 f14 f13 f12 f11 f10 f9 f8 f7 f6 f5 f4 f3 f2 f1 f0
theorem q_239w_18 {q0 : Nat} {n0 n1 n2 n3 n4 n5 n6 n7 n8 n9 n10 n11 n12 n13 : Int} {H0 H1 : gH} (f0 : n0 ≤ 1) (f1 : 0 ≤ n0) (f2 : n1 ≤ 2147483647) (f3 : (-2147483648) ≤ n1) (f4 : n2 ≤ 2147483647) (f5 : (-2147483648) ≤ n2) (f6 : n3 ≤ 399) (f7 : 0 ≤ n3) (f8 : n4 ≤ 1) (f9 : 0 ≤ n4) (f10 : n5 ≤ 1) (f11 : 0 ≤ n5) (f12 : n6 ≤ 23) (f13 : 0 ≤ n6) (f14 : n7 = 285) (f15 : n8 ≤ 23) (f16 : 0 ≤ n8) (f17 : n9 = 285) (f18 : (hLe T0 H0 H1 ∧ hFr s_239.2.2.2.2 H0 H1 ∧ hWt T0 H1) ∧ ((Ab_239_198 n9 n8 n7 n6 n5 n4 n3 n2 n1 n0 H0 H1 ∧ Bb_239_198 n9 n8 n7 n6 n5 n4 n3 n2 n1 n0 H0 H1) ∧ preb_239 n9 n8 H0) ∧ some q0 = some (mub_239_198 n9 n8 n7 n6 n5 n4 n3 n2 n1 n0 H0 H1)) (f19 : n10 = 316) (f20 : hK H1 (n7).toNat = 12) (f21 : n10 = hV H1 (n7).toNat 47) (f22 : n11 ≤ 1) (f23 : 0 ≤ n11) (f24 : n11 = hV H1 (n10).toNat (n3).toNat) (f25 : n11 ≠ 0) (f26 : n5 = 0) (f27 : n4 ≠ 0) (f28 : n12 = 1) (f29 : n13 = 1) : Bb_239_224 n9 n8 n7 n6 n12 n13 n3 n2 n1 n0 H0 H1 := by
  unfold Bb_239_224
  intro u cl ch ll lh c0 l0 rg gr
  obtain ⟨g1, g2, g3⟩ := gr u rfl
  have gb := f18.2.1.1.2
  unfold Bb_239_198 at gb
  obtain ⟨jj, ej, jl, hd_⟩ := gb u cl ch ll lh c0 l0 rg gr
  have ab := f18.2.1.1.1
  unfold Ab_239_198 at ab
  have e1 := ab.1
  have d24 := rdW (q := 316) f24 f19
  have xk : XRk H0 H1 := XRk_fr f18.1.2.1 (by decide +kernel)
  have yk : YRs H0 H1 := YRs_fr f18.1.2.1 (by decide +kernel)
  have zk : ZRs H0 H1 := ZRs_fr f18.1.2.1 (by decide +kernel)
  obtain ⟨r1, r2, r3, r4, r5, r6⟩ := rg
  have en : ∀ l, u.2[jj]? = some l → n11 = b2i l.1.2.2 := fun l hl => by
    have w := (LIr_k xk yk (r6 jj l hl)).2.2.1
    rw [show (hV H0 310 (n8).toNat).toNat + jj = (n3).toNat by omega] at w
    rw [d24]
    exact w
  exact ⟨jj, ej, jl, HD_or hd_ en (by omega) (by omega) (by omega)⟩
def g_239w_198_3 : vG := ([(0, [13], [], 1), (0, [12], [], 1), (31, [5], [], 0), (30, [4], [], 0), (31, [11], [], 0), (22, [11, 10, 6], [1], 0), (90, [11], [], 0), (91, [11], [], 1), (20, [10, 2], [1], 47), (23, [2], [1], 12), (0, [10], [], 316), (5000, [0, 1, 2, 3, 4, 5, 6, 7, 8, 9], [0, 1], 198), (0, [0], [], 285), (90, [1], [], 0), (91, [1], [], 23), (0, [2], [], 285), (90, [3], [], 0), (91, [3], [], 23), (90, [4], [], 0), (91, [4], [], 1), (90, [5], [], 0), (91, [5], [], 1), (90, [6], [], 0), (91, [6], [], 399), (90, [7], [], -2147483648), (91, [7], [], 2147483647), (90, [8], [], -2147483648), (91, [8], [], 2147483647), (90, [9], [], 0), (91, [9], [], 1)], (4000, [2, 3, 12, 13, 6, 7, 8, 9], [1], 224))
theorem c_239w_198_3 {q0 : Nat} : vOkm T0 (eN e_239 L_239w A_239 mu_239 n_239 B_239 (some q0)) 2 g_239w_198_3 := vOk_inI fun ρ η f0 f1 f2 f3 f4 f5 f6 f7 f8 f9 f10 f11 f12 f13 f14 f15 f16 f17 f18 f19 f20 f21 f22 f23 f24 f25 f26 f27 f28 f29 => q_239w_18 (q0 := q0) (n0 := ρ 9) (n1 := ρ 8) (n2 := ρ 7) (n3 := ρ 6) (n4 := ρ 5) (n5 := ρ 4) (n6 := ρ 3) (n7 := ρ 2) (n8 := ρ 1) (n9 := ρ 0) (n10 := ρ 10) (n11 := ρ 11) (n12 := ρ 12) (n13 := ρ 13) (H0 := η 0) (H1 := η 1) f29 f28 f27 f26 f25 f24 f23 f22 f21 f20 f19 f18 f17 f16 f15 f14 f13 f12 f11 f10 f9 f8 f7 f6 f5 f4 f3 f2 f1 f0
def p_239w_198 : List vG := [g_239w_198_0,
  g_239w_198_1,
  g_239w_198_2,
  g_239w_198_3]
theorem r_239w_198 : vCovBO (eRc e_239 L_239 cs_239 2000 (198, [(0, (3, 12, 285, 0)), (1, (0, 0, 23, 0)), (2, (0, 0, 1, 0)), (3, (0, 0, 1, 0)), (4, (0, 0, 399, 0)), (5, (0, -2147483648, 2147483647, 0)), (6, (0, -2147483648, 2147483647, 0)), (7, (0, 0, 1, 0))])) p_239w_198 = true := by decide +kernel
theorem q_239w_19 {q0 : Nat} {n0 n1 n2 n3 n4 n5 n6 n7 n8 n9 n10 n11 : Int} {H0 H1 : gH} (f0 : n0 ≤ 1) (f1 : 0 ≤ n0) (f2 : n1 ≤ 2147483647) (f3 : (-2147483648) ≤ n1) (f4 : n2 ≤ 2147483647) (f5 : (-2147483648) ≤ n2) (f6 : n3 ≤ 399) (f7 : 0 ≤ n3) (f8 : n4 ≤ 1) (f9 : 0 ≤ n4) (f10 : n5 ≤ 1) (f11 : 0 ≤ n5) (f12 : n6 ≤ 23) (f13 : 0 ≤ n6) (f14 : n7 = 285) (f15 : n8 ≤ 23) (f16 : 0 ≤ n8) (f17 : n9 = 285) (f18 : (hLe T0 H0 H1 ∧ hFr s_239.2.2.2.2 H0 H1 ∧ hWt T0 H1) ∧ ((Ab_239_224 n9 n8 n7 n6 n5 n4 n3 n2 n1 n0 H0 H1 ∧ Bb_239_224 n9 n8 n7 n6 n5 n4 n3 n2 n1 n0 H0 H1) ∧ preb_239 n9 n8 H0) ∧ some q0 = some (mub_239_224 n9 n8 n7 n6 n5 n4 n3 n2 n1 n0 H0 H1)) (f19 : n4 = 0) (f20 : n10 = 0) (f21 : n11 = w32 (n3 + 1)) : Bb_239_56 n9 n8 n7 n6 n5 n10 n11 H0 H1 := by
  unfold Bb_239_56
  intro u cl ch ll lh c0 l0 rg gr
  obtain ⟨g1, g2, g3⟩ := gr u rfl
  have gb := f18.2.1.1.2
  unfold Bb_239_224 at gb
  obtain ⟨jj, ej, jl, hd_⟩ := gb u cl ch ll lh c0 l0 rg gr
  have ab := f18.2.1.1.1
  unfold Ab_239_224 at ab
  have e1 := ab.1
  have xk : XRk H0 H1 := XRk_fr f18.1.2.1 (by decide +kernel)
  have yk : YRs H0 H1 := YRs_fr f18.1.2.1 (by decide +kernel)
  have zk : ZRs H0 H1 := ZRs_fr f18.1.2.1 (by decide +kernel)
  obtain ⟨r1, r2, r3, r4, r5, r6⟩ := rg
  have wn := f21
  unfold w32 at wn
  obtain ⟨li, hli, _⟩ := id hd_
  exact ⟨jj + 1, by show _ = _ + ((jj + 1 : Nat) : Int); omega, jl, HD_and (n := b2i li.1.2.1) hd_ (fun l hl => by rw [hli] at hl; rw [Option.some.inj hl]) (by omega) (by omega)⟩
def g_239w_224_0 : vG := ([(10, [11, 6], [], 1), (0, [10], [], 0), (30, [5], [], 0), (5000, [0, 1, 2, 3, 4, 5, 6, 7, 8, 9], [0, 1], 224), (0, [0], [], 285), (90, [1], [], 0), (91, [1], [], 23), (0, [2], [], 285), (90, [3], [], 0), (91, [3], [], 23), (90, [4], [], 0), (91, [4], [], 1), (90, [5], [], 0), (91, [5], [], 1), (90, [6], [], 0), (91, [6], [], 399), (90, [7], [], -2147483648), (91, [7], [], 2147483647), (90, [8], [], -2147483648), (91, [8], [], 2147483647), (90, [9], [], 0), (91, [9], [], 1)], (4000, [2, 3, 4, 10, 11], [1], 56))
theorem c_239w_224_0 {q0 : Nat} : vOkm T0 (eN e_239 L_239w A_239 mu_239 n_239 B_239 (some q0)) 2 g_239w_224_0 := vOk_inI fun ρ η f0 f1 f2 f3 f4 f5 f6 f7 f8 f9 f10 f11 f12 f13 f14 f15 f16 f17 f18 f19 f20 f21 => q_239w_19 (q0 := q0) (n0 := ρ 9) (n1 := ρ 8) (n2 := ρ 7) (n3 := ρ 6) (n4 := ρ 5) (n5 := ρ 4) (n6 := ρ 3) (n7 := ρ 2) (n8 := ρ 1) (n9 := ρ 0) (n10 := ρ 10) (n11 := ρ 11) (H0 := η 0) (H1 := η 1) f21 f20 f19 f18 f17 f16 f15 f14 f13 f12 f11 f10 f9 f8 f7 f6 f5 f4 f3 f2 f1 f0
theorem q_239w_20 {q0 : Nat} {n0 n1 n2 n3 n4 n5 n6 n7 n8 n9 n10 n11 n12 n13 : Int} {H0 H1 : gH} (f0 : n0 ≤ 1) (f1 : 0 ≤ n0) (f2 : n1 ≤ 2147483647) (f3 : (-2147483648) ≤ n1) (f4 : n2 ≤ 2147483647) (f5 : (-2147483648) ≤ n2) (f6 : n3 ≤ 399) (f7 : 0 ≤ n3) (f8 : n4 ≤ 1) (f9 : 0 ≤ n4) (f10 : n5 ≤ 1) (f11 : 0 ≤ n5) (f12 : n6 ≤ 23) (f13 : 0 ≤ n6) (f14 : n7 = 285) (f15 : n8 ≤ 23) (f16 : 0 ≤ n8) (f17 : n9 = 285) (f18 : (hLe T0 H0 H1 ∧ hFr s_239.2.2.2.2 H0 H1 ∧ hWt T0 H1) ∧ ((Ab_239_224 n9 n8 n7 n6 n5 n4 n3 n2 n1 n0 H0 H1 ∧ Bb_239_224 n9 n8 n7 n6 n5 n4 n3 n2 n1 n0 H0 H1) ∧ preb_239 n9 n8 H0) ∧ some q0 = some (mub_239_224 n9 n8 n7 n6 n5 n4 n3 n2 n1 n0 H0 H1)) (f19 : n4 ≠ 0) (f20 : n10 = 315) (f21 : hK H1 (n7).toNat = 12) (f22 : n10 = hV H1 (n7).toNat 46) (f23 : n11 ≤ 1) (f24 : 0 ≤ n11) (f25 : n11 = hV H1 (n10).toNat (n3).toNat) (f26 : n0 = n11) (f27 : n12 = 0) (f28 : n13 = w32 (n3 + 1)) : Bb_239_56 n9 n8 n7 n6 n5 n12 n13 H0 H1 := by
  unfold Bb_239_56
  intro u cl ch ll lh c0 l0 rg gr
  obtain ⟨g1, g2, g3⟩ := gr u rfl
  have gb := f18.2.1.1.2
  unfold Bb_239_224 at gb
  obtain ⟨jj, ej, jl, hd_⟩ := gb u cl ch ll lh c0 l0 rg gr
  have ab := f18.2.1.1.1
  unfold Ab_239_224 at ab
  have e1 := ab.1
  have d25 := rdW (q := 315) f25 f20
  have xk : XRk H0 H1 := XRk_fr f18.1.2.1 (by decide +kernel)
  have yk : YRs H0 H1 := YRs_fr f18.1.2.1 (by decide +kernel)
  have zk : ZRs H0 H1 := ZRs_fr f18.1.2.1 (by decide +kernel)
  obtain ⟨r1, r2, r3, r4, r5, r6⟩ := rg
  have wn := f28
  unfold w32 at wn
  have en : ∀ l, u.2[jj]? = some l → n11 = b2i l.1.2.1 := fun l hl => by
    have w := (LIr_k xk yk (r6 jj l hl)).2.1
    rw [show (hV H0 310 (n8).toNat).toNat + jj = (n3).toNat by omega] at w
    rw [d25]
    exact w
  exact ⟨jj + 1, by show _ = _ + ((jj + 1 : Nat) : Int); omega, jl, HD_and hd_ en (by omega) (by omega)⟩
def g_239w_224_1 : vG := ([(10, [13, 6], [], 1), (0, [12], [], 0), (40, [9, 11], [], 0), (22, [11, 10, 6], [1], 0), (90, [11], [], 0), (91, [11], [], 1), (20, [10, 2], [1], 46), (23, [2], [1], 12), (0, [10], [], 315), (31, [5], [], 0), (5000, [0, 1, 2, 3, 4, 5, 6, 7, 8, 9], [0, 1], 224), (0, [0], [], 285), (90, [1], [], 0), (91, [1], [], 23), (0, [2], [], 285), (90, [3], [], 0), (91, [3], [], 23), (90, [4], [], 0), (91, [4], [], 1), (90, [5], [], 0), (91, [5], [], 1), (90, [6], [], 0), (91, [6], [], 399), (90, [7], [], -2147483648), (91, [7], [], 2147483647), (90, [8], [], -2147483648), (91, [8], [], 2147483647), (90, [9], [], 0), (91, [9], [], 1)], (4000, [2, 3, 4, 12, 13], [1], 56))
theorem c_239w_224_1 {q0 : Nat} : vOkm T0 (eN e_239 L_239w A_239 mu_239 n_239 B_239 (some q0)) 2 g_239w_224_1 := vOk_inI fun ρ η f0 f1 f2 f3 f4 f5 f6 f7 f8 f9 f10 f11 f12 f13 f14 f15 f16 f17 f18 f19 f20 f21 f22 f23 f24 f25 f26 f27 f28 => q_239w_20 (q0 := q0) (n0 := ρ 9) (n1 := ρ 8) (n2 := ρ 7) (n3 := ρ 6) (n4 := ρ 5) (n5 := ρ 4) (n6 := ρ 3) (n7 := ρ 2) (n8 := ρ 1) (n9 := ρ 0) (n10 := ρ 10) (n11 := ρ 11) (n12 := ρ 12) (n13 := ρ 13) (H0 := η 0) (H1 := η 1) f28 f27 f26 f25 f24 f23 f22 f21 f20 f19 f18 f17 f16 f15 f14 f13 f12 f11 f10 f9 f8 f7 f6 f5 f4 f3 f2 f1 f0
theorem q_239w_21 {q0 : Nat} {n0 n1 n2 n3 n4 n5 n6 n7 n8 n9 n10 n11 n12 n13 : Int} {H0 H1 : gH} (f0 : n0 ≤ 1) (f1 : 0 ≤ n0) (f2 : n1 ≤ 2147483647) (f3 : (-2147483648) ≤ n1) (f4 : n2 ≤ 2147483647) (f5 : (-2147483648) ≤ n2) (f6 : n3 ≤ 399) (f7 : 0 ≤ n3) (f8 : n4 ≤ 1) (f9 : 0 ≤ n4) (f10 : n5 ≤ 1) (f11 : 0 ≤ n5) (f12 : n6 ≤ 23) (f13 : 0 ≤ n6) (f14 : n7 = 285) (f15 : n8 ≤ 23) (f16 : 0 ≤ n8) (f17 : n9 = 285) (f18 : (hLe T0 H0 H1 ∧ hFr s_239.2.2.2.2 H0 H1 ∧ hWt T0 H1) ∧ ((Ab_239_224 n9 n8 n7 n6 n5 n4 n3 n2 n1 n0 H0 H1 ∧ Bb_239_224 n9 n8 n7 n6 n5 n4 n3 n2 n1 n0 H0 H1) ∧ preb_239 n9 n8 H0) ∧ some q0 = some (mub_239_224 n9 n8 n7 n6 n5 n4 n3 n2 n1 n0 H0 H1)) (f19 : n4 ≠ 0) (f20 : n10 = 315) (f21 : hK H1 (n7).toNat = 12) (f22 : n10 = hV H1 (n7).toNat 46) (f23 : n11 ≤ 1) (f24 : 0 ≤ n11) (f25 : n11 = hV H1 (n10).toNat (n3).toNat) (f26 : n0 ≠ n11) (f27 : n12 = 1) (f28 : n13 = w32 (n3 + 1)) : Bb_239_56 n9 n8 n7 n6 n5 n12 n13 H0 H1 := by
  unfold Bb_239_56
  intro u cl ch ll lh c0 l0 rg gr
  obtain ⟨g1, g2, g3⟩ := gr u rfl
  have gb := f18.2.1.1.2
  unfold Bb_239_224 at gb
  obtain ⟨jj, ej, jl, hd_⟩ := gb u cl ch ll lh c0 l0 rg gr
  have ab := f18.2.1.1.1
  unfold Ab_239_224 at ab
  have e1 := ab.1
  have d25 := rdW (q := 315) f25 f20
  have xk : XRk H0 H1 := XRk_fr f18.1.2.1 (by decide +kernel)
  have yk : YRs H0 H1 := YRs_fr f18.1.2.1 (by decide +kernel)
  have zk : ZRs H0 H1 := ZRs_fr f18.1.2.1 (by decide +kernel)
  obtain ⟨r1, r2, r3, r4, r5, r6⟩ := rg
  have wn := f28
  unfold w32 at wn
  have en : ∀ l, u.2[jj]? = some l → n11 = b2i l.1.2.1 := fun l hl => by
    have w := (LIr_k xk yk (r6 jj l hl)).2.1
    rw [show (hV H0 310 (n8).toNat).toNat + jj = (n3).toNat by omega] at w
    rw [d25]
    exact w
  exact ⟨jj + 1, by show _ = _ + ((jj + 1 : Nat) : Int); omega, jl, HD_and hd_ en (by omega) (by omega)⟩
def g_239w_224_2 : vG := ([(10, [13, 6], [], 1), (0, [12], [], 1), (41, [9, 11], [], 0), (22, [11, 10, 6], [1], 0), (90, [11], [], 0), (91, [11], [], 1), (20, [10, 2], [1], 46), (23, [2], [1], 12), (0, [10], [], 315), (31, [5], [], 0), (5000, [0, 1, 2, 3, 4, 5, 6, 7, 8, 9], [0, 1], 224), (0, [0], [], 285), (90, [1], [], 0), (91, [1], [], 23), (0, [2], [], 285), (90, [3], [], 0), (91, [3], [], 23), (90, [4], [], 0), (91, [4], [], 1), (90, [5], [], 0), (91, [5], [], 1), (90, [6], [], 0), (91, [6], [], 399), (90, [7], [], -2147483648), (91, [7], [], 2147483647), (90, [8], [], -2147483648), (91, [8], [], 2147483647), (90, [9], [], 0), (91, [9], [], 1)], (4000, [2, 3, 4, 12, 13], [1], 56))
theorem c_239w_224_2 {q0 : Nat} : vOkm T0 (eN e_239 L_239w A_239 mu_239 n_239 B_239 (some q0)) 2 g_239w_224_2 := vOk_inI fun ρ η f0 f1 f2 f3 f4 f5 f6 f7 f8 f9 f10 f11 f12 f13 f14 f15 f16 f17 f18 f19 f20 f21 f22 f23 f24 f25 f26 f27 f28 => q_239w_21 (q0 := q0) (n0 := ρ 9) (n1 := ρ 8) (n2 := ρ 7) (n3 := ρ 6) (n4 := ρ 5) (n5 := ρ 4) (n6 := ρ 3) (n7 := ρ 2) (n8 := ρ 1) (n9 := ρ 0) (n10 := ρ 10) (n11 := ρ 11) (n12 := ρ 12) (n13 := ρ 13) (H0 := η 0) (H1 := η 1) f28 f27 f26 f25 f24 f23 f22 f21 f20 f19 f18 f17 f16 f15 f14 f13 f12 f11 f10 f9 f8 f7 f6 f5 f4 f3 f2 f1 f0
def p_239w_224 : List vG := [g_239w_224_0,
  g_239w_224_1,
  g_239w_224_2]
theorem r_239w_224 : vCovBO (eRc e_239 L_239 cs_239 2000 (224, [(0, (3, 12, 285, 0)), (1, (0, 0, 23, 0)), (2, (0, 0, 1, 0)), (3, (0, 0, 1, 0)), (4, (0, 0, 399, 0)), (5, (0, -2147483648, 2147483647, 0)), (6, (0, -2147483648, 2147483647, 0)), (7, (0, 0, 1, 0))])) p_239w_224 = true := by decide +kernel
theorem m_239w (d : Nat) : eC e_239w (d + 2) := eC_ref (e := e_239) (L := L_239) (L' := L_239w) (cs := cs_239) (n := 2000) (d := d + 1) (A := A_239) (μ := mu_239) (tp := true) (p0 := p_239_s) (p1 := p_239w_s) (N := n_239) (B := B_239) rfl ⟨m_238w d, trivial⟩ rfl (.inl rfl) (by decide +kernel) (fun _ => post0_ok) r_239_s (allC c_239_s_0 (allC c_239_s_1 (allC c_239_s_2 allN))) (allC (.inl ⟨p_239_56, r_239_56, fun q0 => (allC c_239_56_0 (allC c_239_56_1 (allC c_239_56_2 (allC c_239_56_3 (allC c_239_56_4 (allC c_239_56_5 (allC c_239_56_6 (allC c_239_56_7 (allC c_239_56_8 (allC c_239_56_9 (allC c_239_56_10 (allC c_239_56_11 (allC c_239_56_12 (allC c_239_56_13 (allC c_239_56_14 (allC c_239_56_15 (allC c_239_56_16 (allC c_239_56_17 (allC c_239_56_18 (allC c_239_56_19 (allC c_239_56_20 (allC c_239_56_21 (allC c_239_56_22 (allC c_239_56_23 (allC c_239_56_24 allN)))))))))))))))))))))))))⟩) (allC (.inl ⟨p_239_198, r_239_198, fun q0 => (allC c_239_198_0 (allC c_239_198_1 (allC c_239_198_2 (allC c_239_198_3 allN))))⟩) (allC (.inl ⟨p_239_224, r_239_224, fun q0 => (allC c_239_224_0 (allC c_239_224_1 (allC c_239_224_2 (allC c_239_224_3 (allC c_239_224_4 (allC c_239_224_5 (allC c_239_224_6 (allC c_239_224_7 (allC c_239_224_8 allN)))))))))⟩) allN))) (sub1 trivial) r_239w_s (allC c_239w_s_0 (allC c_239w_s_1 allN)) (allC ⟨p_239w_56, r_239w_56, fun q0 => (allC c_239w_56_0 (allC c_239w_56_1 (allC c_239w_56_2 (allC c_239w_56_3 (allC c_239w_56_4 (allC c_239w_56_5 (allC c_239w_56_6 (allC c_239w_56_7 (allC c_239w_56_8 (allC c_239w_56_9 (allC c_239w_56_10 (allC c_239w_56_11 (allC c_239w_56_12 allN)))))))))))))⟩ (allC ⟨p_239w_198, r_239w_198, fun q0 => (allC c_239w_198_0 (allC c_239w_198_1 (allC c_239w_198_2 (allC c_239w_198_3 allN))))⟩ (allC ⟨p_239w_224, r_239w_224, fun q0 => (allC c_239w_224_0 (allC c_239w_224_1 (allC c_239w_224_2 allN)))⟩ allN)))
