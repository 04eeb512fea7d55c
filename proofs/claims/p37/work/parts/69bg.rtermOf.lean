/- MixStageModel.termOf (II)I, more fully -/
def nb_238 (r a0 a1 a2 : Int) (h0 h : gH) : Prop := ∀ (cl ch : Int) (l : List Op), CDr h0 cl ch a1 a2 l → 0 ≤ cl → GE l → TMp h0 h (VAr h0) l r
def n_238 : List Int → gH → gH → Prop := fun xs h0 h => match xs with
  | [r, a0, a1, a2] => nb_238 r a0 a1 a2 h0 h
  | _ => True
noncomputable def e_238w : vE := eV e_238 n_238
noncomputable def L_238w : List vE := []
def Bb_238_5 (a0 a1 a2 x0 x1 x2 x3 x4 : Int) (h0 h : gH) : Prop := ∀ (cl ch : Int) (l : List Op), CDr h0 cl ch a1 a2 l → 0 ≤ cl → GE l → TMi h (VAr h0) a1 x4 x3 l ∧ hV h 285 58 = hV h0 285 58
def B_238 : Int → List Int → gH → gH → Prop := fun c xs h0 h => match c.toNat with
  | 5 => (match xs with
    | [a0, a1, a2, x0, x1, x2, x3, x4] => Bb_238_5 a0 a1 a2 x0 x1 x2 x3 x4 h0 h
    | _ => False)
  | _ => True
theorem q_238w_0 {n0 n1 n2 n3 : Int} {H0 : gH} (f0 : n0 ≤ 1200) (f1 : 0 ≤ n0) (f2 : n1 ≤ 1200) (f3 : 0 ≤ n1) (f4 : n2 = 285) (f5 : hWt T0 H0 ∧ preb_238 n2 n1 n0 H0) (f6 : n3 = 0) : Bb_238_5 n2 n1 n0 n2 n1 n0 n3 n1 H0 H0 := by
  unfold Bb_238_5
  intro cl ch l cd c0 ge
  exact ⟨TM_0 (by omega), rfl⟩
def g_238w_s_0 : vG := ([(0, [3], [], 0), (6000, [0, 1, 2], [0], 0), (0, [0], [], 285), (90, [1], [], 0), (91, [1], [], 1200), (90, [2], [], 0), (91, [2], [], 1200)], (4000, [0, 1, 2, 3, 1], [0], 5))
theorem c_238w_s_0 : vOkm T0 (eN e_238 L_238w A_238 mu_238 n_238 B_238 none) 3 g_238w_s_0 := vOk_inI fun ρ η f0 f1 f2 f3 f4 f5 f6 => q_238w_0 (n0 := ρ 2) (n1 := ρ 1) (n2 := ρ 0) (n3 := ρ 3) (H0 := η 0) f6 f5 f4 f3 f2 f1 f0
def p_238w_s : List vG := [g_238w_s_0]
theorem r_238w_s : vCovBO (eR0 e_238 L_238 cs_238 2000) p_238w_s = true := by decide +kernel
theorem q_238w_1 {q0 : Nat} {n0 n1 n2 n3 n4 n5 n6 n7 n8 : Int} {H0 H1 : gH} (f0 : n0 ≤ 1200) (f1 : 0 ≤ n0) (f2 : n1 ≤ 500) (f3 : 0 ≤ n1) (f4 : n2 ≤ 1200) (f5 : 0 ≤ n2) (f6 : n3 ≤ 1200) (f7 : 0 ≤ n3) (f8 : n4 = 285) (f9 : n5 ≤ 1200) (f10 : 0 ≤ n5) (f11 : n6 ≤ 1200) (f12 : 0 ≤ n6) (f13 : n7 = 285) (f14 : (hLe T0 H0 H1 ∧ hFr s_238.2.2.2.2 H0 H1 ∧ hWt T0 H1) ∧ ((Ab_238_5 n7 n6 n5 n4 n3 n2 n1 n0 H0 H1 ∧ Bb_238_5 n7 n6 n5 n4 n3 n2 n1 n0 H0 H1) ∧ preb_238 n7 n6 n5 H0) ∧ some q0 = some (mub_238_5 n7 n6 n5 n4 n3 n2 n1 n0 H0 H1)) (f15 : n2 ≤ n0) (f16 : n1 ≤ 0) (f17 : n8 = 0) : nb_238 n8 n7 n6 n5 H0 H1 := by
  unfold nb_238
  intro cl ch l cd c0 ge
  have gb := f14.2.1.1.2
  unfold Bb_238_5 at gb
  obtain ⟨tm, e58⟩ := gb cl ch l cd c0 ge
  have ab := f14.2.1.1.1
  unfold Ab_238_5 at ab
  obtain ⟨b1, b2, b3, b4, b5⟩ := ab
  have c1 := cd.1
  have c2 := cd.2.1
  have te := TM_end tm ge (by omega)
  exfalso
  have := te.2.1
  omega
def g_238w_5_0 : vG := ([(0, [8], [], 0), (35, [6], [], 0), (43, [7, 5], [], 0), (5000, [0, 1, 2, 3, 4, 5, 6, 7], [0, 1], 5), (0, [0], [], 285), (90, [1], [], 0), (91, [1], [], 1200), (90, [2], [], 0), (91, [2], [], 1200), (0, [3], [], 285), (90, [4], [], 0), (91, [4], [], 1200), (90, [5], [], 0), (91, [5], [], 1200), (90, [6], [], 0), (91, [6], [], 500), (90, [7], [], 0), (91, [7], [], 1200)], (3000, [8], [1], 179))
theorem c_238w_5_0 {q0 : Nat} : vOkm T0 (eN e_238 L_238w A_238 mu_238 n_238 B_238 (some q0)) 3 g_238w_5_0 := vOk_inI fun ρ η f0 f1 f2 f3 f4 f5 f6 f7 f8 f9 f10 f11 f12 f13 f14 f15 f16 f17 => q_238w_1 (q0 := q0) (n0 := ρ 7) (n1 := ρ 6) (n2 := ρ 5) (n3 := ρ 4) (n4 := ρ 3) (n5 := ρ 2) (n6 := ρ 1) (n7 := ρ 0) (n8 := ρ 8) (H0 := η 0) (H1 := η 1) f17 f16 f15 f14 f13 f12 f11 f10 f9 f8 f7 f6 f5 f4 f3 f2 f1 f0
theorem q_238w_2 {q0 : Nat} {n0 n1 n2 n3 n4 n5 n6 n7 n8 n9 n10 : Int} {H0 H1 : gH} (f0 : n0 ≤ 1200) (f1 : 0 ≤ n0) (f2 : n1 ≤ 500) (f3 : 0 ≤ n1) (f4 : n2 ≤ 1200) (f5 : 0 ≤ n2) (f6 : n3 ≤ 1200) (f7 : 0 ≤ n3) (f8 : n4 = 285) (f9 : n5 ≤ 1200) (f10 : 0 ≤ n5) (f11 : n6 ≤ 1200) (f12 : 0 ≤ n6) (f13 : n7 = 285) (f14 : (hLe T0 H0 H1 ∧ hFr s_238.2.2.2.2 H0 H1 ∧ hWt T0 H1) ∧ ((Ab_238_5 n7 n6 n5 n4 n3 n2 n1 n0 H0 H1 ∧ Bb_238_5 n7 n6 n5 n4 n3 n2 n1 n0 H0 H1) ∧ preb_238 n7 n6 n5 H0) ∧ some q0 = some (mub_238_5 n7 n6 n5 n4 n3 n2 n1 n0 H0 H1)) (f15 : n2 ≤ n0) (f16 : 0 < n1) (f17 : n8 = 324) (f18 : hK H1 (n4).toNat = 12) (f19 : n8 = hV H1 (n4).toNat 57) (f20 : n9 = 0) (f21 : n10 ≤ 2147483647) (f22 : (-2147483648) ≤ n10) (f23 : n10 = hV H1 (n8).toNat (n9).toNat) : nb_238 n10 n7 n6 n5 H0 H1 := by
  unfold nb_238
  intro cl ch l cd c0 ge
  have gb := f14.2.1.1.2
  unfold Bb_238_5 at gb
  obtain ⟨tm, e58⟩ := gb cl ch l cd c0 ge
  have ab := f14.2.1.1.1
  unfold Ab_238_5 at ab
  obtain ⟨b1, b2, b3, b4, b5⟩ := ab
  have c1 := cd.1
  have c2 := cd.2.1
  have d23 := rdW (q := 324) f23 f17
  have te := TM_end tm ge (by omega)
  refine .inl ⟨te.1, ?_, e58⟩
  have w := d23
  rw [f20] at w
  exact w.trans te.2.2
def g_238w_5_1 : vG := ([(22, [10, 8, 9], [1], 0), (90, [10], [], -2147483648), (91, [10], [], 2147483647), (0, [9], [], 0), (20, [8, 3], [1], 57), (23, [3], [1], 12), (0, [8], [], 324), (34, [6], [], 0), (43, [7, 5], [], 0), (5000, [0, 1, 2, 3, 4, 5, 6, 7], [0, 1], 5), (0, [0], [], 285), (90, [1], [], 0), (91, [1], [], 1200), (90, [2], [], 0), (91, [2], [], 1200), (0, [3], [], 285), (90, [4], [], 0), (91, [4], [], 1200), (90, [5], [], 0), (91, [5], [], 1200), (90, [6], [], 0), (91, [6], [], 500), (90, [7], [], 0), (91, [7], [], 1200)], (3000, [10], [1], 179))
theorem c_238w_5_1 {q0 : Nat} : vOkm T0 (eN e_238 L_238w A_238 mu_238 n_238 B_238 (some q0)) 3 g_238w_5_1 := vOk_inI fun ρ η f0 f1 f2 f3 f4 f5 f6 f7 f8 f9 f10 f11 f12 f13 f14 f15 f16 f17 f18 f19 f20 f21 f22 f23 => q_238w_2 (q0 := q0) (n0 := ρ 7) (n1 := ρ 6) (n2 := ρ 5) (n3 := ρ 4) (n4 := ρ 3) (n5 := ρ 2) (n6 := ρ 1) (n7 := ρ 0) (n8 := ρ 8) (n9 := ρ 9) (n10 := ρ 10) (H0 := η 0) (H1 := η 1) f23 f22 f21 f20 f19 f18 f17 f16 f15 f14 f13 f12 f11 f10 f9 f8 f7 f6 f5 f4 f3 f2 f1 f0
theorem q_238w_3 {q0 : Nat} {n0 n1 n2 n3 n4 n5 n6 n7 n8 n9 n10 n11 n12 n13 n14 n15 n16 n17 n18 n19 n20 n21 n22 n23 n24 n25 n26 : Int} {H0 H1 H2 : gH} (f0 : n0 ≤ 1200) (f1 : 0 ≤ n0) (f2 : n1 ≤ 500) (f3 : 0 ≤ n1) (f4 : n2 ≤ 1200) (f5 : 0 ≤ n2) (f6 : n3 ≤ 1200) (f7 : 0 ≤ n3) (f8 : n4 = 285) (f9 : n5 ≤ 1200) (f10 : 0 ≤ n5) (f11 : n6 ≤ 1200) (f12 : 0 ≤ n6) (f13 : n7 = 285) (f14 : (hLe T0 H0 H1 ∧ hFr s_238.2.2.2.2 H0 H1 ∧ hWt T0 H1) ∧ ((Ab_238_5 n7 n6 n5 n4 n3 n2 n1 n0 H0 H1 ∧ Bb_238_5 n7 n6 n5 n4 n3 n2 n1 n0 H0 H1) ∧ preb_238 n7 n6 n5 H0) ∧ some q0 = some (mub_238_5 n7 n6 n5 n4 n3 n2 n1 n0 H0 H1)) (f15 : n0 < n2) (f16 : n8 = 320) (f17 : hK H1 (n4).toNat = 12) (f18 : n8 = hV H1 (n4).toNat 52) (f19 : n9 ≤ 5) (f20 : 0 ≤ n9) (f21 : n9 = hV H1 (n8).toNat (n0).toNat) (f22 : n10 = 2) (f23 : n10 ≤ n9) (f24 : n11 = w32 (n1 + (-1))) (f25 : n12 = 324) (f26 : hK H1 (n4).toNat = 12) (f27 : n12 = hV H1 (n4).toNat 57) (f28 : n13 = 1) (f29 : n14 = w32 (n11 - n13)) (f30 : n15 ≤ 2147483647) (f31 : (-2147483648) ≤ n15) (f32 : n15 = hV H1 (n12).toNat (n14).toNat) (f33 : n16 = 324) (f34 : hK H1 (n4).toNat = 12) (f35 : n16 = hV H1 (n4).toNat 57) (f36 : n17 ≤ 2147483647) (f37 : (-2147483648) ≤ n17) (f38 : n17 = hV H1 (n16).toNat (n11).toNat) (f39 : n18 = 5) (f40 : n9 ≠ n18) (f41 : n19 = 324) (f42 : hK H1 (n4).toNat = 12) (f43 : n19 = hV H1 (n4).toNat 57) (f44 : n20 = 1) (f45 : n21 = w32 (n11 - n20)) (f46 : n22 = 2) (f47 : n9 ≠ n22) (f48 : n23 = 3) (f49 : n9 ≠ n23) (f50 : n24 = 4) (f51 : n9 ≠ n24) (f52 : n25 = o32 (fun x y => x / y) n15 n17) (f53 : hK H1 (n19).toNat = 420) (f54 : hUpd H2 H1 n19 n21 n25) (f55 : n26 = w32 (n0 + 1)) : Bb_238_5 n7 n6 n5 n4 n3 n2 n11 n26 H0 H2 := by
  unfold Bb_238_5
  intro cl ch l cd c0 ge
  have gb := f14.2.1.1.2
  unfold Bb_238_5 at gb
  obtain ⟨tm, e58⟩ := gb cl ch l cd c0 ge
  have ab := f14.2.1.1.1
  unfold Ab_238_5 at ab
  obtain ⟨b1, b2, b3, b4, b5⟩ := ab
  have c1 := cd.1
  have c2 := cd.2.1
  have d21 := rdW (q := 320) f21 f16
  have d32 := rdW (q := 324) f32 f25
  have d38 := rdW (q := 324) f38 f33
  have hl : (n0 - n6).toNat < l.length := by omega
  obtain ⟨op, ho⟩ : ∃ op, l[(n0 - n6).toNat]? = some op := ⟨_, List.getElem?_eq_getElem hl⟩
  have oc := cd.2.2.2 _ _ ho
  have oo := ge.1 op (List.mem_of_getElem? ho)
  have b320 : hV H1 320 = hV H0 320 := fRow f14.1.2.1 320 (by decide +kernel)
  have b321 : hV H1 321 = hV H0 321 := fRow f14.1.2.1 321 (by decide +kernel)
  have k0 : n9 = op.1 := by
    rw [d21, b320, ← oc.1]
    congr 1
    omega
  have w29 := f29
  rw [f28] at w29
  unfold w32 at w29
  have w45 := f45
  rw [f44] at w45
  unfold w32 at w45
  have w24 := f24
  unfold w32 at w24
  have w55 := f55
  unfold w32 at w55
  have tp := TM_two tm ho ge (by omega)
  have t2 : 2 ≤ n1 := by
    obtain ⟨y, x, q, _, h, _⟩ := tp
    omega
  have ea : n15 = hV H1 324 (n1 - 2).toNat := by
    rw [d32]
    congr 1
    omega
  have eb : n17 = hV H1 324 (n1 - 1).toNat := by
    rw [d38]
    congr 1
    omega
  exfalso
  rcases oo with w | w | w <;> omega
def g_238w_5_2 : vG := ([(10, [26, 7], [], 1), (80, [19, 21, 25], [2, 1], 0), (23, [19], [1], 420), (11, [25, 15, 17], [], 0), (41, [9, 24], [], 0), (0, [24], [], 4), (41, [9, 23], [], 0), (0, [23], [], 3), (41, [9, 22], [], 0), (0, [22], [], 2), (2, [21, 11, 20], [], 0), (0, [20], [], 1), (20, [19, 3], [1], 57), (23, [3], [1], 12), (0, [19], [], 324), (41, [9, 18], [], 0), (0, [18], [], 5), (22, [17, 16, 11], [1], 0), (90, [17], [], -2147483648), (91, [17], [], 2147483647), (20, [16, 3], [1], 57), (23, [3], [1], 12), (0, [16], [], 324), (22, [15, 12, 14], [1], 0), (90, [15], [], -2147483648), (91, [15], [], 2147483647), (2, [14, 11, 13], [], 0), (0, [13], [], 1), (20, [12, 3], [1], 57), (23, [3], [1], 12), (0, [12], [], 324), (10, [11, 6], [], -1), (43, [9, 10], [], 0), (0, [10], [], 2), (22, [9, 8, 7], [1], 0), (90, [9], [], 0), (91, [9], [], 5), (20, [8, 3], [1], 52), (23, [3], [1], 12), (0, [8], [], 320), (42, [7, 5], [], 0), (5000, [0, 1, 2, 3, 4, 5, 6, 7], [0, 1], 5), (0, [0], [], 285), (90, [1], [], 0), (91, [1], [], 1200), (90, [2], [], 0), (91, [2], [], 1200), (0, [3], [], 285), (90, [4], [], 0), (91, [4], [], 1200), (90, [5], [], 0), (91, [5], [], 1200), (90, [6], [], 0), (91, [6], [], 500), (90, [7], [], 0), (91, [7], [], 1200)], (4000, [3, 4, 5, 11, 26], [2], 5))
theorem c_238w_5_2 {q0 : Nat} : vOkm T0 (eN e_238 L_238w A_238 mu_238 n_238 B_238 (some q0)) 3 g_238w_5_2 := vOk_inI fun ρ η f0 f1 f2 f3 f4 f5 f6 f7 f8 f9 f10 f11 f12 f13 f14 f15 f16 f17 f18 f19 f20 f21 f22 f23 f24 f25 f26 f27 f28 f29 f30 f31 f32 f33 f34 f35 f36 f37 f38 f39 f40 f41 f42 f43 f44 f45 f46 f47 f48 f49 f50 f51 f52 f53 f54 f55 => q_238w_3 (q0 := q0) (n0 := ρ 7) (n1 := ρ 6) (n2 := ρ 5) (n3 := ρ 4) (n4 := ρ 3) (n5 := ρ 2) (n6 := ρ 1) (n7 := ρ 0) (n8 := ρ 8) (n9 := ρ 9) (n10 := ρ 10) (n11 := ρ 11) (n12 := ρ 12) (n13 := ρ 13) (n14 := ρ 14) (n15 := ρ 15) (n16 := ρ 16) (n17 := ρ 17) (n18 := ρ 18) (n19 := ρ 19) (n20 := ρ 20) (n21 := ρ 21) (n22 := ρ 22) (n23 := ρ 23) (n24 := ρ 24) (n25 := ρ 25) (n26 := ρ 26) (H0 := η 0) (H1 := η 1) (H2 := η 2) f55 f54 f53 f52 f51 f50 f49 f48 f47 f46 f45 f44 f43 f42 f41 f40 f39 f38 f37 f36 f35 f34 f33 f32 f31 f30 f29 f28 f27 f26 f25 f24 f23 f22 f21 f20 f19 f18 f17 f16 f15 f14 f13 f12 f11 f10 f9 f8 f7 f6 f5 f4 f3 f2 f1 f0
theorem q_238w_4 {q0 : Nat} {n0 n1 n2 n3 n4 n5 n6 n7 n8 n9 n10 n11 n12 n13 n14 n15 n16 n17 n18 n19 n20 n21 n22 n23 n24 n25 n26 : Int} {H0 H1 H2 : gH} (f0 : n0 ≤ 1200) (f1 : 0 ≤ n0) (f2 : n1 ≤ 500) (f3 : 0 ≤ n1) (f4 : n2 ≤ 1200) (f5 : 0 ≤ n2) (f6 : n3 ≤ 1200) (f7 : 0 ≤ n3) (f8 : n4 = 285) (f9 : n5 ≤ 1200) (f10 : 0 ≤ n5) (f11 : n6 ≤ 1200) (f12 : 0 ≤ n6) (f13 : n7 = 285) (f14 : (hLe T0 H0 H1 ∧ hFr s_238.2.2.2.2 H0 H1 ∧ hWt T0 H1) ∧ ((Ab_238_5 n7 n6 n5 n4 n3 n2 n1 n0 H0 H1 ∧ Bb_238_5 n7 n6 n5 n4 n3 n2 n1 n0 H0 H1) ∧ preb_238 n7 n6 n5 H0) ∧ some q0 = some (mub_238_5 n7 n6 n5 n4 n3 n2 n1 n0 H0 H1)) (f15 : n0 < n2) (f16 : n8 = 320) (f17 : hK H1 (n4).toNat = 12) (f18 : n8 = hV H1 (n4).toNat 52) (f19 : n9 ≤ 5) (f20 : 0 ≤ n9) (f21 : n9 = hV H1 (n8).toNat (n0).toNat) (f22 : n10 = 2) (f23 : n10 ≤ n9) (f24 : n11 = w32 (n1 + (-1))) (f25 : n12 = 324) (f26 : hK H1 (n4).toNat = 12) (f27 : n12 = hV H1 (n4).toNat 57) (f28 : n13 = 1) (f29 : n14 = w32 (n11 - n13)) (f30 : n15 ≤ 2147483647) (f31 : (-2147483648) ≤ n15) (f32 : n15 = hV H1 (n12).toNat (n14).toNat) (f33 : n16 = 324) (f34 : hK H1 (n4).toNat = 12) (f35 : n16 = hV H1 (n4).toNat 57) (f36 : n17 ≤ 2147483647) (f37 : (-2147483648) ≤ n17) (f38 : n17 = hV H1 (n16).toNat (n11).toNat) (f39 : n18 = 5) (f40 : n9 ≠ n18) (f41 : n19 = 324) (f42 : hK H1 (n4).toNat = 12) (f43 : n19 = hV H1 (n4).toNat 57) (f44 : n20 = 1) (f45 : n21 = w32 (n11 - n20)) (f46 : n22 = 2) (f47 : n9 ≠ n22) (f48 : n23 = 3) (f49 : n9 ≠ n23) (f50 : n24 = 4) (f51 : n9 = n24) (f52 : n25 = w32 (n15 * n17)) (f53 : hK H1 (n19).toNat = 420) (f54 : hUpd H2 H1 n19 n21 n25) (f55 : n26 = w32 (n0 + 1)) : Bb_238_5 n7 n6 n5 n4 n3 n2 n11 n26 H0 H2 := by
  unfold Bb_238_5
  intro cl ch l cd c0 ge
  have gb := f14.2.1.1.2
  unfold Bb_238_5 at gb
  obtain ⟨tm, e58⟩ := gb cl ch l cd c0 ge
  have ab := f14.2.1.1.1
  unfold Ab_238_5 at ab
  obtain ⟨b1, b2, b3, b4, b5⟩ := ab
  have c1 := cd.1
  have c2 := cd.2.1
  have d21 := rdW (q := 320) f21 f16
  have d32 := rdW (q := 324) f32 f25
  have d38 := rdW (q := 324) f38 f33
  have hl : (n0 - n6).toNat < l.length := by omega
  obtain ⟨op, ho⟩ : ∃ op, l[(n0 - n6).toNat]? = some op := ⟨_, List.getElem?_eq_getElem hl⟩
  have oc := cd.2.2.2 _ _ ho
  have oo := ge.1 op (List.mem_of_getElem? ho)
  have b320 : hV H1 320 = hV H0 320 := fRow f14.1.2.1 320 (by decide +kernel)
  have b321 : hV H1 321 = hV H0 321 := fRow f14.1.2.1 321 (by decide +kernel)
  have k0 : n9 = op.1 := by
    rw [d21, b320, ← oc.1]
    congr 1
    omega
  have w29 := f29
  rw [f28] at w29
  unfold w32 at w29
  have w45 := f45
  rw [f44] at w45
  unfold w32 at w45
  have w24 := f24
  unfold w32 at w24
  have w55 := f55
  unfold w32 at w55
  have tp := TM_two tm ho ge (by omega)
  have t2 : 2 ≤ n1 := by
    obtain ⟨y, x, q, _, h, _⟩ := tp
    omega
  have ea : n15 = hV H1 324 (n1 - 2).toNat := by
    rw [d32]
    congr 1
    omega
  have eb : n17 = hV H1 324 (n1 - 1).toNat := by
    rw [d38]
    congr 1
    omega
  have en : n25 = eOp op.1 n15 n17 := by
    unfold eOp
    rw [if_neg (show ¬ op.1 = 2 by omega), if_neg (show ¬ op.1 = 3 by omega), if_pos (show op.1 = 4 by omega)]
    exact f52
  refine ⟨TM_bin tm ho ge (by omega) eb ea en (fun w => by omega) (by omega) (uRowQ f54 324 f41) (by omega) (by omega) (by omega), (uPlace f54 285 58 (by rw [f41]; decide)).trans e58⟩
def g_238w_5_3 : vG := ([(10, [26, 7], [], 1), (80, [19, 21, 25], [2, 1], 0), (23, [19], [1], 420), (3, [25, 15, 17], [], 0), (40, [9, 24], [], 0), (0, [24], [], 4), (41, [9, 23], [], 0), (0, [23], [], 3), (41, [9, 22], [], 0), (0, [22], [], 2), (2, [21, 11, 20], [], 0), (0, [20], [], 1), (20, [19, 3], [1], 57), (23, [3], [1], 12), (0, [19], [], 324), (41, [9, 18], [], 0), (0, [18], [], 5), (22, [17, 16, 11], [1], 0), (90, [17], [], -2147483648), (91, [17], [], 2147483647), (20, [16, 3], [1], 57), (23, [3], [1], 12), (0, [16], [], 324), (22, [15, 12, 14], [1], 0), (90, [15], [], -2147483648), (91, [15], [], 2147483647), (2, [14, 11, 13], [], 0), (0, [13], [], 1), (20, [12, 3], [1], 57), (23, [3], [1], 12), (0, [12], [], 324), (10, [11, 6], [], -1), (43, [9, 10], [], 0), (0, [10], [], 2), (22, [9, 8, 7], [1], 0), (90, [9], [], 0), (91, [9], [], 5), (20, [8, 3], [1], 52), (23, [3], [1], 12), (0, [8], [], 320), (42, [7, 5], [], 0), (5000, [0, 1, 2, 3, 4, 5, 6, 7], [0, 1], 5), (0, [0], [], 285), (90, [1], [], 0), (91, [1], [], 1200), (90, [2], [], 0), (91, [2], [], 1200), (0, [3], [], 285), (90, [4], [], 0), (91, [4], [], 1200), (90, [5], [], 0), (91, [5], [], 1200), (90, [6], [], 0), (91, [6], [], 500), (90, [7], [], 0), (91, [7], [], 1200)], (4000, [3, 4, 5, 11, 26], [2], 5))
theorem c_238w_5_3 {q0 : Nat} : vOkm T0 (eN e_238 L_238w A_238 mu_238 n_238 B_238 (some q0)) 3 g_238w_5_3 := vOk_inI fun ρ η f0 f1 f2 f3 f4 f5 f6 f7 f8 f9 f10 f11 f12 f13 f14 f15 f16 f17 f18 f19 f20 f21 f22 f23 f24 f25 f26 f27 f28 f29 f30 f31 f32 f33 f34 f35 f36 f37 f38 f39 f40 f41 f42 f43 f44 f45 f46 f47 f48 f49 f50 f51 f52 f53 f54 f55 => q_238w_4 (q0 := q0) (n0 := ρ 7) (n1 := ρ 6) (n2 := ρ 5) (n3 := ρ 4) (n4 := ρ 3) (n5 := ρ 2) (n6 := ρ 1) (n7 := ρ 0) (n8 := ρ 8) (n9 := ρ 9) (n10 := ρ 10) (n11 := ρ 11) (n12 := ρ 12) (n13 := ρ 13) (n14 := ρ 14) (n15 := ρ 15) (n16 := ρ 16) (n17 := ρ 17) (n18 := ρ 18) (n19 := ρ 19) (n20 := ρ 20) (n21 := ρ 21) (n22 := ρ 22) (n23 := ρ 23) (n24 := ρ 24) (n25 := ρ 25) (n26 := ρ 26) (H0 := η 0) (H1 := η 1) (H2 := η 2) f55 f54 f53 f52 f51 f50 f49 f48 f47 f46 f45 f44 f43 f42 f41 f40 f39 f38 f37 f36 f35 f34 f33 f32 f31 f30 f29 f28 f27 f26 f25 f24 f23 f22 f21 f20 f19 f18 f17 f16 f15 f14 f13 f12 f11 f10 f9 f8 f7 f6 f5 f4 f3 f2 f1 f0
theorem q_238w_5 {q0 : Nat} {n0 n1 n2 n3 n4 n5 n6 n7 n8 n9 n10 n11 n12 n13 n14 n15 n16 n17 n18 n19 n20 n21 n22 n23 n24 n25 : Int} {H0 H1 H2 : gH} (f0 : n0 ≤ 1200) (f1 : 0 ≤ n0) (f2 : n1 ≤ 500) (f3 : 0 ≤ n1) (f4 : n2 ≤ 1200) (f5 : 0 ≤ n2) (f6 : n3 ≤ 1200) (f7 : 0 ≤ n3) (f8 : n4 = 285) (f9 : n5 ≤ 1200) (f10 : 0 ≤ n5) (f11 : n6 ≤ 1200) (f12 : 0 ≤ n6) (f13 : n7 = 285) (f14 : (hLe T0 H0 H1 ∧ hFr s_238.2.2.2.2 H0 H1 ∧ hWt T0 H1) ∧ ((Ab_238_5 n7 n6 n5 n4 n3 n2 n1 n0 H0 H1 ∧ Bb_238_5 n7 n6 n5 n4 n3 n2 n1 n0 H0 H1) ∧ preb_238 n7 n6 n5 H0) ∧ some q0 = some (mub_238_5 n7 n6 n5 n4 n3 n2 n1 n0 H0 H1)) (f15 : n0 < n2) (f16 : n8 = 320) (f17 : hK H1 (n4).toNat = 12) (f18 : n8 = hV H1 (n4).toNat 52) (f19 : n9 ≤ 5) (f20 : 0 ≤ n9) (f21 : n9 = hV H1 (n8).toNat (n0).toNat) (f22 : n10 = 2) (f23 : n10 ≤ n9) (f24 : n11 = w32 (n1 + (-1))) (f25 : n12 = 324) (f26 : hK H1 (n4).toNat = 12) (f27 : n12 = hV H1 (n4).toNat 57) (f28 : n13 = 1) (f29 : n14 = w32 (n11 - n13)) (f30 : n15 ≤ 2147483647) (f31 : (-2147483648) ≤ n15) (f32 : n15 = hV H1 (n12).toNat (n14).toNat) (f33 : n16 = 324) (f34 : hK H1 (n4).toNat = 12) (f35 : n16 = hV H1 (n4).toNat 57) (f36 : n17 ≤ 2147483647) (f37 : (-2147483648) ≤ n17) (f38 : n17 = hV H1 (n16).toNat (n11).toNat) (f39 : n18 = 5) (f40 : n9 ≠ n18) (f41 : n19 = 324) (f42 : hK H1 (n4).toNat = 12) (f43 : n19 = hV H1 (n4).toNat 57) (f44 : n20 = 1) (f45 : n21 = w32 (n11 - n20)) (f46 : n22 = 2) (f47 : n9 ≠ n22) (f48 : n23 = 3) (f49 : n9 = n23) (f50 : n24 = w32 (n15 - n17)) (f51 : hK H1 (n19).toNat = 420) (f52 : hUpd H2 H1 n19 n21 n24) (f53 : n25 = w32 (n0 + 1)) : Bb_238_5 n7 n6 n5 n4 n3 n2 n11 n25 H0 H2 := by
  unfold Bb_238_5
  intro cl ch l cd c0 ge
  have gb := f14.2.1.1.2
  unfold Bb_238_5 at gb
  obtain ⟨tm, e58⟩ := gb cl ch l cd c0 ge
  have ab := f14.2.1.1.1
  unfold Ab_238_5 at ab
  obtain ⟨b1, b2, b3, b4, b5⟩ := ab
  have c1 := cd.1
  have c2 := cd.2.1
  have d21 := rdW (q := 320) f21 f16
  have d32 := rdW (q := 324) f32 f25
  have d38 := rdW (q := 324) f38 f33
  have hl : (n0 - n6).toNat < l.length := by omega
  obtain ⟨op, ho⟩ : ∃ op, l[(n0 - n6).toNat]? = some op := ⟨_, List.getElem?_eq_getElem hl⟩
  have oc := cd.2.2.2 _ _ ho
  have oo := ge.1 op (List.mem_of_getElem? ho)
  have b320 : hV H1 320 = hV H0 320 := fRow f14.1.2.1 320 (by decide +kernel)
  have b321 : hV H1 321 = hV H0 321 := fRow f14.1.2.1 321 (by decide +kernel)
  have k0 : n9 = op.1 := by
    rw [d21, b320, ← oc.1]
    congr 1
    omega
  have w29 := f29
  rw [f28] at w29
  unfold w32 at w29
  have w45 := f45
  rw [f44] at w45
  unfold w32 at w45
  have w24 := f24
  unfold w32 at w24
  have w53 := f53
  unfold w32 at w53
  have tp := TM_two tm ho ge (by omega)
  have t2 : 2 ≤ n1 := by
    obtain ⟨y, x, q, _, h, _⟩ := tp
    omega
  have ea : n15 = hV H1 324 (n1 - 2).toNat := by
    rw [d32]
    congr 1
    omega
  have eb : n17 = hV H1 324 (n1 - 1).toNat := by
    rw [d38]
    congr 1
    omega
  have en : n24 = eOp op.1 n15 n17 := by
    unfold eOp
    rw [if_neg (show ¬ op.1 = 2 by omega), if_pos (show op.1 = 3 by omega)]
    exact f50
  refine ⟨TM_bin tm ho ge (by omega) eb ea en (fun w => by omega) (by omega) (uRowQ f52 324 f41) (by omega) (by omega) (by omega), (uPlace f52 285 58 (by rw [f41]; decide)).trans e58⟩
def g_238w_5_4 : vG := ([(10, [25, 7], [], 1), (80, [19, 21, 24], [2, 1], 0), (23, [19], [1], 420), (2, [24, 15, 17], [], 0), (40, [9, 23], [], 0), (0, [23], [], 3), (41, [9, 22], [], 0), (0, [22], [], 2), (2, [21, 11, 20], [], 0), (0, [20], [], 1), (20, [19, 3], [1], 57), (23, [3], [1], 12), (0, [19], [], 324), (41, [9, 18], [], 0), (0, [18], [], 5), (22, [17, 16, 11], [1], 0), (90, [17], [], -2147483648), (91, [17], [], 2147483647), (20, [16, 3], [1], 57), (23, [3], [1], 12), (0, [16], [], 324), (22, [15, 12, 14], [1], 0), (90, [15], [], -2147483648), (91, [15], [], 2147483647), (2, [14, 11, 13], [], 0), (0, [13], [], 1), (20, [12, 3], [1], 57), (23, [3], [1], 12), (0, [12], [], 324), (10, [11, 6], [], -1), (43, [9, 10], [], 0), (0, [10], [], 2), (22, [9, 8, 7], [1], 0), (90, [9], [], 0), (91, [9], [], 5), (20, [8, 3], [1], 52), (23, [3], [1], 12), (0, [8], [], 320), (42, [7, 5], [], 0), (5000, [0, 1, 2, 3, 4, 5, 6, 7], [0, 1], 5), (0, [0], [], 285), (90, [1], [], 0), (91, [1], [], 1200), (90, [2], [], 0), (91, [2], [], 1200), (0, [3], [], 285), (90, [4], [], 0), (91, [4], [], 1200), (90, [5], [], 0), (91, [5], [], 1200), (90, [6], [], 0), (91, [6], [], 500), (90, [7], [], 0), (91, [7], [], 1200)], (4000, [3, 4, 5, 11, 25], [2], 5))
theorem c_238w_5_4 {q0 : Nat} : vOkm T0 (eN e_238 L_238w A_238 mu_238 n_238 B_238 (some q0)) 3 g_238w_5_4 := vOk_inI fun ρ η f0 f1 f2 f3 f4 f5 f6 f7 f8 f9 f10 f11 f12 f13 f14 f15 f16 f17 f18 f19 f20 f21 f22 f23 f24 f25 f26 f27 f28 f29 f30 f31 f32 f33 f34 f35 f36 f37 f38 f39 f40 f41 f42 f43 f44 f45 f46 f47 f48 f49 f50 f51 f52 f53 => q_238w_5 (q0 := q0) (n0 := ρ 7) (n1 := ρ 6) (n2 := ρ 5) (n3 := ρ 4) (n4 := ρ 3) (n5 := ρ 2) (n6 := ρ 1) (n7 := ρ 0) (n8 := ρ 8) (n9 := ρ 9) (n10 := ρ 10) (n11 := ρ 11) (n12 := ρ 12) (n13 := ρ 13) (n14 := ρ 14) (n15 := ρ 15) (n16 := ρ 16) (n17 := ρ 17) (n18 := ρ 18) (n19 := ρ 19) (n20 := ρ 20) (n21 := ρ 21) (n22 := ρ 22) (n23 := ρ 23) (n24 := ρ 24) (n25 := ρ 25) (H0 := η 0) (H1 := η 1) (H2 := η 2) f53 f52 f51 f50 f49 f48 f47 f46 f45 f44 f43 f42 f41 f40 f39 f38 f37 f36 f35 f34 f33 f32 f31 f30 f29 f28 f27 f26 f25 f24 f23 f22 f21 f20 f19 f18 f17 f16 f15 f14 f13 f12 f11 f10 f9 f8 f7 f6 f5 f4 f3 f2 f1 f0
theorem q_238w_6 {q0 : Nat} {n0 n1 n2 n3 n4 n5 n6 n7 n8 n9 n10 n11 n12 n13 n14 n15 n16 n17 n18 n19 n20 n21 n22 n23 n24 : Int} {H0 H1 H2 : gH} (f0 : n0 ≤ 1200) (f1 : 0 ≤ n0) (f2 : n1 ≤ 500) (f3 : 0 ≤ n1) (f4 : n2 ≤ 1200) (f5 : 0 ≤ n2) (f6 : n3 ≤ 1200) (f7 : 0 ≤ n3) (f8 : n4 = 285) (f9 : n5 ≤ 1200) (f10 : 0 ≤ n5) (f11 : n6 ≤ 1200) (f12 : 0 ≤ n6) (f13 : n7 = 285) (f14 : (hLe T0 H0 H1 ∧ hFr s_238.2.2.2.2 H0 H1 ∧ hWt T0 H1) ∧ ((Ab_238_5 n7 n6 n5 n4 n3 n2 n1 n0 H0 H1 ∧ Bb_238_5 n7 n6 n5 n4 n3 n2 n1 n0 H0 H1) ∧ preb_238 n7 n6 n5 H0) ∧ some q0 = some (mub_238_5 n7 n6 n5 n4 n3 n2 n1 n0 H0 H1)) (f15 : n0 < n2) (f16 : n8 = 320) (f17 : hK H1 (n4).toNat = 12) (f18 : n8 = hV H1 (n4).toNat 52) (f19 : n9 ≤ 5) (f20 : 0 ≤ n9) (f21 : n9 = hV H1 (n8).toNat (n0).toNat) (f22 : n10 = 2) (f23 : n10 ≤ n9) (f24 : n11 = w32 (n1 + (-1))) (f25 : n12 = 324) (f26 : hK H1 (n4).toNat = 12) (f27 : n12 = hV H1 (n4).toNat 57) (f28 : n13 = 1) (f29 : n14 = w32 (n11 - n13)) (f30 : n15 ≤ 2147483647) (f31 : (-2147483648) ≤ n15) (f32 : n15 = hV H1 (n12).toNat (n14).toNat) (f33 : n16 = 324) (f34 : hK H1 (n4).toNat = 12) (f35 : n16 = hV H1 (n4).toNat 57) (f36 : n17 ≤ 2147483647) (f37 : (-2147483648) ≤ n17) (f38 : n17 = hV H1 (n16).toNat (n11).toNat) (f39 : n18 = 5) (f40 : n9 ≠ n18) (f41 : n19 = 324) (f42 : hK H1 (n4).toNat = 12) (f43 : n19 = hV H1 (n4).toNat 57) (f44 : n20 = 1) (f45 : n21 = w32 (n11 - n20)) (f46 : n22 = 2) (f47 : n9 = n22) (f48 : n23 = w32 (n15 + n17)) (f49 : hK H1 (n19).toNat = 420) (f50 : hUpd H2 H1 n19 n21 n23) (f51 : n24 = w32 (n0 + 1)) : Bb_238_5 n7 n6 n5 n4 n3 n2 n11 n24 H0 H2 := by
  unfold Bb_238_5
  intro cl ch l cd c0 ge
  have gb := f14.2.1.1.2
  unfold Bb_238_5 at gb
  obtain ⟨tm, e58⟩ := gb cl ch l cd c0 ge
  have ab := f14.2.1.1.1
  unfold Ab_238_5 at ab
  obtain ⟨b1, b2, b3, b4, b5⟩ := ab
  have c1 := cd.1
  have c2 := cd.2.1
  have d21 := rdW (q := 320) f21 f16
  have d32 := rdW (q := 324) f32 f25
  have d38 := rdW (q := 324) f38 f33
  have hl : (n0 - n6).toNat < l.length := by omega
  obtain ⟨op, ho⟩ : ∃ op, l[(n0 - n6).toNat]? = some op := ⟨_, List.getElem?_eq_getElem hl⟩
  have oc := cd.2.2.2 _ _ ho
  have oo := ge.1 op (List.mem_of_getElem? ho)
  have b320 : hV H1 320 = hV H0 320 := fRow f14.1.2.1 320 (by decide +kernel)
  have b321 : hV H1 321 = hV H0 321 := fRow f14.1.2.1 321 (by decide +kernel)
  have k0 : n9 = op.1 := by
    rw [d21, b320, ← oc.1]
    congr 1
    omega
  have w29 := f29
  rw [f28] at w29
  unfold w32 at w29
  have w45 := f45
  rw [f44] at w45
  unfold w32 at w45
  have w24 := f24
  unfold w32 at w24
  have w51 := f51
  unfold w32 at w51
  have tp := TM_two tm ho ge (by omega)
  have t2 : 2 ≤ n1 := by
    obtain ⟨y, x, q, _, h, _⟩ := tp
    omega
  have ea : n15 = hV H1 324 (n1 - 2).toNat := by
    rw [d32]
    congr 1
    omega
  have eb : n17 = hV H1 324 (n1 - 1).toNat := by
    rw [d38]
    congr 1
    omega
  have en : n23 = eOp op.1 n15 n17 := by
    unfold eOp
    rw [if_pos (show op.1 = 2 by omega)]
    exact f48
  refine ⟨TM_bin tm ho ge (by omega) eb ea en (fun w => by omega) (by omega) (uRowQ f50 324 f41) (by omega) (by omega) (by omega), (uPlace f50 285 58 (by rw [f41]; decide)).trans e58⟩
def g_238w_5_5 : vG := ([(10, [24, 7], [], 1), (80, [19, 21, 23], [2, 1], 0), (23, [19], [1], 420), (1, [23, 15, 17], [], 0), (40, [9, 22], [], 0), (0, [22], [], 2), (2, [21, 11, 20], [], 0), (0, [20], [], 1), (20, [19, 3], [1], 57), (23, [3], [1], 12), (0, [19], [], 324), (41, [9, 18], [], 0), (0, [18], [], 5), (22, [17, 16, 11], [1], 0), (90, [17], [], -2147483648), (91, [17], [], 2147483647), (20, [16, 3], [1], 57), (23, [3], [1], 12), (0, [16], [], 324), (22, [15, 12, 14], [1], 0), (90, [15], [], -2147483648), (91, [15], [], 2147483647), (2, [14, 11, 13], [], 0), (0, [13], [], 1), (20, [12, 3], [1], 57), (23, [3], [1], 12), (0, [12], [], 324), (10, [11, 6], [], -1), (43, [9, 10], [], 0), (0, [10], [], 2), (22, [9, 8, 7], [1], 0), (90, [9], [], 0), (91, [9], [], 5), (20, [8, 3], [1], 52), (23, [3], [1], 12), (0, [8], [], 320), (42, [7, 5], [], 0), (5000, [0, 1, 2, 3, 4, 5, 6, 7], [0, 1], 5), (0, [0], [], 285), (90, [1], [], 0), (91, [1], [], 1200), (90, [2], [], 0), (91, [2], [], 1200), (0, [3], [], 285), (90, [4], [], 0), (91, [4], [], 1200), (90, [5], [], 0), (91, [5], [], 1200), (90, [6], [], 0), (91, [6], [], 500), (90, [7], [], 0), (91, [7], [], 1200)], (4000, [3, 4, 5, 11, 24], [2], 5))
theorem c_238w_5_5 {q0 : Nat} : vOkm T0 (eN e_238 L_238w A_238 mu_238 n_238 B_238 (some q0)) 3 g_238w_5_5 := vOk_inI fun ρ η f0 f1 f2 f3 f4 f5 f6 f7 f8 f9 f10 f11 f12 f13 f14 f15 f16 f17 f18 f19 f20 f21 f22 f23 f24 f25 f26 f27 f28 f29 f30 f31 f32 f33 f34 f35 f36 f37 f38 f39 f40 f41 f42 f43 f44 f45 f46 f47 f48 f49 f50 f51 => q_238w_6 (q0 := q0) (n0 := ρ 7) (n1 := ρ 6) (n2 := ρ 5) (n3 := ρ 4) (n4 := ρ 3) (n5 := ρ 2) (n6 := ρ 1) (n7 := ρ 0) (n8 := ρ 8) (n9 := ρ 9) (n10 := ρ 10) (n11 := ρ 11) (n12 := ρ 12) (n13 := ρ 13) (n14 := ρ 14) (n15 := ρ 15) (n16 := ρ 16) (n17 := ρ 17) (n18 := ρ 18) (n19 := ρ 19) (n20 := ρ 20) (n21 := ρ 21) (n22 := ρ 22) (n23 := ρ 23) (n24 := ρ 24) (H0 := η 0) (H1 := η 1) (H2 := η 2) f51 f50 f49 f48 f47 f46 f45 f44 f43 f42 f41 f40 f39 f38 f37 f36 f35 f34 f33 f32 f31 f30 f29 f28 f27 f26 f25 f24 f23 f22 f21 f20 f19 f18 f17 f16 f15 f14 f13 f12 f11 f10 f9 f8 f7 f6 f5 f4 f3 f2 f1 f0
theorem q_238w_7 {q0 : Nat} {n0 n1 n2 n3 n4 n5 n6 n7 n8 n9 n10 n11 n12 n13 n14 n15 n16 n17 n18 n19 n20 n21 n22 n23 n24 n25 n26 : Int} {H0 H1 H2 : gH} (f0 : n0 ≤ 1200) (f1 : 0 ≤ n0) (f2 : n1 ≤ 500) (f3 : 0 ≤ n1) (f4 : n2 ≤ 1200) (f5 : 0 ≤ n2) (f6 : n3 ≤ 1200) (f7 : 0 ≤ n3) (f8 : n4 = 285) (f9 : n5 ≤ 1200) (f10 : 0 ≤ n5) (f11 : n6 ≤ 1200) (f12 : 0 ≤ n6) (f13 : n7 = 285) (f14 : (hLe T0 H0 H1 ∧ hFr s_238.2.2.2.2 H0 H1 ∧ hWt T0 H1) ∧ ((Ab_238_5 n7 n6 n5 n4 n3 n2 n1 n0 H0 H1 ∧ Bb_238_5 n7 n6 n5 n4 n3 n2 n1 n0 H0 H1) ∧ preb_238 n7 n6 n5 H0) ∧ some q0 = some (mub_238_5 n7 n6 n5 n4 n3 n2 n1 n0 H0 H1)) (f15 : n0 < n2) (f16 : n8 = 320) (f17 : hK H1 (n4).toNat = 12) (f18 : n8 = hV H1 (n4).toNat 52) (f19 : n9 ≤ 5) (f20 : 0 ≤ n9) (f21 : n9 = hV H1 (n8).toNat (n0).toNat) (f22 : n10 = 2) (f23 : n10 ≤ n9) (f24 : n11 = w32 (n1 + (-1))) (f25 : n12 = 324) (f26 : hK H1 (n4).toNat = 12) (f27 : n12 = hV H1 (n4).toNat 57) (f28 : n13 = 1) (f29 : n14 = w32 (n11 - n13)) (f30 : n15 ≤ 2147483647) (f31 : (-2147483648) ≤ n15) (f32 : n15 = hV H1 (n12).toNat (n14).toNat) (f33 : n16 = 324) (f34 : hK H1 (n4).toNat = 12) (f35 : n16 = hV H1 (n4).toNat 57) (f36 : n17 ≤ 2147483647) (f37 : (-2147483648) ≤ n17) (f38 : n17 = hV H1 (n16).toNat (n11).toNat) (f39 : n18 = 5) (f40 : n9 = n18) (f41 : n17 ≠ 0) (f42 : n19 = 324) (f43 : hK H1 (n4).toNat = 12) (f44 : n19 = hV H1 (n4).toNat 57) (f45 : n20 = 1) (f46 : n21 = w32 (n11 - n20)) (f47 : n22 = 2) (f48 : n9 ≠ n22) (f49 : n23 = 3) (f50 : n9 ≠ n23) (f51 : n24 = 4) (f52 : n9 ≠ n24) (f53 : n25 = o32 (fun x y => x / y) n15 n17) (f54 : hK H1 (n19).toNat = 420) (f55 : hUpd H2 H1 n19 n21 n25) (f56 : n26 = w32 (n0 + 1)) : Bb_238_5 n7 n6 n5 n4 n3 n2 n11 n26 H0 H2 := by
  unfold Bb_238_5
  intro cl ch l cd c0 ge
  have gb := f14.2.1.1.2
  unfold Bb_238_5 at gb
  obtain ⟨tm, e58⟩ := gb cl ch l cd c0 ge
  have ab := f14.2.1.1.1
  unfold Ab_238_5 at ab
  obtain ⟨b1, b2, b3, b4, b5⟩ := ab
  have c1 := cd.1
  have c2 := cd.2.1
  have d21 := rdW (q := 320) f21 f16
  have d32 := rdW (q := 324) f32 f25
  have d38 := rdW (q := 324) f38 f33
  have hl : (n0 - n6).toNat < l.length := by omega
  obtain ⟨op, ho⟩ : ∃ op, l[(n0 - n6).toNat]? = some op := ⟨_, List.getElem?_eq_getElem hl⟩
  have oc := cd.2.2.2 _ _ ho
  have oo := ge.1 op (List.mem_of_getElem? ho)
  have b320 : hV H1 320 = hV H0 320 := fRow f14.1.2.1 320 (by decide +kernel)
  have b321 : hV H1 321 = hV H0 321 := fRow f14.1.2.1 321 (by decide +kernel)
  have k0 : n9 = op.1 := by
    rw [d21, b320, ← oc.1]
    congr 1
    omega
  have w29 := f29
  rw [f28] at w29
  unfold w32 at w29
  have w46 := f46
  rw [f45] at w46
  unfold w32 at w46
  have w24 := f24
  unfold w32 at w24
  have w56 := f56
  unfold w32 at w56
  have tp := TM_two tm ho ge (by omega)
  have t2 : 2 ≤ n1 := by
    obtain ⟨y, x, q, _, h, _⟩ := tp
    omega
  have ea : n15 = hV H1 324 (n1 - 2).toNat := by
    rw [d32]
    congr 1
    omega
  have eb : n17 = hV H1 324 (n1 - 1).toNat := by
    rw [d38]
    congr 1
    omega
  have en : n25 = eOp op.1 n15 n17 := by
    unfold eOp
    rw [if_neg (show ¬ op.1 = 2 by omega), if_neg (show ¬ op.1 = 3 by omega), if_neg (show ¬ op.1 = 4 by omega), if_neg (show ¬ n17 = 0 by omega)]
    exact f53
  refine ⟨TM_bin tm ho ge (by omega) eb ea en (fun w => by omega) (by omega) (uRowQ f55 324 f42) (by omega) (by omega) (by omega), (uPlace f55 285 58 (by rw [f42]; decide)).trans e58⟩
def g_238w_5_6 : vG := ([(10, [26, 7], [], 1), (80, [19, 21, 25], [2, 1], 0), (23, [19], [1], 420), (11, [25, 15, 17], [], 0), (41, [9, 24], [], 0), (0, [24], [], 4), (41, [9, 23], [], 0), (0, [23], [], 3), (41, [9, 22], [], 0), (0, [22], [], 2), (2, [21, 11, 20], [], 0), (0, [20], [], 1), (20, [19, 3], [1], 57), (23, [3], [1], 12), (0, [19], [], 324), (31, [17], [], 0), (40, [9, 18], [], 0), (0, [18], [], 5), (22, [17, 16, 11], [1], 0), (90, [17], [], -2147483648), (91, [17], [], 2147483647), (20, [16, 3], [1], 57), (23, [3], [1], 12), (0, [16], [], 324), (22, [15, 12, 14], [1], 0), (90, [15], [], -2147483648), (91, [15], [], 2147483647), (2, [14, 11, 13], [], 0), (0, [13], [], 1), (20, [12, 3], [1], 57), (23, [3], [1], 12), (0, [12], [], 324), (10, [11, 6], [], -1), (43, [9, 10], [], 0), (0, [10], [], 2), (22, [9, 8, 7], [1], 0), (90, [9], [], 0), (91, [9], [], 5), (20, [8, 3], [1], 52), (23, [3], [1], 12), (0, [8], [], 320), (42, [7, 5], [], 0), (5000, [0, 1, 2, 3, 4, 5, 6, 7], [0, 1], 5), (0, [0], [], 285), (90, [1], [], 0), (91, [1], [], 1200), (90, [2], [], 0), (91, [2], [], 1200), (0, [3], [], 285), (90, [4], [], 0), (91, [4], [], 1200), (90, [5], [], 0), (91, [5], [], 1200), (90, [6], [], 0), (91, [6], [], 500), (90, [7], [], 0), (91, [7], [], 1200)], (4000, [3, 4, 5, 11, 26], [2], 5))
theorem c_238w_5_6 {q0 : Nat} : vOkm T0 (eN e_238 L_238w A_238 mu_238 n_238 B_238 (some q0)) 3 g_238w_5_6 := vOk_inI fun ρ η f0 f1 f2 f3 f4 f5 f6 f7 f8 f9 f10 f11 f12 f13 f14 f15 f16 f17 f18 f19 f20 f21 f22 f23 f24 f25 f26 f27 f28 f29 f30 f31 f32 f33 f34 f35 f36 f37 f38 f39 f40 f41 f42 f43 f44 f45 f46 f47 f48 f49 f50 f51 f52 f53 f54 f55 f56 => q_238w_7 (q0 := q0) (n0 := ρ 7) (n1 := ρ 6) (n2 := ρ 5) (n3 := ρ 4) (n4 := ρ 3) (n5 := ρ 2) (n6 := ρ 1) (n7 := ρ 0) (n8 := ρ 8) (n9 := ρ 9) (n10 := ρ 10) (n11 := ρ 11) (n12 := ρ 12) (n13 := ρ 13) (n14 := ρ 14) (n15 := ρ 15) (n16 := ρ 16) (n17 := ρ 17) (n18 := ρ 18) (n19 := ρ 19) (n20 := ρ 20) (n21 := ρ 21) (n22 := ρ 22) (n23 := ρ 23) (n24 := ρ 24) (n25 := ρ 25) (n26 := ρ 26) (H0 := η 0) (H1 := η 1) (H2 := η 2) f56 f55 f54 f53 f52 f51 f50 f49 f48 f47 f46 f45 f44 f43 f42 f41 f40 f39 f38 f37 f36 f35 f34 f33 f32 f31 f30 f29 f28 f27 f26 f25 f24 f23 f22 f21 f20 f19 f18 f17 f16 f15 f14 f13 f12 f11 f10 f9 f8 f7 f6 f5 f4 f3 f2 f1 f0
theorem q_238w_8 {q0 : Nat} {n0 n1 n2 n3 n4 n5 n6 n7 n8 n9 n10 n11 n12 n13 n14 n15 n16 n17 n18 n19 n20 n21 n22 n23 n24 n25 n26 : Int} {H0 H1 H2 : gH} (f0 : n0 ≤ 1200) (f1 : 0 ≤ n0) (f2 : n1 ≤ 500) (f3 : 0 ≤ n1) (f4 : n2 ≤ 1200) (f5 : 0 ≤ n2) (f6 : n3 ≤ 1200) (f7 : 0 ≤ n3) (f8 : n4 = 285) (f9 : n5 ≤ 1200) (f10 : 0 ≤ n5) (f11 : n6 ≤ 1200) (f12 : 0 ≤ n6) (f13 : n7 = 285) (f14 : (hLe T0 H0 H1 ∧ hFr s_238.2.2.2.2 H0 H1 ∧ hWt T0 H1) ∧ ((Ab_238_5 n7 n6 n5 n4 n3 n2 n1 n0 H0 H1 ∧ Bb_238_5 n7 n6 n5 n4 n3 n2 n1 n0 H0 H1) ∧ preb_238 n7 n6 n5 H0) ∧ some q0 = some (mub_238_5 n7 n6 n5 n4 n3 n2 n1 n0 H0 H1)) (f15 : n0 < n2) (f16 : n8 = 320) (f17 : hK H1 (n4).toNat = 12) (f18 : n8 = hV H1 (n4).toNat 52) (f19 : n9 ≤ 5) (f20 : 0 ≤ n9) (f21 : n9 = hV H1 (n8).toNat (n0).toNat) (f22 : n10 = 2) (f23 : n10 ≤ n9) (f24 : n11 = w32 (n1 + (-1))) (f25 : n12 = 324) (f26 : hK H1 (n4).toNat = 12) (f27 : n12 = hV H1 (n4).toNat 57) (f28 : n13 = 1) (f29 : n14 = w32 (n11 - n13)) (f30 : n15 ≤ 2147483647) (f31 : (-2147483648) ≤ n15) (f32 : n15 = hV H1 (n12).toNat (n14).toNat) (f33 : n16 = 324) (f34 : hK H1 (n4).toNat = 12) (f35 : n16 = hV H1 (n4).toNat 57) (f36 : n17 ≤ 2147483647) (f37 : (-2147483648) ≤ n17) (f38 : n17 = hV H1 (n16).toNat (n11).toNat) (f39 : n18 = 5) (f40 : n9 = n18) (f41 : n17 ≠ 0) (f42 : n19 = 324) (f43 : hK H1 (n4).toNat = 12) (f44 : n19 = hV H1 (n4).toNat 57) (f45 : n20 = 1) (f46 : n21 = w32 (n11 - n20)) (f47 : n22 = 2) (f48 : n9 ≠ n22) (f49 : n23 = 3) (f50 : n9 ≠ n23) (f51 : n24 = 4) (f52 : n9 = n24) (f53 : n25 = w32 (n15 * n17)) (f54 : hK H1 (n19).toNat = 420) (f55 : hUpd H2 H1 n19 n21 n25) (f56 : n26 = w32 (n0 + 1)) : Bb_238_5 n7 n6 n5 n4 n3 n2 n11 n26 H0 H2 := by
  unfold Bb_238_5
  intro cl ch l cd c0 ge
  have gb := f14.2.1.1.2
  unfold Bb_238_5 at gb
  obtain ⟨tm, e58⟩ := gb cl ch l cd c0 ge
  have ab := f14.2.1.1.1
  unfold Ab_238_5 at ab
  obtain ⟨b1, b2, b3, b4, b5⟩ := ab
  have c1 := cd.1
  have c2 := cd.2.1
  have d21 := rdW (q := 320) f21 f16
  have d32 := rdW (q := 324) f32 f25
  have d38 := rdW (q := 324) f38 f33
  have hl : (n0 - n6).toNat < l.length := by omega
  obtain ⟨op, ho⟩ : ∃ op, l[(n0 - n6).toNat]? = some op := ⟨_, List.getElem?_eq_getElem hl⟩
  have oc := cd.2.2.2 _ _ ho
  have oo := ge.1 op (List.mem_of_getElem? ho)
  have b320 : hV H1 320 = hV H0 320 := fRow f14.1.2.1 320 (by decide +kernel)
  have b321 : hV H1 321 = hV H0 321 := fRow f14.1.2.1 321 (by decide +kernel)
  have k0 : n9 = op.1 := by
    rw [d21, b320, ← oc.1]
    congr 1
    omega
  have w29 := f29
  rw [f28] at w29
  unfold w32 at w29
  have w46 := f46
  rw [f45] at w46
  unfold w32 at w46
  have w24 := f24
  unfold w32 at w24
  have w56 := f56
  unfold w32 at w56
  have tp := TM_two tm ho ge (by omega)
  have t2 : 2 ≤ n1 := by
    obtain ⟨y, x, q, _, h, _⟩ := tp
    omega
  have ea : n15 = hV H1 324 (n1 - 2).toNat := by
    rw [d32]
    congr 1
    omega
  have eb : n17 = hV H1 324 (n1 - 1).toNat := by
    rw [d38]
    congr 1
    omega
  have en : n25 = eOp op.1 n15 n17 := by
    unfold eOp
    rw [if_neg (show ¬ op.1 = 2 by omega), if_neg (show ¬ op.1 = 3 by omega), if_pos (show op.1 = 4 by omega)]
    exact f53
  refine ⟨TM_bin tm ho ge (by omega) eb ea en (fun w => by omega) (by omega) (uRowQ f55 324 f42) (by omega) (by omega) (by omega), (uPlace f55 285 58 (by rw [f42]; decide)).trans e58⟩
def g_238w_5_7 : vG := ([(10, [26, 7], [], 1), (80, [19, 21, 25], [2, 1], 0), (23, [19], [1], 420), (3, [25, 15, 17], [], 0), (40, [9, 24], [], 0), (0, [24], [], 4), (41, [9, 23], [], 0), (0, [23], [], 3), (41, [9, 22], [], 0), (0, [22], [], 2), (2, [21, 11, 20], [], 0), (0, [20], [], 1), (20, [19, 3], [1], 57), (23, [3], [1], 12), (0, [19], [], 324), (31, [17], [], 0), (40, [9, 18], [], 0), (0, [18], [], 5), (22, [17, 16, 11], [1], 0), (90, [17], [], -2147483648), (91, [17], [], 2147483647), (20, [16, 3], [1], 57), (23, [3], [1], 12), (0, [16], [], 324), (22, [15, 12, 14], [1], 0), (90, [15], [], -2147483648), (91, [15], [], 2147483647), (2, [14, 11, 13], [], 0), (0, [13], [], 1), (20, [12, 3], [1], 57), (23, [3], [1], 12), (0, [12], [], 324), (10, [11, 6], [], -1), (43, [9, 10], [], 0), (0, [10], [], 2), (22, [9, 8, 7], [1], 0), (90, [9], [], 0), (91, [9], [], 5), (20, [8, 3], [1], 52), (23, [3], [1], 12), (0, [8], [], 320), (42, [7, 5], [], 0), (5000, [0, 1, 2, 3, 4, 5, 6, 7], [0, 1], 5), (0, [0], [], 285), (90, [1], [], 0), (91, [1], [], 1200), (90, [2], [], 0), (91, [2], [], 1200), (0, [3], [], 285), (90, [4], [], 0), (91, [4], [], 1200), (90, [5], [], 0), (91, [5], [], 1200), (90, [6], [], 0), (91, [6], [], 500), (90, [7], [], 0), (91, [7], [], 1200)], (4000, [3, 4, 5, 11, 26], [2], 5))
theorem c_238w_5_7 {q0 : Nat} : vOkm T0 (eN e_238 L_238w A_238 mu_238 n_238 B_238 (some q0)) 3 g_238w_5_7 := vOk_inI fun ρ η f0 f1 f2 f3 f4 f5 f6 f7 f8 f9 f10 f11 f12 f13 f14 f15 f16 f17 f18 f19 f20 f21 f22 f23 f24 f25 f26 f27 f28 f29 f30 f31 f32 f33 f34 f35 f36 f37 f38 f39 f40 f41 f42 f43 f44 f45 f46 f47 f48 f49 f50 f51 f52 f53 f54 f55 f56 => q_238w_8 (q0 := q0) (n0 := ρ 7) (n1 := ρ 6) (n2 := ρ 5) (n3 := ρ 4) (n4 := ρ 3) (n5 := ρ 2) (n6 := ρ 1) (n7 := ρ 0) (n8 := ρ 8) (n9 := ρ 9) (n10 := ρ 10) (n11 := ρ 11) (n12 := ρ 12) (n13 := ρ 13) (n14 := ρ 14) (n15 := ρ 15) (n16 := ρ 16) (n17 := ρ 17) (n18 := ρ 18) (n19 := ρ 19) (n20 := ρ 20) (n21 := ρ 21) (n22 := ρ 22) (n23 := ρ 23) (n24 := ρ 24) (n25 := ρ 25) (n26 := ρ 26) (H0 := η 0) (H1 := η 1) (H2 := η 2) f56 f55 f54 f53 f52 f51 f50 f49 f48 f47 f46 f45 f44 f43 f42 f41 f40 f39 f38 f37 f36 f35 f34 f33 f32 f31 f30 f29 f28 f27 f26 f25 f24 f23 f22 f21 f20 f19 f18 f17 f16 f15 f14 f13 f12 f11 f10 f9 f8 f7 f6 f5 f4 f3 f2 f1 f0
theorem q_238w_9 {q0 : Nat} {n0 n1 n2 n3 n4 n5 n6 n7 n8 n9 n10 n11 n12 n13 n14 n15 n16 n17 n18 n19 n20 n21 n22 n23 n24 n25 : Int} {H0 H1 H2 : gH} (f0 : n0 ≤ 1200) (f1 : 0 ≤ n0) (f2 : n1 ≤ 500) (f3 : 0 ≤ n1) (f4 : n2 ≤ 1200) (f5 : 0 ≤ n2) (f6 : n3 ≤ 1200) (f7 : 0 ≤ n3) (f8 : n4 = 285) (f9 : n5 ≤ 1200) (f10 : 0 ≤ n5) (f11 : n6 ≤ 1200) (f12 : 0 ≤ n6) (f13 : n7 = 285) (f14 : (hLe T0 H0 H1 ∧ hFr s_238.2.2.2.2 H0 H1 ∧ hWt T0 H1) ∧ ((Ab_238_5 n7 n6 n5 n4 n3 n2 n1 n0 H0 H1 ∧ Bb_238_5 n7 n6 n5 n4 n3 n2 n1 n0 H0 H1) ∧ preb_238 n7 n6 n5 H0) ∧ some q0 = some (mub_238_5 n7 n6 n5 n4 n3 n2 n1 n0 H0 H1)) (f15 : n0 < n2) (f16 : n8 = 320) (f17 : hK H1 (n4).toNat = 12) (f18 : n8 = hV H1 (n4).toNat 52) (f19 : n9 ≤ 5) (f20 : 0 ≤ n9) (f21 : n9 = hV H1 (n8).toNat (n0).toNat) (f22 : n10 = 2) (f23 : n10 ≤ n9) (f24 : n11 = w32 (n1 + (-1))) (f25 : n12 = 324) (f26 : hK H1 (n4).toNat = 12) (f27 : n12 = hV H1 (n4).toNat 57) (f28 : n13 = 1) (f29 : n14 = w32 (n11 - n13)) (f30 : n15 ≤ 2147483647) (f31 : (-2147483648) ≤ n15) (f32 : n15 = hV H1 (n12).toNat (n14).toNat) (f33 : n16 = 324) (f34 : hK H1 (n4).toNat = 12) (f35 : n16 = hV H1 (n4).toNat 57) (f36 : n17 ≤ 2147483647) (f37 : (-2147483648) ≤ n17) (f38 : n17 = hV H1 (n16).toNat (n11).toNat) (f39 : n18 = 5) (f40 : n9 = n18) (f41 : n17 ≠ 0) (f42 : n19 = 324) (f43 : hK H1 (n4).toNat = 12) (f44 : n19 = hV H1 (n4).toNat 57) (f45 : n20 = 1) (f46 : n21 = w32 (n11 - n20)) (f47 : n22 = 2) (f48 : n9 ≠ n22) (f49 : n23 = 3) (f50 : n9 = n23) (f51 : n24 = w32 (n15 - n17)) (f52 : hK H1 (n19).toNat = 420) (f53 : hUpd H2 H1 n19 n21 n24) (f54 : n25 = w32 (n0 + 1)) : Bb_238_5 n7 n6 n5 n4 n3 n2 n11 n25 H0 H2 := by
  unfold Bb_238_5
  intro cl ch l cd c0 ge
  have gb := f14.2.1.1.2
  unfold Bb_238_5 at gb
  obtain ⟨tm, e58⟩ := gb cl ch l cd c0 ge
  have ab := f14.2.1.1.1
  unfold Ab_238_5 at ab
  obtain ⟨b1, b2, b3, b4, b5⟩ := ab
  have c1 := cd.1
  have c2 := cd.2.1
  have d21 := rdW (q := 320) f21 f16
  have d32 := rdW (q := 324) f32 f25
  have d38 := rdW (q := 324) f38 f33
  have hl : (n0 - n6).toNat < l.length := by omega
  obtain ⟨op, ho⟩ : ∃ op, l[(n0 - n6).toNat]? = some op := ⟨_, List.getElem?_eq_getElem hl⟩
  have oc := cd.2.2.2 _ _ ho
  have oo := ge.1 op (List.mem_of_getElem? ho)
  have b320 : hV H1 320 = hV H0 320 := fRow f14.1.2.1 320 (by decide +kernel)
  have b321 : hV H1 321 = hV H0 321 := fRow f14.1.2.1 321 (by decide +kernel)
  have k0 : n9 = op.1 := by
    rw [d21, b320, ← oc.1]
    congr 1
    omega
  have w29 := f29
  rw [f28] at w29
  unfold w32 at w29
  have w46 := f46
  rw [f45] at w46
  unfold w32 at w46
  have w24 := f24
  unfold w32 at w24
  have w54 := f54
  unfold w32 at w54
  have tp := TM_two tm ho ge (by omega)
  have t2 : 2 ≤ n1 := by
    obtain ⟨y, x, q, _, h, _⟩ := tp
    omega
  have ea : n15 = hV H1 324 (n1 - 2).toNat := by
    rw [d32]
    congr 1
    omega
  have eb : n17 = hV H1 324 (n1 - 1).toNat := by
    rw [d38]
    congr 1
    omega
  have en : n24 = eOp op.1 n15 n17 := by
    unfold eOp
    rw [if_neg (show ¬ op.1 = 2 by omega), if_pos (show op.1 = 3 by omega)]
    exact f51
  refine ⟨TM_bin tm ho ge (by omega) eb ea en (fun w => by omega) (by omega) (uRowQ f53 324 f42) (by omega) (by omega) (by omega), (uPlace f53 285 58 (by rw [f42]; decide)).trans e58⟩
def g_238w_5_8 : vG := ([(10, [25, 7], [], 1), (80, [19, 21, 24], [2, 1], 0), (23, [19], [1], 420), (2, [24, 15, 17], [], 0), (40, [9, 23], [], 0), (0, [23], [], 3), (41, [9, 22], [], 0), (0, [22], [], 2), (2, [21, 11, 20], [], 0), (0, [20], [], 1), (20, [19, 3], [1], 57), (23, [3], [1], 12), (0, [19], [], 324), (31, [17], [], 0), (40, [9, 18], [], 0), (0, [18], [], 5), (22, [17, 16, 11], [1], 0), (90, [17], [], -2147483648), (91, [17], [], 2147483647), (20, [16, 3], [1], 57), (23, [3], [1], 12), (0, [16], [], 324), (22, [15, 12, 14], [1], 0), (90, [15], [], -2147483648), (91, [15], [], 2147483647), (2, [14, 11, 13], [], 0), (0, [13], [], 1), (20, [12, 3], [1], 57), (23, [3], [1], 12), (0, [12], [], 324), (10, [11, 6], [], -1), (43, [9, 10], [], 0), (0, [10], [], 2), (22, [9, 8, 7], [1], 0), (90, [9], [], 0), (91, [9], [], 5), (20, [8, 3], [1], 52), (23, [3], [1], 12), (0, [8], [], 320), (42, [7, 5], [], 0), (5000, [0, 1, 2, 3, 4, 5, 6, 7], [0, 1], 5), (0, [0], [], 285), (90, [1], [], 0), (91, [1], [], 1200), (90, [2], [], 0), (91, [2], [], 1200), (0, [3], [], 285), (90, [4], [], 0), (91, [4], [], 1200), (90, [5], [], 0), (91, [5], [], 1200), (90, [6], [], 0), (91, [6], [], 500), (90, [7], [], 0), (91, [7], [], 1200)], (4000, [3, 4, 5, 11, 25], [2], 5))
theorem c_238w_5_8 {q0 : Nat} : vOkm T0 (eN e_238 L_238w A_238 mu_238 n_238 B_238 (some q0)) 3 g_238w_5_8 := vOk_inI fun ρ η f0 f1 f2 f3 f4 f5 f6 f7 f8 f9 f10 f11 f12 f13 f14 f15 f16 f17 f18 f19 f20 f21 f22 f23 f24 f25 f26 f27 f28 f29 f30 f31 f32 f33 f34 f35 f36 f37 f38 f39 f40 f41 f42 f43 f44 f45 f46 f47 f48 f49 f50 f51 f52 f53 f54 => q_238w_9 (q0 := q0) (n0 := ρ 7) (n1 := ρ 6) (n2 := ρ 5) (n3 := ρ 4) (n4 := ρ 3) (n5 := ρ 2) (n6 := ρ 1) (n7 := ρ 0) (n8 := ρ 8) (n9 := ρ 9) (n10 := ρ 10) (n11 := ρ 11) (n12 := ρ 12) (n13 := ρ 13) (n14 := ρ 14) (n15 := ρ 15) (n16 := ρ 16) (n17 := ρ 17) (n18 := ρ 18) (n19 := ρ 19) (n20 := ρ 20) (n21 := ρ 21) (n22 := ρ 22) (n23 := ρ 23) (n24 := ρ 24) (n25 := ρ 25) (H0 := η 0) (H1 := η 1) (H2 := η 2) f54 f53 f52 f51 f50 f49 f48 f47 f46 f45 f44 f43 f42 f41 f40 f39 f38 f37 f36 f35 f34 f33 f32 f31 f30 f29 f28 f27 f26 f25 f24 f23 f22 f21 f20 f19 f18 f17 f16 f15 f14 f13 f12 f11 f10 f9 f8 f7 f6 f5 f4 f3 f2 f1 f0
theorem q_238w_10 {q0 : Nat} {n0 n1 n2 n3 n4 n5 n6 n7 n8 n9 n10 n11 n12 n13 n14 n15 n16 n17 n18 n19 n20 n21 n22 n23 n24 : Int} {H0 H1 H2 : gH} (f0 : n0 ≤ 1200) (f1 : 0 ≤ n0) (f2 : n1 ≤ 500) (f3 : 0 ≤ n1) (f4 : n2 ≤ 1200) (f5 : 0 ≤ n2) (f6 : n3 ≤ 1200) (f7 : 0 ≤ n3) (f8 : n4 = 285) (f9 : n5 ≤ 1200) (f10 : 0 ≤ n5) (f11 : n6 ≤ 1200) (f12 : 0 ≤ n6) (f13 : n7 = 285) (f14 : (hLe T0 H0 H1 ∧ hFr s_238.2.2.2.2 H0 H1 ∧ hWt T0 H1) ∧ ((Ab_238_5 n7 n6 n5 n4 n3 n2 n1 n0 H0 H1 ∧ Bb_238_5 n7 n6 n5 n4 n3 n2 n1 n0 H0 H1) ∧ preb_238 n7 n6 n5 H0) ∧ some q0 = some (mub_238_5 n7 n6 n5 n4 n3 n2 n1 n0 H0 H1)) (f15 : n0 < n2) (f16 : n8 = 320) (f17 : hK H1 (n4).toNat = 12) (f18 : n8 = hV H1 (n4).toNat 52) (f19 : n9 ≤ 5) (f20 : 0 ≤ n9) (f21 : n9 = hV H1 (n8).toNat (n0).toNat) (f22 : n10 = 2) (f23 : n10 ≤ n9) (f24 : n11 = w32 (n1 + (-1))) (f25 : n12 = 324) (f26 : hK H1 (n4).toNat = 12) (f27 : n12 = hV H1 (n4).toNat 57) (f28 : n13 = 1) (f29 : n14 = w32 (n11 - n13)) (f30 : n15 ≤ 2147483647) (f31 : (-2147483648) ≤ n15) (f32 : n15 = hV H1 (n12).toNat (n14).toNat) (f33 : n16 = 324) (f34 : hK H1 (n4).toNat = 12) (f35 : n16 = hV H1 (n4).toNat 57) (f36 : n17 ≤ 2147483647) (f37 : (-2147483648) ≤ n17) (f38 : n17 = hV H1 (n16).toNat (n11).toNat) (f39 : n18 = 5) (f40 : n9 = n18) (f41 : n17 ≠ 0) (f42 : n19 = 324) (f43 : hK H1 (n4).toNat = 12) (f44 : n19 = hV H1 (n4).toNat 57) (f45 : n20 = 1) (f46 : n21 = w32 (n11 - n20)) (f47 : n22 = 2) (f48 : n9 = n22) (f49 : n23 = w32 (n15 + n17)) (f50 : hK H1 (n19).toNat = 420) (f51 : hUpd H2 H1 n19 n21 n23) (f52 : n24 = w32 (n0 + 1)) : Bb_238_5 n7 n6 n5 n4 n3 n2 n11 n24 H0 H2 := by
  unfold Bb_238_5
  intro cl ch l cd c0 ge
  have gb := f14.2.1.1.2
  unfold Bb_238_5 at gb
  obtain ⟨tm, e58⟩ := gb cl ch l cd c0 ge
  have ab := f14.2.1.1.1
  unfold Ab_238_5 at ab
  obtain ⟨b1, b2, b3, b4, b5⟩ := ab
  have c1 := cd.1
  have c2 := cd.2.1
  have d21 := rdW (q := 320) f21 f16
  have d32 := rdW (q := 324) f32 f25
  have d38 := rdW (q := 324) f38 f33
  have hl : (n0 - n6).toNat < l.length := by omega
  obtain ⟨op, ho⟩ : ∃ op, l[(n0 - n6).toNat]? = some op := ⟨_, List.getElem?_eq_getElem hl⟩
  have oc := cd.2.2.2 _ _ ho
  have oo := ge.1 op (List.mem_of_getElem? ho)
  have b320 : hV H1 320 = hV H0 320 := fRow f14.1.2.1 320 (by decide +kernel)
  have b321 : hV H1 321 = hV H0 321 := fRow f14.1.2.1 321 (by decide +kernel)
  have k0 : n9 = op.1 := by
    rw [d21, b320, ← oc.1]
    congr 1
    omega
  have w29 := f29
  rw [f28] at w29
  unfold w32 at w29
  have w46 := f46
  rw [f45] at w46
  unfold w32 at w46
  have w24 := f24
  unfold w32 at w24
  have w52 := f52
  unfold w32 at w52
  have tp := TM_two tm ho ge (by omega)
  have t2 : 2 ≤ n1 := by
    obtain ⟨y, x, q, _, h, _⟩ := tp
    omega
  have ea : n15 = hV H1 324 (n1 - 2).toNat := by
    rw [d32]
    congr 1
    omega
  have eb : n17 = hV H1 324 (n1 - 1).toNat := by
    rw [d38]
    congr 1
    omega
  have en : n23 = eOp op.1 n15 n17 := by
    unfold eOp
    rw [if_pos (show op.1 = 2 by omega)]
    exact f49
  refine ⟨TM_bin tm ho ge (by omega) eb ea en (fun w => by omega) (by omega) (uRowQ f51 324 f42) (by omega) (by omega) (by omega), (uPlace f51 285 58 (by rw [f42]; decide)).trans e58⟩
def g_238w_5_9 : vG := ([(10, [24, 7], [], 1), (80, [19, 21, 23], [2, 1], 0), (23, [19], [1], 420), (1, [23, 15, 17], [], 0), (40, [9, 22], [], 0), (0, [22], [], 2), (2, [21, 11, 20], [], 0), (0, [20], [], 1), (20, [19, 3], [1], 57), (23, [3], [1], 12), (0, [19], [], 324), (31, [17], [], 0), (40, [9, 18], [], 0), (0, [18], [], 5), (22, [17, 16, 11], [1], 0), (90, [17], [], -2147483648), (91, [17], [], 2147483647), (20, [16, 3], [1], 57), (23, [3], [1], 12), (0, [16], [], 324), (22, [15, 12, 14], [1], 0), (90, [15], [], -2147483648), (91, [15], [], 2147483647), (2, [14, 11, 13], [], 0), (0, [13], [], 1), (20, [12, 3], [1], 57), (23, [3], [1], 12), (0, [12], [], 324), (10, [11, 6], [], -1), (43, [9, 10], [], 0), (0, [10], [], 2), (22, [9, 8, 7], [1], 0), (90, [9], [], 0), (91, [9], [], 5), (20, [8, 3], [1], 52), (23, [3], [1], 12), (0, [8], [], 320), (42, [7, 5], [], 0), (5000, [0, 1, 2, 3, 4, 5, 6, 7], [0, 1], 5), (0, [0], [], 285), (90, [1], [], 0), (91, [1], [], 1200), (90, [2], [], 0), (91, [2], [], 1200), (0, [3], [], 285), (90, [4], [], 0), (91, [4], [], 1200), (90, [5], [], 0), (91, [5], [], 1200), (90, [6], [], 0), (91, [6], [], 500), (90, [7], [], 0), (91, [7], [], 1200)], (4000, [3, 4, 5, 11, 24], [2], 5))
theorem c_238w_5_9 {q0 : Nat} : vOkm T0 (eN e_238 L_238w A_238 mu_238 n_238 B_238 (some q0)) 3 g_238w_5_9 := vOk_inI fun ρ η f0 f1 f2 f3 f4 f5 f6 f7 f8 f9 f10 f11 f12 f13 f14 f15 f16 f17 f18 f19 f20 f21 f22 f23 f24 f25 f26 f27 f28 f29 f30 f31 f32 f33 f34 f35 f36 f37 f38 f39 f40 f41 f42 f43 f44 f45 f46 f47 f48 f49 f50 f51 f52 => q_238w_10 (q0 := q0) (n0 := ρ 7) (n1 := ρ 6) (n2 := ρ 5) (n3 := ρ 4) (n4 := ρ 3) (n5 := ρ 2) (n6 := ρ 1) (n7 := ρ 0) (n8 := ρ 8) (n9 := ρ 9) (n10 := ρ 10) (n11 := ρ 11) (n12 := ρ 12) (n13 := ρ 13) (n14 := ρ 14) (n15 := ρ 15) (n16 := ρ 16) (n17 := ρ 17) (n18 := ρ 18) (n19 := ρ 19) (n20 := ρ 20) (n21 := ρ 21) (n22 := ρ 22) (n23 := ρ 23) (n24 := ρ 24) (H0 := η 0) (H1 := η 1) (H2 := η 2) f52 f51 f50 f49 f48 f47 f46 f45 f44 f43 f42 f41 f40 f39 f38 f37 f36 f35 f34 f33 f32 f31 f30 f29 f28 f27 f26 f25 f24 f23 f22 f21 f20 f19 f18 f17 f16 f15 f14 f13 f12 f11 f10 f9 f8 f7 f6 f5 f4 f3 f2 f1 f0
theorem q_238w_11 {q0 : Nat} {n0 n1 n2 n3 n4 n5 n6 n7 n8 n9 n10 n11 n12 n13 n14 n15 n16 n17 n18 n19 n20 n21 : Int} {H0 H1 H2 : gH} (f0 : n0 ≤ 1200) (f1 : 0 ≤ n0) (f2 : n1 ≤ 500) (f3 : 0 ≤ n1) (f4 : n2 ≤ 1200) (f5 : 0 ≤ n2) (f6 : n3 ≤ 1200) (f7 : 0 ≤ n3) (f8 : n4 = 285) (f9 : n5 ≤ 1200) (f10 : 0 ≤ n5) (f11 : n6 ≤ 1200) (f12 : 0 ≤ n6) (f13 : n7 = 285) (f14 : (hLe T0 H0 H1 ∧ hFr s_238.2.2.2.2 H0 H1 ∧ hWt T0 H1) ∧ ((Ab_238_5 n7 n6 n5 n4 n3 n2 n1 n0 H0 H1 ∧ Bb_238_5 n7 n6 n5 n4 n3 n2 n1 n0 H0 H1) ∧ preb_238 n7 n6 n5 H0) ∧ some q0 = some (mub_238_5 n7 n6 n5 n4 n3 n2 n1 n0 H0 H1)) (f15 : n0 < n2) (f16 : n8 = 320) (f17 : hK H1 (n4).toNat = 12) (f18 : n8 = hV H1 (n4).toNat 52) (f19 : n9 ≤ 5) (f20 : 0 ≤ n9) (f21 : n9 = hV H1 (n8).toNat (n0).toNat) (f22 : n10 = 2) (f23 : n10 ≤ n9) (f24 : n11 = w32 (n1 + (-1))) (f25 : n12 = 324) (f26 : hK H1 (n4).toNat = 12) (f27 : n12 = hV H1 (n4).toNat 57) (f28 : n13 = 1) (f29 : n14 = w32 (n11 - n13)) (f30 : n15 ≤ 2147483647) (f31 : (-2147483648) ≤ n15) (f32 : n15 = hV H1 (n12).toNat (n14).toNat) (f33 : n16 = 324) (f34 : hK H1 (n4).toNat = 12) (f35 : n16 = hV H1 (n4).toNat 57) (f36 : n17 ≤ 2147483647) (f37 : (-2147483648) ≤ n17) (f38 : n17 = hV H1 (n16).toNat (n11).toNat) (f39 : n18 = 5) (f40 : n9 = n18) (f41 : n17 = 0) (f42 : n19 = 1) (f43 : hK H1 (n4).toNat = 12) (f44 : n20 = 58) (f45 : hUpd H2 H1 n4 n20 n19) (f46 : n21 = 0) : nb_238 n21 n7 n6 n5 H0 H2 := by
  unfold nb_238
  intro cl ch l cd c0 ge
  have gb := f14.2.1.1.2
  unfold Bb_238_5 at gb
  obtain ⟨tm, e58⟩ := gb cl ch l cd c0 ge
  have ab := f14.2.1.1.1
  unfold Ab_238_5 at ab
  obtain ⟨b1, b2, b3, b4, b5⟩ := ab
  have c1 := cd.1
  have c2 := cd.2.1
  have d21 := rdW (q := 320) f21 f16
  have d32 := rdW (q := 324) f32 f25
  have d38 := rdW (q := 324) f38 f33
  have hl : (n0 - n6).toNat < l.length := by omega
  obtain ⟨op, ho⟩ : ∃ op, l[(n0 - n6).toNat]? = some op := ⟨_, List.getElem?_eq_getElem hl⟩
  have oc := cd.2.2.2 _ _ ho
  have oo := ge.1 op (List.mem_of_getElem? ho)
  have b320 : hV H1 320 = hV H0 320 := fRow f14.1.2.1 320 (by decide +kernel)
  have b321 : hV H1 321 = hV H0 321 := fRow f14.1.2.1 321 (by decide +kernel)
  have k0 : n9 = op.1 := by
    rw [d21, b320, ← oc.1]
    congr 1
    omega
  have w29 := f29
  rw [f28] at w29
  unfold w32 at w29
  have w24 := f24
  unfold w32 at w24
  have tp := TM_two tm ho ge (by omega)
  have t2 : 2 ≤ n1 := by
    obtain ⟨y, x, q, _, h, _⟩ := tp
    omega
  have ea : n15 = hV H1 324 (n1 - 2).toNat := by
    rw [d32]
    congr 1
    omega
  have eb : n17 = hV H1 324 (n1 - 1).toNat := by
    rw [d38]
    congr 1
    omega
  refine .inr ⟨TM_zero tm ho ge (by omega) eb (by omega), ?_⟩
  rw [uSame f45 285 58 (by rw [f8]; rfl) (by rw [f44]; rfl), f42]
  decide
def g_238w_5_10 : vG := ([(0, [21], [], 0), (80, [3, 20, 19], [2, 1], 0), (0, [20], [], 58), (23, [3], [1], 12), (0, [19], [], 1), (30, [17], [], 0), (40, [9, 18], [], 0), (0, [18], [], 5), (22, [17, 16, 11], [1], 0), (90, [17], [], -2147483648), (91, [17], [], 2147483647), (20, [16, 3], [1], 57), (23, [3], [1], 12), (0, [16], [], 324), (22, [15, 12, 14], [1], 0), (90, [15], [], -2147483648), (91, [15], [], 2147483647), (2, [14, 11, 13], [], 0), (0, [13], [], 1), (20, [12, 3], [1], 57), (23, [3], [1], 12), (0, [12], [], 324), (10, [11, 6], [], -1), (43, [9, 10], [], 0), (0, [10], [], 2), (22, [9, 8, 7], [1], 0), (90, [9], [], 0), (91, [9], [], 5), (20, [8, 3], [1], 52), (23, [3], [1], 12), (0, [8], [], 320), (42, [7, 5], [], 0), (5000, [0, 1, 2, 3, 4, 5, 6, 7], [0, 1], 5), (0, [0], [], 285), (90, [1], [], 0), (91, [1], [], 1200), (90, [2], [], 0), (91, [2], [], 1200), (0, [3], [], 285), (90, [4], [], 0), (91, [4], [], 1200), (90, [5], [], 0), (91, [5], [], 1200), (90, [6], [], 0), (91, [6], [], 500), (90, [7], [], 0), (91, [7], [], 1200)], (3000, [21], [2], 103))
theorem c_238w_5_10 {q0 : Nat} : vOkm T0 (eN e_238 L_238w A_238 mu_238 n_238 B_238 (some q0)) 3 g_238w_5_10 := vOk_inI fun ρ η f0 f1 f2 f3 f4 f5 f6 f7 f8 f9 f10 f11 f12 f13 f14 f15 f16 f17 f18 f19 f20 f21 f22 f23 f24 f25 f26 f27 f28 f29 f30 f31 f32 f33 f34 f35 f36 f37 f38 f39 f40 f41 f42 f43 f44 f45 f46 => q_238w_11 (q0 := q0) (n0 := ρ 7) (n1 := ρ 6) (n2 := ρ 5) (n3 := ρ 4) (n4 := ρ 3) (n5 := ρ 2) (n6 := ρ 1) (n7 := ρ 0) (n8 := ρ 8) (n9 := ρ 9) (n10 := ρ 10) (n11 := ρ 11) (n12 := ρ 12) (n13 := ρ 13) (n14 := ρ 14) (n15 := ρ 15) (n16 := ρ 16) (n17 := ρ 17) (n18 := ρ 18) (n19 := ρ 19) (n20 := ρ 20) (n21 := ρ 21) (H0 := η 0) (H1 := η 1) (H2 := η 2) f46 f45 f44 f43 f42 f41 f40 f39 f38 f37 f36 f35 f34 f33 f32 f31 f30 f29 f28 f27 f26 f25 f24 f23 f22 f21 f20 f19 f18 f17 f16 f15 f14 f13 f12 f11 f10 f9 f8 f7 f6 f5 f4 f3 f2 f1 f0
theorem q_238w_12 {q0 : Nat} {n0 n1 n2 n3 n4 n5 n6 n7 n8 n9 n10 n11 n12 n13 n14 n15 n16 n17 : Int} {H0 H1 H2 : gH} (f0 : n0 ≤ 1200) (f1 : 0 ≤ n0) (f2 : n1 ≤ 500) (f3 : 0 ≤ n1) (f4 : n2 ≤ 1200) (f5 : 0 ≤ n2) (f6 : n3 ≤ 1200) (f7 : 0 ≤ n3) (f8 : n4 = 285) (f9 : n5 ≤ 1200) (f10 : 0 ≤ n5) (f11 : n6 ≤ 1200) (f12 : 0 ≤ n6) (f13 : n7 = 285) (f14 : (hLe T0 H0 H1 ∧ hFr s_238.2.2.2.2 H0 H1 ∧ hWt T0 H1) ∧ ((Ab_238_5 n7 n6 n5 n4 n3 n2 n1 n0 H0 H1 ∧ Bb_238_5 n7 n6 n5 n4 n3 n2 n1 n0 H0 H1) ∧ preb_238 n7 n6 n5 H0) ∧ some q0 = some (mub_238_5 n7 n6 n5 n4 n3 n2 n1 n0 H0 H1)) (f15 : n0 < n2) (f16 : n8 = 320) (f17 : hK H1 (n4).toNat = 12) (f18 : n8 = hV H1 (n4).toNat 52) (f19 : n9 ≤ 5) (f20 : 0 ≤ n9) (f21 : n9 = hV H1 (n8).toNat (n0).toNat) (f22 : n10 = 2) (f23 : n9 < n10) (f24 : n11 = 324) (f25 : hK H1 (n4).toNat = 12) (f26 : n11 = hV H1 (n4).toNat 57) (f27 : n9 ≠ 0) (f28 : n12 = 323) (f29 : hK H1 (n4).toNat = 12) (f30 : n12 = hV H1 (n4).toNat 56) (f31 : n13 = 321) (f32 : hK H1 (n4).toNat = 12) (f33 : n13 = hV H1 (n4).toNat 53) (f34 : n14 ≤ 9999) (f35 : 0 ≤ n14) (f36 : n14 = hV H1 (n13).toNat (n0).toNat) (f37 : n15 ≤ 2147483647) (f38 : (-2147483648) ≤ n15) (f39 : n15 = hV H1 (n12).toNat (n14).toNat) (f40 : hK H1 (n11).toNat = 420) (f41 : hUpd H2 H1 n11 n1 n15) (f42 : n16 = w32 (n1 + 1)) (f43 : n17 = w32 (n0 + 1)) : Bb_238_5 n7 n6 n5 n4 n3 n2 n16 n17 H0 H2 := by
  unfold Bb_238_5
  intro cl ch l cd c0 ge
  have gb := f14.2.1.1.2
  unfold Bb_238_5 at gb
  obtain ⟨tm, e58⟩ := gb cl ch l cd c0 ge
  have ab := f14.2.1.1.1
  unfold Ab_238_5 at ab
  obtain ⟨b1, b2, b3, b4, b5⟩ := ab
  have c1 := cd.1
  have c2 := cd.2.1
  have d21 := rdW (q := 320) f21 f16
  have d36 := rdW (q := 321) f36 f31
  have d39 := rdW (q := 323) f39 f28
  have hl : (n0 - n6).toNat < l.length := by omega
  obtain ⟨op, ho⟩ : ∃ op, l[(n0 - n6).toNat]? = some op := ⟨_, List.getElem?_eq_getElem hl⟩
  have oc := cd.2.2.2 _ _ ho
  have oo := ge.1 op (List.mem_of_getElem? ho)
  have b320 : hV H1 320 = hV H0 320 := fRow f14.1.2.1 320 (by decide +kernel)
  have b321 : hV H1 321 = hV H0 321 := fRow f14.1.2.1 321 (by decide +kernel)
  have k0 : n9 = op.1 := by
    rw [d21, b320, ← oc.1]
    congr 1
    omega
  have v1 : n14 = op.2 := by
    rw [d36, b321, ← oc.2]
    congr 1
    omega
  have b323 : hV H1 323 = hV H0 323 := fRow f14.1.2.1 323 (by decide +kernel)
  have v2 : n15 = VAr H0 op.2 := by
    unfold VAr
    rw [d39, b323, v1]
  have w42 := f42
  unfold w32 at w42
  have w43 := f43
  unfold w32 at w43
  have kz := f27
  refine ⟨TM_push tm ho ge (.inr ⟨by omega, v2⟩) (uRowQ f41 324 f24) (by omega) (by omega) (by omega), (uPlace f41 285 58 (by rw [f24]; decide)).trans e58⟩
def g_238w_5_11 : vG := ([(10, [17, 7], [], 1), (10, [16, 6], [], 1), (80, [11, 6, 15], [2, 1], 0), (23, [11], [1], 420), (22, [15, 12, 14], [1], 0), (90, [15], [], -2147483648), (91, [15], [], 2147483647), (22, [14, 13, 7], [1], 0), (90, [14], [], 0), (91, [14], [], 9999), (20, [13, 3], [1], 53), (23, [3], [1], 12), (0, [13], [], 321), (20, [12, 3], [1], 56), (23, [3], [1], 12), (0, [12], [], 323), (31, [9], [], 0), (20, [11, 3], [1], 57), (23, [3], [1], 12), (0, [11], [], 324), (42, [9, 10], [], 0), (0, [10], [], 2), (22, [9, 8, 7], [1], 0), (90, [9], [], 0), (91, [9], [], 5), (20, [8, 3], [1], 52), (23, [3], [1], 12), (0, [8], [], 320), (42, [7, 5], [], 0), (5000, [0, 1, 2, 3, 4, 5, 6, 7], [0, 1], 5), (0, [0], [], 285), (90, [1], [], 0), (91, [1], [], 1200), (90, [2], [], 0), (91, [2], [], 1200), (0, [3], [], 285), (90, [4], [], 0), (91, [4], [], 1200), (90, [5], [], 0), (91, [5], [], 1200), (90, [6], [], 0), (91, [6], [], 500), (90, [7], [], 0), (91, [7], [], 1200)], (4000, [3, 4, 5, 16, 17], [2], 5))
theorem c_238w_5_11 {q0 : Nat} : vOkm T0 (eN e_238 L_238w A_238 mu_238 n_238 B_238 (some q0)) 3 g_238w_5_11 := vOk_inI fun ρ η f0 f1 f2 f3 f4 f5 f6 f7 f8 f9 f10 f11 f12 f13 f14 f15 f16 f17 f18 f19 f20 f21 f22 f23 f24 f25 f26 f27 f28 f29 f30 f31 f32 f33 f34 f35 f36 f37 f38 f39 f40 f41 f42 f43 => q_238w_12 (q0 := q0) (n0 := ρ 7) (n1 := ρ 6) (n2 := ρ 5) (n3 := ρ 4) (n4 := ρ 3) (n5 := ρ 2) (n6 := ρ 1) (n7 := ρ 0) (n8 := ρ 8) (n9 := ρ 9) (n10 := ρ 10) (n11 := ρ 11) (n12 := ρ 12) (n13 := ρ 13) (n14 := ρ 14) (n15 := ρ 15) (n16 := ρ 16) (n17 := ρ 17) (H0 := η 0) (H1 := η 1) (H2 := η 2) f43 f42 f41 f40 f39 f38 f37 f36 f35 f34 f33 f32 f31 f30 f29 f28 f27 f26 f25 f24 f23 f22 f21 f20 f19 f18 f17 f16 f15 f14 f13 f12 f11 f10 f9 f8 f7 f6 f5 f4 f3 f2 f1 f0
theorem q_238w_13 {q0 : Nat} {n0 n1 n2 n3 n4 n5 n6 n7 n8 n9 n10 n11 n12 n13 n14 n15 : Int} {H0 H1 H2 : gH} (f0 : n0 ≤ 1200) (f1 : 0 ≤ n0) (f2 : n1 ≤ 500) (f3 : 0 ≤ n1) (f4 : n2 ≤ 1200) (f5 : 0 ≤ n2) (f6 : n3 ≤ 1200) (f7 : 0 ≤ n3) (f8 : n4 = 285) (f9 : n5 ≤ 1200) (f10 : 0 ≤ n5) (f11 : n6 ≤ 1200) (f12 : 0 ≤ n6) (f13 : n7 = 285) (f14 : (hLe T0 H0 H1 ∧ hFr s_238.2.2.2.2 H0 H1 ∧ hWt T0 H1) ∧ ((Ab_238_5 n7 n6 n5 n4 n3 n2 n1 n0 H0 H1 ∧ Bb_238_5 n7 n6 n5 n4 n3 n2 n1 n0 H0 H1) ∧ preb_238 n7 n6 n5 H0) ∧ some q0 = some (mub_238_5 n7 n6 n5 n4 n3 n2 n1 n0 H0 H1)) (f15 : n0 < n2) (f16 : n8 = 320) (f17 : hK H1 (n4).toNat = 12) (f18 : n8 = hV H1 (n4).toNat 52) (f19 : n9 ≤ 5) (f20 : 0 ≤ n9) (f21 : n9 = hV H1 (n8).toNat (n0).toNat) (f22 : n10 = 2) (f23 : n9 < n10) (f24 : n11 = 324) (f25 : hK H1 (n4).toNat = 12) (f26 : n11 = hV H1 (n4).toNat 57) (f27 : n9 = 0) (f28 : n12 = 321) (f29 : hK H1 (n4).toNat = 12) (f30 : n12 = hV H1 (n4).toNat 53) (f31 : n13 ≤ 9999) (f32 : 0 ≤ n13) (f33 : n13 = hV H1 (n12).toNat (n0).toNat) (f34 : hK H1 (n11).toNat = 420) (f35 : hUpd H2 H1 n11 n1 n13) (f36 : n14 = w32 (n1 + 1)) (f37 : n15 = w32 (n0 + 1)) : Bb_238_5 n7 n6 n5 n4 n3 n2 n14 n15 H0 H2 := by
  unfold Bb_238_5
  intro cl ch l cd c0 ge
  have gb := f14.2.1.1.2
  unfold Bb_238_5 at gb
  obtain ⟨tm, e58⟩ := gb cl ch l cd c0 ge
  have ab := f14.2.1.1.1
  unfold Ab_238_5 at ab
  obtain ⟨b1, b2, b3, b4, b5⟩ := ab
  have c1 := cd.1
  have c2 := cd.2.1
  have d21 := rdW (q := 320) f21 f16
  have d33 := rdW (q := 321) f33 f28
  have hl : (n0 - n6).toNat < l.length := by omega
  obtain ⟨op, ho⟩ : ∃ op, l[(n0 - n6).toNat]? = some op := ⟨_, List.getElem?_eq_getElem hl⟩
  have oc := cd.2.2.2 _ _ ho
  have oo := ge.1 op (List.mem_of_getElem? ho)
  have b320 : hV H1 320 = hV H0 320 := fRow f14.1.2.1 320 (by decide +kernel)
  have b321 : hV H1 321 = hV H0 321 := fRow f14.1.2.1 321 (by decide +kernel)
  have k0 : n9 = op.1 := by
    rw [d21, b320, ← oc.1]
    congr 1
    omega
  have v1 : n13 = op.2 := by
    rw [d33, b321, ← oc.2]
    congr 1
    omega
  have w36 := f36
  unfold w32 at w36
  have w37 := f37
  unfold w32 at w37
  have kz := f27
  refine ⟨TM_push tm ho ge (.inl ⟨by omega, v1⟩) (uRowQ f35 324 f24) (by omega) (by omega) (by omega), (uPlace f35 285 58 (by rw [f24]; decide)).trans e58⟩
def g_238w_5_12 : vG := ([(10, [15, 7], [], 1), (10, [14, 6], [], 1), (80, [11, 6, 13], [2, 1], 0), (23, [11], [1], 420), (22, [13, 12, 7], [1], 0), (90, [13], [], 0), (91, [13], [], 9999), (20, [12, 3], [1], 53), (23, [3], [1], 12), (0, [12], [], 321), (30, [9], [], 0), (20, [11, 3], [1], 57), (23, [3], [1], 12), (0, [11], [], 324), (42, [9, 10], [], 0), (0, [10], [], 2), (22, [9, 8, 7], [1], 0), (90, [9], [], 0), (91, [9], [], 5), (20, [8, 3], [1], 52), (23, [3], [1], 12), (0, [8], [], 320), (42, [7, 5], [], 0), (5000, [0, 1, 2, 3, 4, 5, 6, 7], [0, 1], 5), (0, [0], [], 285), (90, [1], [], 0), (91, [1], [], 1200), (90, [2], [], 0), (91, [2], [], 1200), (0, [3], [], 285), (90, [4], [], 0), (91, [4], [], 1200), (90, [5], [], 0), (91, [5], [], 1200), (90, [6], [], 0), (91, [6], [], 500), (90, [7], [], 0), (91, [7], [], 1200)], (4000, [3, 4, 5, 14, 15], [2], 5))
theorem c_238w_5_12 {q0 : Nat} : vOkm T0 (eN e_238 L_238w A_238 mu_238 n_238 B_238 (some q0)) 3 g_238w_5_12 := vOk_inI fun ρ η f0 f1 f2 f3 f4 f5 f6 f7 f8 f9 f10 f11 f12 f13 f14 f15 f16 f17 f18 f19 f20 f21 f22 f23 f24 f25 f26 f27 f28 f29 f30 f31 f32 f33 f34 f35 f36 f37 => q_238w_13 (q0 := q0) (n0 := ρ 7) (n1 := ρ 6) (n2 := ρ 5) (n3 := ρ 4) (n4 := ρ 3) (n5 := ρ 2) (n6 := ρ 1) (n7 := ρ 0) (n8 := ρ 8) (n9 := ρ 9) (n10 := ρ 10) (n11 := ρ 11) (n12 := ρ 12) (n13 := ρ 13) (n14 := ρ 14) (n15 := ρ 15) (H0 := η 0) (H1 := η 1) (H2 := η 2) f37 f36 f35 f34 f33 f32 f31 f30 f29 f28 f27 f26 f25 f24 f23 f22 f21 f20 f19 f18 f17 f16 f15 f14 f13 f12 f11 f10 f9 f8 f7 f6 f5 f4 f3 f2 f1 f0
def p_238w_5 : List vG := [g_238w_5_0,
  g_238w_5_1,
  g_238w_5_2,
  g_238w_5_3,
  g_238w_5_4,
  g_238w_5_5,
  g_238w_5_6,
  g_238w_5_7,
  g_238w_5_8,
  g_238w_5_9,
  g_238w_5_10,
  g_238w_5_11,
  g_238w_5_12]
theorem r_238w_5 : vCovBO (eRc e_238 L_238 cs_238 2000 (5, [(0, (3, 12, 285, 0)), (1, (0, 0, 1200, 0)), (2, (0, 0, 1200, 0)), (3, (0, 0, 500, 0)), (4, (0, 0, 1200, 0))])) p_238w_5 = true := by decide +kernel
theorem m_238w (d : Nat) : eC e_238w (d + 1) := eC_ref (e := e_238) (L := L_238) (L' := L_238w) (cs := cs_238) (n := 2000) (d := d + 0) (A := A_238) (μ := mu_238) (tp := true) (p0 := p_238_s) (p1 := p_238w_s) (N := n_238) (B := B_238) rfl trivial rfl (.inl rfl) (by decide +kernel) (fun _ => post0_ok) r_238_s (allC c_238_s_0 allN) (allC (.inl ⟨p_238_5, r_238_5, fun q0 => (allC c_238_5_0 (allC c_238_5_1 (allC c_238_5_2 (allC c_238_5_3 (allC c_238_5_4 (allC c_238_5_5 (allC c_238_5_6 (allC c_238_5_7 (allC c_238_5_8 (allC c_238_5_9 (allC c_238_5_10 (allC c_238_5_11 (allC c_238_5_12 (allC c_238_5_13 (allC c_238_5_14 (allC c_238_5_15 (allC c_238_5_16 (allC c_238_5_17 (allC c_238_5_18 (allC c_238_5_19 (allC c_238_5_20 (allC c_238_5_21 (allC c_238_5_22 (allC c_238_5_23 (allC c_238_5_24 (allC c_238_5_25 (allC c_238_5_26 (allC c_238_5_27 (allC c_238_5_28 (allC c_238_5_29 (allC c_238_5_30 (allC c_238_5_31 (allC c_238_5_32 (allC c_238_5_33 (allC c_238_5_34 (allC c_238_5_35 (allC c_238_5_36 (allC c_238_5_37 (allC c_238_5_38 (allC c_238_5_39 (allC c_238_5_40 (allC c_238_5_41 (allC c_238_5_42 (allC c_238_5_43 (allC c_238_5_44 (allC c_238_5_45 (allC c_238_5_46 (allC c_238_5_47 (allC c_238_5_48 (allC c_238_5_49 (allC c_238_5_50 (allC c_238_5_51 (allC c_238_5_52 (allC c_238_5_53 (allC c_238_5_54 (allC c_238_5_55 (allC c_238_5_56 (allC c_238_5_57 (allC c_238_5_58 (allC c_238_5_59 (allC c_238_5_60 (allC c_238_5_61 (allC c_238_5_62 (allC c_238_5_63 (allC c_238_5_64 (allC c_238_5_65 (allC c_238_5_66 allN)))))))))))))))))))))))))))))))))))))))))))))))))))))))))))))))))))⟩) allN) trivial r_238w_s (allC c_238w_s_0 allN) (allC ⟨p_238w_5, r_238w_5, fun q0 => (allC c_238w_5_0 (allC c_238w_5_1 (allC c_238w_5_2 (allC c_238w_5_3 (allC c_238w_5_4 (allC c_238w_5_5 (allC c_238w_5_6 (allC c_238w_5_7 (allC c_238w_5_8 (allC c_238w_5_9 (allC c_238w_5_10 (allC c_238w_5_11 (allC c_238w_5_12 allN)))))))))))))⟩ allN)
