/- MixStageModel.soundsIn (III)I, more fully -/
def nbo_310 (r a0 a1 a2 a3 : Int) (h0 h : gH) : Prop := SEok (RE h0) → hV h 285 103 = cntL (RE h0) a2 (lrL h0 (hV h0 340) (flS (hV h0 296) (hV h0 298) (hV h0 300) (hV h0 301) (hV h0 302) (hV h0 340) (7 * (a1).toNat) 7 6 0))
def no_310 : List Int → gH → gH → Prop := fun xs h0 h => match xs with
  | [r, a0, a1, a2, a3] => nbo_310 r a0 a1 a2 a3 h0 h
  | _ => True
noncomputable def e_310o : vE := eV e_310 no_310
noncomputable def L_310o : List vE := [e_248w, e_250, e_264w, e_266w, e_270w, e_273w]
def Bbo_310_13 (a0 a1 a2 a3 x0 x1 x2 x3 x4 : Int) (h0 h : gH) : Prop := xsL (hV h 344) (hV h 345) (hV h 285 82) = (flS (hV h0 296) (hV h0 298) (hV h0 300) (hV h0 301) (hV h0 302) (hV h0 340) (7 * (a1).toNat) 7 6 0)
def Bbo_310_37 (a0 a1 a2 a3 x0 x1 x2 x3 x4 : Int) (h0 h : gH) : Prop := SEok (RE h0) → xsL (hV h 344) (hV h 345) (hV h 285 82) = (flS (hV h0 296) (hV h0 298) (hV h0 300) (hV h0 301) (hV h0 302) (hV h0 340) (7 * (a1).toNat) 7 6 0) ∧ hV h 285 103 = cntL (RE h0) a2 ((lrL h0 (hV h0 340) (flS (hV h0 296) (hV h0 298) (hV h0 300) (hV h0 301) (hV h0 302) (hV h0 340) (7 * (a1).toNat) 7 6 0)).take (x4).toNat)
def Bbo_310_110 (a0 a1 a2 a3 x0 x1 x2 x3 x4 x5 x6 : Int) (h0 h : gH) : Prop := SEok (RE h0) → xsL (hV h 344) (hV h 345) (hV h 285 82) = (flS (hV h0 296) (hV h0 298) (hV h0 300) (hV h0 301) (hV h0 302) (hV h0 340) (7 * (a1).toNat) 7 6 0) ∧ hV h 285 103 = cntL (RE h0) a2 ((lrL h0 (hV h0 340) (flS (hV h0 296) (hV h0 298) (hV h0 300) (hV h0 301) (hV h0 302) (hV h0 340) (7 * (a1).toNat) 7 6 0)).take ((x4).toNat + 1))
def Bbo_310_201 (a0 a1 a2 a3 x0 x1 x2 x3 x4 x5 : Int) (h0 h : gH) : Prop := SEok (RE h0) → hV h 285 103 = cntL (RE h0) a2 (lrL h0 (hV h0 340) (flS (hV h0 296) (hV h0 298) (hV h0 300) (hV h0 301) (hV h0 302) (hV h0 340) (7 * (a1).toNat) 7 6 0))
def Bo_310 : Int → List Int → gH → gH → Prop := fun c xs h0 h => match c.toNat with
  | 13 => (match xs with
    | [a0, a1, a2, a3, x0, x1, x2, x3, x4] => Bbo_310_13 a0 a1 a2 a3 x0 x1 x2 x3 x4 h0 h
    | _ => False)
  | 37 => (match xs with
    | [a0, a1, a2, a3, x0, x1, x2, x3, x4] => Bbo_310_37 a0 a1 a2 a3 x0 x1 x2 x3 x4 h0 h
    | _ => False)
  | 110 => (match xs with
    | [a0, a1, a2, a3, x0, x1, x2, x3, x4, x5, x6] => Bbo_310_110 a0 a1 a2 a3 x0 x1 x2 x3 x4 x5 x6 h0 h
    | _ => False)
  | 201 => (match xs with
    | [a0, a1, a2, a3, x0, x1, x2, x3, x4, x5] => Bbo_310_201 a0 a1 a2 a3 x0 x1 x2 x3 x4 x5 h0 h
    | _ => False)
  | _ => True
theorem q_310o_0 {n0 n1 n2 n3 n4 n5 n6 : Int} {H0 H1 H2 : gH} (f0 : n0 ≤ 5) (f1 : 0 ≤ n0) (f2 : n1 ≤ 2147483647) (f3 : (-2147483648) ≤ n1) (f4 : n2 ≤ 7) (f5 : 0 ≤ n2) (f6 : n3 = 285) (f7 : hWt T0 H0 ∧ preb_310 n3 n2 n1 n0 H0) (f8 : (hLe T0 H0 H1 ∧ hFr s_270.2.2.2.2 H0 H1 ∧ ((0 : Int) = 0 → H1.length = H0.length) ∧ hWt T0 H1) ∧ (postb_270 n3 n2 H0 H1 ∧ nb_270 n3 n2 H0 H1)) (f9 : n4 = 0) (f10 : hK H1 (n3).toNat = 12) (f11 : n5 = 103) (f12 : hUpd H2 H1 n3 n5 n4) (f13 : n6 = 0) : Bbo_310_13 n3 n2 n1 n0 n3 n2 n1 n0 n6 H0 H2 := by
  unfold Bbo_310_13
  have un := f8.2.2
  unfold nb_270 at un
  rw [show hV H0 296 = hV H0 296 from rfl] at un
  rw [show hV H0 298 = hV H0 298 from rfl] at un
  rw [show hV H0 300 = hV H0 300 from rfl] at un
  rw [show hV H0 301 = hV H0 301 from rfl] at un
  rw [show hV H0 302 = hV H0 302 from rfl] at un
  rw [show hV H0 340 = hV H0 340 from rfl] at un
  have ey : hV H2 344 = hV H1 344 ∧ hV H2 345 = hV H1 345 ∧ hV H2 285 82 = hV H1 285 82 := ⟨uRowNe f12 344 (by rw [f6]; decide), uRowNe f12 345 (by rw [f6]; decide), uSlot f12 285 82 (by rw [f11]; decide)⟩
  exact (by rw [ey.1, ey.2.1, ey.2.2]; exact un)
def g_310o_s_0 : vG := ([(0, [6], [], 0), (80, [0, 5, 4], [2, 1], 0), (0, [5], [], 103), (23, [0], [1], 12), (0, [4], [], 0), (1270, [0, 1], [0, 1], 0), (6000, [0, 1, 2, 3], [0], 0), (0, [0], [], 285), (90, [1], [], 0), (91, [1], [], 7), (90, [2], [], -2147483648), (91, [2], [], 2147483647), (90, [3], [], 0), (91, [3], [], 5)], (4000, [0, 1, 2, 3, 6], [2], 13))
theorem c_310o_s_0 : vOkm T0 (eN e_310 L_310o A_310 mu_310 no_310 Bo_310 none) 4 g_310o_s_0 := vOk_inI fun ρ η f0 f1 f2 f3 f4 f5 f6 f7 f8 f9 f10 f11 f12 f13 => q_310o_0 (n0 := ρ 3) (n1 := ρ 2) (n2 := ρ 1) (n3 := ρ 0) (n4 := ρ 4) (n5 := ρ 5) (n6 := ρ 6) (H0 := η 0) (H1 := η 1) (H2 := η 2) f13 f12 f11 f10 f9 f8 f7 f6 f5 f4 f3 f2 f1 f0
def p_310o_s : List vG := [g_310o_s_0]
theorem r_310o_s : vCovBO (eR0 e_310 L_310 cs_310 2000) p_310o_s = true := by decide +kernel
theorem q_310o_1 {q0 : Nat} {n0 n1 n2 n3 n4 n5 n6 n7 n8 n9 n10 : Int} {H0 H1 : gH} (f0 : n0 ≤ 60) (f1 : 0 ≤ n0) (f2 : n1 ≤ 5) (f3 : 0 ≤ n1) (f4 : n2 ≤ 2147483647) (f5 : (-2147483648) ≤ n2) (f6 : n3 ≤ 7) (f7 : 0 ≤ n3) (f8 : n4 = 285) (f9 : n5 ≤ 5) (f10 : 0 ≤ n5) (f11 : n6 ≤ 2147483647) (f12 : (-2147483648) ≤ n6) (f13 : n7 ≤ 7) (f14 : 0 ≤ n7) (f15 : n8 = 285) (f16 : (hLe T0 H0 H1 ∧ hFr s_310.2.2.2.2 H0 H1 ∧ hWt T0 H1) ∧ ((Ab_310_13 n8 n7 n6 n5 n4 n3 n2 n1 n0 H0 H1 ∧ Bbo_310_13 n8 n7 n6 n5 n4 n3 n2 n1 n0 H0 H1) ∧ preb_310 n8 n7 n6 n5 H0) ∧ some q0 = some (mub_310_13 n8 n7 n6 n5 n4 n3 n2 n1 n0 H0 H1)) (f17 : n9 = 60) (f18 : n9 ≤ n0) (f19 : n10 = 0) : Bbo_310_37 n8 n7 n6 n5 n4 n3 n2 n1 n10 H0 H1 := by
  unfold Bbo_310_37
  have ex := f16.2.1.1.2
  unfold Bbo_310_13 at ex
  have ab := f16.2.1.1.1
  unfold Ab_310_13 at ab
  obtain ⟨_, _, _, _, a103⟩ := ab
  intro sk
  exact ⟨ex, cntL_0 (by omega) ((rfl).trans a103)⟩
def g_310o_13_0 : vG := ([(0, [10], [], 0), (43, [8, 9], [], 0), (0, [9], [], 60), (5000, [0, 1, 2, 3, 4, 5, 6, 7, 8], [0, 1], 13), (0, [0], [], 285), (90, [1], [], 0), (91, [1], [], 7), (90, [2], [], -2147483648), (91, [2], [], 2147483647), (90, [3], [], 0), (91, [3], [], 5), (0, [4], [], 285), (90, [5], [], 0), (91, [5], [], 7), (90, [6], [], -2147483648), (91, [6], [], 2147483647), (90, [7], [], 0), (91, [7], [], 5), (90, [8], [], 0), (91, [8], [], 60)], (4000, [4, 5, 6, 7, 10], [1], 37))
theorem c_310o_13_0 {q0 : Nat} : vOkm T0 (eN e_310 L_310o A_310 mu_310 no_310 Bo_310 (some q0)) 4 g_310o_13_0 := vOk_inI fun ρ η f0 f1 f2 f3 f4 f5 f6 f7 f8 f9 f10 f11 f12 f13 f14 f15 f16 f17 f18 f19 => q_310o_1 (q0 := q0) (n0 := ρ 8) (n1 := ρ 7) (n2 := ρ 6) (n3 := ρ 5) (n4 := ρ 4) (n5 := ρ 3) (n6 := ρ 2) (n7 := ρ 1) (n8 := ρ 0) (n9 := ρ 9) (n10 := ρ 10) (H0 := η 0) (H1 := η 1) f19 f18 f17 f16 f15 f14 f13 f12 f11 f10 f9 f8 f7 f6 f5 f4 f3 f2 f1 f0
theorem q_310o_2 {q0 : Nat} {n0 n1 n2 n3 n4 n5 n6 n7 n8 n9 n10 n11 n12 n13 : Int} {H0 H1 H2 : gH} (f0 : n0 ≤ 60) (f1 : 0 ≤ n0) (f2 : n1 ≤ 5) (f3 : 0 ≤ n1) (f4 : n2 ≤ 2147483647) (f5 : (-2147483648) ≤ n2) (f6 : n3 ≤ 7) (f7 : 0 ≤ n3) (f8 : n4 = 285) (f9 : n5 ≤ 5) (f10 : 0 ≤ n5) (f11 : n6 ≤ 2147483647) (f12 : (-2147483648) ≤ n6) (f13 : n7 ≤ 7) (f14 : 0 ≤ n7) (f15 : n8 = 285) (f16 : (hLe T0 H0 H1 ∧ hFr s_310.2.2.2.2 H0 H1 ∧ hWt T0 H1) ∧ ((Ab_310_13 n8 n7 n6 n5 n4 n3 n2 n1 n0 H0 H1 ∧ Bbo_310_13 n8 n7 n6 n5 n4 n3 n2 n1 n0 H0 H1) ∧ preb_310 n8 n7 n6 n5 H0) ∧ some q0 = some (mub_310_13 n8 n7 n6 n5 n4 n3 n2 n1 n0 H0 H1)) (f17 : n9 = 60) (f18 : n0 < n9) (f19 : n10 = 356) (f20 : hK H1 (n4).toNat = 12) (f21 : n10 = hV H1 (n4).toNat 98) (f22 : n11 = 0) (f23 : n12 = o32 (fun x _ => x &&& 1) n11 0) (f24 : hK H1 (n10).toNat = 679) (f25 : hUpd H2 H1 n10 n0 n12) (f26 : n13 = w32 (n0 + 1)) : Bbo_310_13 n8 n7 n6 n5 n4 n3 n2 n1 n13 H0 H2 := by
  unfold Bbo_310_13
  have ex := f16.2.1.1.2
  unfold Bbo_310_13 at ex
  exact (by rw [show hV H2 344 = hV H1 344 from uRowNe f25 344 (by rw [f19]; decide), show hV H2 345 = hV H1 345 from uRowNe f25 345 (by rw [f19]; decide), show hV H2 285 82 = hV H1 285 82 from uPlace f25 285 82 (by rw [f19]; decide)]; exact ex)
def g_310o_13_1 : vG := ([(10, [13, 8], [], 1), (80, [10, 8, 12], [2, 1], 0), (23, [10], [1], 679), (16, [12, 11], [], 0), (0, [11], [], 0), (20, [10, 4], [1], 98), (23, [4], [1], 12), (0, [10], [], 356), (42, [8, 9], [], 0), (0, [9], [], 60), (5000, [0, 1, 2, 3, 4, 5, 6, 7, 8], [0, 1], 13), (0, [0], [], 285), (90, [1], [], 0), (91, [1], [], 7), (90, [2], [], -2147483648), (91, [2], [], 2147483647), (90, [3], [], 0), (91, [3], [], 5), (0, [4], [], 285), (90, [5], [], 0), (91, [5], [], 7), (90, [6], [], -2147483648), (91, [6], [], 2147483647), (90, [7], [], 0), (91, [7], [], 5), (90, [8], [], 0), (91, [8], [], 60)], (4000, [4, 5, 6, 7, 13], [2], 13))
theorem c_310o_13_1 {q0 : Nat} : vOkm T0 (eN e_310 L_310o A_310 mu_310 no_310 Bo_310 (some q0)) 4 g_310o_13_1 := vOk_inI fun ρ η f0 f1 f2 f3 f4 f5 f6 f7 f8 f9 f10 f11 f12 f13 f14 f15 f16 f17 f18 f19 f20 f21 f22 f23 f24 f25 f26 => q_310o_2 (q0 := q0) (n0 := ρ 8) (n1 := ρ 7) (n2 := ρ 6) (n3 := ρ 5) (n4 := ρ 4) (n5 := ρ 3) (n6 := ρ 2) (n7 := ρ 1) (n8 := ρ 0) (n9 := ρ 9) (n10 := ρ 10) (n11 := ρ 11) (n12 := ρ 12) (n13 := ρ 13) (H0 := η 0) (H1 := η 1) (H2 := η 2) f26 f25 f24 f23 f22 f21 f20 f19 f18 f17 f16 f15 f14 f13 f12 f11 f10 f9 f8 f7 f6 f5 f4 f3 f2 f1 f0
def p_310o_13 : List vG := [g_310o_13_0,
  g_310o_13_1]
theorem r_310o_13 : vCovBO (eRc e_310 L_310 cs_310 2000 (13, [(0, (3, 12, 285, 0)), (1, (0, 0, 7, 0)), (2, (0, -2147483648, 2147483647, 0)), (3, (0, 0, 5, 0)), (4, (0, 0, 60, 0))])) p_310o_13 = true := by decide +kernel
theorem q_310o_3 {q0 : Nat} {n0 n1 n2 n3 n4 n5 n6 n7 n8 n9 n10 n11 : Int} {H0 H1 : gH} (f0 : n0 ≤ 40) (f1 : 0 ≤ n0) (f2 : n1 ≤ 5) (f3 : 0 ≤ n1) (f4 : n2 ≤ 2147483647) (f5 : (-2147483648) ≤ n2) (f6 : n3 ≤ 7) (f7 : 0 ≤ n3) (f8 : n4 = 285) (f9 : n5 ≤ 5) (f10 : 0 ≤ n5) (f11 : n6 ≤ 2147483647) (f12 : (-2147483648) ≤ n6) (f13 : n7 ≤ 7) (f14 : 0 ≤ n7) (f15 : n8 = 285) (f16 : (hLe T0 H0 H1 ∧ hFr s_310.2.2.2.2 H0 H1 ∧ hWt T0 H1) ∧ ((Ab_310_37 n8 n7 n6 n5 n4 n3 n2 n1 n0 H0 H1 ∧ Bbo_310_37 n8 n7 n6 n5 n4 n3 n2 n1 n0 H0 H1) ∧ preb_310 n8 n7 n6 n5 H0) ∧ some q0 = some (mub_310_37 n8 n7 n6 n5 n4 n3 n2 n1 n0 H0 H1)) (f17 : n9 ≤ 40) (f18 : 0 ≤ n9) (f19 : hK H1 (n4).toNat = 12) (f20 : n9 = hV H1 (n4).toNat 82) (f21 : n9 ≤ n0) (f22 : n10 = 0) (f23 : n11 = 0) : Bbo_310_201 n8 n7 n6 n5 n4 n3 n2 n1 n10 n11 H0 H1 := by
  unfold Bbo_310_201
  intro sk
  have gb := f16.2.1.1.2
  unfold Bbo_310_37 at gb
  have gb := gb sk
  have er : RE H1 = RE H0 := RE_fr f16.1.2.1 (by decide +kernel)
  have b298 : hV H1 298 = hV H0 298 := fRow f16.1.2.1 298 (by decide +kernel)
  have b300 : hV H1 300 = hV H0 300 := fRow f16.1.2.1 300 (by decide +kernel)
  have s64 : hV H1 285 64 = hV H0 285 64 := f16.1.2.1.1 285 64 (by decide +kernel)
  have ga := f16.2.1.1.1
  unfold Ab_310_37 at ga
  obtain ⟨h1, h2, h3, h4, h5⟩ := ga
  obtain ⟨ex, ct⟩ := gb
  have ln := congrArg List.length ex
  rw [xsL_len] at ln
  have ll : ((lrL H0 (hV H0 340) (flS (hV H0 296) (hV H0 298) (hV H0 300) (hV H0 301) (hV H0 302) (hV H0 340) (7 * (n7).toNat) 7 6 0))).length = ((flS (hV H0 296) (hV H0 298) (hV H0 300) (hV H0 301) (hV H0 302) (hV H0 340) (7 * (n7).toNat) 7 6 0)).length := lrL_len
  have d20 := rdS (q := 285) f20 f8
  exact cntL_all (by omega) ((rfl).trans ct)
def g_310o_37_0 : vG := ([(0, [11], [], 0), (0, [10], [], 0), (43, [8, 9], [], 0), (20, [9, 4], [1], 82), (23, [4], [1], 12), (90, [9], [], 0), (91, [9], [], 40), (5000, [0, 1, 2, 3, 4, 5, 6, 7, 8], [0, 1], 37), (0, [0], [], 285), (90, [1], [], 0), (91, [1], [], 7), (90, [2], [], -2147483648), (91, [2], [], 2147483647), (90, [3], [], 0), (91, [3], [], 5), (0, [4], [], 285), (90, [5], [], 0), (91, [5], [], 7), (90, [6], [], -2147483648), (91, [6], [], 2147483647), (90, [7], [], 0), (91, [7], [], 5), (90, [8], [], 0), (91, [8], [], 40)], (4000, [4, 5, 6, 7, 10, 11], [1], 201))
theorem c_310o_37_0 {q0 : Nat} : vOkm T0 (eN e_310 L_310o A_310 mu_310 no_310 Bo_310 (some q0)) 4 g_310o_37_0 := vOk_inI fun ρ η f0 f1 f2 f3 f4 f5 f6 f7 f8 f9 f10 f11 f12 f13 f14 f15 f16 f17 f18 f19 f20 f21 f22 f23 => q_310o_3 (q0 := q0) (n0 := ρ 8) (n1 := ρ 7) (n2 := ρ 6) (n3 := ρ 5) (n4 := ρ 4) (n5 := ρ 3) (n6 := ρ 2) (n7 := ρ 1) (n8 := ρ 0) (n9 := ρ 9) (n10 := ρ 10) (n11 := ρ 11) (H0 := η 0) (H1 := η 1) f23 f22 f21 f20 f19 f18 f17 f16 f15 f14 f13 f12 f11 f10 f9 f8 f7 f6 f5 f4 f3 f2 f1 f0
theorem q_310o_4 {q0 : Nat} {n0 n1 n2 n3 n4 n5 n6 n7 n8 n9 n10 n11 n12 n13 n14 : Int} {H0 H1 : gH} (f0 : n0 ≤ 40) (f1 : 0 ≤ n0) (f2 : n1 ≤ 5) (f3 : 0 ≤ n1) (f4 : n2 ≤ 2147483647) (f5 : (-2147483648) ≤ n2) (f6 : n3 ≤ 7) (f7 : 0 ≤ n3) (f8 : n4 = 285) (f9 : n5 ≤ 5) (f10 : 0 ≤ n5) (f11 : n6 ≤ 2147483647) (f12 : (-2147483648) ≤ n6) (f13 : n7 ≤ 7) (f14 : 0 ≤ n7) (f15 : n8 = 285) (f16 : (hLe T0 H0 H1 ∧ hFr s_310.2.2.2.2 H0 H1 ∧ hWt T0 H1) ∧ ((Ab_310_37 n8 n7 n6 n5 n4 n3 n2 n1 n0 H0 H1 ∧ Bbo_310_37 n8 n7 n6 n5 n4 n3 n2 n1 n0 H0 H1) ∧ preb_310 n8 n7 n6 n5 H0) ∧ some q0 = some (mub_310_37 n8 n7 n6 n5 n4 n3 n2 n1 n0 H0 H1)) (f17 : n9 ≤ 40) (f18 : 0 ≤ n9) (f19 : hK H1 (n4).toNat = 12) (f20 : n9 = hV H1 (n4).toNat 82) (f21 : n0 < n9) (f22 : n10 = 344) (f23 : hK H1 (n4).toNat = 12) (f24 : n10 = hV H1 (n4).toNat 83) (f25 : n11 ≤ 1007) (f26 : 0 ≤ n11) (f27 : n11 = hV H1 (n10).toNat (n0).toNat) (f28 : n12 = 298) (f29 : hK H1 (n4).toNat = 12) (f30 : n12 = hV H1 (n4).toNat 24) (f31 : n13 ≤ 5) (f32 : 0 ≤ n13) (f33 : n13 = hV H1 (n12).toNat (n11).toNat) (f34 : n13 ≠ 0) (f35 : n14 = w32 (n0 + 1)) : Bbo_310_37 n8 n7 n6 n5 n4 n3 n2 n1 n14 H0 H1 := by
  unfold Bbo_310_37
  intro sk
  have gb := f16.2.1.1.2
  unfold Bbo_310_37 at gb
  have gb := gb sk
  have er : RE H1 = RE H0 := RE_fr f16.1.2.1 (by decide +kernel)
  have b298 : hV H1 298 = hV H0 298 := fRow f16.1.2.1 298 (by decide +kernel)
  have b300 : hV H1 300 = hV H0 300 := fRow f16.1.2.1 300 (by decide +kernel)
  have s64 : hV H1 285 64 = hV H0 285 64 := f16.1.2.1.1 285 64 (by decide +kernel)
  have ga := f16.2.1.1.1
  unfold Ab_310_37 at ga
  obtain ⟨h1, h2, h3, h4, h5⟩ := ga
  obtain ⟨ex, ct⟩ := gb
  have ln := congrArg List.length ex
  rw [xsL_len] at ln
  have ll : ((lrL H0 (hV H0 340) (flS (hV H0 296) (hV H0 298) (hV H0 300) (hV H0 301) (hV H0 302) (hV H0 340) (7 * (n7).toNat) 7 6 0))).length = ((flS (hV H0 296) (hV H0 298) (hV H0 300) (hV H0 301) (hV H0 302) (hV H0 340) (7 * (n7).toNat) 7 6 0)).length := lrL_len
  have d20 := rdS (q := 285) f20 f8
  have d27 := rdW (q := 344) f27 f22
  have d33 := rdW (q := 298) f33 f28
  obtain ⟨p, hp⟩ : ∃ p, ((flS (hV H0 296) (hV H0 298) (hV H0 300) (hV H0 301) (hV H0 302) (hV H0 340) (7 * (n7).toNat) 7 6 0))[(n0).toNat]? = some p := ⟨_, List.getElem?_eq_getElem (by omega)⟩
  have xa := xsL_at ex hp
  have hL := lrL_at (h := H0) (mk := hV H0 340) hp
  have e344 : (n11).toNat = p.1 := by
    rw [d27]
    exact xa.1
  have y33 : n13 = hV H0 298 p.1 := by
    rw [d33, e344, b298]
  have wn := f35
  unfold w32 at wn
  have no : ¬ MUp (RE H0) n6 (lrN (nowR (hV H0 340) (recR H0 p.1, p.2))) := fun w => by
    have w0 := w.1
    rw [lrN_no (by omega)] at w0
    exact absurd w0 (by decide)
  exact ⟨ex, cntL_n hL no (by omega) ct (rfl) (by omega)⟩
def g_310o_37_1 : vG := ([(10, [14, 8], [], 1), (31, [13], [], 0), (22, [13, 12, 11], [1], 0), (90, [13], [], 0), (91, [13], [], 5), (20, [12, 4], [1], 24), (23, [4], [1], 12), (0, [12], [], 298), (22, [11, 10, 8], [1], 0), (90, [11], [], 0), (91, [11], [], 1007), (20, [10, 4], [1], 83), (23, [4], [1], 12), (0, [10], [], 344), (42, [8, 9], [], 0), (20, [9, 4], [1], 82), (23, [4], [1], 12), (90, [9], [], 0), (91, [9], [], 40), (5000, [0, 1, 2, 3, 4, 5, 6, 7, 8], [0, 1], 37), (0, [0], [], 285), (90, [1], [], 0), (91, [1], [], 7), (90, [2], [], -2147483648), (91, [2], [], 2147483647), (90, [3], [], 0), (91, [3], [], 5), (0, [4], [], 285), (90, [5], [], 0), (91, [5], [], 7), (90, [6], [], -2147483648), (91, [6], [], 2147483647), (90, [7], [], 0), (91, [7], [], 5), (90, [8], [], 0), (91, [8], [], 40)], (4000, [4, 5, 6, 7, 14], [1], 37))
theorem c_310o_37_1 {q0 : Nat} : vOkm T0 (eN e_310 L_310o A_310 mu_310 no_310 Bo_310 (some q0)) 4 g_310o_37_1 := vOk_inI fun ρ η f0 f1 f2 f3 f4 f5 f6 f7 f8 f9 f10 f11 f12 f13 f14 f15 f16 f17 f18 f19 f20 f21 f22 f23 f24 f25 f26 f27 f28 f29 f30 f31 f32 f33 f34 f35 => q_310o_4 (q0 := q0) (n0 := ρ 8) (n1 := ρ 7) (n2 := ρ 6) (n3 := ρ 5) (n4 := ρ 4) (n5 := ρ 3) (n6 := ρ 2) (n7 := ρ 1) (n8 := ρ 0) (n9 := ρ 9) (n10 := ρ 10) (n11 := ρ 11) (n12 := ρ 12) (n13 := ρ 13) (n14 := ρ 14) (H0 := η 0) (H1 := η 1) f35 f34 f33 f32 f31 f30 f29 f28 f27 f26 f25 f24 f23 f22 f21 f20 f19 f18 f17 f16 f15 f14 f13 f12 f11 f10 f9 f8 f7 f6 f5 f4 f3 f2 f1 f0
theorem q_310o_5 {q0 : Nat} {n0 n1 n2 n3 n4 n5 n6 n7 n8 n9 n10 n11 n12 n13 n14 n15 n16 n17 : Int} {H0 H1 H2 : gH} (f0 : n0 ≤ 40) (f1 : 0 ≤ n0) (f2 : n1 ≤ 5) (f3 : 0 ≤ n1) (f4 : n2 ≤ 2147483647) (f5 : (-2147483648) ≤ n2) (f6 : n3 ≤ 7) (f7 : 0 ≤ n3) (f8 : n4 = 285) (f9 : n5 ≤ 5) (f10 : 0 ≤ n5) (f11 : n6 ≤ 2147483647) (f12 : (-2147483648) ≤ n6) (f13 : n7 ≤ 7) (f14 : 0 ≤ n7) (f15 : n8 = 285) (f16 : (hLe T0 H0 H1 ∧ hFr s_310.2.2.2.2 H0 H1 ∧ hWt T0 H1) ∧ ((Ab_310_37 n8 n7 n6 n5 n4 n3 n2 n1 n0 H0 H1 ∧ Bbo_310_37 n8 n7 n6 n5 n4 n3 n2 n1 n0 H0 H1) ∧ preb_310 n8 n7 n6 n5 H0) ∧ some q0 = some (mub_310_37 n8 n7 n6 n5 n4 n3 n2 n1 n0 H0 H1)) (f17 : n9 ≤ 40) (f18 : 0 ≤ n9) (f19 : hK H1 (n4).toNat = 12) (f20 : n9 = hV H1 (n4).toNat 82) (f21 : n0 < n9) (f22 : n10 = 344) (f23 : hK H1 (n4).toNat = 12) (f24 : n10 = hV H1 (n4).toNat 83) (f25 : n11 ≤ 1007) (f26 : 0 ≤ n11) (f27 : n11 = hV H1 (n10).toNat (n0).toNat) (f28 : n12 = 298) (f29 : hK H1 (n4).toNat = 12) (f30 : n12 = hV H1 (n4).toNat 24) (f31 : n13 ≤ 5) (f32 : 0 ≤ n13) (f33 : n13 = hV H1 (n12).toNat (n11).toNat) (f34 : n13 = 0) (f35 : n14 = 300) (f36 : hK H1 (n4).toNat = 12) (f37 : n14 = hV H1 (n4).toNat 26) (f38 : n15 ≤ 9999) (f39 : (-1) ≤ n15) (f40 : n15 = hV H1 (n14).toNat (n11).toNat) (f41 : n16 ≤ 1) (f42 : 0 ≤ n16) (f43 : (hLe T0 H1 H2 ∧ hFr s_250.2.2.2.2 H1 H2 ∧ ((0 : Int) = 0 → H2.length = H1.length) ∧ hWt T0 H2) ∧ postb_250 n16 n4 n15 H1 H2) (f44 : n16 = 0) (f45 : n17 = w32 (n0 + 1)) : Bbo_310_37 n8 n7 n6 n5 n4 n3 n2 n1 n17 H0 H2 := by
  unfold Bbo_310_37
  intro sk
  have gb := f16.2.1.1.2
  unfold Bbo_310_37 at gb
  have gb := gb sk
  have er : RE H1 = RE H0 := RE_fr f16.1.2.1 (by decide +kernel)
  have b298 : hV H1 298 = hV H0 298 := fRow f16.1.2.1 298 (by decide +kernel)
  have b300 : hV H1 300 = hV H0 300 := fRow f16.1.2.1 300 (by decide +kernel)
  have s64 : hV H1 285 64 = hV H0 285 64 := f16.1.2.1.1 285 64 (by decide +kernel)
  have ga := f16.2.1.1.1
  unfold Ab_310_37 at ga
  obtain ⟨h1, h2, h3, h4, h5⟩ := ga
  obtain ⟨ex, ct⟩ := gb
  have ln := congrArg List.length ex
  rw [xsL_len] at ln
  have ll : ((lrL H0 (hV H0 340) (flS (hV H0 296) (hV H0 298) (hV H0 300) (hV H0 301) (hV H0 302) (hV H0 340) (7 * (n7).toNat) 7 6 0))).length = ((flS (hV H0 296) (hV H0 298) (hV H0 300) (hV H0 301) (hV H0 302) (hV H0 340) (7 * (n7).toNat) 7 6 0)).length := lrL_len
  have d20 := rdS (q := 285) f20 f8
  have d27 := rdW (q := 344) f27 f22
  have d33 := rdW (q := 298) f33 f28
  have d40 := rdW (q := 300) f40 f35
  obtain ⟨p, hp⟩ : ∃ p, ((flS (hV H0 296) (hV H0 298) (hV H0 300) (hV H0 301) (hV H0 302) (hV H0 340) (7 * (n7).toNat) 7 6 0))[(n0).toNat]? = some p := ⟨_, List.getElem?_eq_getElem (by omega)⟩
  have xa := xsL_at ex hp
  have hL := lrL_at (h := H0) (mk := hV H0 340) hp
  have e344 : (n11).toNat = p.1 := by
    rw [d27]
    exact xa.1
  have y33 : n13 = hV H0 298 p.1 := by
    rw [d33, e344, b298]
  have y40 : n15 = hV H0 300 p.1 := by
    rw [d40, e344, b300]
  have wn := f45
  unfold w32 at wn
  have k0 : hV H0 298 p.1 = 0 := by omega
  have el := lrN_R (h := H0) (mk := hV H0 340) (sh := p.2) k0
  have g0 : (lrN (nowR (hV H0 340) (recR H0 p.1, p.2))).1 = 0 := congrArg (fun y : LR => y.1) el
  have gs : (lrN (nowR (hV H0 340) (recR H0 p.1, p.2))).2.1 = hV H0 300 p.1 := congrArg (fun y : LR => y.2.1) el
  have qi := f43.2
  unfold postb_250 at qi
  rw [show hV H2 285 64 = hV H0 285 64 from (f43.1.2.1.1 285 64 (by decide +kernel)).trans (f16.1.2.1.1 285 64 (by decide +kernel))] at qi
  have no : ¬ MUp (RE H0) n6 (lrN (nowR (hV H0 340) (recR H0 p.1, p.2))) := fun w => by
    have w1 := w.2.1
    have w2 : _ < hV H0 285 64 := w.2.2.1
    omega
  exact ⟨(by rw [show hV H2 344 = hV H1 344 from fRow f43.1.2.1 344 (by decide +kernel), show hV H2 345 = hV H1 345 from fRow f43.1.2.1 345 (by decide +kernel), show hV H2 285 82 = hV H1 285 82 from f43.1.2.1.1 285 82 (by decide +kernel)]; exact ex), cntL_n hL no (by omega) ct (f43.1.2.1.1 285 103 (by decide +kernel)) (by omega)⟩
def g_310o_37_2 : vG := ([(10, [17, 8], [], 1), (30, [16], [], 0), (1250, [16, 4, 15], [1, 2], 0), (90, [16], [], 0), (91, [16], [], 1), (22, [15, 14, 11], [1], 0), (90, [15], [], -1), (91, [15], [], 9999), (20, [14, 4], [1], 26), (23, [4], [1], 12), (0, [14], [], 300), (30, [13], [], 0), (22, [13, 12, 11], [1], 0), (90, [13], [], 0), (91, [13], [], 5), (20, [12, 4], [1], 24), (23, [4], [1], 12), (0, [12], [], 298), (22, [11, 10, 8], [1], 0), (90, [11], [], 0), (91, [11], [], 1007), (20, [10, 4], [1], 83), (23, [4], [1], 12), (0, [10], [], 344), (42, [8, 9], [], 0), (20, [9, 4], [1], 82), (23, [4], [1], 12), (90, [9], [], 0), (91, [9], [], 40), (5000, [0, 1, 2, 3, 4, 5, 6, 7, 8], [0, 1], 37), (0, [0], [], 285), (90, [1], [], 0), (91, [1], [], 7), (90, [2], [], -2147483648), (91, [2], [], 2147483647), (90, [3], [], 0), (91, [3], [], 5), (0, [4], [], 285), (90, [5], [], 0), (91, [5], [], 7), (90, [6], [], -2147483648), (91, [6], [], 2147483647), (90, [7], [], 0), (91, [7], [], 5), (90, [8], [], 0), (91, [8], [], 40)], (4000, [4, 5, 6, 7, 17], [2], 37))
theorem c_310o_37_2 {q0 : Nat} : vOkm T0 (eN e_310 L_310o A_310 mu_310 no_310 Bo_310 (some q0)) 4 g_310o_37_2 := vOk_inI fun ρ η f0 f1 f2 f3 f4 f5 f6 f7 f8 f9 f10 f11 f12 f13 f14 f15 f16 f17 f18 f19 f20 f21 f22 f23 f24 f25 f26 f27 f28 f29 f30 f31 f32 f33 f34 f35 f36 f37 f38 f39 f40 f41 f42 f43 f44 f45 => q_310o_5 (q0 := q0) (n0 := ρ 8) (n1 := ρ 7) (n2 := ρ 6) (n3 := ρ 5) (n4 := ρ 4) (n5 := ρ 3) (n6 := ρ 2) (n7 := ρ 1) (n8 := ρ 0) (n9 := ρ 9) (n10 := ρ 10) (n11 := ρ 11) (n12 := ρ 12) (n13 := ρ 13) (n14 := ρ 14) (n15 := ρ 15) (n16 := ρ 16) (n17 := ρ 17) (H0 := η 0) (H1 := η 1) (H2 := η 2) f45 f44 f43 f42 f41 f40 f39 f38 f37 f36 f35 f34 f33 f32 f31 f30 f29 f28 f27 f26 f25 f24 f23 f22 f21 f20 f19 f18 f17 f16 f15 f14 f13 f12 f11 f10 f9 f8 f7 f6 f5 f4 f3 f2 f1 f0
theorem q_310o_6 {q0 : Nat} {n0 n1 n2 n3 n4 n5 n6 n7 n8 n9 n10 n11 n12 n13 n14 n15 n16 n17 n18 n19 n20 n21 n22 n23 n24 : Int} {H0 H1 H2 H3 H4 : gH} (f0 : n0 ≤ 40) (f1 : 0 ≤ n0) (f2 : n1 ≤ 5) (f3 : 0 ≤ n1) (f4 : n2 ≤ 2147483647) (f5 : (-2147483648) ≤ n2) (f6 : n3 ≤ 7) (f7 : 0 ≤ n3) (f8 : n4 = 285) (f9 : n5 ≤ 5) (f10 : 0 ≤ n5) (f11 : n6 ≤ 2147483647) (f12 : (-2147483648) ≤ n6) (f13 : n7 ≤ 7) (f14 : 0 ≤ n7) (f15 : n8 = 285) (f16 : (hLe T0 H0 H1 ∧ hFr s_310.2.2.2.2 H0 H1 ∧ hWt T0 H1) ∧ ((Ab_310_37 n8 n7 n6 n5 n4 n3 n2 n1 n0 H0 H1 ∧ Bbo_310_37 n8 n7 n6 n5 n4 n3 n2 n1 n0 H0 H1) ∧ preb_310 n8 n7 n6 n5 H0) ∧ some q0 = some (mub_310_37 n8 n7 n6 n5 n4 n3 n2 n1 n0 H0 H1)) (f17 : n9 ≤ 40) (f18 : 0 ≤ n9) (f19 : hK H1 (n4).toNat = 12) (f20 : n9 = hV H1 (n4).toNat 82) (f21 : n0 < n9) (f22 : n10 = 344) (f23 : hK H1 (n4).toNat = 12) (f24 : n10 = hV H1 (n4).toNat 83) (f25 : n11 ≤ 1007) (f26 : 0 ≤ n11) (f27 : n11 = hV H1 (n10).toNat (n0).toNat) (f28 : n12 = 298) (f29 : hK H1 (n4).toNat = 12) (f30 : n12 = hV H1 (n4).toNat 24) (f31 : n13 ≤ 5) (f32 : 0 ≤ n13) (f33 : n13 = hV H1 (n12).toNat (n11).toNat) (f34 : n13 = 0) (f35 : n14 = 300) (f36 : hK H1 (n4).toNat = 12) (f37 : n14 = hV H1 (n4).toNat 26) (f38 : n15 ≤ 9999) (f39 : (-1) ≤ n15) (f40 : n15 = hV H1 (n14).toNat (n11).toNat) (f41 : n16 ≤ 1) (f42 : 0 ≤ n16) (f43 : (hLe T0 H1 H2 ∧ hFr s_250.2.2.2.2 H1 H2 ∧ ((0 : Int) = 0 → H2.length = H1.length) ∧ hWt T0 H2) ∧ postb_250 n16 n4 n15 H1 H2) (f44 : n16 ≠ 0) (f45 : n17 = 300) (f46 : hK H2 (n4).toNat = 12) (f47 : n17 = hV H2 (n4).toNat 26) (f48 : n18 ≤ 9999) (f49 : (-1) ≤ n18) (f50 : n18 = hV H2 (n17).toNat (n11).toNat) (f51 : n19 ≤ 19) (f52 : 0 ≤ n19) (f53 : (hLe T0 H2 H3 ∧ hFr s_264.2.2.2.2 H2 H3 ∧ ((0 : Int) = 0 → H3.length = H2.length) ∧ hWt T0 H3) ∧ (postb_264 n19 n4 n18 H2 H3 ∧ nb_264 n19 n4 n18 H2 H3)) (f54 : n19 = n2) (f55 : n20 ≤ 40) (f56 : 0 ≤ n20) (f57 : hK H3 (n4).toNat = 12) (f58 : n20 = hV H3 (n4).toNat 103) (f59 : n21 = 1) (f60 : n22 = w32 (n20 + n21)) (f61 : hK H3 (n4).toNat = 12) (f62 : n23 = 103) (f63 : hUpd H4 H3 n4 n23 n22) (f64 : n24 = 0) : Bbo_310_110 n8 n7 n6 n5 n4 n3 n2 n1 n0 n11 n24 H0 H4 := by
  unfold Bbo_310_110
  intro sk
  have gb := f16.2.1.1.2
  unfold Bbo_310_37 at gb
  have gb := gb sk
  have er : RE H1 = RE H0 := RE_fr f16.1.2.1 (by decide +kernel)
  have b298 : hV H1 298 = hV H0 298 := fRow f16.1.2.1 298 (by decide +kernel)
  have b300 : hV H1 300 = hV H0 300 := fRow f16.1.2.1 300 (by decide +kernel)
  have s64 : hV H1 285 64 = hV H0 285 64 := f16.1.2.1.1 285 64 (by decide +kernel)
  have ga := f16.2.1.1.1
  unfold Ab_310_37 at ga
  obtain ⟨h1, h2, h3, h4, h5⟩ := ga
  obtain ⟨ex, ct⟩ := gb
  have ln := congrArg List.length ex
  rw [xsL_len] at ln
  have ll : ((lrL H0 (hV H0 340) (flS (hV H0 296) (hV H0 298) (hV H0 300) (hV H0 301) (hV H0 302) (hV H0 340) (7 * (n7).toNat) 7 6 0))).length = ((flS (hV H0 296) (hV H0 298) (hV H0 300) (hV H0 301) (hV H0 302) (hV H0 340) (7 * (n7).toNat) 7 6 0)).length := lrL_len
  have d20 := rdS (q := 285) f20 f8
  have d27 := rdW (q := 344) f27 f22
  have d33 := rdW (q := 298) f33 f28
  have d40 := rdW (q := 300) f40 f35
  have d50 := rdW (q := 300) f50 f45
  have d58 := rdS (q := 285) f58 f8
  obtain ⟨p, hp⟩ : ∃ p, ((flS (hV H0 296) (hV H0 298) (hV H0 300) (hV H0 301) (hV H0 302) (hV H0 340) (7 * (n7).toNat) 7 6 0))[(n0).toNat]? = some p := ⟨_, List.getElem?_eq_getElem (by omega)⟩
  have xa := xsL_at ex hp
  have hL := lrL_at (h := H0) (mk := hV H0 340) hp
  have e344 : (n11).toNat = p.1 := by
    rw [d27]
    exact xa.1
  have y33 : n13 = hV H0 298 p.1 := by
    rw [d33, e344, b298]
  have y40 : n15 = hV H0 300 p.1 := by
    rw [d40, e344, b300]
  have y50 : n18 = hV H0 300 p.1 := by
    rw [d50, show hV H2 300 = hV H1 300 from fRow f43.1.2.1 300 (by decide +kernel), e344, b300]
  have k0 : hV H0 298 p.1 = 0 := by omega
  have el := lrN_R (h := H0) (mk := hV H0 340) (sh := p.2) k0
  have g0 : (lrN (nowR (hV H0 340) (recR H0 p.1, p.2))).1 = 0 := congrArg (fun y : LR => y.1) el
  have gs : (lrN (nowR (hV H0 340) (recR H0 p.1, p.2))).2.1 = hV H0 300 p.1 := congrArg (fun y : LR => y.2.1) el
  have qi := f43.2
  unfold postb_250 at qi
  rw [show hV H2 285 64 = hV H0 285 64 from (f43.1.2.1.1 285 64 (by decide +kernel)).trans (f16.1.2.1.1 285 64 (by decide +kernel))] at qi
  have qr := f53.2.2
  unfold nb_264 at qr
  rw [show RE H2 = RE H0 from (RE_fr f43.1.2.1 (by decide +kernel)).trans (RE_fr f16.1.2.1 (by decide +kernel))] at qr
  have qr := qr sk
  rw [y50] at qr
  have yes : MUp (RE H0) n6 (lrN (nowR (hV H0 340) (recR H0 p.1, p.2))) := ⟨g0, by omega, (show (lrN (nowR (hV H0 340) (recR H0 p.1, p.2))).2.1 < hV H0 285 64 by omega), by rw [gs]; omega⟩
  have y103 : n20 = hV H1 285 103 := by rw [d58, show hV H3 285 103 = hV H1 285 103 from (f53.1.2.1.1 285 103 (by decide +kernel)).trans (f43.1.2.1.1 285 103 (by decide +kernel))]
  have wa := f60
  rw [f59] at wa
  have cb := cntL_tb (by omega) ct
  rw [w32_id (by omega) (by omega)] at wa
  have v := cntL_y (n' := hV H4 285 103) (k' := n0 + 1) hL yes (by omega) ct ((uSame f63 285 103 (by rw [f8]; rfl) (by rw [f62]; rfl)).trans (by omega)) rfl
  rw [show (n0 + 1).toNat = (n0).toNat + 1 by omega] at v
  exact ⟨(by rw [show hV H4 344 = hV H1 344 from (uRowNe f63 344 (by rw [f8]; decide)).trans ((fRow f53.1.2.1 344 (by decide +kernel)).trans (fRow f43.1.2.1 344 (by decide +kernel))), show hV H4 345 = hV H1 345 from (uRowNe f63 345 (by rw [f8]; decide)).trans ((fRow f53.1.2.1 345 (by decide +kernel)).trans (fRow f43.1.2.1 345 (by decide +kernel))), show hV H4 285 82 = hV H1 285 82 from (uSlot f63 285 82 (by rw [f62]; decide)).trans ((f53.1.2.1.1 285 82 (by decide +kernel)).trans (f43.1.2.1.1 285 82 (by decide +kernel)))]; exact ex), v⟩
def g_310o_37_3 : vG := ([(0, [24], [], 0), (80, [4, 23, 22], [4, 3], 0), (0, [23], [], 103), (23, [4], [3], 12), (1, [22, 20, 21], [], 0), (0, [21], [], 1), (20, [20, 4], [3], 103), (23, [4], [3], 12), (90, [20], [], 0), (91, [20], [], 40), (40, [19, 6], [], 0), (1264, [19, 4, 18], [2, 3], 0), (90, [19], [], 0), (91, [19], [], 19), (22, [18, 17, 11], [2], 0), (90, [18], [], -1), (91, [18], [], 9999), (20, [17, 4], [2], 26), (23, [4], [2], 12), (0, [17], [], 300), (31, [16], [], 0), (1250, [16, 4, 15], [1, 2], 0), (90, [16], [], 0), (91, [16], [], 1), (22, [15, 14, 11], [1], 0), (90, [15], [], -1), (91, [15], [], 9999), (20, [14, 4], [1], 26), (23, [4], [1], 12), (0, [14], [], 300), (30, [13], [], 0), (22, [13, 12, 11], [1], 0), (90, [13], [], 0), (91, [13], [], 5), (20, [12, 4], [1], 24), (23, [4], [1], 12), (0, [12], [], 298), (22, [11, 10, 8], [1], 0), (90, [11], [], 0), (91, [11], [], 1007), (20, [10, 4], [1], 83), (23, [4], [1], 12), (0, [10], [], 344), (42, [8, 9], [], 0), (20, [9, 4], [1], 82), (23, [4], [1], 12), (90, [9], [], 0), (91, [9], [], 40), (5000, [0, 1, 2, 3, 4, 5, 6, 7, 8], [0, 1], 37), (0, [0], [], 285), (90, [1], [], 0), (91, [1], [], 7), (90, [2], [], -2147483648), (91, [2], [], 2147483647), (90, [3], [], 0), (91, [3], [], 5), (0, [4], [], 285), (90, [5], [], 0), (91, [5], [], 7), (90, [6], [], -2147483648), (91, [6], [], 2147483647), (90, [7], [], 0), (91, [7], [], 5), (90, [8], [], 0), (91, [8], [], 40)], (4000, [4, 5, 6, 7, 8, 11, 24], [4], 110))
theorem c_310o_37_3 {q0 : Nat} : vOkm T0 (eN e_310 L_310o A_310 mu_310 no_310 Bo_310 (some q0)) 4 g_310o_37_3 := vOk_inI fun ρ η f0 f1 f2 f3 f4 f5 f6 f7 f8 f9 f10 f11 f12 f13 f14 f15 f16 f17 f18 f19 f20 f21 f22 f23 f24 f25 f26 f27 f28 f29 f30 f31 f32 f33 f34 f35 f36 f37 f38 f39 f40 f41 f42 f43 f44 f45 f46 f47 f48 f49 f50 f51 f52 f53 f54 f55 f56 f57 f58 f59 f60 f61 f62 f63 f64 => q_310o_6 (q0 := q0) (n0 := ρ 8) (n1 := ρ 7) (n2 := ρ 6) (n3 := ρ 5) (n4 := ρ 4) (n5 := ρ 3) (n6 := ρ 2) (n7 := ρ 1) (n8 := ρ 0) (n9 := ρ 9) (n10 := ρ 10) (n11 := ρ 11) (n12 := ρ 12) (n13 := ρ 13) (n14 := ρ 14) (n15 := ρ 15) (n16 := ρ 16) (n17 := ρ 17) (n18 := ρ 18) (n19 := ρ 19) (n20 := ρ 20) (n21 := ρ 21) (n22 := ρ 22) (n23 := ρ 23) (n24 := ρ 24) (H0 := η 0) (H1 := η 1) (H2 := η 2) (H3 := η 3) (H4 := η 4) f64 f63 f62 f61 f60 f59 f58 f57 f56 f55 f54 f53 f52 f51 f50 f49 f48 f47 f46 f45 f44 f43 f42 f41 f40 f39 f38 f37 f36 f35 f34 f33 f32 f31 f30 f29 f28 f27 f26 f25 f24 f23 f22 f21 f20 f19 f18 f17 f16 f15 f14 f13 f12 f11 f10 f9 f8 f7 f6 f5 f4 f3 f2 f1 f0
theorem q_310o_7 {q0 : Nat} {n0 n1 n2 n3 n4 n5 n6 n7 n8 n9 n10 n11 n12 n13 n14 n15 n16 n17 n18 n19 n20 : Int} {H0 H1 H2 H3 : gH} (f0 : n0 ≤ 40) (f1 : 0 ≤ n0) (f2 : n1 ≤ 5) (f3 : 0 ≤ n1) (f4 : n2 ≤ 2147483647) (f5 : (-2147483648) ≤ n2) (f6 : n3 ≤ 7) (f7 : 0 ≤ n3) (f8 : n4 = 285) (f9 : n5 ≤ 5) (f10 : 0 ≤ n5) (f11 : n6 ≤ 2147483647) (f12 : (-2147483648) ≤ n6) (f13 : n7 ≤ 7) (f14 : 0 ≤ n7) (f15 : n8 = 285) (f16 : (hLe T0 H0 H1 ∧ hFr s_310.2.2.2.2 H0 H1 ∧ hWt T0 H1) ∧ ((Ab_310_37 n8 n7 n6 n5 n4 n3 n2 n1 n0 H0 H1 ∧ Bbo_310_37 n8 n7 n6 n5 n4 n3 n2 n1 n0 H0 H1) ∧ preb_310 n8 n7 n6 n5 H0) ∧ some q0 = some (mub_310_37 n8 n7 n6 n5 n4 n3 n2 n1 n0 H0 H1)) (f17 : n9 ≤ 40) (f18 : 0 ≤ n9) (f19 : hK H1 (n4).toNat = 12) (f20 : n9 = hV H1 (n4).toNat 82) (f21 : n0 < n9) (f22 : n10 = 344) (f23 : hK H1 (n4).toNat = 12) (f24 : n10 = hV H1 (n4).toNat 83) (f25 : n11 ≤ 1007) (f26 : 0 ≤ n11) (f27 : n11 = hV H1 (n10).toNat (n0).toNat) (f28 : n12 = 298) (f29 : hK H1 (n4).toNat = 12) (f30 : n12 = hV H1 (n4).toNat 24) (f31 : n13 ≤ 5) (f32 : 0 ≤ n13) (f33 : n13 = hV H1 (n12).toNat (n11).toNat) (f34 : n13 = 0) (f35 : n14 = 300) (f36 : hK H1 (n4).toNat = 12) (f37 : n14 = hV H1 (n4).toNat 26) (f38 : n15 ≤ 9999) (f39 : (-1) ≤ n15) (f40 : n15 = hV H1 (n14).toNat (n11).toNat) (f41 : n16 ≤ 1) (f42 : 0 ≤ n16) (f43 : (hLe T0 H1 H2 ∧ hFr s_250.2.2.2.2 H1 H2 ∧ ((0 : Int) = 0 → H2.length = H1.length) ∧ hWt T0 H2) ∧ postb_250 n16 n4 n15 H1 H2) (f44 : n16 ≠ 0) (f45 : n17 = 300) (f46 : hK H2 (n4).toNat = 12) (f47 : n17 = hV H2 (n4).toNat 26) (f48 : n18 ≤ 9999) (f49 : (-1) ≤ n18) (f50 : n18 = hV H2 (n17).toNat (n11).toNat) (f51 : n19 ≤ 19) (f52 : 0 ≤ n19) (f53 : (hLe T0 H2 H3 ∧ hFr s_264.2.2.2.2 H2 H3 ∧ ((0 : Int) = 0 → H3.length = H2.length) ∧ hWt T0 H3) ∧ (postb_264 n19 n4 n18 H2 H3 ∧ nb_264 n19 n4 n18 H2 H3)) (f54 : n19 ≠ n2) (f55 : n20 = w32 (n0 + 1)) : Bbo_310_37 n8 n7 n6 n5 n4 n3 n2 n1 n20 H0 H3 := by
  unfold Bbo_310_37
  intro sk
  have gb := f16.2.1.1.2
  unfold Bbo_310_37 at gb
  have gb := gb sk
  have er : RE H1 = RE H0 := RE_fr f16.1.2.1 (by decide +kernel)
  have b298 : hV H1 298 = hV H0 298 := fRow f16.1.2.1 298 (by decide +kernel)
  have b300 : hV H1 300 = hV H0 300 := fRow f16.1.2.1 300 (by decide +kernel)
  have s64 : hV H1 285 64 = hV H0 285 64 := f16.1.2.1.1 285 64 (by decide +kernel)
  have ga := f16.2.1.1.1
  unfold Ab_310_37 at ga
  obtain ⟨h1, h2, h3, h4, h5⟩ := ga
  obtain ⟨ex, ct⟩ := gb
  have ln := congrArg List.length ex
  rw [xsL_len] at ln
  have ll : ((lrL H0 (hV H0 340) (flS (hV H0 296) (hV H0 298) (hV H0 300) (hV H0 301) (hV H0 302) (hV H0 340) (7 * (n7).toNat) 7 6 0))).length = ((flS (hV H0 296) (hV H0 298) (hV H0 300) (hV H0 301) (hV H0 302) (hV H0 340) (7 * (n7).toNat) 7 6 0)).length := lrL_len
  have d20 := rdS (q := 285) f20 f8
  have d27 := rdW (q := 344) f27 f22
  have d33 := rdW (q := 298) f33 f28
  have d40 := rdW (q := 300) f40 f35
  have d50 := rdW (q := 300) f50 f45
  obtain ⟨p, hp⟩ : ∃ p, ((flS (hV H0 296) (hV H0 298) (hV H0 300) (hV H0 301) (hV H0 302) (hV H0 340) (7 * (n7).toNat) 7 6 0))[(n0).toNat]? = some p := ⟨_, List.getElem?_eq_getElem (by omega)⟩
  have xa := xsL_at ex hp
  have hL := lrL_at (h := H0) (mk := hV H0 340) hp
  have e344 : (n11).toNat = p.1 := by
    rw [d27]
    exact xa.1
  have y33 : n13 = hV H0 298 p.1 := by
    rw [d33, e344, b298]
  have y40 : n15 = hV H0 300 p.1 := by
    rw [d40, e344, b300]
  have y50 : n18 = hV H0 300 p.1 := by
    rw [d50, show hV H2 300 = hV H1 300 from fRow f43.1.2.1 300 (by decide +kernel), e344, b300]
  have wn := f55
  unfold w32 at wn
  have k0 : hV H0 298 p.1 = 0 := by omega
  have el := lrN_R (h := H0) (mk := hV H0 340) (sh := p.2) k0
  have g0 : (lrN (nowR (hV H0 340) (recR H0 p.1, p.2))).1 = 0 := congrArg (fun y : LR => y.1) el
  have gs : (lrN (nowR (hV H0 340) (recR H0 p.1, p.2))).2.1 = hV H0 300 p.1 := congrArg (fun y : LR => y.2.1) el
  have qi := f43.2
  unfold postb_250 at qi
  rw [show hV H2 285 64 = hV H0 285 64 from (f43.1.2.1.1 285 64 (by decide +kernel)).trans (f16.1.2.1.1 285 64 (by decide +kernel))] at qi
  have qr := f53.2.2
  unfold nb_264 at qr
  rw [show RE H2 = RE H0 from (RE_fr f43.1.2.1 (by decide +kernel)).trans (RE_fr f16.1.2.1 (by decide +kernel))] at qr
  have qr := qr sk
  rw [y50] at qr
  have no : ¬ MUp (RE H0) n6 (lrN (nowR (hV H0 340) (recR H0 p.1, p.2))) := fun w => by
    have w3 := w.2.2.2
    rw [gs] at w3
    omega
  exact ⟨(by rw [show hV H3 344 = hV H1 344 from (fRow f53.1.2.1 344 (by decide +kernel)).trans (fRow f43.1.2.1 344 (by decide +kernel)), show hV H3 345 = hV H1 345 from (fRow f53.1.2.1 345 (by decide +kernel)).trans (fRow f43.1.2.1 345 (by decide +kernel)), show hV H3 285 82 = hV H1 285 82 from (f53.1.2.1.1 285 82 (by decide +kernel)).trans (f43.1.2.1.1 285 82 (by decide +kernel))]; exact ex), cntL_n hL no (by omega) ct ((f53.1.2.1.1 285 103 (by decide +kernel)).trans (f43.1.2.1.1 285 103 (by decide +kernel))) (by omega)⟩
def g_310o_37_4 : vG := ([(10, [20, 8], [], 1), (41, [19, 6], [], 0), (1264, [19, 4, 18], [2, 3], 0), (90, [19], [], 0), (91, [19], [], 19), (22, [18, 17, 11], [2], 0), (90, [18], [], -1), (91, [18], [], 9999), (20, [17, 4], [2], 26), (23, [4], [2], 12), (0, [17], [], 300), (31, [16], [], 0), (1250, [16, 4, 15], [1, 2], 0), (90, [16], [], 0), (91, [16], [], 1), (22, [15, 14, 11], [1], 0), (90, [15], [], -1), (91, [15], [], 9999), (20, [14, 4], [1], 26), (23, [4], [1], 12), (0, [14], [], 300), (30, [13], [], 0), (22, [13, 12, 11], [1], 0), (90, [13], [], 0), (91, [13], [], 5), (20, [12, 4], [1], 24), (23, [4], [1], 12), (0, [12], [], 298), (22, [11, 10, 8], [1], 0), (90, [11], [], 0), (91, [11], [], 1007), (20, [10, 4], [1], 83), (23, [4], [1], 12), (0, [10], [], 344), (42, [8, 9], [], 0), (20, [9, 4], [1], 82), (23, [4], [1], 12), (90, [9], [], 0), (91, [9], [], 40), (5000, [0, 1, 2, 3, 4, 5, 6, 7, 8], [0, 1], 37), (0, [0], [], 285), (90, [1], [], 0), (91, [1], [], 7), (90, [2], [], -2147483648), (91, [2], [], 2147483647), (90, [3], [], 0), (91, [3], [], 5), (0, [4], [], 285), (90, [5], [], 0), (91, [5], [], 7), (90, [6], [], -2147483648), (91, [6], [], 2147483647), (90, [7], [], 0), (91, [7], [], 5), (90, [8], [], 0), (91, [8], [], 40)], (4000, [4, 5, 6, 7, 20], [3], 37))
theorem c_310o_37_4 {q0 : Nat} : vOkm T0 (eN e_310 L_310o A_310 mu_310 no_310 Bo_310 (some q0)) 4 g_310o_37_4 := vOk_inI fun ρ η f0 f1 f2 f3 f4 f5 f6 f7 f8 f9 f10 f11 f12 f13 f14 f15 f16 f17 f18 f19 f20 f21 f22 f23 f24 f25 f26 f27 f28 f29 f30 f31 f32 f33 f34 f35 f36 f37 f38 f39 f40 f41 f42 f43 f44 f45 f46 f47 f48 f49 f50 f51 f52 f53 f54 f55 => q_310o_7 (q0 := q0) (n0 := ρ 8) (n1 := ρ 7) (n2 := ρ 6) (n3 := ρ 5) (n4 := ρ 4) (n5 := ρ 3) (n6 := ρ 2) (n7 := ρ 1) (n8 := ρ 0) (n9 := ρ 9) (n10 := ρ 10) (n11 := ρ 11) (n12 := ρ 12) (n13 := ρ 13) (n14 := ρ 14) (n15 := ρ 15) (n16 := ρ 16) (n17 := ρ 17) (n18 := ρ 18) (n19 := ρ 19) (n20 := ρ 20) (H0 := η 0) (H1 := η 1) (H2 := η 2) (H3 := η 3) f55 f54 f53 f52 f51 f50 f49 f48 f47 f46 f45 f44 f43 f42 f41 f40 f39 f38 f37 f36 f35 f34 f33 f32 f31 f30 f29 f28 f27 f26 f25 f24 f23 f22 f21 f20 f19 f18 f17 f16 f15 f14 f13 f12 f11 f10 f9 f8 f7 f6 f5 f4 f3 f2 f1 f0
def p_310o_37 : List vG := [g_310o_37_0,
  g_310o_37_1,
  g_310o_37_2,
  g_310o_37_3,
  g_310o_37_4]
theorem r_310o_37 : vCovBO (eRc e_310 L_310 cs_310 2000 (37, [(0, (3, 12, 285, 0)), (1, (0, 0, 7, 0)), (2, (0, -2147483648, 2147483647, 0)), (3, (0, 0, 5, 0)), (4, (0, 0, 40, 0))])) p_310o_37 = true := by decide +kernel
theorem q_310o_8 {q0 : Nat} {n0 n1 n2 n3 n4 n5 n6 n7 n8 n9 n10 n11 n12 n13 n14 n15 n16 n17 : Int} {H0 H1 : gH} (f0 : n0 ≤ 240) (f1 : 0 ≤ n0) (f2 : n1 ≤ 1007) (f3 : 0 ≤ n1) (f4 : n2 ≤ 39) (f5 : 0 ≤ n2) (f6 : n3 ≤ 5) (f7 : 0 ≤ n3) (f8 : n4 ≤ 2147483647) (f9 : (-2147483648) ≤ n4) (f10 : n5 ≤ 7) (f11 : 0 ≤ n5) (f12 : n6 = 285) (f13 : n7 ≤ 5) (f14 : 0 ≤ n7) (f15 : n8 ≤ 2147483647) (f16 : (-2147483648) ≤ n8) (f17 : n9 ≤ 7) (f18 : 0 ≤ n9) (f19 : n10 = 285) (f20 : (hLe T0 H0 H1 ∧ hFr s_310.2.2.2.2 H0 H1 ∧ hWt T0 H1) ∧ ((Ab_310_110 n10 n9 n8 n7 n6 n5 n4 n3 n2 n1 n0 H0 H1 ∧ Bbo_310_110 n10 n9 n8 n7 n6 n5 n4 n3 n2 n1 n0 H0 H1) ∧ preb_310 n10 n9 n8 n7 H0) ∧ some q0 = some (mub_310_110 n10 n9 n8 n7 n6 n5 n4 n3 n2 n1 n0 H0 H1)) (f21 : n11 = 4) (f22 : n12 = 325) (f23 : hK H1 (n6).toNat = 12) (f24 : n12 = hV H1 (n6).toNat 61) (f25 : n13 = 293) (f26 : hK H1 (n6).toNat = 12) (f27 : n13 = hV H1 (n6).toNat 19) (f28 : n14 ≤ 5) (f29 : 0 ≤ n14) (f30 : n14 = hV H1 (n13).toNat (n5).toNat) (f31 : n15 ≤ 60) (f32 : 0 ≤ n15) (f33 : n15 = hV H1 (n12).toNat (n14).toNat) (f34 : n16 = w32 (n11 * n15)) (f35 : n16 ≤ n0) (f36 : n17 = w32 (n2 + 1)) : Bbo_310_37 n10 n9 n8 n7 n6 n5 n4 n3 n17 H0 H1 := by
  unfold Bbo_310_37
  intro sk
  have gb := f20.2.1.1.2
  unfold Bbo_310_110 at gb
  have gb := gb sk
  obtain ⟨ex, ct⟩ := gb
  have wn := f36
  unfold w32 at wn
  refine ⟨ex, ?_⟩
  rw [show (n17).toNat = (n2).toNat + 1 by omega]
  exact (rfl).trans ct
def g_310o_110_0 : vG := ([(10, [17, 8], [], 1), (43, [10, 16], [], 0), (3, [16, 11, 15], [], 0), (22, [15, 12, 14], [1], 0), (90, [15], [], 0), (91, [15], [], 60), (22, [14, 13, 5], [1], 0), (90, [14], [], 0), (91, [14], [], 5), (20, [13, 4], [1], 19), (23, [4], [1], 12), (0, [13], [], 293), (20, [12, 4], [1], 61), (23, [4], [1], 12), (0, [12], [], 325), (0, [11], [], 4), (5000, [0, 1, 2, 3, 4, 5, 6, 7, 8, 9, 10], [0, 1], 110), (0, [0], [], 285), (90, [1], [], 0), (91, [1], [], 7), (90, [2], [], -2147483648), (91, [2], [], 2147483647), (90, [3], [], 0), (91, [3], [], 5), (0, [4], [], 285), (90, [5], [], 0), (91, [5], [], 7), (90, [6], [], -2147483648), (91, [6], [], 2147483647), (90, [7], [], 0), (91, [7], [], 5), (90, [8], [], 0), (91, [8], [], 39), (90, [9], [], 0), (91, [9], [], 1007), (90, [10], [], 0), (91, [10], [], 240)], (4000, [4, 5, 6, 7, 17], [1], 37))
theorem c_310o_110_0 {q0 : Nat} : vOkm T0 (eN e_310 L_310o A_310 mu_310 no_310 Bo_310 (some q0)) 4 g_310o_110_0 := vOk_inI fun ρ η f0 f1 f2 f3 f4 f5 f6 f7 f8 f9 f10 f11 f12 f13 f14 f15 f16 f17 f18 f19 f20 f21 f22 f23 f24 f25 f26 f27 f28 f29 f30 f31 f32 f33 f34 f35 f36 => q_310o_8 (q0 := q0) (n0 := ρ 10) (n1 := ρ 9) (n2 := ρ 8) (n3 := ρ 7) (n4 := ρ 6) (n5 := ρ 5) (n6 := ρ 4) (n7 := ρ 3) (n8 := ρ 2) (n9 := ρ 1) (n10 := ρ 0) (n11 := ρ 11) (n12 := ρ 12) (n13 := ρ 13) (n14 := ρ 14) (n15 := ρ 15) (n16 := ρ 16) (n17 := ρ 17) (H0 := η 0) (H1 := η 1) f36 f35 f34 f33 f32 f31 f30 f29 f28 f27 f26 f25 f24 f23 f22 f21 f20 f19 f18 f17 f16 f15 f14 f13 f12 f11 f10 f9 f8 f7 f6 f5 f4 f3 f2 f1 f0
theorem q_310o_9 {q0 : Nat} {n0 n1 n2 n3 n4 n5 n6 n7 n8 n9 n10 n11 n12 n13 n14 n15 n16 n17 n18 : Int} {H0 H1 H2 : gH} (f0 : n0 ≤ 240) (f1 : 0 ≤ n0) (f2 : n1 ≤ 1007) (f3 : 0 ≤ n1) (f4 : n2 ≤ 39) (f5 : 0 ≤ n2) (f6 : n3 ≤ 5) (f7 : 0 ≤ n3) (f8 : n4 ≤ 2147483647) (f9 : (-2147483648) ≤ n4) (f10 : n5 ≤ 7) (f11 : 0 ≤ n5) (f12 : n6 = 285) (f13 : n7 ≤ 5) (f14 : 0 ≤ n7) (f15 : n8 ≤ 2147483647) (f16 : (-2147483648) ≤ n8) (f17 : n9 ≤ 7) (f18 : 0 ≤ n9) (f19 : n10 = 285) (f20 : (hLe T0 H0 H1 ∧ hFr s_310.2.2.2.2 H0 H1 ∧ hWt T0 H1) ∧ ((Ab_310_110 n10 n9 n8 n7 n6 n5 n4 n3 n2 n1 n0 H0 H1 ∧ Bbo_310_110 n10 n9 n8 n7 n6 n5 n4 n3 n2 n1 n0 H0 H1) ∧ preb_310 n10 n9 n8 n7 H0) ∧ some q0 = some (mub_310_110 n10 n9 n8 n7 n6 n5 n4 n3 n2 n1 n0 H0 H1)) (f21 : n11 = 4) (f22 : n12 = 325) (f23 : hK H1 (n6).toNat = 12) (f24 : n12 = hV H1 (n6).toNat 61) (f25 : n13 = 293) (f26 : hK H1 (n6).toNat = 12) (f27 : n13 = hV H1 (n6).toNat 19) (f28 : n14 ≤ 5) (f29 : 0 ≤ n14) (f30 : n14 = hV H1 (n13).toNat (n5).toNat) (f31 : n15 ≤ 60) (f32 : 0 ≤ n15) (f33 : n15 = hV H1 (n12).toNat (n14).toNat) (f34 : n16 = w32 (n11 * n15)) (f35 : n0 < n16) (f36 : n17 ≤ 1) (f37 : 0 ≤ n17) (f38 : (hLe T0 H1 H2 ∧ hFr s_273.2.2.2.2 H1 H2 ∧ ((0 : Int) = 0 → H2.length = H1.length) ∧ hWt T0 H2) ∧ (postb_273 n17 n6 n2 n0 H1 H2 ∧ nb_273 n17 n6 n2 n0 H1 H2)) (f39 : n17 = 0) (f40 : n18 = w32 (n0 + 1)) : Bbo_310_110 n10 n9 n8 n7 n6 n5 n4 n3 n2 n1 n18 H0 H2 := by
  unfold Bbo_310_110
  intro sk
  have gb := f20.2.1.1.2
  unfold Bbo_310_110 at gb
  have gb := gb sk
  obtain ⟨ex, ct⟩ := gb
  exact ⟨(by rw [show hV H2 344 = hV H1 344 from fRow f38.1.2.1 344 (by decide +kernel), show hV H2 345 = hV H1 345 from fRow f38.1.2.1 345 (by decide +kernel), show hV H2 285 82 = hV H1 285 82 from f38.1.2.1.1 285 82 (by decide +kernel)]; exact ex), (f38.1.2.1.1 285 103 (by decide +kernel)).trans ct⟩
def g_310o_110_1 : vG := ([(10, [18, 10], [], 1), (30, [17], [], 0), (1273, [17, 4, 8, 10], [1, 2], 0), (90, [17], [], 0), (91, [17], [], 1), (42, [10, 16], [], 0), (3, [16, 11, 15], [], 0), (22, [15, 12, 14], [1], 0), (90, [15], [], 0), (91, [15], [], 60), (22, [14, 13, 5], [1], 0), (90, [14], [], 0), (91, [14], [], 5), (20, [13, 4], [1], 19), (23, [4], [1], 12), (0, [13], [], 293), (20, [12, 4], [1], 61), (23, [4], [1], 12), (0, [12], [], 325), (0, [11], [], 4), (5000, [0, 1, 2, 3, 4, 5, 6, 7, 8, 9, 10], [0, 1], 110), (0, [0], [], 285), (90, [1], [], 0), (91, [1], [], 7), (90, [2], [], -2147483648), (91, [2], [], 2147483647), (90, [3], [], 0), (91, [3], [], 5), (0, [4], [], 285), (90, [5], [], 0), (91, [5], [], 7), (90, [6], [], -2147483648), (91, [6], [], 2147483647), (90, [7], [], 0), (91, [7], [], 5), (90, [8], [], 0), (91, [8], [], 39), (90, [9], [], 0), (91, [9], [], 1007), (90, [10], [], 0), (91, [10], [], 240)], (4000, [4, 5, 6, 7, 8, 9, 18], [2], 110))
theorem c_310o_110_1 {q0 : Nat} : vOkm T0 (eN e_310 L_310o A_310 mu_310 no_310 Bo_310 (some q0)) 4 g_310o_110_1 := vOk_inI fun ρ η f0 f1 f2 f3 f4 f5 f6 f7 f8 f9 f10 f11 f12 f13 f14 f15 f16 f17 f18 f19 f20 f21 f22 f23 f24 f25 f26 f27 f28 f29 f30 f31 f32 f33 f34 f35 f36 f37 f38 f39 f40 => q_310o_9 (q0 := q0) (n0 := ρ 10) (n1 := ρ 9) (n2 := ρ 8) (n3 := ρ 7) (n4 := ρ 6) (n5 := ρ 5) (n6 := ρ 4) (n7 := ρ 3) (n8 := ρ 2) (n9 := ρ 1) (n10 := ρ 0) (n11 := ρ 11) (n12 := ρ 12) (n13 := ρ 13) (n14 := ρ 14) (n15 := ρ 15) (n16 := ρ 16) (n17 := ρ 17) (n18 := ρ 18) (H0 := η 0) (H1 := η 1) (H2 := η 2) f40 f39 f38 f37 f36 f35 f34 f33 f32 f31 f30 f29 f28 f27 f26 f25 f24 f23 f22 f21 f20 f19 f18 f17 f16 f15 f14 f13 f12 f11 f10 f9 f8 f7 f6 f5 f4 f3 f2 f1 f0
theorem q_310o_10 {q0 : Nat} {n0 n1 n2 n3 n4 n5 n6 n7 n8 n9 n10 n11 n12 n13 n14 n15 n16 n17 n18 n19 n20 n21 n22 n23 n24 n25 n26 n27 n28 n29 n30 n31 : Int} {H0 H1 H2 H3 : gH} (f0 : n0 ≤ 240) (f1 : 0 ≤ n0) (f2 : n1 ≤ 1007) (f3 : 0 ≤ n1) (f4 : n2 ≤ 39) (f5 : 0 ≤ n2) (f6 : n3 ≤ 5) (f7 : 0 ≤ n3) (f8 : n4 ≤ 2147483647) (f9 : (-2147483648) ≤ n4) (f10 : n5 ≤ 7) (f11 : 0 ≤ n5) (f12 : n6 = 285) (f13 : n7 ≤ 5) (f14 : 0 ≤ n7) (f15 : n8 ≤ 2147483647) (f16 : (-2147483648) ≤ n8) (f17 : n9 ≤ 7) (f18 : 0 ≤ n9) (f19 : n10 = 285) (f20 : (hLe T0 H0 H1 ∧ hFr s_310.2.2.2.2 H0 H1 ∧ hWt T0 H1) ∧ ((Ab_310_110 n10 n9 n8 n7 n6 n5 n4 n3 n2 n1 n0 H0 H1 ∧ Bbo_310_110 n10 n9 n8 n7 n6 n5 n4 n3 n2 n1 n0 H0 H1) ∧ preb_310 n10 n9 n8 n7 H0) ∧ some q0 = some (mub_310_110 n10 n9 n8 n7 n6 n5 n4 n3 n2 n1 n0 H0 H1)) (f21 : n11 = 4) (f22 : n12 = 325) (f23 : hK H1 (n6).toNat = 12) (f24 : n12 = hV H1 (n6).toNat 61) (f25 : n13 = 293) (f26 : hK H1 (n6).toNat = 12) (f27 : n13 = hV H1 (n6).toNat 19) (f28 : n14 ≤ 5) (f29 : 0 ≤ n14) (f30 : n14 = hV H1 (n13).toNat (n5).toNat) (f31 : n15 ≤ 60) (f32 : 0 ≤ n15) (f33 : n15 = hV H1 (n12).toNat (n14).toNat) (f34 : n16 = w32 (n11 * n15)) (f35 : n0 < n16) (f36 : n17 ≤ 1) (f37 : 0 ≤ n17) (f38 : (hLe T0 H1 H2 ∧ hFr s_273.2.2.2.2 H1 H2 ∧ ((0 : Int) = 0 → H2.length = H1.length) ∧ hWt T0 H2) ∧ (postb_273 n17 n6 n2 n0 H1 H2 ∧ nb_273 n17 n6 n2 n0 H1 H2)) (f39 : n17 ≠ 0) (f40 : n18 = 300) (f41 : hK H2 (n6).toNat = 12) (f42 : n18 = hV H2 (n6).toNat 26) (f43 : n19 ≤ 9999) (f44 : (-1) ≤ n19) (f45 : n19 = hV H2 (n18).toNat (n1).toNat) (f46 : n20 ≤ 2147483647) (f47 : (-2147483648) ≤ n20) (f48 : hK H2 (n6).toNat = 12) (f49 : n20 = hV H2 (n6).toNat 88) (f50 : n21 ≤ 2147483647) (f51 : (-2147483648) ≤ n21) (f52 : (hLe T0 H2 H3 ∧ hFr s_266.2.2.2.2 H2 H3 ∧ ((0 : Int) = 0 → H3.length = H2.length) ∧ hWt T0 H3) ∧ (True ∧ nb_266 n21 n6 n19 n20 H2 H3)) (f53 : n22 = 305) (f54 : hK H3 (n6).toNat = 12) (f55 : n22 = hV H3 (n6).toNat 31) (f56 : n23 = 6) (f57 : n24 = w32 (n23 * n1)) (f58 : n25 = 2) (f59 : n26 = w32 (n24 + n25)) (f60 : n27 ≤ 9999) (f61 : (-1) ≤ n27) (f62 : n27 = hV H3 (n22).toNat (n26).toNat) (f63 : n28 = w32 (n21 * n27)) (f64 : n29 = 100) (f65 : n30 = o32 (fun x y => x / y) n28 n29) (f66 : n30 = 0) (f67 : n31 = w32 (n0 + 1)) : Bbo_310_110 n10 n9 n8 n7 n6 n5 n4 n3 n2 n1 n31 H0 H3 := by
  unfold Bbo_310_110
  intro sk
  have gb := f20.2.1.1.2
  unfold Bbo_310_110 at gb
  have gb := gb sk
  obtain ⟨ex, ct⟩ := gb
  exact ⟨(by rw [show hV H3 344 = hV H1 344 from (fRow f52.1.2.1 344 (by decide +kernel)).trans (fRow f38.1.2.1 344 (by decide +kernel)), show hV H3 345 = hV H1 345 from (fRow f52.1.2.1 345 (by decide +kernel)).trans (fRow f38.1.2.1 345 (by decide +kernel)), show hV H3 285 82 = hV H1 285 82 from (f52.1.2.1.1 285 82 (by decide +kernel)).trans (f38.1.2.1.1 285 82 (by decide +kernel))]; exact ex), ((f52.1.2.1.1 285 103 (by decide +kernel)).trans (f38.1.2.1.1 285 103 (by decide +kernel))).trans ct⟩
def g_310o_110_2 : vG := ([(10, [31, 10], [], 1), (30, [30], [], 0), (11, [30, 28, 29], [], 0), (0, [29], [], 100), (3, [28, 21, 27], [], 0), (22, [27, 22, 26], [3], 0), (90, [27], [], -1), (91, [27], [], 9999), (1, [26, 24, 25], [], 0), (0, [25], [], 2), (3, [24, 23, 9], [], 0), (0, [23], [], 6), (20, [22, 4], [3], 31), (23, [4], [3], 12), (0, [22], [], 305), (1266, [21, 4, 19, 20], [2, 3], 0), (90, [21], [], -2147483648), (91, [21], [], 2147483647), (20, [20, 4], [2], 88), (23, [4], [2], 12), (90, [20], [], -2147483648), (91, [20], [], 2147483647), (22, [19, 18, 9], [2], 0), (90, [19], [], -1), (91, [19], [], 9999), (20, [18, 4], [2], 26), (23, [4], [2], 12), (0, [18], [], 300), (31, [17], [], 0), (1273, [17, 4, 8, 10], [1, 2], 0), (90, [17], [], 0), (91, [17], [], 1), (42, [10, 16], [], 0), (3, [16, 11, 15], [], 0), (22, [15, 12, 14], [1], 0), (90, [15], [], 0), (91, [15], [], 60), (22, [14, 13, 5], [1], 0), (90, [14], [], 0), (91, [14], [], 5), (20, [13, 4], [1], 19), (23, [4], [1], 12), (0, [13], [], 293), (20, [12, 4], [1], 61), (23, [4], [1], 12), (0, [12], [], 325), (0, [11], [], 4), (5000, [0, 1, 2, 3, 4, 5, 6, 7, 8, 9, 10], [0, 1], 110), (0, [0], [], 285), (90, [1], [], 0), (91, [1], [], 7), (90, [2], [], -2147483648), (91, [2], [], 2147483647), (90, [3], [], 0), (91, [3], [], 5), (0, [4], [], 285), (90, [5], [], 0), (91, [5], [], 7), (90, [6], [], -2147483648), (91, [6], [], 2147483647), (90, [7], [], 0), (91, [7], [], 5), (90, [8], [], 0), (91, [8], [], 39), (90, [9], [], 0), (91, [9], [], 1007), (90, [10], [], 0), (91, [10], [], 240)], (4000, [4, 5, 6, 7, 8, 9, 31], [3], 110))
theorem c_310o_110_2 {q0 : Nat} : vOkm T0 (eN e_310 L_310o A_310 mu_310 no_310 Bo_310 (some q0)) 4 g_310o_110_2 := vOk_inI fun ρ η f0 f1 f2 f3 f4 f5 f6 f7 f8 f9 f10 f11 f12 f13 f14 f15 f16 f17 f18 f19 f20 f21 f22 f23 f24 f25 f26 f27 f28 f29 f30 f31 f32 f33 f34 f35 f36 f37 f38 f39 f40 f41 f42 f43 f44 f45 f46 f47 f48 f49 f50 f51 f52 f53 f54 f55 f56 f57 f58 f59 f60 f61 f62 f63 f64 f65 f66 f67 => q_310o_10 (q0 := q0) (n0 := ρ 10) (n1 := ρ 9) (n2 := ρ 8) (n3 := ρ 7) (n4 := ρ 6) (n5 := ρ 5) (n6 := ρ 4) (n7 := ρ 3) (n8 := ρ 2) (n9 := ρ 1) (n10 := ρ 0) (n11 := ρ 11) (n12 := ρ 12) (n13 := ρ 13) (n14 := ρ 14) (n15 := ρ 15) (n16 := ρ 16) (n17 := ρ 17) (n18 := ρ 18) (n19 := ρ 19) (n20 := ρ 20) (n21 := ρ 21) (n22 := ρ 22) (n23 := ρ 23) (n24 := ρ 24) (n25 := ρ 25) (n26 := ρ 26) (n27 := ρ 27) (n28 := ρ 28) (n29 := ρ 29) (n30 := ρ 30) (n31 := ρ 31) (H0 := η 0) (H1 := η 1) (H2 := η 2) (H3 := η 3) f67 f66 f65 f64 f63 f62 f61 f60 f59 f58 f57 f56 f55 f54 f53 f52 f51 f50 f49 f48 f47 f46 f45 f44 f43 f42 f41 f40 f39 f38 f37 f36 f35 f34 f33 f32 f31 f30 f29 f28 f27 f26 f25 f24 f23 f22 f21 f20 f19 f18 f17 f16 f15 f14 f13 f12 f11 f10 f9 f8 f7 f6 f5 f4 f3 f2 f1 f0
theorem q_310o_11 {q0 : Nat} {n0 n1 n2 n3 n4 n5 n6 n7 n8 n9 n10 n11 n12 n13 n14 n15 n16 n17 n18 n19 n20 n21 n22 n23 n24 n25 n26 n27 n28 n29 n30 n31 n32 n33 n34 n35 n36 : Int} {H0 H1 H2 H3 H4 : gH} (f0 : n0 ≤ 240) (f1 : 0 ≤ n0) (f2 : n1 ≤ 1007) (f3 : 0 ≤ n1) (f4 : n2 ≤ 39) (f5 : 0 ≤ n2) (f6 : n3 ≤ 5) (f7 : 0 ≤ n3) (f8 : n4 ≤ 2147483647) (f9 : (-2147483648) ≤ n4) (f10 : n5 ≤ 7) (f11 : 0 ≤ n5) (f12 : n6 = 285) (f13 : n7 ≤ 5) (f14 : 0 ≤ n7) (f15 : n8 ≤ 2147483647) (f16 : (-2147483648) ≤ n8) (f17 : n9 ≤ 7) (f18 : 0 ≤ n9) (f19 : n10 = 285) (f20 : (hLe T0 H0 H1 ∧ hFr s_310.2.2.2.2 H0 H1 ∧ hWt T0 H1) ∧ ((Ab_310_110 n10 n9 n8 n7 n6 n5 n4 n3 n2 n1 n0 H0 H1 ∧ Bbo_310_110 n10 n9 n8 n7 n6 n5 n4 n3 n2 n1 n0 H0 H1) ∧ preb_310 n10 n9 n8 n7 H0) ∧ some q0 = some (mub_310_110 n10 n9 n8 n7 n6 n5 n4 n3 n2 n1 n0 H0 H1)) (f21 : n11 = 4) (f22 : n12 = 325) (f23 : hK H1 (n6).toNat = 12) (f24 : n12 = hV H1 (n6).toNat 61) (f25 : n13 = 293) (f26 : hK H1 (n6).toNat = 12) (f27 : n13 = hV H1 (n6).toNat 19) (f28 : n14 ≤ 5) (f29 : 0 ≤ n14) (f30 : n14 = hV H1 (n13).toNat (n5).toNat) (f31 : n15 ≤ 60) (f32 : 0 ≤ n15) (f33 : n15 = hV H1 (n12).toNat (n14).toNat) (f34 : n16 = w32 (n11 * n15)) (f35 : n0 < n16) (f36 : n17 ≤ 1) (f37 : 0 ≤ n17) (f38 : (hLe T0 H1 H2 ∧ hFr s_273.2.2.2.2 H1 H2 ∧ ((0 : Int) = 0 → H2.length = H1.length) ∧ hWt T0 H2) ∧ (postb_273 n17 n6 n2 n0 H1 H2 ∧ nb_273 n17 n6 n2 n0 H1 H2)) (f39 : n17 ≠ 0) (f40 : n18 = 300) (f41 : hK H2 (n6).toNat = 12) (f42 : n18 = hV H2 (n6).toNat 26) (f43 : n19 ≤ 9999) (f44 : (-1) ≤ n19) (f45 : n19 = hV H2 (n18).toNat (n1).toNat) (f46 : n20 ≤ 2147483647) (f47 : (-2147483648) ≤ n20) (f48 : hK H2 (n6).toNat = 12) (f49 : n20 = hV H2 (n6).toNat 88) (f50 : n21 ≤ 2147483647) (f51 : (-2147483648) ≤ n21) (f52 : (hLe T0 H2 H3 ∧ hFr s_266.2.2.2.2 H2 H3 ∧ ((0 : Int) = 0 → H3.length = H2.length) ∧ hWt T0 H3) ∧ (True ∧ nb_266 n21 n6 n19 n20 H2 H3)) (f53 : n22 = 305) (f54 : hK H3 (n6).toNat = 12) (f55 : n22 = hV H3 (n6).toNat 31) (f56 : n23 = 6) (f57 : n24 = w32 (n23 * n1)) (f58 : n25 = 2) (f59 : n26 = w32 (n24 + n25)) (f60 : n27 ≤ 9999) (f61 : (-1) ≤ n27) (f62 : n27 = hV H3 (n22).toNat (n26).toNat) (f63 : n28 = w32 (n21 * n27)) (f64 : n29 = 100) (f65 : n30 = o32 (fun x y => x / y) n28 n29) (f66 : n30 ≠ 0) (f67 : n31 = 356) (f68 : hK H3 (n6).toNat = 12) (f69 : n31 = hV H3 (n6).toNat 98) (f70 : n32 = 4) (f71 : n33 = o32 (fun x y => x / y) n0 n32) (f72 : n34 = 1) (f73 : n35 = o32 (fun x _ => x &&& 1) n34 0) (f74 : hK H3 (n31).toNat = 679) (f75 : hUpd H4 H3 n31 n33 n35) (f76 : n36 = w32 (n0 + 1)) : Bbo_310_110 n10 n9 n8 n7 n6 n5 n4 n3 n2 n1 n36 H0 H4 := by
  unfold Bbo_310_110
  intro sk
  have gb := f20.2.1.1.2
  unfold Bbo_310_110 at gb
  have gb := gb sk
  obtain ⟨ex, ct⟩ := gb
  exact ⟨(by rw [show hV H4 344 = hV H1 344 from (uRowNe f75 344 (by rw [f67]; decide)).trans ((fRow f52.1.2.1 344 (by decide +kernel)).trans (fRow f38.1.2.1 344 (by decide +kernel))), show hV H4 345 = hV H1 345 from (uRowNe f75 345 (by rw [f67]; decide)).trans ((fRow f52.1.2.1 345 (by decide +kernel)).trans (fRow f38.1.2.1 345 (by decide +kernel))), show hV H4 285 82 = hV H1 285 82 from (uPlace f75 285 82 (by rw [f67]; decide)).trans ((f52.1.2.1.1 285 82 (by decide +kernel)).trans (f38.1.2.1.1 285 82 (by decide +kernel)))]; exact ex), ((uPlace f75 285 103 (by rw [f67]; decide)).trans ((f52.1.2.1.1 285 103 (by decide +kernel)).trans (f38.1.2.1.1 285 103 (by decide +kernel)))).trans ct⟩
def g_310o_110_3 : vG := ([(10, [36, 10], [], 1), (80, [31, 33, 35], [4, 3], 0), (23, [31], [3], 679), (16, [35, 34], [], 0), (0, [34], [], 1), (11, [33, 10, 32], [], 0), (0, [32], [], 4), (20, [31, 4], [3], 98), (23, [4], [3], 12), (0, [31], [], 356), (31, [30], [], 0), (11, [30, 28, 29], [], 0), (0, [29], [], 100), (3, [28, 21, 27], [], 0), (22, [27, 22, 26], [3], 0), (90, [27], [], -1), (91, [27], [], 9999), (1, [26, 24, 25], [], 0), (0, [25], [], 2), (3, [24, 23, 9], [], 0), (0, [23], [], 6), (20, [22, 4], [3], 31), (23, [4], [3], 12), (0, [22], [], 305), (1266, [21, 4, 19, 20], [2, 3], 0), (90, [21], [], -2147483648), (91, [21], [], 2147483647), (20, [20, 4], [2], 88), (23, [4], [2], 12), (90, [20], [], -2147483648), (91, [20], [], 2147483647), (22, [19, 18, 9], [2], 0), (90, [19], [], -1), (91, [19], [], 9999), (20, [18, 4], [2], 26), (23, [4], [2], 12), (0, [18], [], 300), (31, [17], [], 0), (1273, [17, 4, 8, 10], [1, 2], 0), (90, [17], [], 0), (91, [17], [], 1), (42, [10, 16], [], 0), (3, [16, 11, 15], [], 0), (22, [15, 12, 14], [1], 0), (90, [15], [], 0), (91, [15], [], 60), (22, [14, 13, 5], [1], 0), (90, [14], [], 0), (91, [14], [], 5), (20, [13, 4], [1], 19), (23, [4], [1], 12), (0, [13], [], 293), (20, [12, 4], [1], 61), (23, [4], [1], 12), (0, [12], [], 325), (0, [11], [], 4), (5000, [0, 1, 2, 3, 4, 5, 6, 7, 8, 9, 10], [0, 1], 110), (0, [0], [], 285), (90, [1], [], 0), (91, [1], [], 7), (90, [2], [], -2147483648), (91, [2], [], 2147483647), (90, [3], [], 0), (91, [3], [], 5), (0, [4], [], 285), (90, [5], [], 0), (91, [5], [], 7), (90, [6], [], -2147483648), (91, [6], [], 2147483647), (90, [7], [], 0), (91, [7], [], 5), (90, [8], [], 0), (91, [8], [], 39), (90, [9], [], 0), (91, [9], [], 1007), (90, [10], [], 0), (91, [10], [], 240)], (4000, [4, 5, 6, 7, 8, 9, 36], [4], 110))
theorem c_310o_110_3 {q0 : Nat} : vOkm T0 (eN e_310 L_310o A_310 mu_310 no_310 Bo_310 (some q0)) 4 g_310o_110_3 := vOk_inI fun ρ η f0 f1 f2 f3 f4 f5 f6 f7 f8 f9 f10 f11 f12 f13 f14 f15 f16 f17 f18 f19 f20 f21 f22 f23 f24 f25 f26 f27 f28 f29 f30 f31 f32 f33 f34 f35 f36 f37 f38 f39 f40 f41 f42 f43 f44 f45 f46 f47 f48 f49 f50 f51 f52 f53 f54 f55 f56 f57 f58 f59 f60 f61 f62 f63 f64 f65 f66 f67 f68 f69 f70 f71 f72 f73 f74 f75 f76 => q_310o_11 (q0 := q0) (n0 := ρ 10) (n1 := ρ 9) (n2 := ρ 8) (n3 := ρ 7) (n4 := ρ 6) (n5 := ρ 5) (n6 := ρ 4) (n7 := ρ 3) (n8 := ρ 2) (n9 := ρ 1) (n10 := ρ 0) (n11 := ρ 11) (n12 := ρ 12) (n13 := ρ 13) (n14 := ρ 14) (n15 := ρ 15) (n16 := ρ 16) (n17 := ρ 17) (n18 := ρ 18) (n19 := ρ 19) (n20 := ρ 20) (n21 := ρ 21) (n22 := ρ 22) (n23 := ρ 23) (n24 := ρ 24) (n25 := ρ 25) (n26 := ρ 26) (n27 := ρ 27) (n28 := ρ 28) (n29 := ρ 29) (n30 := ρ 30) (n31 := ρ 31) (n32 := ρ 32) (n33 := ρ 33) (n34 := ρ 34) (n35 := ρ 35) (n36 := ρ 36) (H0 := η 0) (H1 := η 1) (H2 := η 2) (H3 := η 3) (H4 := η 4) f76 f75 f74 f73 f72 f71 f70 f69 f68 f67 f66 f65 f64 f63 f62 f61 f60 f59 f58 f57 f56 f55 f54 f53 f52 f51 f50 f49 f48 f47 f46 f45 f44 f43 f42 f41 f40 f39 f38 f37 f36 f35 f34 f33 f32 f31 f30 f29 f28 f27 f26 f25 f24 f23 f22 f21 f20 f19 f18 f17 f16 f15 f14 f13 f12 f11 f10 f9 f8 f7 f6 f5 f4 f3 f2 f1 f0
def p_310o_110 : List vG := [g_310o_110_0,
  g_310o_110_1,
  g_310o_110_2,
  g_310o_110_3]
theorem r_310o_110 : vCovBO (eRc e_310 L_310 cs_310 2000 (110, [(0, (3, 12, 285, 0)), (1, (0, 0, 7, 0)), (2, (0, -2147483648, 2147483647, 0)), (3, (0, 0, 5, 0)), (4, (0, 0, 39, 0)), (5, (0, 0, 1007, 0)), (6, (0, 0, 240, 0))])) p_310o_110 = true := by decide +kernel
theorem q_310o_12 {q0 : Nat} {n0 n1 n2 n3 n4 n5 n6 n7 n8 n9 n10 n11 : Int} {H0 H1 : gH} (f0 : n0 ≤ 60) (f1 : 0 ≤ n0) (f2 : n1 ≤ 2147483647) (f3 : (-2147483648) ≤ n1) (f4 : n2 ≤ 5) (f5 : 0 ≤ n2) (f6 : n3 ≤ 2147483647) (f7 : (-2147483648) ≤ n3) (f8 : n4 ≤ 7) (f9 : 0 ≤ n4) (f10 : n5 = 285) (f11 : n6 ≤ 5) (f12 : 0 ≤ n6) (f13 : n7 ≤ 2147483647) (f14 : (-2147483648) ≤ n7) (f15 : n8 ≤ 7) (f16 : 0 ≤ n8) (f17 : n9 = 285) (f18 : (hLe T0 H0 H1 ∧ hFr s_310.2.2.2.2 H0 H1 ∧ hWt T0 H1) ∧ ((Ab_310_201 n9 n8 n7 n6 n5 n4 n3 n2 n1 n0 H0 H1 ∧ Bbo_310_201 n9 n8 n7 n6 n5 n4 n3 n2 n1 n0 H0 H1) ∧ preb_310 n9 n8 n7 n6 H0) ∧ some q0 = some (mub_310_201 n9 n8 n7 n6 n5 n4 n3 n2 n1 n0 H0 H1)) (f19 : n10 = 325) (f20 : hK H1 (n5).toNat = 12) (f21 : n10 = hV H1 (n5).toNat 61) (f22 : n11 ≤ 60) (f23 : 0 ≤ n11) (f24 : n11 = hV H1 (n10).toNat (n2).toNat) (f25 : n11 ≤ n0) : nbo_310 n1 n9 n8 n7 n6 H0 H1 := by
  unfold nbo_310
  intro sk
  have gb := f18.2.1.1.2
  unfold Bbo_310_201 at gb
  have gb := gb sk
  exact (rfl).trans gb
def g_310o_201_0 : vG := ([(43, [9, 11], [], 0), (22, [11, 10, 7], [1], 0), (90, [11], [], 0), (91, [11], [], 60), (20, [10, 4], [1], 61), (23, [4], [1], 12), (0, [10], [], 325), (5000, [0, 1, 2, 3, 4, 5, 6, 7, 8, 9], [0, 1], 201), (0, [0], [], 285), (90, [1], [], 0), (91, [1], [], 7), (90, [2], [], -2147483648), (91, [2], [], 2147483647), (90, [3], [], 0), (91, [3], [], 5), (0, [4], [], 285), (90, [5], [], 0), (91, [5], [], 7), (90, [6], [], -2147483648), (91, [6], [], 2147483647), (90, [7], [], 0), (91, [7], [], 5), (90, [8], [], -2147483648), (91, [8], [], 2147483647), (90, [9], [], 0), (91, [9], [], 60)], (3000, [8], [1], 254))
theorem c_310o_201_0 {q0 : Nat} : vOkm T0 (eN e_310 L_310o A_310 mu_310 no_310 Bo_310 (some q0)) 4 g_310o_201_0 := vOk_inI fun ρ η f0 f1 f2 f3 f4 f5 f6 f7 f8 f9 f10 f11 f12 f13 f14 f15 f16 f17 f18 f19 f20 f21 f22 f23 f24 f25 => q_310o_12 (q0 := q0) (n0 := ρ 9) (n1 := ρ 8) (n2 := ρ 7) (n3 := ρ 6) (n4 := ρ 5) (n5 := ρ 4) (n6 := ρ 3) (n7 := ρ 2) (n8 := ρ 1) (n9 := ρ 0) (n10 := ρ 10) (n11 := ρ 11) (H0 := η 0) (H1 := η 1) f25 f24 f23 f22 f21 f20 f19 f18 f17 f16 f15 f14 f13 f12 f11 f10 f9 f8 f7 f6 f5 f4 f3 f2 f1 f0
theorem q_310o_13 {q0 : Nat} {n0 n1 n2 n3 n4 n5 n6 n7 n8 n9 n10 n11 n12 n13 n14 n15 n16 : Int} {H0 H1 H2 : gH} (f0 : n0 ≤ 60) (f1 : 0 ≤ n0) (f2 : n1 ≤ 2147483647) (f3 : (-2147483648) ≤ n1) (f4 : n2 ≤ 5) (f5 : 0 ≤ n2) (f6 : n3 ≤ 2147483647) (f7 : (-2147483648) ≤ n3) (f8 : n4 ≤ 7) (f9 : 0 ≤ n4) (f10 : n5 = 285) (f11 : n6 ≤ 5) (f12 : 0 ≤ n6) (f13 : n7 ≤ 2147483647) (f14 : (-2147483648) ≤ n7) (f15 : n8 ≤ 7) (f16 : 0 ≤ n8) (f17 : n9 = 285) (f18 : (hLe T0 H0 H1 ∧ hFr s_310.2.2.2.2 H0 H1 ∧ hWt T0 H1) ∧ ((Ab_310_201 n9 n8 n7 n6 n5 n4 n3 n2 n1 n0 H0 H1 ∧ Bbo_310_201 n9 n8 n7 n6 n5 n4 n3 n2 n1 n0 H0 H1) ∧ preb_310 n9 n8 n7 n6 H0) ∧ some q0 = some (mub_310_201 n9 n8 n7 n6 n5 n4 n3 n2 n1 n0 H0 H1)) (f19 : n10 = 325) (f20 : hK H1 (n5).toNat = 12) (f21 : n10 = hV H1 (n5).toNat 61) (f22 : n11 ≤ 60) (f23 : 0 ≤ n11) (f24 : n11 = hV H1 (n10).toNat (n2).toNat) (f25 : n0 < n11) (f26 : n12 = 293) (f27 : hK H1 (n5).toNat = 12) (f28 : n12 = hV H1 (n5).toNat 19) (f29 : n13 ≤ 5) (f30 : 0 ≤ n13) (f31 : n13 = hV H1 (n12).toNat (n4).toNat) (f32 : n14 ≤ 59) (f33 : (-1) ≤ n14) (f34 : (hLe T0 H1 H2 ∧ hFr s_248.2.2.2.2 H1 H2 ∧ ((0 : Int) = 0 → H2.length = H1.length) ∧ hWt T0 H2) ∧ (True ∧ nb_248 n14 n5 n2 n0 n13 H1 H2)) (f35 : n15 = (-1)) (f36 : n14 = n15) (f37 : n16 = w32 (n0 + 1)) : Bbo_310_201 n9 n8 n7 n6 n5 n4 n3 n2 n1 n16 H0 H2 := by
  unfold Bbo_310_201
  intro sk
  have gb := f18.2.1.1.2
  unfold Bbo_310_201 at gb
  have gb := gb sk
  exact (f34.1.2.1.1 285 103 (by decide +kernel)).trans gb
def g_310o_201_1 : vG := ([(10, [16, 9], [], 1), (40, [14, 15], [], 0), (0, [15], [], -1), (1248, [14, 4, 7, 9, 13], [1, 2], 0), (90, [14], [], -1), (91, [14], [], 59), (22, [13, 12, 5], [1], 0), (90, [13], [], 0), (91, [13], [], 5), (20, [12, 4], [1], 19), (23, [4], [1], 12), (0, [12], [], 293), (42, [9, 11], [], 0), (22, [11, 10, 7], [1], 0), (90, [11], [], 0), (91, [11], [], 60), (20, [10, 4], [1], 61), (23, [4], [1], 12), (0, [10], [], 325), (5000, [0, 1, 2, 3, 4, 5, 6, 7, 8, 9], [0, 1], 201), (0, [0], [], 285), (90, [1], [], 0), (91, [1], [], 7), (90, [2], [], -2147483648), (91, [2], [], 2147483647), (90, [3], [], 0), (91, [3], [], 5), (0, [4], [], 285), (90, [5], [], 0), (91, [5], [], 7), (90, [6], [], -2147483648), (91, [6], [], 2147483647), (90, [7], [], 0), (91, [7], [], 5), (90, [8], [], -2147483648), (91, [8], [], 2147483647), (90, [9], [], 0), (91, [9], [], 60)], (4000, [4, 5, 6, 7, 8, 16], [2], 201))
theorem c_310o_201_1 {q0 : Nat} : vOkm T0 (eN e_310 L_310o A_310 mu_310 no_310 Bo_310 (some q0)) 4 g_310o_201_1 := vOk_inI fun ρ η f0 f1 f2 f3 f4 f5 f6 f7 f8 f9 f10 f11 f12 f13 f14 f15 f16 f17 f18 f19 f20 f21 f22 f23 f24 f25 f26 f27 f28 f29 f30 f31 f32 f33 f34 f35 f36 f37 => q_310o_13 (q0 := q0) (n0 := ρ 9) (n1 := ρ 8) (n2 := ρ 7) (n3 := ρ 6) (n4 := ρ 5) (n5 := ρ 4) (n6 := ρ 3) (n7 := ρ 2) (n8 := ρ 1) (n9 := ρ 0) (n10 := ρ 10) (n11 := ρ 11) (n12 := ρ 12) (n13 := ρ 13) (n14 := ρ 14) (n15 := ρ 15) (n16 := ρ 16) (H0 := η 0) (H1 := η 1) (H2 := η 2) f37 f36 f35 f34 f33 f32 f31 f30 f29 f28 f27 f26 f25 f24 f23 f22 f21 f20 f19 f18 f17 f16 f15 f14 f13 f12 f11 f10 f9 f8 f7 f6 f5 f4 f3 f2 f1 f0
theorem q_310o_14 {q0 : Nat} {n0 n1 n2 n3 n4 n5 n6 n7 n8 n9 n10 n11 n12 n13 n14 n15 n16 n17 n18 : Int} {H0 H1 H2 : gH} (f0 : n0 ≤ 60) (f1 : 0 ≤ n0) (f2 : n1 ≤ 2147483647) (f3 : (-2147483648) ≤ n1) (f4 : n2 ≤ 5) (f5 : 0 ≤ n2) (f6 : n3 ≤ 2147483647) (f7 : (-2147483648) ≤ n3) (f8 : n4 ≤ 7) (f9 : 0 ≤ n4) (f10 : n5 = 285) (f11 : n6 ≤ 5) (f12 : 0 ≤ n6) (f13 : n7 ≤ 2147483647) (f14 : (-2147483648) ≤ n7) (f15 : n8 ≤ 7) (f16 : 0 ≤ n8) (f17 : n9 = 285) (f18 : (hLe T0 H0 H1 ∧ hFr s_310.2.2.2.2 H0 H1 ∧ hWt T0 H1) ∧ ((Ab_310_201 n9 n8 n7 n6 n5 n4 n3 n2 n1 n0 H0 H1 ∧ Bbo_310_201 n9 n8 n7 n6 n5 n4 n3 n2 n1 n0 H0 H1) ∧ preb_310 n9 n8 n7 n6 H0) ∧ some q0 = some (mub_310_201 n9 n8 n7 n6 n5 n4 n3 n2 n1 n0 H0 H1)) (f19 : n10 = 325) (f20 : hK H1 (n5).toNat = 12) (f21 : n10 = hV H1 (n5).toNat 61) (f22 : n11 ≤ 60) (f23 : 0 ≤ n11) (f24 : n11 = hV H1 (n10).toNat (n2).toNat) (f25 : n0 < n11) (f26 : n12 = 293) (f27 : hK H1 (n5).toNat = 12) (f28 : n12 = hV H1 (n5).toNat 19) (f29 : n13 ≤ 5) (f30 : 0 ≤ n13) (f31 : n13 = hV H1 (n12).toNat (n4).toNat) (f32 : n14 ≤ 59) (f33 : (-1) ≤ n14) (f34 : (hLe T0 H1 H2 ∧ hFr s_248.2.2.2.2 H1 H2 ∧ ((0 : Int) = 0 → H2.length = H1.length) ∧ hWt T0 H2) ∧ (True ∧ nb_248 n14 n5 n2 n0 n13 H1 H2)) (f35 : n15 = (-1)) (f36 : n14 ≠ n15) (f37 : n16 = 356) (f38 : hK H2 (n5).toNat = 12) (f39 : n16 = hV H2 (n5).toNat 98) (f40 : n17 ≤ 1) (f41 : 0 ≤ n17) (f42 : n17 = hV H2 (n16).toNat (n14).toNat) (f43 : n17 = 0) (f44 : n18 = w32 (n0 + 1)) : Bbo_310_201 n9 n8 n7 n6 n5 n4 n3 n2 n1 n18 H0 H2 := by
  unfold Bbo_310_201
  intro sk
  have gb := f18.2.1.1.2
  unfold Bbo_310_201 at gb
  have gb := gb sk
  exact (f34.1.2.1.1 285 103 (by decide +kernel)).trans gb
def g_310o_201_2 : vG := ([(10, [18, 9], [], 1), (30, [17], [], 0), (22, [17, 16, 14], [2], 0), (90, [17], [], 0), (91, [17], [], 1), (20, [16, 4], [2], 98), (23, [4], [2], 12), (0, [16], [], 356), (41, [14, 15], [], 0), (0, [15], [], -1), (1248, [14, 4, 7, 9, 13], [1, 2], 0), (90, [14], [], -1), (91, [14], [], 59), (22, [13, 12, 5], [1], 0), (90, [13], [], 0), (91, [13], [], 5), (20, [12, 4], [1], 19), (23, [4], [1], 12), (0, [12], [], 293), (42, [9, 11], [], 0), (22, [11, 10, 7], [1], 0), (90, [11], [], 0), (91, [11], [], 60), (20, [10, 4], [1], 61), (23, [4], [1], 12), (0, [10], [], 325), (5000, [0, 1, 2, 3, 4, 5, 6, 7, 8, 9], [0, 1], 201), (0, [0], [], 285), (90, [1], [], 0), (91, [1], [], 7), (90, [2], [], -2147483648), (91, [2], [], 2147483647), (90, [3], [], 0), (91, [3], [], 5), (0, [4], [], 285), (90, [5], [], 0), (91, [5], [], 7), (90, [6], [], -2147483648), (91, [6], [], 2147483647), (90, [7], [], 0), (91, [7], [], 5), (90, [8], [], -2147483648), (91, [8], [], 2147483647), (90, [9], [], 0), (91, [9], [], 60)], (4000, [4, 5, 6, 7, 8, 18], [2], 201))
theorem c_310o_201_2 {q0 : Nat} : vOkm T0 (eN e_310 L_310o A_310 mu_310 no_310 Bo_310 (some q0)) 4 g_310o_201_2 := vOk_inI fun ρ η f0 f1 f2 f3 f4 f5 f6 f7 f8 f9 f10 f11 f12 f13 f14 f15 f16 f17 f18 f19 f20 f21 f22 f23 f24 f25 f26 f27 f28 f29 f30 f31 f32 f33 f34 f35 f36 f37 f38 f39 f40 f41 f42 f43 f44 => q_310o_14 (q0 := q0) (n0 := ρ 9) (n1 := ρ 8) (n2 := ρ 7) (n3 := ρ 6) (n4 := ρ 5) (n5 := ρ 4) (n6 := ρ 3) (n7 := ρ 2) (n8 := ρ 1) (n9 := ρ 0) (n10 := ρ 10) (n11 := ρ 11) (n12 := ρ 12) (n13 := ρ 13) (n14 := ρ 14) (n15 := ρ 15) (n16 := ρ 16) (n17 := ρ 17) (n18 := ρ 18) (H0 := η 0) (H1 := η 1) (H2 := η 2) f44 f43 f42 f41 f40 f39 f38 f37 f36 f35 f34 f33 f32 f31 f30 f29 f28 f27 f26 f25 f24 f23 f22 f21 f20 f19 f18 f17 f16 f15 f14 f13 f12 f11 f10 f9 f8 f7 f6 f5 f4 f3 f2 f1 f0
theorem q_310o_15 {q0 : Nat} {n0 n1 n2 n3 n4 n5 n6 n7 n8 n9 n10 n11 n12 n13 n14 n15 n16 n17 n18 n19 : Int} {H0 H1 H2 : gH} (f0 : n0 ≤ 60) (f1 : 0 ≤ n0) (f2 : n1 ≤ 2147483647) (f3 : (-2147483648) ≤ n1) (f4 : n2 ≤ 5) (f5 : 0 ≤ n2) (f6 : n3 ≤ 2147483647) (f7 : (-2147483648) ≤ n3) (f8 : n4 ≤ 7) (f9 : 0 ≤ n4) (f10 : n5 = 285) (f11 : n6 ≤ 5) (f12 : 0 ≤ n6) (f13 : n7 ≤ 2147483647) (f14 : (-2147483648) ≤ n7) (f15 : n8 ≤ 7) (f16 : 0 ≤ n8) (f17 : n9 = 285) (f18 : (hLe T0 H0 H1 ∧ hFr s_310.2.2.2.2 H0 H1 ∧ hWt T0 H1) ∧ ((Ab_310_201 n9 n8 n7 n6 n5 n4 n3 n2 n1 n0 H0 H1 ∧ Bbo_310_201 n9 n8 n7 n6 n5 n4 n3 n2 n1 n0 H0 H1) ∧ preb_310 n9 n8 n7 n6 H0) ∧ some q0 = some (mub_310_201 n9 n8 n7 n6 n5 n4 n3 n2 n1 n0 H0 H1)) (f19 : n10 = 325) (f20 : hK H1 (n5).toNat = 12) (f21 : n10 = hV H1 (n5).toNat 61) (f22 : n11 ≤ 60) (f23 : 0 ≤ n11) (f24 : n11 = hV H1 (n10).toNat (n2).toNat) (f25 : n0 < n11) (f26 : n12 = 293) (f27 : hK H1 (n5).toNat = 12) (f28 : n12 = hV H1 (n5).toNat 19) (f29 : n13 ≤ 5) (f30 : 0 ≤ n13) (f31 : n13 = hV H1 (n12).toNat (n4).toNat) (f32 : n14 ≤ 59) (f33 : (-1) ≤ n14) (f34 : (hLe T0 H1 H2 ∧ hFr s_248.2.2.2.2 H1 H2 ∧ ((0 : Int) = 0 → H2.length = H1.length) ∧ hWt T0 H2) ∧ (True ∧ nb_248 n14 n5 n2 n0 n13 H1 H2)) (f35 : n15 = (-1)) (f36 : n14 ≠ n15) (f37 : n16 = 356) (f38 : hK H2 (n5).toNat = 12) (f39 : n16 = hV H2 (n5).toNat 98) (f40 : n17 ≤ 1) (f41 : 0 ≤ n17) (f42 : n17 = hV H2 (n16).toNat (n14).toNat) (f43 : n17 ≠ 0) (f44 : n18 = w32 (n1 + 1)) (f45 : n19 = w32 (n0 + 1)) : Bbo_310_201 n9 n8 n7 n6 n5 n4 n3 n2 n18 n19 H0 H2 := by
  unfold Bbo_310_201
  intro sk
  have gb := f18.2.1.1.2
  unfold Bbo_310_201 at gb
  have gb := gb sk
  exact (f34.1.2.1.1 285 103 (by decide +kernel)).trans gb
def g_310o_201_3 : vG := ([(10, [19, 9], [], 1), (10, [18, 8], [], 1), (31, [17], [], 0), (22, [17, 16, 14], [2], 0), (90, [17], [], 0), (91, [17], [], 1), (20, [16, 4], [2], 98), (23, [4], [2], 12), (0, [16], [], 356), (41, [14, 15], [], 0), (0, [15], [], -1), (1248, [14, 4, 7, 9, 13], [1, 2], 0), (90, [14], [], -1), (91, [14], [], 59), (22, [13, 12, 5], [1], 0), (90, [13], [], 0), (91, [13], [], 5), (20, [12, 4], [1], 19), (23, [4], [1], 12), (0, [12], [], 293), (42, [9, 11], [], 0), (22, [11, 10, 7], [1], 0), (90, [11], [], 0), (91, [11], [], 60), (20, [10, 4], [1], 61), (23, [4], [1], 12), (0, [10], [], 325), (5000, [0, 1, 2, 3, 4, 5, 6, 7, 8, 9], [0, 1], 201), (0, [0], [], 285), (90, [1], [], 0), (91, [1], [], 7), (90, [2], [], -2147483648), (91, [2], [], 2147483647), (90, [3], [], 0), (91, [3], [], 5), (0, [4], [], 285), (90, [5], [], 0), (91, [5], [], 7), (90, [6], [], -2147483648), (91, [6], [], 2147483647), (90, [7], [], 0), (91, [7], [], 5), (90, [8], [], -2147483648), (91, [8], [], 2147483647), (90, [9], [], 0), (91, [9], [], 60)], (4000, [4, 5, 6, 7, 18, 19], [2], 201))
theorem c_310o_201_3 {q0 : Nat} : vOkm T0 (eN e_310 L_310o A_310 mu_310 no_310 Bo_310 (some q0)) 4 g_310o_201_3 := vOk_inI fun ρ η f0 f1 f2 f3 f4 f5 f6 f7 f8 f9 f10 f11 f12 f13 f14 f15 f16 f17 f18 f19 f20 f21 f22 f23 f24 f25 f26 f27 f28 f29 f30 f31 f32 f33 f34 f35 f36 f37 f38 f39 f40 f41 f42 f43 f44 f45 => q_310o_15 (q0 := q0) (n0 := ρ 9) (n1 := ρ 8) (n2 := ρ 7) (n3 := ρ 6) (n4 := ρ 5) (n5 := ρ 4) (n6 := ρ 3) (n7 := ρ 2) (n8 := ρ 1) (n9 := ρ 0) (n10 := ρ 10) (n11 := ρ 11) (n12 := ρ 12) (n13 := ρ 13) (n14 := ρ 14) (n15 := ρ 15) (n16 := ρ 16) (n17 := ρ 17) (n18 := ρ 18) (n19 := ρ 19) (H0 := η 0) (H1 := η 1) (H2 := η 2) f45 f44 f43 f42 f41 f40 f39 f38 f37 f36 f35 f34 f33 f32 f31 f30 f29 f28 f27 f26 f25 f24 f23 f22 f21 f20 f19 f18 f17 f16 f15 f14 f13 f12 f11 f10 f9 f8 f7 f6 f5 f4 f3 f2 f1 f0
def p_310o_201 : List vG := [g_310o_201_0,
  g_310o_201_1,
  g_310o_201_2,
  g_310o_201_3]
theorem r_310o_201 : vCovBO (eRc e_310 L_310 cs_310 2000 (201, [(0, (3, 12, 285, 0)), (1, (0, 0, 7, 0)), (2, (0, -2147483648, 2147483647, 0)), (3, (0, 0, 5, 0)), (4, (0, -2147483648, 2147483647, 0)), (5, (0, 0, 60, 0))])) p_310o_201 = true := by decide +kernel
theorem m_310o (d : Nat) : eC e_310o (d + 4) := eC_ref (e := e_310) (L := L_310) (L' := L_310o) (cs := cs_310) (n := 2000) (d := d + 3) (A := A_310) (μ := mu_310) (tp := true) (p0 := p_310_s) (p1 := p_310o_s) (N := no_310) (B := Bo_310) rfl ⟨m_248w (d + 2), ⟨m_250 (d + 2), ⟨m_264w (d + 2), ⟨m_266w (d + 1), ⟨m_270w (d + 1), ⟨m_273w d, trivial⟩⟩⟩⟩⟩⟩ rfl (.inl rfl) (by decide +kernel) (fun _ => post0_ok) r_310_s (allC c_310_s_0 (allC c_310_s_1 allN)) (allC (.inl ⟨p_310_13, r_310_13, fun q0 => (allC c_310_13_0 (allC c_310_13_1 (allC c_310_13_2 (allC c_310_13_3 (allC c_310_13_4 allN)))))⟩) (allC (.inl ⟨p_310_37, r_310_37, fun q0 => (allC c_310_37_0 (allC c_310_37_1 (allC c_310_37_2 (allC c_310_37_3 (allC c_310_37_4 (allC c_310_37_5 (allC c_310_37_6 (allC c_310_37_7 (allC c_310_37_8 (allC c_310_37_9 (allC c_310_37_10 (allC c_310_37_11 (allC c_310_37_12 (allC c_310_37_13 (allC c_310_37_14 (allC c_310_37_15 allN))))))))))))))))⟩) (allC (.inl ⟨p_310_110, r_310_110, fun q0 => (allC c_310_110_0 (allC c_310_110_1 (allC c_310_110_2 (allC c_310_110_3 (allC c_310_110_4 (allC c_310_110_5 (allC c_310_110_6 (allC c_310_110_7 (allC c_310_110_8 (allC c_310_110_9 (allC c_310_110_10 (allC c_310_110_11 (allC c_310_110_12 (allC c_310_110_13 (allC c_310_110_14 (allC c_310_110_15 (allC c_310_110_16 (allC c_310_110_17 allN))))))))))))))))))⟩) (allC (.inl ⟨p_310_201, r_310_201, fun q0 => (allC c_310_201_0 (allC c_310_201_1 (allC c_310_201_2 (allC c_310_201_3 (allC c_310_201_4 (allC c_310_201_5 (allC c_310_201_6 (allC c_310_201_7 (allC c_310_201_8 (allC c_310_201_9 (allC c_310_201_10 allN)))))))))))⟩) allN)))) (sub1 (sub0 (sub1 (sub1 (sub1 (sub1 trivial)))))) r_310o_s (allC c_310o_s_0 allN) (allC ⟨p_310o_13, r_310o_13, fun q0 => (allC c_310o_13_0 (allC c_310o_13_1 allN))⟩ (allC ⟨p_310o_37, r_310o_37, fun q0 => (allC c_310o_37_0 (allC c_310o_37_1 (allC c_310o_37_2 (allC c_310o_37_3 (allC c_310o_37_4 allN)))))⟩ (allC ⟨p_310o_110, r_310o_110, fun q0 => (allC c_310o_110_0 (allC c_310o_110_1 (allC c_310o_110_2 (allC c_310o_110_3 allN))))⟩ (allC ⟨p_310o_201, r_310o_201, fun q0 => (allC c_310o_201_0 (allC c_310o_201_1 (allC c_310o_201_2 (allC c_310o_201_3 allN))))⟩ allN))))
def postb_310q (r a0 a1 a2 a3 : Int) (h0 h : gH) : Prop := (True ∧ nb_310 r a0 a1 a2 a3 h0 h) ∧ (True ∧ nbo_310 r a0 a1 a2 a3 h0 h)
def post_310q : List Int → gH → gH → Prop := fun xs h0 h => match xs with
  | [r, a0, a1, a2, a3] => postb_310q r a0 a1 a2 a3 h0 h
  | _ => True
noncomputable def e_310q : vE := ((eAnd e_310w e_310o).1, (eAnd e_310w e_310o).2.1, (eAnd e_310w e_310o).2.2.1, post_310q)
theorem m_310q (d : Nat) : eC e_310q (d + 4) := eC_post (eC_and2 (m_310w d) (m_310o d) rfl rfl (fun _ _ z => z) rfl) (fun xs h0 h z => by
  unfold post_310q
  split
  · exact z
  · trivial)
