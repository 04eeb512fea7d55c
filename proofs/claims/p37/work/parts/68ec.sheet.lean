/-! CONTRACTS of methods told more fully. -/
/- MixStageModel.soundsIn (III)I, more fully -/
def nb_310 (r a0 a1 a2 a3 : Int) (h0 h : gH) : Prop := SEok (RE h0) → MT (mR h0) → 0 ≤ a2 → a2 < hV h0 285 64 → hV h0 328 (a2).toNat = 3 → 0 ≤ (hV h0 293 (a1).toNat) → (hV h0 293 (a1).toNat) ≤ a3 → a3 ≤ 5 → (∀ c, c ∈ (lrL h0 (hV h0 340) (flS (hV h0 296) (hV h0 298) (hV h0 300) (hV h0 301) (hV h0 302) (hV h0 340) (7 * (a1).toNat) 7 6 0)) → FBc c) → r = SNDf (RE h0) (lrL h0 (hV h0 340) (flS (hV h0 296) (hV h0 298) (hV h0 300) (hV h0 301) (hV h0 302) (hV h0 340) (7 * (a1).toNat) 7 6 0)) a2 (hV h0 325 (hV h0 293 (a1).toNat).toNat) (hV h0 327) (hV h0 293 (a1).toNat) a3 (hV h0 325 (a3).toNat)
def n_310 : List Int → gH → gH → Prop := fun xs h0 h => match xs with
  | [r, a0, a1, a2, a3] => nb_310 r a0 a1 a2 a3 h0 h
  | _ => True
noncomputable def e_310w : vE := eV e_310 n_310
noncomputable def L_310w : List vE := [e_248w, e_250, e_264w, e_266w, e_270w, e_273w]
def Bb_310_13 (a0 a1 a2 a3 x0 x1 x2 x3 x4 : Int) (h0 h : gH) : Prop := xsL (hV h 344) (hV h 345) (hV h 285 82) = (flS (hV h0 296) (hV h0 298) (hV h0 300) (hV h0 301) (hV h0 302) (hV h0 340) (7 * (a1).toNat) 7 6 0) ∧ ∀ f : Nat, (f : Int) < x4 → hV h 356 f = 0
def Bb_310_37 (a0 a1 a2 a3 x0 x1 x2 x3 x4 : Int) (h0 h : gH) : Prop := SEok (RE h0) → MT (mR h0) → 0 ≤ a2 → a2 < hV h0 285 64 → hV h0 328 (a2).toNat = 3 → 0 ≤ (hV h0 293 (a1).toNat) → (hV h0 293 (a1).toNat) ≤ a3 → a3 ≤ 5 → (∀ c, c ∈ (lrL h0 (hV h0 340) (flS (hV h0 296) (hV h0 298) (hV h0 300) (hV h0 301) (hV h0 302) (hV h0 340) (7 * (a1).toNat) 7 6 0)) → FBc c) → xsL (hV h 344) (hV h 345) (hV h 285 82) = (flS (hV h0 296) (hV h0 298) (hV h0 300) (hV h0 301) (hV h0 302) (hV h0 340) (7 * (a1).toNat) 7 6 0) ∧ RB (hV h 356) (HRp (RE h0) (lrL h0 (hV h0 340) (flS (hV h0 296) (hV h0 298) (hV h0 300) (hV h0 301) (hV h0 302) (hV h0 340) (7 * (a1).toNat) 7 6 0)) a2 (4 * (hV h0 325 (hV h0 293 (a1).toNat).toNat)) x4)
def Bb_310_110 (a0 a1 a2 a3 x0 x1 x2 x3 x4 x5 x6 : Int) (h0 h : gH) : Prop := SEok (RE h0) → MT (mR h0) → 0 ≤ a2 → a2 < hV h0 285 64 → hV h0 328 (a2).toNat = 3 → 0 ≤ (hV h0 293 (a1).toNat) → (hV h0 293 (a1).toNat) ≤ a3 → a3 ≤ 5 → (∀ c, c ∈ (lrL h0 (hV h0 340) (flS (hV h0 296) (hV h0 298) (hV h0 300) (hV h0 301) (hV h0 302) (hV h0 340) (7 * (a1).toNat) 7 6 0)) → FBc c) → xsL (hV h 344) (hV h 345) (hV h 285 82) = (flS (hV h0 296) (hV h0 298) (hV h0 300) (hV h0 301) (hV h0 302) (hV h0 340) (7 * (a1).toNat) 7 6 0) ∧ ∃ p : Nat × Int, (flS (hV h0 296) (hV h0 298) (hV h0 300) (hV h0 301) (hV h0 302) (hV h0 340) (7 * (a1).toNat) 7 6 0)[(x4).toNat]? = some p ∧ hV h0 298 p.1 = 0 ∧ MUp (RE h0) a2 (lrN (nowR (hV h0 340) (recR h0 p.1, p.2))) ∧ 0 ≤ x6 ∧ x6 ≤ 4 * (hV h0 325 (hV h0 293 (a1).toNat).toNat) ∧ RB (hV h 356) (fun f => (HRp (RE h0) (lrL h0 (hV h0 340) (flS (hV h0 296) (hV h0 298) (hV h0 300) (hV h0 301) (hV h0 302) (hV h0 340) (7 * (a1).toNat) 7 6 0)) a2 (4 * (hV h0 325 (hV h0 293 (a1).toNat).toNat)) x4) f ∨ HTp (RE h0) (lrN (nowR (hV h0 340) (recR h0 p.1, p.2))) x6 f)
def Bb_310_201 (a0 a1 a2 a3 x0 x1 x2 x3 x4 x5 : Int) (h0 h : gH) : Prop := SEok (RE h0) → MT (mR h0) → 0 ≤ a2 → a2 < hV h0 285 64 → hV h0 328 (a2).toNat = 3 → 0 ≤ (hV h0 293 (a1).toNat) → (hV h0 293 (a1).toNat) ≤ a3 → a3 ≤ 5 → (∀ c, c ∈ (lrL h0 (hV h0 340) (flS (hV h0 296) (hV h0 298) (hV h0 300) (hV h0 301) (hV h0 302) (hV h0 340) (7 * (a1).toNat) 7 6 0)) → FBc c) → x4 = cntE (HRp (RE h0) (lrL h0 (hV h0 340) (flS (hV h0 296) (hV h0 298) (hV h0 300) (hV h0 301) (hV h0 302) (hV h0 340) (7 * (a1).toNat) 7 6 0)) a2 (4 * (hV h0 325 (hV h0 293 (a1).toNat).toNat)) ((lrL h0 (hV h0 340) (flS (hV h0 296) (hV h0 298) (hV h0 300) (hV h0 301) (hV h0 302) (hV h0 340) (7 * (a1).toNat) 7 6 0)).length : Int)) (fun g => pFrom (hV h0 327) (hV h0 293 (a1).toNat) (a3 - (hV h0 293 (a1).toNat)).toNat g) (x5).toNat ∧ x5 ≤ hV h0 325 (a3).toNat ∧ RB (hV h 356) (HRp (RE h0) (lrL h0 (hV h0 340) (flS (hV h0 296) (hV h0 298) (hV h0 300) (hV h0 301) (hV h0 302) (hV h0 340) (7 * (a1).toNat) 7 6 0)) a2 (4 * (hV h0 325 (hV h0 293 (a1).toNat).toNat)) ((lrL h0 (hV h0 340) (flS (hV h0 296) (hV h0 298) (hV h0 300) (hV h0 301) (hV h0 302) (hV h0 340) (7 * (a1).toNat) 7 6 0)).length : Int))
def B_310 : Int → List Int → gH → gH → Prop := fun c xs h0 h => match c.toNat with
  | 13 => (match xs with
    | [a0, a1, a2, a3, x0, x1, x2, x3, x4] => Bb_310_13 a0 a1 a2 a3 x0 x1 x2 x3 x4 h0 h
    | _ => False)
  | 37 => (match xs with
    | [a0, a1, a2, a3, x0, x1, x2, x3, x4] => Bb_310_37 a0 a1 a2 a3 x0 x1 x2 x3 x4 h0 h
    | _ => False)
  | 110 => (match xs with
    | [a0, a1, a2, a3, x0, x1, x2, x3, x4, x5, x6] => Bb_310_110 a0 a1 a2 a3 x0 x1 x2 x3 x4 x5 x6 h0 h
    | _ => False)
  | 201 => (match xs with
    | [a0, a1, a2, a3, x0, x1, x2, x3, x4, x5] => Bb_310_201 a0 a1 a2 a3 x0 x1 x2 x3 x4 x5 h0 h
    | _ => False)
  | _ => True
theorem q_310w_0 {n0 n1 n2 n3 n4 n5 n6 : Int} {H0 H1 H2 : gH} (f0 : n0 ≤ 5) (f1 : 0 ≤ n0) (f2 : n1 ≤ 2147483647) (f3 : (-2147483648) ≤ n1) (f4 : n2 ≤ 7) (f5 : 0 ≤ n2) (f6 : n3 = 285) (f7 : hWt T0 H0 ∧ preb_310 n3 n2 n1 n0 H0) (f8 : (hLe T0 H0 H1 ∧ hFr s_270.2.2.2.2 H0 H1 ∧ ((0 : Int) = 0 → H1.length = H0.length) ∧ hWt T0 H1) ∧ (postb_270 n3 n2 H0 H1 ∧ nb_270 n3 n2 H0 H1)) (f9 : n4 = 0) (f10 : hK H1 (n3).toNat = 12) (f11 : n5 = 103) (f12 : hUpd H2 H1 n3 n5 n4) (f13 : n6 = 0) : Bb_310_13 n3 n2 n1 n0 n3 n2 n1 n0 n6 H0 H2 := by
  unfold Bb_310_13
  have un := f8.2.2
  unfold nb_270 at un
  rw [show hV H0 296 = hV H0 296 from rfl] at un
  rw [show hV H0 298 = hV H0 298 from rfl] at un
  rw [show hV H0 300 = hV H0 300 from rfl] at un
  rw [show hV H0 301 = hV H0 301 from rfl] at un
  rw [show hV H0 302 = hV H0 302 from rfl] at un
  rw [show hV H0 340 = hV H0 340 from rfl] at un
  have ey : hV H2 344 = hV H1 344 ∧ hV H2 345 = hV H1 345 ∧ hV H2 285 82 = hV H1 285 82 := ⟨uRowNe f12 344 (by rw [f6]; decide), uRowNe f12 345 (by rw [f6]; decide), uSlot f12 285 82 (by rw [f11]; decide)⟩
  exact ⟨by rw [ey.1, ey.2.1, ey.2.2]; exact un, fun f hf => by omega⟩
def g_310w_s_0 : vG := ([(0, [6], [], 0), (80, [0, 5, 4], [2, 1], 0), (0, [5], [], 103), (23, [0], [1], 12), (0, [4], [], 0), (1270, [0, 1], [0, 1], 0), (6000, [0, 1, 2, 3], [0], 0), (0, [0], [], 285), (90, [1], [], 0), (91, [1], [], 7), (90, [2], [], -2147483648), (91, [2], [], 2147483647), (90, [3], [], 0), (91, [3], [], 5)], (4000, [0, 1, 2, 3, 6], [2], 13))
theorem c_310w_s_0 : vOkm T0 (eN e_310 L_310w A_310 mu_310 n_310 B_310 none) 4 g_310w_s_0 := vOk_inI fun ρ η f0 f1 f2 f3 f4 f5 f6 f7 f8 f9 f10 f11 f12 f13 => q_310w_0 (n0 := ρ 3) (n1 := ρ 2) (n2 := ρ 1) (n3 := ρ 0) (n4 := ρ 4) (n5 := ρ 5) (n6 := ρ 6) (H0 := η 0) (H1 := η 1) (H2 := η 2) f13 f12 f11 f10 f9 f8 f7 f6 f5 f4 f3 f2 f1 f0
def p_310w_s : List vG := [g_310w_s_0]
theorem r_310w_s : vCovBO (eR0 e_310 L_310 cs_310 2000) p_310w_s = true := by decide +kernel
theorem q_310w_1 {q0 : Nat} {n0 n1 n2 n3 n4 n5 n6 n7 n8 n9 n10 : Int} {H0 H1 : gH} (f0 : n0 ≤ 60) (f1 : 0 ≤ n0) (f2 : n1 ≤ 5) (f3 : 0 ≤ n1) (f4 : n2 ≤ 2147483647) (f5 : (-2147483648) ≤ n2) (f6 : n3 ≤ 7) (f7 : 0 ≤ n3) (f8 : n4 = 285) (f9 : n5 ≤ 5) (f10 : 0 ≤ n5) (f11 : n6 ≤ 2147483647) (f12 : (-2147483648) ≤ n6) (f13 : n7 ≤ 7) (f14 : 0 ≤ n7) (f15 : n8 = 285) (f16 : (hLe T0 H0 H1 ∧ hFr s_310.2.2.2.2 H0 H1 ∧ hWt T0 H1) ∧ ((Ab_310_13 n8 n7 n6 n5 n4 n3 n2 n1 n0 H0 H1 ∧ Bb_310_13 n8 n7 n6 n5 n4 n3 n2 n1 n0 H0 H1) ∧ preb_310 n8 n7 n6 n5 H0) ∧ some q0 = some (mub_310_13 n8 n7 n6 n5 n4 n3 n2 n1 n0 H0 H1)) (f17 : n9 = 60) (f18 : n9 ≤ n0) (f19 : n10 = 0) : Bb_310_37 n8 n7 n6 n5 n4 n3 n2 n1 n10 H0 H1 := by
  unfold Bb_310_37
  have gb := f16.2.1.1.2
  unfold Bb_310_13 at gb
  obtain ⟨ex, zs⟩ := gb
  intro sk mt q0 q1 k3 d0 d1 d5 fb
  exact ⟨ex, RB_0 (fun f hf => zs f (by omega)) (fun f => HR_0 (by omega) f)⟩
def g_310w_13_0 : vG := ([(0, [10], [], 0), (43, [8, 9], [], 0), (0, [9], [], 60), (5000, [0, 1, 2, 3, 4, 5, 6, 7, 8], [0, 1], 13), (0, [0], [], 285), (90, [1], [], 0), (91, [1], [], 7), (90, [2], [], -2147483648), (91, [2], [], 2147483647), (90, [3], [], 0), (91, [3], [], 5), (0, [4], [], 285), (90, [5], [], 0), (91, [5], [], 7), (90, [6], [], -2147483648), (91, [6], [], 2147483647), (90, [7], [], 0), (91, [7], [], 5), (90, [8], [], 0), (91, [8], [], 60)], (4000, [4, 5, 6, 7, 10], [1], 37))
theorem c_310w_13_0 {q0 : Nat} : vOkm T0 (eN e_310 L_310w A_310 mu_310 n_310 B_310 (some q0)) 4 g_310w_13_0 := vOk_inI fun ρ η f0 f1 f2 f3 f4 f5 f6 f7 f8 f9 f10 f11 f12 f13 f14 f15 f16 f17 f18 f19 => q_310w_1 (q0 := q0) (n0 := ρ 8) (n1 := ρ 7) (n2 := ρ 6) (n3 := ρ 5) (n4 := ρ 4) (n5 := ρ 3) (n6 := ρ 2) (n7 := ρ 1) (n8 := ρ 0) (n9 := ρ 9) (n10 := ρ 10) (H0 := η 0) (H1 := η 1) f19 f18 f17 f16 f15 f14 f13 f12 f11 f10 f9 f8 f7 f6 f5 f4 f3 f2 f1 f0
theorem q_310w_2 {q0 : Nat} {n0 n1 n2 n3 n4 n5 n6 n7 n8 n9 n10 n11 n12 n13 : Int} {H0 H1 H2 : gH} (f0 : n0 ≤ 60) (f1 : 0 ≤ n0) (f2 : n1 ≤ 5) (f3 : 0 ≤ n1) (f4 : n2 ≤ 2147483647) (f5 : (-2147483648) ≤ n2) (f6 : n3 ≤ 7) (f7 : 0 ≤ n3) (f8 : n4 = 285) (f9 : n5 ≤ 5) (f10 : 0 ≤ n5) (f11 : n6 ≤ 2147483647) (f12 : (-2147483648) ≤ n6) (f13 : n7 ≤ 7) (f14 : 0 ≤ n7) (f15 : n8 = 285) (f16 : (hLe T0 H0 H1 ∧ hFr s_310.2.2.2.2 H0 H1 ∧ hWt T0 H1) ∧ ((Ab_310_13 n8 n7 n6 n5 n4 n3 n2 n1 n0 H0 H1 ∧ Bb_310_13 n8 n7 n6 n5 n4 n3 n2 n1 n0 H0 H1) ∧ preb_310 n8 n7 n6 n5 H0) ∧ some q0 = some (mub_310_13 n8 n7 n6 n5 n4 n3 n2 n1 n0 H0 H1)) (f17 : n9 = 60) (f18 : n0 < n9) (f19 : n10 = 356) (f20 : hK H1 (n4).toNat = 12) (f21 : n10 = hV H1 (n4).toNat 98) (f22 : n11 = 0) (f23 : n12 = o32 (fun x _ => x &&& 1) n11 0) (f24 : hK H1 (n10).toNat = 679) (f25 : hUpd H2 H1 n10 n0 n12) (f26 : n13 = w32 (n0 + 1)) : Bb_310_13 n8 n7 n6 n5 n4 n3 n2 n1 n13 H0 H2 := by
  unfold Bb_310_13
  have gb := f16.2.1.1.2
  unfold Bb_310_13 at gb
  obtain ⟨ex, zs⟩ := gb
  have wn := f26
  unfold w32 at wn
  have bz := b1_in f23 (by omega) (by omega)
  have ru := uRowQ f25 356 f19
  refine ⟨(by rw [show hV H2 344 = hV H1 344 from uRowNe f25 344 (by rw [f19]; decide), show hV H2 345 = hV H1 345 from uRowNe f25 345 (by rw [f19]; decide), show hV H2 285 82 = hV H1 285 82 from uPlace f25 285 82 (by rw [f19]; decide)]; exact ex), fun f hf => ?_⟩
  rw [ru, uF_at]
  by_cases c : (f : Int) = n0
  · rw [if_pos c]
    omega
  · rw [if_neg c]
    exact zs f (by omega)
def g_310w_13_1 : vG := ([(10, [13, 8], [], 1), (80, [10, 8, 12], [2, 1], 0), (23, [10], [1], 679), (16, [12, 11], [], 0), (0, [11], [], 0), (20, [10, 4], [1], 98), (23, [4], [1], 12), (0, [10], [], 356), (42, [8, 9], [], 0), (0, [9], [], 60), (5000, [0, 1, 2, 3, 4, 5, 6, 7, 8], [0, 1], 13), (0, [0], [], 285), (90, [1], [], 0), (91, [1], [], 7), (90, [2], [], -2147483648), (91, [2], [], 2147483647), (90, [3], [], 0), (91, [3], [], 5), (0, [4], [], 285), (90, [5], [], 0), (91, [5], [], 7), (90, [6], [], -2147483648), (91, [6], [], 2147483647), (90, [7], [], 0), (91, [7], [], 5), (90, [8], [], 0), (91, [8], [], 60)], (4000, [4, 5, 6, 7, 13], [2], 13))
theorem c_310w_13_1 {q0 : Nat} : vOkm T0 (eN e_310 L_310w A_310 mu_310 n_310 B_310 (some q0)) 4 g_310w_13_1 := vOk_inI fun ρ η f0 f1 f2 f3 f4 f5 f6 f7 f8 f9 f10 f11 f12 f13 f14 f15 f16 f17 f18 f19 f20 f21 f22 f23 f24 f25 f26 => q_310w_2 (q0 := q0) (n0 := ρ 8) (n1 := ρ 7) (n2 := ρ 6) (n3 := ρ 5) (n4 := ρ 4) (n5 := ρ 3) (n6 := ρ 2) (n7 := ρ 1) (n8 := ρ 0) (n9 := ρ 9) (n10 := ρ 10) (n11 := ρ 11) (n12 := ρ 12) (n13 := ρ 13) (H0 := η 0) (H1 := η 1) (H2 := η 2) f26 f25 f24 f23 f22 f21 f20 f19 f18 f17 f16 f15 f14 f13 f12 f11 f10 f9 f8 f7 f6 f5 f4 f3 f2 f1 f0
def p_310w_13 : List vG := [g_310w_13_0,
  g_310w_13_1]
theorem r_310w_13 : vCovBO (eRc e_310 L_310 cs_310 2000 (13, [(0, (3, 12, 285, 0)), (1, (0, 0, 7, 0)), (2, (0, -2147483648, 2147483647, 0)), (3, (0, 0, 5, 0)), (4, (0, 0, 60, 0))])) p_310w_13 = true := by decide +kernel
theorem q_310w_3 {q0 : Nat} {n0 n1 n2 n3 n4 n5 n6 n7 n8 n9 n10 n11 : Int} {H0 H1 : gH} (f0 : n0 ≤ 40) (f1 : 0 ≤ n0) (f2 : n1 ≤ 5) (f3 : 0 ≤ n1) (f4 : n2 ≤ 2147483647) (f5 : (-2147483648) ≤ n2) (f6 : n3 ≤ 7) (f7 : 0 ≤ n3) (f8 : n4 = 285) (f9 : n5 ≤ 5) (f10 : 0 ≤ n5) (f11 : n6 ≤ 2147483647) (f12 : (-2147483648) ≤ n6) (f13 : n7 ≤ 7) (f14 : 0 ≤ n7) (f15 : n8 = 285) (f16 : (hLe T0 H0 H1 ∧ hFr s_310.2.2.2.2 H0 H1 ∧ hWt T0 H1) ∧ ((Ab_310_37 n8 n7 n6 n5 n4 n3 n2 n1 n0 H0 H1 ∧ Bb_310_37 n8 n7 n6 n5 n4 n3 n2 n1 n0 H0 H1) ∧ preb_310 n8 n7 n6 n5 H0) ∧ some q0 = some (mub_310_37 n8 n7 n6 n5 n4 n3 n2 n1 n0 H0 H1)) (f17 : n9 ≤ 40) (f18 : 0 ≤ n9) (f19 : hK H1 (n4).toNat = 12) (f20 : n9 = hV H1 (n4).toNat 82) (f21 : n9 ≤ n0) (f22 : n10 = 0) (f23 : n11 = 0) : Bb_310_201 n8 n7 n6 n5 n4 n3 n2 n1 n10 n11 H0 H1 := by
  unfold Bb_310_201
  intro sk mt q0 q1 k3 d0 d1 d5 fb
  have gb := f16.2.1.1.2
  unfold Bb_310_37 at gb
  have gb := gb sk mt q0 q1 k3 d0 d1 d5 fb
  have m5 := (MTr mt).2.2.2.1
  have er : RE H1 = RE H0 := RE_fr f16.1.2.1 (by decide +kernel)
  have b325 : hV H1 325 = hV H0 325 := fRow f16.1.2.1 325 (by decide +kernel)
  have b293 : hV H1 293 = hV H0 293 := fRow f16.1.2.1 293 (by decide +kernel)
  have b298 : hV H1 298 = hV H0 298 := fRow f16.1.2.1 298 (by decide +kernel)
  have b300 : hV H1 300 = hV H0 300 := fRow f16.1.2.1 300 (by decide +kernel)
  have b305 : hV H1 305 = hV H0 305 := fRow f16.1.2.1 305 (by decide +kernel)
  have b340 : hV H1 340 = hV H0 340 := fRow f16.1.2.1 340 (by decide +kernel)
  have b328 : hV H1 328 = hV H0 328 := fRow f16.1.2.1 328 (by decide +kernel)
  have s64 : hV H1 285 64 = hV H0 285 64 := f16.1.2.1.1 285 64 (by decide +kernel)
  have ga := f16.2.1.1.1
  unfold Ab_310_37 at ga
  obtain ⟨h1, h2, h3, h4, h5⟩ := ga
  obtain ⟨ex, rb⟩ := gb
  have ln := congrArg List.length ex
  rw [xsL_len] at ln
  have ll : ((lrL H0 (hV H0 340) (flS (hV H0 296) (hV H0 298) (hV H0 300) (hV H0 301) (hV H0 302) (hV H0 340) (7 * (n7).toNat) 7 6 0))).length = ((flS (hV H0 296) (hV H0 298) (hV H0 300) (hV H0 301) (hV H0 302) (hV H0 340) (7 * (n7).toNat) 7 6 0)).length := lrL_len
  have d20 := rdS (q := 285) f20 f8
  have b := m5 (n5).toNat
  refine ⟨?_, ?_, ?_⟩
  · rw [show (n11).toNat = 0 by omega]
    show _ = (0 : Int)
    omega
  · have bb : 0 ≤ hV H0 325 (n5).toNat := b.1
    omega
  · rw [(show hV H1 356 = hV H1 356 from rfl)]
    exact RB_iff rb fun f => HR_end (by omega) f
def g_310w_37_0 : vG := ([(0, [11], [], 0), (0, [10], [], 0), (43, [8, 9], [], 0), (20, [9, 4], [1], 82), (23, [4], [1], 12), (90, [9], [], 0), (91, [9], [], 40), (5000, [0, 1, 2, 3, 4, 5, 6, 7, 8], [0, 1], 37), (0, [0], [], 285), (90, [1], [], 0), (91, [1], [], 7), (90, [2], [], -2147483648), (91, [2], [], 2147483647), (90, [3], [], 0), (91, [3], [], 5), (0, [4], [], 285), (90, [5], [], 0), (91, [5], [], 7), (90, [6], [], -2147483648), (91, [6], [], 2147483647), (90, [7], [], 0), (91, [7], [], 5), (90, [8], [], 0), (91, [8], [], 40)], (4000, [4, 5, 6, 7, 10, 11], [1], 201))
theorem c_310w_37_0 {q0 : Nat} : vOkm T0 (eN e_310 L_310w A_310 mu_310 n_310 B_310 (some q0)) 4 g_310w_37_0 := vOk_inI fun ρ η f0 f1 f2 f3 f4 f5 f6 f7 f8 f9 f10 f11 f12 f13 f14 f15 f16 f17 f18 f19 f20 f21 f22 f23 => q_310w_3 (q0 := q0) (n0 := ρ 8) (n1 := ρ 7) (n2 := ρ 6) (n3 := ρ 5) (n4 := ρ 4) (n5 := ρ 3) (n6 := ρ 2) (n7 := ρ 1) (n8 := ρ 0) (n9 := ρ 9) (n10 := ρ 10) (n11 := ρ 11) (H0 := η 0) (H1 := η 1) f23 f22 f21 f20 f19 f18 f17 f16 f15 f14 f13 f12 f11 f10 f9 f8 f7 f6 f5 f4 f3 f2 f1 f0
theorem q_310w_4 {q0 : Nat} {n0 n1 n2 n3 n4 n5 n6 n7 n8 n9 n10 n11 n12 n13 n14 : Int} {H0 H1 : gH} (f0 : n0 ≤ 40) (f1 : 0 ≤ n0) (f2 : n1 ≤ 5) (f3 : 0 ≤ n1) (f4 : n2 ≤ 2147483647) (f5 : (-2147483648) ≤ n2) (f6 : n3 ≤ 7) (f7 : 0 ≤ n3) (f8 : n4 = 285) (f9 : n5 ≤ 5) (f10 : 0 ≤ n5) (f11 : n6 ≤ 2147483647) (f12 : (-2147483648) ≤ n6) (f13 : n7 ≤ 7) (f14 : 0 ≤ n7) (f15 : n8 = 285) (f16 : (hLe T0 H0 H1 ∧ hFr s_310.2.2.2.2 H0 H1 ∧ hWt T0 H1) ∧ ((Ab_310_37 n8 n7 n6 n5 n4 n3 n2 n1 n0 H0 H1 ∧ Bb_310_37 n8 n7 n6 n5 n4 n3 n2 n1 n0 H0 H1) ∧ preb_310 n8 n7 n6 n5 H0) ∧ some q0 = some (mub_310_37 n8 n7 n6 n5 n4 n3 n2 n1 n0 H0 H1)) (f17 : n9 ≤ 40) (f18 : 0 ≤ n9) (f19 : hK H1 (n4).toNat = 12) (f20 : n9 = hV H1 (n4).toNat 82) (f21 : n0 < n9) (f22 : n10 = 344) (f23 : hK H1 (n4).toNat = 12) (f24 : n10 = hV H1 (n4).toNat 83) (f25 : n11 ≤ 1007) (f26 : 0 ≤ n11) (f27 : n11 = hV H1 (n10).toNat (n0).toNat) (f28 : n12 = 298) (f29 : hK H1 (n4).toNat = 12) (f30 : n12 = hV H1 (n4).toNat 24) (f31 : n13 ≤ 5) (f32 : 0 ≤ n13) (f33 : n13 = hV H1 (n12).toNat (n11).toNat) (f34 : n13 ≠ 0) (f35 : n14 = w32 (n0 + 1)) : Bb_310_37 n8 n7 n6 n5 n4 n3 n2 n1 n14 H0 H1 := by
  unfold Bb_310_37
  intro sk mt q0 q1 k3 d0 d1 d5 fb
  have gb := f16.2.1.1.2
  unfold Bb_310_37 at gb
  have gb := gb sk mt q0 q1 k3 d0 d1 d5 fb
  have m5 := (MTr mt).2.2.2.1
  have er : RE H1 = RE H0 := RE_fr f16.1.2.1 (by decide +kernel)
  have b325 : hV H1 325 = hV H0 325 := fRow f16.1.2.1 325 (by decide +kernel)
  have b293 : hV H1 293 = hV H0 293 := fRow f16.1.2.1 293 (by decide +kernel)
  have b298 : hV H1 298 = hV H0 298 := fRow f16.1.2.1 298 (by decide +kernel)
  have b300 : hV H1 300 = hV H0 300 := fRow f16.1.2.1 300 (by decide +kernel)
  have b305 : hV H1 305 = hV H0 305 := fRow f16.1.2.1 305 (by decide +kernel)
  have b340 : hV H1 340 = hV H0 340 := fRow f16.1.2.1 340 (by decide +kernel)
  have b328 : hV H1 328 = hV H0 328 := fRow f16.1.2.1 328 (by decide +kernel)
  have s64 : hV H1 285 64 = hV H0 285 64 := f16.1.2.1.1 285 64 (by decide +kernel)
  have ga := f16.2.1.1.1
  unfold Ab_310_37 at ga
  obtain ⟨h1, h2, h3, h4, h5⟩ := ga
  obtain ⟨ex, rb⟩ := gb
  have ln := congrArg List.length ex
  rw [xsL_len] at ln
  have ll : ((lrL H0 (hV H0 340) (flS (hV H0 296) (hV H0 298) (hV H0 300) (hV H0 301) (hV H0 302) (hV H0 340) (7 * (n7).toNat) 7 6 0))).length = ((flS (hV H0 296) (hV H0 298) (hV H0 300) (hV H0 301) (hV H0 302) (hV H0 340) (7 * (n7).toNat) 7 6 0)).length := lrL_len
  have d20 := rdS (q := 285) f20 f8
  have d27 := rdW (q := 344) f27 f22
  have d33 := rdW (q := 298) f33 f28
  obtain ⟨p, hp⟩ : ∃ p, ((flS (hV H0 296) (hV H0 298) (hV H0 300) (hV H0 301) (hV H0 302) (hV H0 340) (7 * (n7).toNat) 7 6 0))[(n0).toNat]? = some p := ⟨_, List.getElem?_eq_getElem (by omega)⟩
  have xa := xsL_at ex hp
  have hL := lrL_at (h := H0) (mk := hV H0 340) hp
  have e344 : (n11).toNat = p.1 := by
    rw [d27]
    exact xa.1
  have y33 : n13 = hV H0 298 p.1 := by
    rw [d33, e344, b298]
  have wn := f35
  unfold w32 at wn
  have no : ¬ MUp (RE H0) n6 (lrN (nowR (hV H0 340) (recR H0 p.1, p.2))) := fun w => by
    have w0 := w.1
    rw [lrN_no (by omega)] at w0
    exact absurd w0 (by decide)
  refine ⟨ex, ?_⟩
  rw [show hV H1 356 = hV H1 356 from rfl]
  exact RB_iff rb fun f => HR_skip hL no (by omega) (by omega) f
def g_310w_37_1 : vG := ([(10, [14, 8], [], 1), (31, [13], [], 0), (22, [13, 12, 11], [1], 0), (90, [13], [], 0), (91, [13], [], 5), (20, [12, 4], [1], 24), (23, [4], [1], 12), (0, [12], [], 298), (22, [11, 10, 8], [1], 0), (90, [11], [], 0), (91, [11], [], 1007), (20, [10, 4], [1], 83), (23, [4], [1], 12), (0, [10], [], 344), (42, [8, 9], [], 0), (20, [9, 4], [1], 82), (23, [4], [1], 12), (90, [9], [], 0), (91, [9], [], 40), (5000, [0, 1, 2, 3, 4, 5, 6, 7, 8], [0, 1], 37), (0, [0], [], 285), (90, [1], [], 0), (91, [1], [], 7), (90, [2], [], -2147483648), (91, [2], [], 2147483647), (90, [3], [], 0), (91, [3], [], 5), (0, [4], [], 285), (90, [5], [], 0), (91, [5], [], 7), (90, [6], [], -2147483648), (91, [6], [], 2147483647), (90, [7], [], 0), (91, [7], [], 5), (90, [8], [], 0), (91, [8], [], 40)], (4000, [4, 5, 6, 7, 14], [1], 37))
theorem c_310w_37_1 {q0 : Nat} : vOkm T0 (eN e_310 L_310w A_310 mu_310 n_310 B_310 (some q0)) 4 g_310w_37_1 := vOk_inI fun ρ η f0 f1 f2 f3 f4 f5 f6 f7 f8 f9 f10 f11 f12 f13 f14 f15 f16 f17 f18 f19 f20 f21 f22 f23 f24 f25 f26 f27 f28 f29 f30 f31 f32 f33 f34 f35 => q_310w_4 (q0 := q0) (n0 := ρ 8) (n1 := ρ 7) (n2 := ρ 6) (n3 := ρ 5) (n4 := ρ 4) (n5 := ρ 3) (n6 := ρ 2) (n7 := ρ 1) (n8 := ρ 0) (n9 := ρ 9) (n10 := ρ 10) (n11 := ρ 11) (n12 := ρ 12) (n13 := ρ 13) (n14 := ρ 14) (H0 := η 0) (H1 := η 1) f35 f34 f33 f32 f31 f30 f29 f28 f27 f26 f25 f24 f23 f22 f21 f20 f19 f18 f17 f16 f15 f14 f13 f12 f11 f10 f9 f8 f7 f6 f5 f4 f3 f2 f1 f0
theorem q_310w_5 {q0 : Nat} {n0 n1 n2 n3 n4 n5 n6 n7 n8 n9 n10 n11 n12 n13 n14 n15 n16 n17 : Int} {H0 H1 H2 : gH} (f0 : n0 ≤ 40) (f1 : 0 ≤ n0) (f2 : n1 ≤ 5) (f3 : 0 ≤ n1) (f4 : n2 ≤ 2147483647) (f5 : (-2147483648) ≤ n2) (f6 : n3 ≤ 7) (f7 : 0 ≤ n3) (f8 : n4 = 285) (f9 : n5 ≤ 5) (f10 : 0 ≤ n5) (f11 : n6 ≤ 2147483647) (f12 : (-2147483648) ≤ n6) (f13 : n7 ≤ 7) (f14 : 0 ≤ n7) (f15 : n8 = 285) (f16 : (hLe T0 H0 H1 ∧ hFr s_310.2.2.2.2 H0 H1 ∧ hWt T0 H1) ∧ ((Ab_310_37 n8 n7 n6 n5 n4 n3 n2 n1 n0 H0 H1 ∧ Bb_310_37 n8 n7 n6 n5 n4 n3 n2 n1 n0 H0 H1) ∧ preb_310 n8 n7 n6 n5 H0) ∧ some q0 = some (mub_310_37 n8 n7 n6 n5 n4 n3 n2 n1 n0 H0 H1)) (f17 : n9 ≤ 40) (f18 : 0 ≤ n9) (f19 : hK H1 (n4).toNat = 12) (f20 : n9 = hV H1 (n4).toNat 82) (f21 : n0 < n9) (f22 : n10 = 344) (f23 : hK H1 (n4).toNat = 12) (f24 : n10 = hV H1 (n4).toNat 83) (f25 : n11 ≤ 1007) (f26 : 0 ≤ n11) (f27 : n11 = hV H1 (n10).toNat (n0).toNat) (f28 : n12 = 298) (f29 : hK H1 (n4).toNat = 12) (f30 : n12 = hV H1 (n4).toNat 24) (f31 : n13 ≤ 5) (f32 : 0 ≤ n13) (f33 : n13 = hV H1 (n12).toNat (n11).toNat) (f34 : n13 = 0) (f35 : n14 = 300) (f36 : hK H1 (n4).toNat = 12) (f37 : n14 = hV H1 (n4).toNat 26) (f38 : n15 ≤ 9999) (f39 : (-1) ≤ n15) (f40 : n15 = hV H1 (n14).toNat (n11).toNat) (f41 : n16 ≤ 1) (f42 : 0 ≤ n16) (f43 : (hLe T0 H1 H2 ∧ hFr s_250.2.2.2.2 H1 H2 ∧ ((0 : Int) = 0 → H2.length = H1.length) ∧ hWt T0 H2) ∧ postb_250 n16 n4 n15 H1 H2) (f44 : n16 = 0) (f45 : n17 = w32 (n0 + 1)) : Bb_310_37 n8 n7 n6 n5 n4 n3 n2 n1 n17 H0 H2 := by
  unfold Bb_310_37
  intro sk mt q0 q1 k3 d0 d1 d5 fb
  have gb := f16.2.1.1.2
  unfold Bb_310_37 at gb
  have gb := gb sk mt q0 q1 k3 d0 d1 d5 fb
  have m5 := (MTr mt).2.2.2.1
  have er : RE H1 = RE H0 := RE_fr f16.1.2.1 (by decide +kernel)
  have b325 : hV H1 325 = hV H0 325 := fRow f16.1.2.1 325 (by decide +kernel)
  have b293 : hV H1 293 = hV H0 293 := fRow f16.1.2.1 293 (by decide +kernel)
  have b298 : hV H1 298 = hV H0 298 := fRow f16.1.2.1 298 (by decide +kernel)
  have b300 : hV H1 300 = hV H0 300 := fRow f16.1.2.1 300 (by decide +kernel)
  have b305 : hV H1 305 = hV H0 305 := fRow f16.1.2.1 305 (by decide +kernel)
  have b340 : hV H1 340 = hV H0 340 := fRow f16.1.2.1 340 (by decide +kernel)
  have b328 : hV H1 328 = hV H0 328 := fRow f16.1.2.1 328 (by decide +kernel)
  have s64 : hV H1 285 64 = hV H0 285 64 := f16.1.2.1.1 285 64 (by decide +kernel)
  have ga := f16.2.1.1.1
  unfold Ab_310_37 at ga
  obtain ⟨h1, h2, h3, h4, h5⟩ := ga
  obtain ⟨ex, rb⟩ := gb
  have ln := congrArg List.length ex
  rw [xsL_len] at ln
  have ll : ((lrL H0 (hV H0 340) (flS (hV H0 296) (hV H0 298) (hV H0 300) (hV H0 301) (hV H0 302) (hV H0 340) (7 * (n7).toNat) 7 6 0))).length = ((flS (hV H0 296) (hV H0 298) (hV H0 300) (hV H0 301) (hV H0 302) (hV H0 340) (7 * (n7).toNat) 7 6 0)).length := lrL_len
  have d20 := rdS (q := 285) f20 f8
  have d27 := rdW (q := 344) f27 f22
  have d33 := rdW (q := 298) f33 f28
  have d40 := rdW (q := 300) f40 f35
  obtain ⟨p, hp⟩ : ∃ p, ((flS (hV H0 296) (hV H0 298) (hV H0 300) (hV H0 301) (hV H0 302) (hV H0 340) (7 * (n7).toNat) 7 6 0))[(n0).toNat]? = some p := ⟨_, List.getElem?_eq_getElem (by omega)⟩
  have xa := xsL_at ex hp
  have hL := lrL_at (h := H0) (mk := hV H0 340) hp
  have e344 : (n11).toNat = p.1 := by
    rw [d27]
    exact xa.1
  have y33 : n13 = hV H0 298 p.1 := by
    rw [d33, e344, b298]
  have y40 : n15 = hV H0 300 p.1 := by
    rw [d40, e344, b300]
  have wn := f45
  unfold w32 at wn
  have k0 : hV H0 298 p.1 = 0 := by omega
  have el := lrN_R (h := H0) (mk := hV H0 340) (sh := p.2) k0
  have g0 : (lrN (nowR (hV H0 340) (recR H0 p.1, p.2))).1 = 0 := congrArg (fun y : LR => y.1) el
  have gs : (lrN (nowR (hV H0 340) (recR H0 p.1, p.2))).2.1 = hV H0 300 p.1 := congrArg (fun y : LR => y.2.1) el
  have qi := f43.2
  unfold postb_250 at qi
  rw [show hV H2 285 64 = hV H0 285 64 from (f43.1.2.1.1 285 64 (by decide +kernel)).trans (f16.1.2.1.1 285 64 (by decide +kernel))] at qi
  have no : ¬ MUp (RE H0) n6 (lrN (nowR (hV H0 340) (recR H0 p.1, p.2))) := fun w => by
    have w1 := w.2.1
    have w2 : _ < hV H0 285 64 := w.2.2.1
    omega
  refine ⟨(by rw [show hV H2 344 = hV H1 344 from fRow f43.1.2.1 344 (by decide +kernel), show hV H2 345 = hV H1 345 from fRow f43.1.2.1 345 (by decide +kernel), show hV H2 285 82 = hV H1 285 82 from f43.1.2.1.1 285 82 (by decide +kernel)]; exact ex), ?_⟩
  rw [show hV H2 356 = hV H1 356 from fRow f43.1.2.1 356 (by decide +kernel)]
  exact RB_iff rb fun f => HR_skip hL no (by omega) (by omega) f
def g_310w_37_2 : vG := ([(10, [17, 8], [], 1), (30, [16], [], 0), (1250, [16, 4, 15], [1, 2], 0), (90, [16], [], 0), (91, [16], [], 1), (22, [15, 14, 11], [1], 0), (90, [15], [], -1), (91, [15], [], 9999), (20, [14, 4], [1], 26), (23, [4], [1], 12), (0, [14], [], 300), (30, [13], [], 0), (22, [13, 12, 11], [1], 0), (90, [13], [], 0), (91, [13], [], 5), (20, [12, 4], [1], 24), (23, [4], [1], 12), (0, [12], [], 298), (22, [11, 10, 8], [1], 0), (90, [11], [], 0), (91, [11], [], 1007), (20, [10, 4], [1], 83), (23, [4], [1], 12), (0, [10], [], 344), (42, [8, 9], [], 0), (20, [9, 4], [1], 82), (23, [4], [1], 12), (90, [9], [], 0), (91, [9], [], 40), (5000, [0, 1, 2, 3, 4, 5, 6, 7, 8], [0, 1], 37), (0, [0], [], 285), (90, [1], [], 0), (91, [1], [], 7), (90, [2], [], -2147483648), (91, [2], [], 2147483647), (90, [3], [], 0), (91, [3], [], 5), (0, [4], [], 285), (90, [5], [], 0), (91, [5], [], 7), (90, [6], [], -2147483648), (91, [6], [], 2147483647), (90, [7], [], 0), (91, [7], [], 5), (90, [8], [], 0), (91, [8], [], 40)], (4000, [4, 5, 6, 7, 17], [2], 37))
theorem c_310w_37_2 {q0 : Nat} : vOkm T0 (eN e_310 L_310w A_310 mu_310 n_310 B_310 (some q0)) 4 g_310w_37_2 := vOk_inI fun ρ η f0 f1 f2 f3 f4 f5 f6 f7 f8 f9 f10 f11 f12 f13 f14 f15 f16 f17 f18 f19 f20 f21 f22 f23 f24 f25 f26 f27 f28 f29 f30 f31 f32 f33 f34 f35 f36 f37 f38 f39 f40 f41 f42 f43 f44 f45 => q_310w_5 (q0 := q0) (n0 := ρ 8) (n1 := ρ 7) (n2 := ρ 6) (n3 := ρ 5) (n4 := ρ 4) (n5 := ρ 3) (n6 := ρ 2) (n7 := ρ 1) (n8 := ρ 0) (n9 := ρ 9) (n10 := ρ 10) (n11 := ρ 11) (n12 := ρ 12) (n13 := ρ 13) (n14 := ρ 14) (n15 := ρ 15) (n16 := ρ 16) (n17 := ρ 17) (H0 := η 0) (H1 := η 1) (H2 := η 2) f45 f44 f43 f42 f41 f40 f39 f38 f37 f36 f35 f34 f33 f32 f31 f30 f29 f28 f27 f26 f25 f24 f23 f22 f21 f20 f19 f18 f17 f16 f15 f14 f13 f12 f11 f10 f9 f8 f7 f6 f5 f4 f3 f2 f1 f0
theorem q_310w_6 {q0 : Nat} {n0 n1 n2 n3 n4 n5 n6 n7 n8 n9 n10 n11 n12 n13 n14 n15 n16 n17 n18 n19 n20 n21 n22 n23 n24 : Int} {H0 H1 H2 H3 H4 : gH} (f0 : n0 ≤ 40) (f1 : 0 ≤ n0) (f2 : n1 ≤ 5) (f3 : 0 ≤ n1) (f4 : n2 ≤ 2147483647) (f5 : (-2147483648) ≤ n2) (f6 : n3 ≤ 7) (f7 : 0 ≤ n3) (f8 : n4 = 285) (f9 : n5 ≤ 5) (f10 : 0 ≤ n5) (f11 : n6 ≤ 2147483647) (f12 : (-2147483648) ≤ n6) (f13 : n7 ≤ 7) (f14 : 0 ≤ n7) (f15 : n8 = 285) (f16 : (hLe T0 H0 H1 ∧ hFr s_310.2.2.2.2 H0 H1 ∧ hWt T0 H1) ∧ ((Ab_310_37 n8 n7 n6 n5 n4 n3 n2 n1 n0 H0 H1 ∧ Bb_310_37 n8 n7 n6 n5 n4 n3 n2 n1 n0 H0 H1) ∧ preb_310 n8 n7 n6 n5 H0) ∧ some q0 = some (mub_310_37 n8 n7 n6 n5 n4 n3 n2 n1 n0 H0 H1)) (f17 : n9 ≤ 40) (f18 : 0 ≤ n9) (f19 : hK H1 (n4).toNat = 12) (f20 : n9 = hV H1 (n4).toNat 82) (f21 : n0 < n9) (f22 : n10 = 344) (f23 : hK H1 (n4).toNat = 12) (f24 : n10 = hV H1 (n4).toNat 83) (f25 : n11 ≤ 1007) (f26 : 0 ≤ n11) (f27 : n11 = hV H1 (n10).toNat (n0).toNat) (f28 : n12 = 298) (f29 : hK H1 (n4).toNat = 12) (f30 : n12 = hV H1 (n4).toNat 24) (f31 : n13 ≤ 5) (f32 : 0 ≤ n13) (f33 : n13 = hV H1 (n12).toNat (n11).toNat) (f34 : n13 = 0) (f35 : n14 = 300) (f36 : hK H1 (n4).toNat = 12) (f37 : n14 = hV H1 (n4).toNat 26) (f38 : n15 ≤ 9999) (f39 : (-1) ≤ n15) (f40 : n15 = hV H1 (n14).toNat (n11).toNat) (f41 : n16 ≤ 1) (f42 : 0 ≤ n16) (f43 : (hLe T0 H1 H2 ∧ hFr s_250.2.2.2.2 H1 H2 ∧ ((0 : Int) = 0 → H2.length = H1.length) ∧ hWt T0 H2) ∧ postb_250 n16 n4 n15 H1 H2) (f44 : n16 ≠ 0) (f45 : n17 = 300) (f46 : hK H2 (n4).toNat = 12) (f47 : n17 = hV H2 (n4).toNat 26) (f48 : n18 ≤ 9999) (f49 : (-1) ≤ n18) (f50 : n18 = hV H2 (n17).toNat (n11).toNat) (f51 : n19 ≤ 19) (f52 : 0 ≤ n19) (f53 : (hLe T0 H2 H3 ∧ hFr s_264.2.2.2.2 H2 H3 ∧ ((0 : Int) = 0 → H3.length = H2.length) ∧ hWt T0 H3) ∧ (postb_264 n19 n4 n18 H2 H3 ∧ nb_264 n19 n4 n18 H2 H3)) (f54 : n19 = n2) (f55 : n20 ≤ 40) (f56 : 0 ≤ n20) (f57 : hK H3 (n4).toNat = 12) (f58 : n20 = hV H3 (n4).toNat 103) (f59 : n21 = 1) (f60 : n22 = w32 (n20 + n21)) (f61 : hK H3 (n4).toNat = 12) (f62 : n23 = 103) (f63 : hUpd H4 H3 n4 n23 n22) (f64 : n24 = 0) : Bb_310_110 n8 n7 n6 n5 n4 n3 n2 n1 n0 n11 n24 H0 H4 := by
  unfold Bb_310_110
  intro sk mt q0 q1 k3 d0 d1 d5 fb
  have gb := f16.2.1.1.2
  unfold Bb_310_37 at gb
  have gb := gb sk mt q0 q1 k3 d0 d1 d5 fb
  have m5 := (MTr mt).2.2.2.1
  have er : RE H1 = RE H0 := RE_fr f16.1.2.1 (by decide +kernel)
  have b325 : hV H1 325 = hV H0 325 := fRow f16.1.2.1 325 (by decide +kernel)
  have b293 : hV H1 293 = hV H0 293 := fRow f16.1.2.1 293 (by decide +kernel)
  have b298 : hV H1 298 = hV H0 298 := fRow f16.1.2.1 298 (by decide +kernel)
  have b300 : hV H1 300 = hV H0 300 := fRow f16.1.2.1 300 (by decide +kernel)
  have b305 : hV H1 305 = hV H0 305 := fRow f16.1.2.1 305 (by decide +kernel)
  have b340 : hV H1 340 = hV H0 340 := fRow f16.1.2.1 340 (by decide +kernel)
  have b328 : hV H1 328 = hV H0 328 := fRow f16.1.2.1 328 (by decide +kernel)
  have s64 : hV H1 285 64 = hV H0 285 64 := f16.1.2.1.1 285 64 (by decide +kernel)
  have ga := f16.2.1.1.1
  unfold Ab_310_37 at ga
  obtain ⟨h1, h2, h3, h4, h5⟩ := ga
  obtain ⟨ex, rb⟩ := gb
  have ln := congrArg List.length ex
  rw [xsL_len] at ln
  have ll : ((lrL H0 (hV H0 340) (flS (hV H0 296) (hV H0 298) (hV H0 300) (hV H0 301) (hV H0 302) (hV H0 340) (7 * (n7).toNat) 7 6 0))).length = ((flS (hV H0 296) (hV H0 298) (hV H0 300) (hV H0 301) (hV H0 302) (hV H0 340) (7 * (n7).toNat) 7 6 0)).length := lrL_len
  have d20 := rdS (q := 285) f20 f8
  have d27 := rdW (q := 344) f27 f22
  have d33 := rdW (q := 298) f33 f28
  have d40 := rdW (q := 300) f40 f35
  have d50 := rdW (q := 300) f50 f45
  have d58 := rdS (q := 285) f58 f8
  obtain ⟨p, hp⟩ : ∃ p, ((flS (hV H0 296) (hV H0 298) (hV H0 300) (hV H0 301) (hV H0 302) (hV H0 340) (7 * (n7).toNat) 7 6 0))[(n0).toNat]? = some p := ⟨_, List.getElem?_eq_getElem (by omega)⟩
  have xa := xsL_at ex hp
  have hL := lrL_at (h := H0) (mk := hV H0 340) hp
  have e344 : (n11).toNat = p.1 := by
    rw [d27]
    exact xa.1
  have y33 : n13 = hV H0 298 p.1 := by
    rw [d33, e344, b298]
  have y40 : n15 = hV H0 300 p.1 := by
    rw [d40, e344, b300]
  have y50 : n18 = hV H0 300 p.1 := by
    rw [d50, show hV H2 300 = hV H1 300 from fRow f43.1.2.1 300 (by decide +kernel), e344, b300]
  have k0 : hV H0 298 p.1 = 0 := by omega
  have el := lrN_R (h := H0) (mk := hV H0 340) (sh := p.2) k0
  have g0 : (lrN (nowR (hV H0 340) (recR H0 p.1, p.2))).1 = 0 := congrArg (fun y : LR => y.1) el
  have gs : (lrN (nowR (hV H0 340) (recR H0 p.1, p.2))).2.1 = hV H0 300 p.1 := congrArg (fun y : LR => y.2.1) el
  have qi := f43.2
  unfold postb_250 at qi
  rw [show hV H2 285 64 = hV H0 285 64 from (f43.1.2.1.1 285 64 (by decide +kernel)).trans (f16.1.2.1.1 285 64 (by decide +kernel))] at qi
  have qr := f53.2.2
  unfold nb_264 at qr
  rw [show RE H2 = RE H0 from (RE_fr f43.1.2.1 (by decide +kernel)).trans (RE_fr f16.1.2.1 (by decide +kernel))] at qr
  have qr := qr sk
  rw [y50] at qr
  have yes : MUp (RE H0) n6 (lrN (nowR (hV H0 340) (recR H0 p.1, p.2))) := ⟨g0, by omega, (show (lrN (nowR (hV H0 340) (recR H0 p.1, p.2))).2.1 < hV H0 285 64 by omega), by rw [gs]; omega⟩
  have bz := (m5 (hV H0 293 (n7).toNat).toNat).1
  have bz2 : 0 ≤ hV H0 325 (hV H0 293 (n7).toNat).toNat := bz
  refine ⟨(by rw [show hV H4 344 = hV H1 344 from (uRowNe f63 344 (by rw [f8]; decide)).trans ((fRow f53.1.2.1 344 (by decide +kernel)).trans (fRow f43.1.2.1 344 (by decide +kernel))), show hV H4 345 = hV H1 345 from (uRowNe f63 345 (by rw [f8]; decide)).trans ((fRow f53.1.2.1 345 (by decide +kernel)).trans (fRow f43.1.2.1 345 (by decide +kernel))), show hV H4 285 82 = hV H1 285 82 from (uSlot f63 285 82 (by rw [f62]; decide)).trans ((f53.1.2.1.1 285 82 (by decide +kernel)).trans (f43.1.2.1.1 285 82 (by decide +kernel)))]; exact ex), p, hp, k0, yes, by omega, by omega, ?_⟩
  rw [show hV H4 356 = hV H1 356 from (uRowNe f63 356 (by rw [f8]; decide)).trans ((fRow f53.1.2.1 356 (by decide +kernel)).trans (fRow f43.1.2.1 356 (by decide +kernel)))]
  exact RB_iff rb fun f => ⟨.inl, fun w => w.resolve_right (HT_0 (by omega) f)⟩
def g_310w_37_3 : vG := ([(0, [24], [], 0), (80, [4, 23, 22], [4, 3], 0), (0, [23], [], 103), (23, [4], [3], 12), (1, [22, 20, 21], [], 0), (0, [21], [], 1), (20, [20, 4], [3], 103), (23, [4], [3], 12), (90, [20], [], 0), (91, [20], [], 40), (40, [19, 6], [], 0), (1264, [19, 4, 18], [2, 3], 0), (90, [19], [], 0), (91, [19], [], 19), (22, [18, 17, 11], [2], 0), (90, [18], [], -1), (91, [18], [], 9999), (20, [17, 4], [2], 26), (23, [4], [2], 12), (0, [17], [], 300), (31, [16], [], 0), (1250, [16, 4, 15], [1, 2], 0), (90, [16], [], 0), (91, [16], [], 1), (22, [15, 14, 11], [1], 0), (90, [15], [], -1), (91, [15], [], 9999), (20, [14, 4], [1], 26), (23, [4], [1], 12), (0, [14], [], 300), (30, [13], [], 0), (22, [13, 12, 11], [1], 0), (90, [13], [], 0), (91, [13], [], 5), (20, [12, 4], [1], 24), (23, [4], [1], 12), (0, [12], [], 298), (22, [11, 10, 8], [1], 0), (90, [11], [], 0), (91, [11], [], 1007), (20, [10, 4], [1], 83), (23, [4], [1], 12), (0, [10], [], 344), (42, [8, 9], [], 0), (20, [9, 4], [1], 82), (23, [4], [1], 12), (90, [9], [], 0), (91, [9], [], 40), (5000, [0, 1, 2, 3, 4, 5, 6, 7, 8], [0, 1], 37), (0, [0], [], 285), (90, [1], [], 0), (91, [1], [], 7), (90, [2], [], -2147483648), (91, [2], [], 2147483647), (90, [3], [], 0), (91, [3], [], 5), (0, [4], [], 285), (90, [5], [], 0), (91, [5], [], 7), (90, [6], [], -2147483648), (91, [6], [], 2147483647), (90, [7], [], 0), (91, [7], [], 5), (90, [8], [], 0), (91, [8], [], 40)], (4000, [4, 5, 6, 7, 8, 11, 24], [4], 110))
theorem c_310w_37_3 {q0 : Nat} : vOkm T0 (eN e_310 L_310w A_310 mu_310 n_310 B_310 (some q0)) 4 g_310w_37_3 := vOk_inI fun ρ η f0 f1 f2 f3 f4 f5 f6 f7 f8 f9 f10 f11 f12 f13 f14 f15 f16 f17 f18 f19 f20 f21 f22 f23 f24 f25 f26 f27 f28 f29 f30 f31 f32 f33 f34 f35 f36 f37 f38 f39 f40 f41 f42 f43 f44 f45 f46 f47 f48 f49 f50 f51 f52 f53 f54 f55 f56 f57 f58 f59 f60 f61 f62 f63 f64 => q_310w_6 (q0 := q0) (n0 := ρ 8) (n1 := ρ 7) (n2 := ρ 6) (n3 := ρ 5) (n4 := ρ 4) (n5 := ρ 3) (n6 := ρ 2) (n7 := ρ 1) (n8 := ρ 0) (n9 := ρ 9) (n10 := ρ 10) (n11 := ρ 11) (n12 := ρ 12) (n13 := ρ 13) (n14 := ρ 14) (n15 := ρ 15) (n16 := ρ 16) (n17 := ρ 17) (n18 := ρ 18) (n19 := ρ 19) (n20 := ρ 20) (n21 := ρ 21) (n22 := ρ 22) (n23 := ρ 23) (n24 := ρ 24) (H0 := η 0) (H1 := η 1) (H2 := η 2) (H3 := η 3) (H4 := η 4) f64 f63 f62 f61 f60 f59 f58 f57 f56 f55 f54 f53 f52 f51 f50 f49 f48 f47 f46 f45 f44 f43 f42 f41 f40 f39 f38 f37 f36 f35 f34 f33 f32 f31 f30 f29 f28 f27 f26 f25 f24 f23 f22 f21 f20 f19 f18 f17 f16 f15 f14 f13 f12 f11 f10 f9 f8 f7 f6 f5 f4 f3 f2 f1 f0
theorem q_310w_7 {q0 : Nat} {n0 n1 n2 n3 n4 n5 n6 n7 n8 n9 n10 n11 n12 n13 n14 n15 n16 n17 n18 n19 n20 : Int} {H0 H1 H2 H3 : gH} (f0 : n0 ≤ 40) (f1 : 0 ≤ n0) (f2 : n1 ≤ 5) (f3 : 0 ≤ n1) (f4 : n2 ≤ 2147483647) (f5 : (-2147483648) ≤ n2) (f6 : n3 ≤ 7) (f7 : 0 ≤ n3) (f8 : n4 = 285) (f9 : n5 ≤ 5) (f10 : 0 ≤ n5) (f11 : n6 ≤ 2147483647) (f12 : (-2147483648) ≤ n6) (f13 : n7 ≤ 7) (f14 : 0 ≤ n7) (f15 : n8 = 285) (f16 : (hLe T0 H0 H1 ∧ hFr s_310.2.2.2.2 H0 H1 ∧ hWt T0 H1) ∧ ((Ab_310_37 n8 n7 n6 n5 n4 n3 n2 n1 n0 H0 H1 ∧ Bb_310_37 n8 n7 n6 n5 n4 n3 n2 n1 n0 H0 H1) ∧ preb_310 n8 n7 n6 n5 H0) ∧ some q0 = some (mub_310_37 n8 n7 n6 n5 n4 n3 n2 n1 n0 H0 H1)) (f17 : n9 ≤ 40) (f18 : 0 ≤ n9) (f19 : hK H1 (n4).toNat = 12) (f20 : n9 = hV H1 (n4).toNat 82) (f21 : n0 < n9) (f22 : n10 = 344) (f23 : hK H1 (n4).toNat = 12) (f24 : n10 = hV H1 (n4).toNat 83) (f25 : n11 ≤ 1007) (f26 : 0 ≤ n11) (f27 : n11 = hV H1 (n10).toNat (n0).toNat) (f28 : n12 = 298) (f29 : hK H1 (n4).toNat = 12) (f30 : n12 = hV H1 (n4).toNat 24) (f31 : n13 ≤ 5) (f32 : 0 ≤ n13) (f33 : n13 = hV H1 (n12).toNat (n11).toNat) (f34 : n13 = 0) (f35 : n14 = 300) (f36 : hK H1 (n4).toNat = 12) (f37 : n14 = hV H1 (n4).toNat 26) (f38 : n15 ≤ 9999) (f39 : (-1) ≤ n15) (f40 : n15 = hV H1 (n14).toNat (n11).toNat) (f41 : n16 ≤ 1) (f42 : 0 ≤ n16) (f43 : (hLe T0 H1 H2 ∧ hFr s_250.2.2.2.2 H1 H2 ∧ ((0 : Int) = 0 → H2.length = H1.length) ∧ hWt T0 H2) ∧ postb_250 n16 n4 n15 H1 H2) (f44 : n16 ≠ 0) (f45 : n17 = 300) (f46 : hK H2 (n4).toNat = 12) (f47 : n17 = hV H2 (n4).toNat 26) (f48 : n18 ≤ 9999) (f49 : (-1) ≤ n18) (f50 : n18 = hV H2 (n17).toNat (n11).toNat) (f51 : n19 ≤ 19) (f52 : 0 ≤ n19) (f53 : (hLe T0 H2 H3 ∧ hFr s_264.2.2.2.2 H2 H3 ∧ ((0 : Int) = 0 → H3.length = H2.length) ∧ hWt T0 H3) ∧ (postb_264 n19 n4 n18 H2 H3 ∧ nb_264 n19 n4 n18 H2 H3)) (f54 : n19 ≠ n2) (f55 : n20 = w32 (n0 + 1)) : Bb_310_37 n8 n7 n6 n5 n4 n3 n2 n1 n20 H0 H3 := by
  unfold Bb_310_37
  intro sk mt q0 q1 k3 d0 d1 d5 fb
  have gb := f16.2.1.1.2
  unfold Bb_310_37 at gb
  have gb := gb sk mt q0 q1 k3 d0 d1 d5 fb
  have m5 := (MTr mt).2.2.2.1
  have er : RE H1 = RE H0 := RE_fr f16.1.2.1 (by decide +kernel)
  have b325 : hV H1 325 = hV H0 325 := fRow f16.1.2.1 325 (by decide +kernel)
  have b293 : hV H1 293 = hV H0 293 := fRow f16.1.2.1 293 (by decide +kernel)
  have b298 : hV H1 298 = hV H0 298 := fRow f16.1.2.1 298 (by decide +kernel)
  have b300 : hV H1 300 = hV H0 300 := fRow f16.1.2.1 300 (by decide +kernel)
  have b305 : hV H1 305 = hV H0 305 := fRow f16.1.2.1 305 (by decide +kernel)
  have b340 : hV H1 340 = hV H0 340 := fRow f16.1.2.1 340 (by decide +kernel)
  have b328 : hV H1 328 = hV H0 328 := fRow f16.1.2.1 328 (by decide +kernel)
  have s64 : hV H1 285 64 = hV H0 285 64 := f16.1.2.1.1 285 64 (by decide +kernel)
  have ga := f16.2.1.1.1
  unfold Ab_310_37 at ga
  obtain ⟨h1, h2, h3, h4, h5⟩ := ga
  obtain ⟨ex, rb⟩ := gb
  have ln := congrArg List.length ex
  rw [xsL_len] at ln
  have ll : ((lrL H0 (hV H0 340) (flS (hV H0 296) (hV H0 298) (hV H0 300) (hV H0 301) (hV H0 302) (hV H0 340) (7 * (n7).toNat) 7 6 0))).length = ((flS (hV H0 296) (hV H0 298) (hV H0 300) (hV H0 301) (hV H0 302) (hV H0 340) (7 * (n7).toNat) 7 6 0)).length := lrL_len
  have d20 := rdS (q := 285) f20 f8
  have d27 := rdW (q := 344) f27 f22
  have d33 := rdW (q := 298) f33 f28
  have d40 := rdW (q := 300) f40 f35
  have d50 := rdW (q := 300) f50 f45
  obtain ⟨p, hp⟩ : ∃ p, ((flS (hV H0 296) (hV H0 298) (hV H0 300) (hV H0 301) (hV H0 302) (hV H0 340) (7 * (n7).toNat) 7 6 0))[(n0).toNat]? = some p := ⟨_, List.getElem?_eq_getElem (by omega)⟩
  have xa := xsL_at ex hp
  have hL := lrL_at (h := H0) (mk := hV H0 340) hp
  have e344 : (n11).toNat = p.1 := by
    rw [d27]
    exact xa.1
  have y33 : n13 = hV H0 298 p.1 := by
    rw [d33, e344, b298]
  have y40 : n15 = hV H0 300 p.1 := by
    rw [d40, e344, b300]
  have y50 : n18 = hV H0 300 p.1 := by
    rw [d50, show hV H2 300 = hV H1 300 from fRow f43.1.2.1 300 (by decide +kernel), e344, b300]
  have wn := f55
  unfold w32 at wn
  have k0 : hV H0 298 p.1 = 0 := by omega
  have el := lrN_R (h := H0) (mk := hV H0 340) (sh := p.2) k0
  have g0 : (lrN (nowR (hV H0 340) (recR H0 p.1, p.2))).1 = 0 := congrArg (fun y : LR => y.1) el
  have gs : (lrN (nowR (hV H0 340) (recR H0 p.1, p.2))).2.1 = hV H0 300 p.1 := congrArg (fun y : LR => y.2.1) el
  have qi := f43.2
  unfold postb_250 at qi
  rw [show hV H2 285 64 = hV H0 285 64 from (f43.1.2.1.1 285 64 (by decide +kernel)).trans (f16.1.2.1.1 285 64 (by decide +kernel))] at qi
  have qr := f53.2.2
  unfold nb_264 at qr
  rw [show RE H2 = RE H0 from (RE_fr f43.1.2.1 (by decide +kernel)).trans (RE_fr f16.1.2.1 (by decide +kernel))] at qr
  have qr := qr sk
  rw [y50] at qr
  have no : ¬ MUp (RE H0) n6 (lrN (nowR (hV H0 340) (recR H0 p.1, p.2))) := fun w => by
    have w3 := w.2.2.2
    rw [gs] at w3
    omega
  refine ⟨(by rw [show hV H3 344 = hV H1 344 from (fRow f53.1.2.1 344 (by decide +kernel)).trans (fRow f43.1.2.1 344 (by decide +kernel)), show hV H3 345 = hV H1 345 from (fRow f53.1.2.1 345 (by decide +kernel)).trans (fRow f43.1.2.1 345 (by decide +kernel)), show hV H3 285 82 = hV H1 285 82 from (f53.1.2.1.1 285 82 (by decide +kernel)).trans (f43.1.2.1.1 285 82 (by decide +kernel))]; exact ex), ?_⟩
  rw [show hV H3 356 = hV H1 356 from (fRow f53.1.2.1 356 (by decide +kernel)).trans (fRow f43.1.2.1 356 (by decide +kernel))]
  exact RB_iff rb fun f => HR_skip hL no (by omega) (by omega) f
def g_310w_37_4 : vG := ([(10, [20, 8], [], 1), (41, [19, 6], [], 0), (1264, [19, 4, 18], [2, 3], 0), (90, [19], [], 0), (91, [19], [], 19), (22, [18, 17, 11], [2], 0), (90, [18], [], -1), (91, [18], [], 9999), (20, [17, 4], [2], 26), (23, [4], [2], 12), (0, [17], [], 300), (31, [16], [], 0), (1250, [16, 4, 15], [1, 2], 0), (90, [16], [], 0), (91, [16], [], 1), (22, [15, 14, 11], [1], 0), (90, [15], [], -1), (91, [15], [], 9999), (20, [14, 4], [1], 26), (23, [4], [1], 12), (0, [14], [], 300), (30, [13], [], 0), (22, [13, 12, 11], [1], 0), (90, [13], [], 0), (91, [13], [], 5), (20, [12, 4], [1], 24), (23, [4], [1], 12), (0, [12], [], 298), (22, [11, 10, 8], [1], 0), (90, [11], [], 0), (91, [11], [], 1007), (20, [10, 4], [1], 83), (23, [4], [1], 12), (0, [10], [], 344), (42, [8, 9], [], 0), (20, [9, 4], [1], 82), (23, [4], [1], 12), (90, [9], [], 0), (91, [9], [], 40), (5000, [0, 1, 2, 3, 4, 5, 6, 7, 8], [0, 1], 37), (0, [0], [], 285), (90, [1], [], 0), (91, [1], [], 7), (90, [2], [], -2147483648), (91, [2], [], 2147483647), (90, [3], [], 0), (91, [3], [], 5), (0, [4], [], 285), (90, [5], [], 0), (91, [5], [], 7), (90, [6], [], -2147483648), (91, [6], [], 2147483647), (90, [7], [], 0), (91, [7], [], 5), (90, [8], [], 0), (91, [8], [], 40)], (4000, [4, 5, 6, 7, 20], [3], 37))
theorem c_310w_37_4 {q0 : Nat} : vOkm T0 (eN e_310 L_310w A_310 mu_310 n_310 B_310 (some q0)) 4 g_310w_37_4 := vOk_inI fun ρ η f0 f1 f2 f3 f4 f5 f6 f7 f8 f9 f10 f11 f12 f13 f14 f15 f16 f17 f18 f19 f20 f21 f22 f23 f24 f25 f26 f27 f28 f29 f30 f31 f32 f33 f34 f35 f36 f37 f38 f39 f40 f41 f42 f43 f44 f45 f46 f47 f48 f49 f50 f51 f52 f53 f54 f55 => q_310w_7 (q0 := q0) (n0 := ρ 8) (n1 := ρ 7) (n2 := ρ 6) (n3 := ρ 5) (n4 := ρ 4) (n5 := ρ 3) (n6 := ρ 2) (n7 := ρ 1) (n8 := ρ 0) (n9 := ρ 9) (n10 := ρ 10) (n11 := ρ 11) (n12 := ρ 12) (n13 := ρ 13) (n14 := ρ 14) (n15 := ρ 15) (n16 := ρ 16) (n17 := ρ 17) (n18 := ρ 18) (n19 := ρ 19) (n20 := ρ 20) (H0 := η 0) (H1 := η 1) (H2 := η 2) (H3 := η 3) f55 f54 f53 f52 f51 f50 f49 f48 f47 f46 f45 f44 f43 f42 f41 f40 f39 f38 f37 f36 f35 f34 f33 f32 f31 f30 f29 f28 f27 f26 f25 f24 f23 f22 f21 f20 f19 f18 f17 f16 f15 f14 f13 f12 f11 f10 f9 f8 f7 f6 f5 f4 f3 f2 f1 f0
def p_310w_37 : List vG := [g_310w_37_0,
  g_310w_37_1,
  g_310w_37_2,
  g_310w_37_3,
  g_310w_37_4]
theorem r_310w_37 : vCovBO (eRc e_310 L_310 cs_310 2000 (37, [(0, (3, 12, 285, 0)), (1, (0, 0, 7, 0)), (2, (0, -2147483648, 2147483647, 0)), (3, (0, 0, 5, 0)), (4, (0, 0, 40, 0))])) p_310w_37 = true := by decide +kernel
theorem q_310w_8 {q0 : Nat} {n0 n1 n2 n3 n4 n5 n6 n7 n8 n9 n10 n11 n12 n13 n14 n15 n16 n17 : Int} {H0 H1 : gH} (f0 : n0 ≤ 240) (f1 : 0 ≤ n0) (f2 : n1 ≤ 1007) (f3 : 0 ≤ n1) (f4 : n2 ≤ 39) (f5 : 0 ≤ n2) (f6 : n3 ≤ 5) (f7 : 0 ≤ n3) (f8 : n4 ≤ 2147483647) (f9 : (-2147483648) ≤ n4) (f10 : n5 ≤ 7) (f11 : 0 ≤ n5) (f12 : n6 = 285) (f13 : n7 ≤ 5) (f14 : 0 ≤ n7) (f15 : n8 ≤ 2147483647) (f16 : (-2147483648) ≤ n8) (f17 : n9 ≤ 7) (f18 : 0 ≤ n9) (f19 : n10 = 285) (f20 : (hLe T0 H0 H1 ∧ hFr s_310.2.2.2.2 H0 H1 ∧ hWt T0 H1) ∧ ((Ab_310_110 n10 n9 n8 n7 n6 n5 n4 n3 n2 n1 n0 H0 H1 ∧ Bb_310_110 n10 n9 n8 n7 n6 n5 n4 n3 n2 n1 n0 H0 H1) ∧ preb_310 n10 n9 n8 n7 H0) ∧ some q0 = some (mub_310_110 n10 n9 n8 n7 n6 n5 n4 n3 n2 n1 n0 H0 H1)) (f21 : n11 = 4) (f22 : n12 = 325) (f23 : hK H1 (n6).toNat = 12) (f24 : n12 = hV H1 (n6).toNat 61) (f25 : n13 = 293) (f26 : hK H1 (n6).toNat = 12) (f27 : n13 = hV H1 (n6).toNat 19) (f28 : n14 ≤ 5) (f29 : 0 ≤ n14) (f30 : n14 = hV H1 (n13).toNat (n5).toNat) (f31 : n15 ≤ 60) (f32 : 0 ≤ n15) (f33 : n15 = hV H1 (n12).toNat (n14).toNat) (f34 : n16 = w32 (n11 * n15)) (f35 : n16 ≤ n0) (f36 : n17 = w32 (n2 + 1)) : Bb_310_37 n10 n9 n8 n7 n6 n5 n4 n3 n17 H0 H1 := by
  unfold Bb_310_37
  intro sk mt q0 q1 k3 d0 d1 d5 fb
  have gb := f20.2.1.1.2
  unfold Bb_310_110 at gb
  have gb := gb sk mt q0 q1 k3 d0 d1 d5 fb
  have m5 := (MTr mt).2.2.2.1
  have er : RE H1 = RE H0 := RE_fr f20.1.2.1 (by decide +kernel)
  have b325 : hV H1 325 = hV H0 325 := fRow f20.1.2.1 325 (by decide +kernel)
  have b293 : hV H1 293 = hV H0 293 := fRow f20.1.2.1 293 (by decide +kernel)
  have b298 : hV H1 298 = hV H0 298 := fRow f20.1.2.1 298 (by decide +kernel)
  have b300 : hV H1 300 = hV H0 300 := fRow f20.1.2.1 300 (by decide +kernel)
  have b305 : hV H1 305 = hV H0 305 := fRow f20.1.2.1 305 (by decide +kernel)
  have b340 : hV H1 340 = hV H0 340 := fRow f20.1.2.1 340 (by decide +kernel)
  have b328 : hV H1 328 = hV H0 328 := fRow f20.1.2.1 328 (by decide +kernel)
  have s64 : hV H1 285 64 = hV H0 285 64 := f20.1.2.1.1 285 64 (by decide +kernel)
  obtain ⟨ex, p, hp, k0, yes, t0, tz, rb⟩ := gb
  have xa := xsL_at ex hp
  have hL := lrL_at (h := H0) (mk := hV H0 340) hp
  have fbp := fb _ (List.mem_of_getElem? hL)
  have d30 := rdW (q := 293) f30 f25
  have d33 := rdW (q := 325) f33 f22
  have ga := f20.2.1.1.1
  unfold Ab_310_110 at ga
  obtain ⟨h1, h2, h3, h4, h5, h6, h7, h8, h9, ha⟩ := ga
  have z3 : n14 = hV H0 293 (n9).toNat := by
    rw [d30, h1, b293]
  have z4 : n15 = (hV H0 325 (hV H0 293 (n9).toNat).toNat) := by
    rw [d33, z3, b325]
  have bz := (m5 (hV H0 293 (n9).toNat).toNat)
  have bz2 : 0 ≤ hV H0 325 (hV H0 293 (n9).toNat).toNat ∧ hV H0 325 (hV H0 293 (n9).toNat).toNat ≤ 60 := bz
  have wz := f34
  rw [f21, z4] at wz
  rw [w32_id (by omega) (by omega)] at wz
  have wn := f36
  unfold w32 at wn
  refine ⟨ex, ?_⟩
  rw [show hV H1 356 = hV H1 356 from rfl]
  rw [show n0 = 4 * (hV H0 325 (hV H0 293 (n9).toNat).toNat) by omega] at rb
  exact RB_iff rb fun f => HR_take hL yes (by omega) (by omega) f
def g_310w_110_0 : vG := ([(10, [17, 8], [], 1), (43, [10, 16], [], 0), (3, [16, 11, 15], [], 0), (22, [15, 12, 14], [1], 0), (90, [15], [], 0), (91, [15], [], 60), (22, [14, 13, 5], [1], 0), (90, [14], [], 0), (91, [14], [], 5), (20, [13, 4], [1], 19), (23, [4], [1], 12), (0, [13], [], 293), (20, [12, 4], [1], 61), (23, [4], [1], 12), (0, [12], [], 325), (0, [11], [], 4), (5000, [0, 1, 2, 3, 4, 5, 6, 7, 8, 9, 10], [0, 1], 110), (0, [0], [], 285), (90, [1], [], 0), (91, [1], [], 7), (90, [2], [], -2147483648), (91, [2], [], 2147483647), (90, [3], [], 0), (91, [3], [], 5), (0, [4], [], 285), (90, [5], [], 0), (91, [5], [], 7), (90, [6], [], -2147483648), (91, [6], [], 2147483647), (90, [7], [], 0), (91, [7], [], 5), (90, [8], [], 0), (91, [8], [], 39), (90, [9], [], 0), (91, [9], [], 1007), (90, [10], [], 0), (91, [10], [], 240)], (4000, [4, 5, 6, 7, 17], [1], 37))
theorem c_310w_110_0 {q0 : Nat} : vOkm T0 (eN e_310 L_310w A_310 mu_310 n_310 B_310 (some q0)) 4 g_310w_110_0 := vOk_inI fun ρ η f0 f1 f2 f3 f4 f5 f6 f7 f8 f9 f10 f11 f12 f13 f14 f15 f16 f17 f18 f19 f20 f21 f22 f23 f24 f25 f26 f27 f28 f29 f30 f31 f32 f33 f34 f35 f36 => q_310w_8 (q0 := q0) (n0 := ρ 10) (n1 := ρ 9) (n2 := ρ 8) (n3 := ρ 7) (n4 := ρ 6) (n5 := ρ 5) (n6 := ρ 4) (n7 := ρ 3) (n8 := ρ 2) (n9 := ρ 1) (n10 := ρ 0) (n11 := ρ 11) (n12 := ρ 12) (n13 := ρ 13) (n14 := ρ 14) (n15 := ρ 15) (n16 := ρ 16) (n17 := ρ 17) (H0 := η 0) (H1 := η 1) f36 f35 f34 f33 f32 f31 f30 f29 f28 f27 f26 f25 f24 f23 f22 f21 f20 f19 f18 f17 f16 f15 f14 f13 f12 f11 f10 f9 f8 f7 f6 f5 f4 f3 f2 f1 f0
theorem q_310w_9 {q0 : Nat} {n0 n1 n2 n3 n4 n5 n6 n7 n8 n9 n10 n11 n12 n13 n14 n15 n16 n17 n18 : Int} {H0 H1 H2 : gH} (f0 : n0 ≤ 240) (f1 : 0 ≤ n0) (f2 : n1 ≤ 1007) (f3 : 0 ≤ n1) (f4 : n2 ≤ 39) (f5 : 0 ≤ n2) (f6 : n3 ≤ 5) (f7 : 0 ≤ n3) (f8 : n4 ≤ 2147483647) (f9 : (-2147483648) ≤ n4) (f10 : n5 ≤ 7) (f11 : 0 ≤ n5) (f12 : n6 = 285) (f13 : n7 ≤ 5) (f14 : 0 ≤ n7) (f15 : n8 ≤ 2147483647) (f16 : (-2147483648) ≤ n8) (f17 : n9 ≤ 7) (f18 : 0 ≤ n9) (f19 : n10 = 285) (f20 : (hLe T0 H0 H1 ∧ hFr s_310.2.2.2.2 H0 H1 ∧ hWt T0 H1) ∧ ((Ab_310_110 n10 n9 n8 n7 n6 n5 n4 n3 n2 n1 n0 H0 H1 ∧ Bb_310_110 n10 n9 n8 n7 n6 n5 n4 n3 n2 n1 n0 H0 H1) ∧ preb_310 n10 n9 n8 n7 H0) ∧ some q0 = some (mub_310_110 n10 n9 n8 n7 n6 n5 n4 n3 n2 n1 n0 H0 H1)) (f21 : n11 = 4) (f22 : n12 = 325) (f23 : hK H1 (n6).toNat = 12) (f24 : n12 = hV H1 (n6).toNat 61) (f25 : n13 = 293) (f26 : hK H1 (n6).toNat = 12) (f27 : n13 = hV H1 (n6).toNat 19) (f28 : n14 ≤ 5) (f29 : 0 ≤ n14) (f30 : n14 = hV H1 (n13).toNat (n5).toNat) (f31 : n15 ≤ 60) (f32 : 0 ≤ n15) (f33 : n15 = hV H1 (n12).toNat (n14).toNat) (f34 : n16 = w32 (n11 * n15)) (f35 : n0 < n16) (f36 : n17 ≤ 1) (f37 : 0 ≤ n17) (f38 : (hLe T0 H1 H2 ∧ hFr s_273.2.2.2.2 H1 H2 ∧ ((0 : Int) = 0 → H2.length = H1.length) ∧ hWt T0 H2) ∧ (postb_273 n17 n6 n2 n0 H1 H2 ∧ nb_273 n17 n6 n2 n0 H1 H2)) (f39 : n17 = 0) (f40 : n18 = w32 (n0 + 1)) : Bb_310_110 n10 n9 n8 n7 n6 n5 n4 n3 n2 n1 n18 H0 H2 := by
  unfold Bb_310_110
  intro sk mt q0 q1 k3 d0 d1 d5 fb
  have gb := f20.2.1.1.2
  unfold Bb_310_110 at gb
  have gb := gb sk mt q0 q1 k3 d0 d1 d5 fb
  have m5 := (MTr mt).2.2.2.1
  have er : RE H1 = RE H0 := RE_fr f20.1.2.1 (by decide +kernel)
  have b325 : hV H1 325 = hV H0 325 := fRow f20.1.2.1 325 (by decide +kernel)
  have b293 : hV H1 293 = hV H0 293 := fRow f20.1.2.1 293 (by decide +kernel)
  have b298 : hV H1 298 = hV H0 298 := fRow f20.1.2.1 298 (by decide +kernel)
  have b300 : hV H1 300 = hV H0 300 := fRow f20.1.2.1 300 (by decide +kernel)
  have b305 : hV H1 305 = hV H0 305 := fRow f20.1.2.1 305 (by decide +kernel)
  have b340 : hV H1 340 = hV H0 340 := fRow f20.1.2.1 340 (by decide +kernel)
  have b328 : hV H1 328 = hV H0 328 := fRow f20.1.2.1 328 (by decide +kernel)
  have s64 : hV H1 285 64 = hV H0 285 64 := f20.1.2.1.1 285 64 (by decide +kernel)
  obtain ⟨ex, p, hp, k0, yes, t0, tz, rb⟩ := gb
  have xa := xsL_at ex hp
  have hL := lrL_at (h := H0) (mk := hV H0 340) hp
  have fbp := fb _ (List.mem_of_getElem? hL)
  have d30 := rdW (q := 293) f30 f25
  have d33 := rdW (q := 325) f33 f22
  have ga := f20.2.1.1.1
  unfold Ab_310_110 at ga
  obtain ⟨h1, h2, h3, h4, h5, h6, h7, h8, h9, ha⟩ := ga
  have z3 : n14 = hV H0 293 (n9).toNat := by
    rw [d30, h1, b293]
  have z4 : n15 = (hV H0 325 (hV H0 293 (n9).toNat).toNat) := by
    rw [d33, z3, b325]
  have bz := (m5 (hV H0 293 (n9).toNat).toNat)
  have bz2 : 0 ≤ hV H0 325 (hV H0 293 (n9).toNat).toNat ∧ hV H0 325 (hV H0 293 (n9).toNat).toNat ≤ 60 := bz
  have wz := f34
  rw [f21, z4] at wz
  rw [w32_id (by omega) (by omega)] at wz
  have wn := f40
  unfold w32 at wn
  have ly : LYm (RE H0) n8 (lrN (nowR (hV H0 340) (recR H0 p.1, p.2))) := ⟨sk, yes, fbp, k3⟩
  have lk := LYm_k ly
  have lk1 : hV H0 328 (RT (RE H0) (lrN (nowR (hV H0 340) (recR H0 p.1, p.2))).2.1).toNat ≤ 3 := lk.1
  have lk2 : ¬ hV H0 328 ((lrN (nowR (hV H0 340) (recR H0 p.1, p.2))).2.1).toNat = 1 := lk.2
  have qi := f38.2.2
  unfold nb_273 at qi
  rw [er, b340, b328, s64, xa.1, xa.2, recR_fr f20.1.2.1 (by decide +kernel) p.1] at qi
  have qi := qi sk fbp (by omega) (by omega) yes.2.1 yes.2.2.1 lk1 lk2
  have no := (qi.resolve_left (fun w => by have := w.1; omega)).2
  refine ⟨(by rw [show hV H2 344 = hV H1 344 from fRow f38.1.2.1 344 (by decide +kernel), show hV H2 345 = hV H1 345 from fRow f38.1.2.1 345 (by decide +kernel), show hV H2 285 82 = hV H1 285 82 from f38.1.2.1.1 285 82 (by decide +kernel)]; exact ex), p, hp, k0, yes, by omega, by omega, ?_⟩
  rw [(show hV H2 356 = hV H1 356 from fRow f38.1.2.1 356 (by decide +kernel))]
  exact RB_iff rb fun f => or_congr Iff.rfl (HT_skip (fun w => no w.1) (by omega) f)
def g_310w_110_1 : vG := ([(10, [18, 10], [], 1), (30, [17], [], 0), (1273, [17, 4, 8, 10], [1, 2], 0), (90, [17], [], 0), (91, [17], [], 1), (42, [10, 16], [], 0), (3, [16, 11, 15], [], 0), (22, [15, 12, 14], [1], 0), (90, [15], [], 0), (91, [15], [], 60), (22, [14, 13, 5], [1], 0), (90, [14], [], 0), (91, [14], [], 5), (20, [13, 4], [1], 19), (23, [4], [1], 12), (0, [13], [], 293), (20, [12, 4], [1], 61), (23, [4], [1], 12), (0, [12], [], 325), (0, [11], [], 4), (5000, [0, 1, 2, 3, 4, 5, 6, 7, 8, 9, 10], [0, 1], 110), (0, [0], [], 285), (90, [1], [], 0), (91, [1], [], 7), (90, [2], [], -2147483648), (91, [2], [], 2147483647), (90, [3], [], 0), (91, [3], [], 5), (0, [4], [], 285), (90, [5], [], 0), (91, [5], [], 7), (90, [6], [], -2147483648), (91, [6], [], 2147483647), (90, [7], [], 0), (91, [7], [], 5), (90, [8], [], 0), (91, [8], [], 39), (90, [9], [], 0), (91, [9], [], 1007), (90, [10], [], 0), (91, [10], [], 240)], (4000, [4, 5, 6, 7, 8, 9, 18], [2], 110))
theorem c_310w_110_1 {q0 : Nat} : vOkm T0 (eN e_310 L_310w A_310 mu_310 n_310 B_310 (some q0)) 4 g_310w_110_1 := vOk_inI fun ρ η f0 f1 f2 f3 f4 f5 f6 f7 f8 f9 f10 f11 f12 f13 f14 f15 f16 f17 f18 f19 f20 f21 f22 f23 f24 f25 f26 f27 f28 f29 f30 f31 f32 f33 f34 f35 f36 f37 f38 f39 f40 => q_310w_9 (q0 := q0) (n0 := ρ 10) (n1 := ρ 9) (n2 := ρ 8) (n3 := ρ 7) (n4 := ρ 6) (n5 := ρ 5) (n6 := ρ 4) (n7 := ρ 3) (n8 := ρ 2) (n9 := ρ 1) (n10 := ρ 0) (n11 := ρ 11) (n12 := ρ 12) (n13 := ρ 13) (n14 := ρ 14) (n15 := ρ 15) (n16 := ρ 16) (n17 := ρ 17) (n18 := ρ 18) (H0 := η 0) (H1 := η 1) (H2 := η 2) f40 f39 f38 f37 f36 f35 f34 f33 f32 f31 f30 f29 f28 f27 f26 f25 f24 f23 f22 f21 f20 f19 f18 f17 f16 f15 f14 f13 f12 f11 f10 f9 f8 f7 f6 f5 f4 f3 f2 f1 f0
theorem q_310w_10 {q0 : Nat} {n0 n1 n2 n3 n4 n5 n6 n7 n8 n9 n10 n11 n12 n13 n14 n15 n16 n17 n18 n19 n20 n21 n22 n23 n24 n25 n26 n27 n28 n29 n30 n31 : Int} {H0 H1 H2 H3 : gH} (f0 : n0 ≤ 240) (f1 : 0 ≤ n0) (f2 : n1 ≤ 1007) (f3 : 0 ≤ n1) (f4 : n2 ≤ 39) (f5 : 0 ≤ n2) (f6 : n3 ≤ 5) (f7 : 0 ≤ n3) (f8 : n4 ≤ 2147483647) (f9 : (-2147483648) ≤ n4) (f10 : n5 ≤ 7) (f11 : 0 ≤ n5) (f12 : n6 = 285) (f13 : n7 ≤ 5) (f14 : 0 ≤ n7) (f15 : n8 ≤ 2147483647) (f16 : (-2147483648) ≤ n8) (f17 : n9 ≤ 7) (f18 : 0 ≤ n9) (f19 : n10 = 285) (f20 : (hLe T0 H0 H1 ∧ hFr s_310.2.2.2.2 H0 H1 ∧ hWt T0 H1) ∧ ((Ab_310_110 n10 n9 n8 n7 n6 n5 n4 n3 n2 n1 n0 H0 H1 ∧ Bb_310_110 n10 n9 n8 n7 n6 n5 n4 n3 n2 n1 n0 H0 H1) ∧ preb_310 n10 n9 n8 n7 H0) ∧ some q0 = some (mub_310_110 n10 n9 n8 n7 n6 n5 n4 n3 n2 n1 n0 H0 H1)) (f21 : n11 = 4) (f22 : n12 = 325) (f23 : hK H1 (n6).toNat = 12) (f24 : n12 = hV H1 (n6).toNat 61) (f25 : n13 = 293) (f26 : hK H1 (n6).toNat = 12) (f27 : n13 = hV H1 (n6).toNat 19) (f28 : n14 ≤ 5) (f29 : 0 ≤ n14) (f30 : n14 = hV H1 (n13).toNat (n5).toNat) (f31 : n15 ≤ 60) (f32 : 0 ≤ n15) (f33 : n15 = hV H1 (n12).toNat (n14).toNat) (f34 : n16 = w32 (n11 * n15)) (f35 : n0 < n16) (f36 : n17 ≤ 1) (f37 : 0 ≤ n17) (f38 : (hLe T0 H1 H2 ∧ hFr s_273.2.2.2.2 H1 H2 ∧ ((0 : Int) = 0 → H2.length = H1.length) ∧ hWt T0 H2) ∧ (postb_273 n17 n6 n2 n0 H1 H2 ∧ nb_273 n17 n6 n2 n0 H1 H2)) (f39 : n17 ≠ 0) (f40 : n18 = 300) (f41 : hK H2 (n6).toNat = 12) (f42 : n18 = hV H2 (n6).toNat 26) (f43 : n19 ≤ 9999) (f44 : (-1) ≤ n19) (f45 : n19 = hV H2 (n18).toNat (n1).toNat) (f46 : n20 ≤ 2147483647) (f47 : (-2147483648) ≤ n20) (f48 : hK H2 (n6).toNat = 12) (f49 : n20 = hV H2 (n6).toNat 88) (f50 : n21 ≤ 2147483647) (f51 : (-2147483648) ≤ n21) (f52 : (hLe T0 H2 H3 ∧ hFr s_266.2.2.2.2 H2 H3 ∧ ((0 : Int) = 0 → H3.length = H2.length) ∧ hWt T0 H3) ∧ (True ∧ nb_266 n21 n6 n19 n20 H2 H3)) (f53 : n22 = 305) (f54 : hK H3 (n6).toNat = 12) (f55 : n22 = hV H3 (n6).toNat 31) (f56 : n23 = 6) (f57 : n24 = w32 (n23 * n1)) (f58 : n25 = 2) (f59 : n26 = w32 (n24 + n25)) (f60 : n27 ≤ 9999) (f61 : (-1) ≤ n27) (f62 : n27 = hV H3 (n22).toNat (n26).toNat) (f63 : n28 = w32 (n21 * n27)) (f64 : n29 = 100) (f65 : n30 = o32 (fun x y => x / y) n28 n29) (f66 : n30 = 0) (f67 : n31 = w32 (n0 + 1)) : Bb_310_110 n10 n9 n8 n7 n6 n5 n4 n3 n2 n1 n31 H0 H3 := by
  unfold Bb_310_110
  intro sk mt q0 q1 k3 d0 d1 d5 fb
  have gb := f20.2.1.1.2
  unfold Bb_310_110 at gb
  have gb := gb sk mt q0 q1 k3 d0 d1 d5 fb
  have m5 := (MTr mt).2.2.2.1
  have er : RE H1 = RE H0 := RE_fr f20.1.2.1 (by decide +kernel)
  have b325 : hV H1 325 = hV H0 325 := fRow f20.1.2.1 325 (by decide +kernel)
  have b293 : hV H1 293 = hV H0 293 := fRow f20.1.2.1 293 (by decide +kernel)
  have b298 : hV H1 298 = hV H0 298 := fRow f20.1.2.1 298 (by decide +kernel)
  have b300 : hV H1 300 = hV H0 300 := fRow f20.1.2.1 300 (by decide +kernel)
  have b305 : hV H1 305 = hV H0 305 := fRow f20.1.2.1 305 (by decide +kernel)
  have b340 : hV H1 340 = hV H0 340 := fRow f20.1.2.1 340 (by decide +kernel)
  have b328 : hV H1 328 = hV H0 328 := fRow f20.1.2.1 328 (by decide +kernel)
  have s64 : hV H1 285 64 = hV H0 285 64 := f20.1.2.1.1 285 64 (by decide +kernel)
  obtain ⟨ex, p, hp, k0, yes, t0, tz, rb⟩ := gb
  have xa := xsL_at ex hp
  have hL := lrL_at (h := H0) (mk := hV H0 340) hp
  have fbp := fb _ (List.mem_of_getElem? hL)
  have d30 := rdW (q := 293) f30 f25
  have d33 := rdW (q := 325) f33 f22
  have d45 := rdW (q := 300) f45 f40
  have d49 := rdS (q := 285) f49 f12
  have d62 := rdW (q := 305) f62 f53
  have ga := f20.2.1.1.1
  unfold Ab_310_110 at ga
  obtain ⟨h1, h2, h3, h4, h5, h6, h7, h8, h9, ha⟩ := ga
  have z3 : n14 = hV H0 293 (n9).toNat := by
    rw [d30, h1, b293]
  have z4 : n15 = (hV H0 325 (hV H0 293 (n9).toNat).toNat) := by
    rw [d33, z3, b325]
  have bz := (m5 (hV H0 293 (n9).toNat).toNat)
  have bz2 : 0 ≤ hV H0 325 (hV H0 293 (n9).toNat).toNat ∧ hV H0 325 (hV H0 293 (n9).toNat).toNat ≤ 60 := bz
  have wz := f34
  rw [f21, z4] at wz
  rw [w32_id (by omega) (by omega)] at wz
  have wn := f67
  unfold w32 at wn
  have ly : LYm (RE H0) n8 (lrN (nowR (hV H0 340) (recR H0 p.1, p.2))) := ⟨sk, yes, fbp, k3⟩
  have lk := LYm_k ly
  have lk1 : hV H0 328 (RT (RE H0) (lrN (nowR (hV H0 340) (recR H0 p.1, p.2))).2.1).toNat ≤ 3 := lk.1
  have lk2 : ¬ hV H0 328 ((lrN (nowR (hV H0 340) (recR H0 p.1, p.2))).2.1).toNat = 1 := lk.2
  have qi := f38.2.2
  unfold nb_273 at qi
  rw [er, b340, b328, s64, xa.1, xa.2, recR_fr f20.1.2.1 (by decide +kernel) p.1] at qi
  have qi := qi sk fbp (by omega) (by omega) yes.2.1 yes.2.2.1 lk1 lk2
  obtain ⟨_, he, l88⟩ := qi.resolve_right (fun w => by have := w.1; omega)
  have el := lrN_R (h := H0) (mk := hV H0 340) (sh := p.2) k0
  have gs : (lrN (nowR (hV H0 340) (recR H0 p.1, p.2))).2.1 = hV H0 300 p.1 := congrArg (fun y : LR => y.2.1) el
  have gg : (lrN (nowR (hV H0 340) (recR H0 p.1, p.2))).2.2.2.2.2.1 = hV H0 305 (6 * p.1 + 2) := congrArg (fun y : LR => y.2.2.2.2.2.1) el
  have h4n : (n1).toNat = p.1 := by
    rw [h4]
    exact xa.1
  have y300 : n19 = (lrN (nowR (hV H0 340) (recR H0 p.1, p.2))).2.1 := by
    rw [gs, d45, show hV H2 300 = hV H1 300 from fRow f38.1.2.1 300 (by decide +kernel), h4n, b300]
  have y88 : n20 = lyI (lrN (nowR (hV H0 340) (recR H0 p.1, p.2))) n0 := d49.trans (l88)
  have qs := f52.2.2
  unfold nb_266 at qs
  rw [show RE H2 = RE H0 from (RE_fr f38.1.2.1 (by decide +kernel)).trans (RE_fr f20.1.2.1 (by decide +kernel)), y300, y88] at qs
  have qs := qs sk (by rw [show hV H2 328 = hV H0 328 from (fRow f38.1.2.1 328 (by decide +kernel)).trans (fRow f20.1.2.1 328 (by decide +kernel))]; exact lk1)
  have wa : n24 = 6 * n1 := by
    have w := f57
    rw [f56, w32_id (by omega) (by omega)] at w
    omega
  have wb : n26 = n24 + 2 := by
    have w := f59
    rw [f58, w32_id (by omega) (by omega)] at w
    omega
  have y305 : n27 = (lrN (nowR (hV H0 340) (recR H0 p.1, p.2))).2.2.2.2.2.1 := by
    rw [gg, d62, show hV H3 305 = hV H1 305 from (fRow f52.1.2.1 305 (by decide +kernel)).trans (fRow f38.1.2.1 305 (by decide +kernel)), b305]
    refine congrArg (hV H0 305) ?_
    omega
  have gv : n30 = gvF (smE (RE H0) (lrN (nowR (hV H0 340) (recR H0 p.1, p.2))).2.1 (lyI (lrN (nowR (hV H0 340) (recR H0 p.1, p.2))) n0)) (lrN (nowR (hV H0 340) (recR H0 p.1, p.2))).2.2.2.2.2.1 := by
    unfold gvF
    rw [← qs, ← y305, f65, f63, f64]
  refine ⟨(by rw [show hV H3 344 = hV H1 344 from (fRow f52.1.2.1 344 (by decide +kernel)).trans (fRow f38.1.2.1 344 (by decide +kernel)), show hV H3 345 = hV H1 345 from (fRow f52.1.2.1 345 (by decide +kernel)).trans (fRow f38.1.2.1 345 (by decide +kernel)), show hV H3 285 82 = hV H1 285 82 from (f52.1.2.1.1 285 82 (by decide +kernel)).trans (f38.1.2.1.1 285 82 (by decide +kernel))]; exact ex), p, hp, k0, yes, by omega, by omega, ?_⟩
  rw [(show hV H3 356 = hV H1 356 from (fRow f52.1.2.1 356 (by decide +kernel)).trans (fRow f38.1.2.1 356 (by decide +kernel)))]
  exact RB_iff rb fun f => or_congr Iff.rfl (HT_skip (fun w => w.2 (by omega)) (by omega) f)
def g_310w_110_2 : vG := ([(10, [31, 10], [], 1), (30, [30], [], 0), (11, [30, 28, 29], [], 0), (0, [29], [], 100), (3, [28, 21, 27], [], 0), (22, [27, 22, 26], [3], 0), (90, [27], [], -1), (91, [27], [], 9999), (1, [26, 24, 25], [], 0), (0, [25], [], 2), (3, [24, 23, 9], [], 0), (0, [23], [], 6), (20, [22, 4], [3], 31), (23, [4], [3], 12), (0, [22], [], 305), (1266, [21, 4, 19, 20], [2, 3], 0), (90, [21], [], -2147483648), (91, [21], [], 2147483647), (20, [20, 4], [2], 88), (23, [4], [2], 12), (90, [20], [], -2147483648), (91, [20], [], 2147483647), (22, [19, 18, 9], [2], 0), (90, [19], [], -1), (91, [19], [], 9999), (20, [18, 4], [2], 26), (23, [4], [2], 12), (0, [18], [], 300), (31, [17], [], 0), (1273, [17, 4, 8, 10], [1, 2], 0), (90, [17], [], 0), (91, [17], [], 1), (42, [10, 16], [], 0), (3, [16, 11, 15], [], 0), (22, [15, 12, 14], [1], 0), (90, [15], [], 0), (91, [15], [], 60), (22, [14, 13, 5], [1], 0), (90, [14], [], 0), (91, [14], [], 5), (20, [13, 4], [1], 19), (23, [4], [1], 12), (0, [13], [], 293), (20, [12, 4], [1], 61), (23, [4], [1], 12), (0, [12], [], 325), (0, [11], [], 4), (5000, [0, 1, 2, 3, 4, 5, 6, 7, 8, 9, 10], [0, 1], 110), (0, [0], [], 285), (90, [1], [], 0), (91, [1], [], 7), (90, [2], [], -2147483648), (91, [2], [], 2147483647), (90, [3], [], 0), (91, [3], [], 5), (0, [4], [], 285), (90, [5], [], 0), (91, [5], [], 7), (90, [6], [], -2147483648), (91, [6], [], 2147483647), (90, [7], [], 0), (91, [7], [], 5), (90, [8], [], 0), (91, [8], [], 39), (90, [9], [], 0), (91, [9], [], 1007), (90, [10], [], 0), (91, [10], [], 240)], (4000, [4, 5, 6, 7, 8, 9, 31], [3], 110))
theorem c_310w_110_2 {q0 : Nat} : vOkm T0 (eN e_310 L_310w A_310 mu_310 n_310 B_310 (some q0)) 4 g_310w_110_2 := vOk_inI fun ρ η f0 f1 f2 f3 f4 f5 f6 f7 f8 f9 f10 f11 f12 f13 f14 f15 f16 f17 f18 f19 f20 f21 f22 f23 f24 f25 f26 f27 f28 f29 f30 f31 f32 f33 f34 f35 f36 f37 f38 f39 f40 f41 f42 f43 f44 f45 f46 f47 f48 f49 f50 f51 f52 f53 f54 f55 f56 f57 f58 f59 f60 f61 f62 f63 f64 f65 f66 f67 => q_310w_10 (q0 := q0) (n0 := ρ 10) (n1 := ρ 9) (n2 := ρ 8) (n3 := ρ 7) (n4 := ρ 6) (n5 := ρ 5) (n6 := ρ 4) (n7 := ρ 3) (n8 := ρ 2) (n9 := ρ 1) (n10 := ρ 0) (n11 := ρ 11) (n12 := ρ 12) (n13 := ρ 13) (n14 := ρ 14) (n15 := ρ 15) (n16 := ρ 16) (n17 := ρ 17) (n18 := ρ 18) (n19 := ρ 19) (n20 := ρ 20) (n21 := ρ 21) (n22 := ρ 22) (n23 := ρ 23) (n24 := ρ 24) (n25 := ρ 25) (n26 := ρ 26) (n27 := ρ 27) (n28 := ρ 28) (n29 := ρ 29) (n30 := ρ 30) (n31 := ρ 31) (H0 := η 0) (H1 := η 1) (H2 := η 2) (H3 := η 3) f67 f66 f65 f64 f63 f62 f61 f60 f59 f58 f57 f56 f55 f54 f53 f52 f51 f50 f49 f48 f47 f46 f45 f44 f43 f42 f41 f40 f39 f38 f37 f36 f35 f34 f33 f32 f31 f30 f29 f28 f27 f26 f25 f24 f23 f22 f21 f20 f19 f18 f17 f16 f15 f14 f13 f12 f11 f10 f9 f8 f7 f6 f5 f4 f3 f2 f1 f0
theorem q_310w_11 {q0 : Nat} {n0 n1 n2 n3 n4 n5 n6 n7 n8 n9 n10 n11 n12 n13 n14 n15 n16 n17 n18 n19 n20 n21 n22 n23 n24 n25 n26 n27 n28 n29 n30 n31 n32 n33 n34 n35 n36 : Int} {H0 H1 H2 H3 H4 : gH} (f0 : n0 ≤ 240) (f1 : 0 ≤ n0) (f2 : n1 ≤ 1007) (f3 : 0 ≤ n1) (f4 : n2 ≤ 39) (f5 : 0 ≤ n2) (f6 : n3 ≤ 5) (f7 : 0 ≤ n3) (f8 : n4 ≤ 2147483647) (f9 : (-2147483648) ≤ n4) (f10 : n5 ≤ 7) (f11 : 0 ≤ n5) (f12 : n6 = 285) (f13 : n7 ≤ 5) (f14 : 0 ≤ n7) (f15 : n8 ≤ 2147483647) (f16 : (-2147483648) ≤ n8) (f17 : n9 ≤ 7) (f18 : 0 ≤ n9) (f19 : n10 = 285) (f20 : (hLe T0 H0 H1 ∧ hFr s_310.2.2.2.2 H0 H1 ∧ hWt T0 H1) ∧ ((Ab_310_110 n10 n9 n8 n7 n6 n5 n4 n3 n2 n1 n0 H0 H1 ∧ Bb_310_110 n10 n9 n8 n7 n6 n5 n4 n3 n2 n1 n0 H0 H1) ∧ preb_310 n10 n9 n8 n7 H0) ∧ some q0 = some (mub_310_110 n10 n9 n8 n7 n6 n5 n4 n3 n2 n1 n0 H0 H1)) (f21 : n11 = 4) (f22 : n12 = 325) (f23 : hK H1 (n6).toNat = 12) (f24 : n12 = hV H1 (n6).toNat 61) (f25 : n13 = 293) (f26 : hK H1 (n6).toNat = 12) (f27 : n13 = hV H1 (n6).toNat 19) (f28 : n14 ≤ 5) (f29 : 0 ≤ n14) (f30 : n14 = hV H1 (n13).toNat (n5).toNat) (f31 : n15 ≤ 60) (f32 : 0 ≤ n15) (f33 : n15 = hV H1 (n12).toNat (n14).toNat) (f34 : n16 = w32 (n11 * n15)) (f35 : n0 < n16) (f36 : n17 ≤ 1) (f37 : 0 ≤ n17) (f38 : (hLe T0 H1 H2 ∧ hFr s_273.2.2.2.2 H1 H2 ∧ ((0 : Int) = 0 → H2.length = H1.length) ∧ hWt T0 H2) ∧ (postb_273 n17 n6 n2 n0 H1 H2 ∧ nb_273 n17 n6 n2 n0 H1 H2)) (f39 : n17 ≠ 0) (f40 : n18 = 300) (f41 : hK H2 (n6).toNat = 12) (f42 : n18 = hV H2 (n6).toNat 26) (f43 : n19 ≤ 9999) (f44 : (-1) ≤ n19) (f45 : n19 = hV H2 (n18).toNat (n1).toNat) (f46 : n20 ≤ 2147483647) (f47 : (-2147483648) ≤ n20) (f48 : hK H2 (n6).toNat = 12) (f49 : n20 = hV H2 (n6).toNat 88) (f50 : n21 ≤ 2147483647) (f51 : (-2147483648) ≤ n21) (f52 : (hLe T0 H2 H3 ∧ hFr s_266.2.2.2.2 H2 H3 ∧ ((0 : Int) = 0 → H3.length = H2.length) ∧ hWt T0 H3) ∧ (True ∧ nb_266 n21 n6 n19 n20 H2 H3)) (f53 : n22 = 305) (f54 : hK H3 (n6).toNat = 12) (f55 : n22 = hV H3 (n6).toNat 31) (f56 : n23 = 6) (f57 : n24 = w32 (n23 * n1)) (f58 : n25 = 2) (f59 : n26 = w32 (n24 + n25)) (f60 : n27 ≤ 9999) (f61 : (-1) ≤ n27) (f62 : n27 = hV H3 (n22).toNat (n26).toNat) (f63 : n28 = w32 (n21 * n27)) (f64 : n29 = 100) (f65 : n30 = o32 (fun x y => x / y) n28 n29) (f66 : n30 ≠ 0) (f67 : n31 = 356) (f68 : hK H3 (n6).toNat = 12) (f69 : n31 = hV H3 (n6).toNat 98) (f70 : n32 = 4) (f71 : n33 = o32 (fun x y => x / y) n0 n32) (f72 : n34 = 1) (f73 : n35 = o32 (fun x _ => x &&& 1) n34 0) (f74 : hK H3 (n31).toNat = 679) (f75 : hUpd H4 H3 n31 n33 n35) (f76 : n36 = w32 (n0 + 1)) : Bb_310_110 n10 n9 n8 n7 n6 n5 n4 n3 n2 n1 n36 H0 H4 := by
  unfold Bb_310_110
  intro sk mt q0 q1 k3 d0 d1 d5 fb
  have gb := f20.2.1.1.2
  unfold Bb_310_110 at gb
  have gb := gb sk mt q0 q1 k3 d0 d1 d5 fb
  have m5 := (MTr mt).2.2.2.1
  have er : RE H1 = RE H0 := RE_fr f20.1.2.1 (by decide +kernel)
  have b325 : hV H1 325 = hV H0 325 := fRow f20.1.2.1 325 (by decide +kernel)
  have b293 : hV H1 293 = hV H0 293 := fRow f20.1.2.1 293 (by decide +kernel)
  have b298 : hV H1 298 = hV H0 298 := fRow f20.1.2.1 298 (by decide +kernel)
  have b300 : hV H1 300 = hV H0 300 := fRow f20.1.2.1 300 (by decide +kernel)
  have b305 : hV H1 305 = hV H0 305 := fRow f20.1.2.1 305 (by decide +kernel)
  have b340 : hV H1 340 = hV H0 340 := fRow f20.1.2.1 340 (by decide +kernel)
  have b328 : hV H1 328 = hV H0 328 := fRow f20.1.2.1 328 (by decide +kernel)
  have s64 : hV H1 285 64 = hV H0 285 64 := f20.1.2.1.1 285 64 (by decide +kernel)
  obtain ⟨ex, p, hp, k0, yes, t0, tz, rb⟩ := gb
  have xa := xsL_at ex hp
  have hL := lrL_at (h := H0) (mk := hV H0 340) hp
  have fbp := fb _ (List.mem_of_getElem? hL)
  have d30 := rdW (q := 293) f30 f25
  have d33 := rdW (q := 325) f33 f22
  have d45 := rdW (q := 300) f45 f40
  have d49 := rdS (q := 285) f49 f12
  have d62 := rdW (q := 305) f62 f53
  have ga := f20.2.1.1.1
  unfold Ab_310_110 at ga
  obtain ⟨h1, h2, h3, h4, h5, h6, h7, h8, h9, ha⟩ := ga
  have z3 : n14 = hV H0 293 (n9).toNat := by
    rw [d30, h1, b293]
  have z4 : n15 = (hV H0 325 (hV H0 293 (n9).toNat).toNat) := by
    rw [d33, z3, b325]
  have bz := (m5 (hV H0 293 (n9).toNat).toNat)
  have bz2 : 0 ≤ hV H0 325 (hV H0 293 (n9).toNat).toNat ∧ hV H0 325 (hV H0 293 (n9).toNat).toNat ≤ 60 := bz
  have wz := f34
  rw [f21, z4] at wz
  rw [w32_id (by omega) (by omega)] at wz
  have wn := f76
  unfold w32 at wn
  have ly : LYm (RE H0) n8 (lrN (nowR (hV H0 340) (recR H0 p.1, p.2))) := ⟨sk, yes, fbp, k3⟩
  have lk := LYm_k ly
  have lk1 : hV H0 328 (RT (RE H0) (lrN (nowR (hV H0 340) (recR H0 p.1, p.2))).2.1).toNat ≤ 3 := lk.1
  have lk2 : ¬ hV H0 328 ((lrN (nowR (hV H0 340) (recR H0 p.1, p.2))).2.1).toNat = 1 := lk.2
  have qi := f38.2.2
  unfold nb_273 at qi
  rw [er, b340, b328, s64, xa.1, xa.2, recR_fr f20.1.2.1 (by decide +kernel) p.1] at qi
  have qi := qi sk fbp (by omega) (by omega) yes.2.1 yes.2.2.1 lk1 lk2
  obtain ⟨_, he, l88⟩ := qi.resolve_right (fun w => by have := w.1; omega)
  have el := lrN_R (h := H0) (mk := hV H0 340) (sh := p.2) k0
  have gs : (lrN (nowR (hV H0 340) (recR H0 p.1, p.2))).2.1 = hV H0 300 p.1 := congrArg (fun y : LR => y.2.1) el
  have gg : (lrN (nowR (hV H0 340) (recR H0 p.1, p.2))).2.2.2.2.2.1 = hV H0 305 (6 * p.1 + 2) := congrArg (fun y : LR => y.2.2.2.2.2.1) el
  have h4n : (n1).toNat = p.1 := by
    rw [h4]
    exact xa.1
  have y300 : n19 = (lrN (nowR (hV H0 340) (recR H0 p.1, p.2))).2.1 := by
    rw [gs, d45, show hV H2 300 = hV H1 300 from fRow f38.1.2.1 300 (by decide +kernel), h4n, b300]
  have y88 : n20 = lyI (lrN (nowR (hV H0 340) (recR H0 p.1, p.2))) n0 := d49.trans (l88)
  have qs := f52.2.2
  unfold nb_266 at qs
  rw [show RE H2 = RE H0 from (RE_fr f38.1.2.1 (by decide +kernel)).trans (RE_fr f20.1.2.1 (by decide +kernel)), y300, y88] at qs
  have qs := qs sk (by rw [show hV H2 328 = hV H0 328 from (fRow f38.1.2.1 328 (by decide +kernel)).trans (fRow f20.1.2.1 328 (by decide +kernel))]; exact lk1)
  have wa : n24 = 6 * n1 := by
    have w := f57
    rw [f56, w32_id (by omega) (by omega)] at w
    omega
  have wb : n26 = n24 + 2 := by
    have w := f59
    rw [f58, w32_id (by omega) (by omega)] at w
    omega
  have y305 : n27 = (lrN (nowR (hV H0 340) (recR H0 p.1, p.2))).2.2.2.2.2.1 := by
    rw [gg, d62, show hV H3 305 = hV H1 305 from (fRow f52.1.2.1 305 (by decide +kernel)).trans (fRow f38.1.2.1 305 (by decide +kernel)), b305]
    refine congrArg (hV H0 305) ?_
    omega
  have gv : n30 = gvF (smE (RE H0) (lrN (nowR (hV H0 340) (recR H0 p.1, p.2))).2.1 (lyI (lrN (nowR (hV H0 340) (recR H0 p.1, p.2))) n0)) (lrN (nowR (hV H0 340) (recR H0 p.1, p.2))).2.2.2.2.2.1 := by
    unfold gvF
    rw [← qs, ← y305, f65, f63, f64]
  have wd := o32_div_pos f71 (by omega) (by omega) (by omega) (by omega)
  rw [f70] at wd
  have bz1 := b1_in f73 (by omega) (by omega)
  rw [f72] at bz1
  have ru := uRowQ f75 356 f67
  rw [show hV H3 356 = hV H1 356 from (fRow f52.1.2.1 356 (by decide +kernel)).trans (fRow f38.1.2.1 356 (by decide +kernel)), bz1, wd] at ru
  refine ⟨(by rw [show hV H4 344 = hV H1 344 from (uRowNe f75 344 (by rw [f67]; decide)).trans ((fRow f52.1.2.1 344 (by decide +kernel)).trans (fRow f38.1.2.1 344 (by decide +kernel))), show hV H4 345 = hV H1 345 from (uRowNe f75 345 (by rw [f67]; decide)).trans ((fRow f52.1.2.1 345 (by decide +kernel)).trans (fRow f38.1.2.1 345 (by decide +kernel))), show hV H4 285 82 = hV H1 285 82 from (uPlace f75 285 82 (by rw [f67]; decide)).trans ((f52.1.2.1.1 285 82 (by decide +kernel)).trans (f38.1.2.1.1 285 82 (by decide +kernel)))]; exact ex), p, hp, k0, yes, by omega, by omega, ?_⟩
  rw [ru]
  exact RB_iff (RB_set rb) fun f => or_assoc.trans (or_congr Iff.rfl (HT_take ⟨he, fun w => by omega⟩ t0 (by omega) f))
def g_310w_110_3 : vG := ([(10, [36, 10], [], 1), (80, [31, 33, 35], [4, 3], 0), (23, [31], [3], 679), (16, [35, 34], [], 0), (0, [34], [], 1), (11, [33, 10, 32], [], 0), (0, [32], [], 4), (20, [31, 4], [3], 98), (23, [4], [3], 12), (0, [31], [], 356), (31, [30], [], 0), (11, [30, 28, 29], [], 0), (0, [29], [], 100), (3, [28, 21, 27], [], 0), (22, [27, 22, 26], [3], 0), (90, [27], [], -1), (91, [27], [], 9999), (1, [26, 24, 25], [], 0), (0, [25], [], 2), (3, [24, 23, 9], [], 0), (0, [23], [], 6), (20, [22, 4], [3], 31), (23, [4], [3], 12), (0, [22], [], 305), (1266, [21, 4, 19, 20], [2, 3], 0), (90, [21], [], -2147483648), (91, [21], [], 2147483647), (20, [20, 4], [2], 88), (23, [4], [2], 12), (90, [20], [], -2147483648), (91, [20], [], 2147483647), (22, [19, 18, 9], [2], 0), (90, [19], [], -1), (91, [19], [], 9999), (20, [18, 4], [2], 26), (23, [4], [2], 12), (0, [18], [], 300), (31, [17], [], 0), (1273, [17, 4, 8, 10], [1, 2], 0), (90, [17], [], 0), (91, [17], [], 1), (42, [10, 16], [], 0), (3, [16, 11, 15], [], 0), (22, [15, 12, 14], [1], 0), (90, [15], [], 0), (91, [15], [], 60), (22, [14, 13, 5], [1], 0), (90, [14], [], 0), (91, [14], [], 5), (20, [13, 4], [1], 19), (23, [4], [1], 12), (0, [13], [], 293), (20, [12, 4], [1], 61), (23, [4], [1], 12), (0, [12], [], 325), (0, [11], [], 4), (5000, [0, 1, 2, 3, 4, 5, 6, 7, 8, 9, 10], [0, 1], 110), (0, [0], [], 285), (90, [1], [], 0), (91, [1], [], 7), (90, [2], [], -2147483648), (91, [2], [], 2147483647), (90, [3], [], 0), (91, [3], [], 5), (0, [4], [], 285), (90, [5], [], 0), (91, [5], [], 7), (90, [6], [], -2147483648), (91, [6], [], 2147483647), (90, [7], [], 0), (91, [7], [], 5), (90, [8], [], 0), (91, [8], [], 39), (90, [9], [], 0), (91, [9], [], 1007), (90, [10], [], 0), (91, [10], [], 240)], (4000, [4, 5, 6, 7, 8, 9, 36], [4], 110))
theorem c_310w_110_3 {q0 : Nat} : vOkm T0 (eN e_310 L_310w A_310 mu_310 n_310 B_310 (some q0)) 4 g_310w_110_3 := vOk_inI fun ρ η f0 f1 f2 f3 f4 f5 f6 f7 f8 f9 f10 f11 f12 f13 f14 f15 f16 f17 f18 f19 f20 f21 f22 f23 f24 f25 f26 f27 f28 f29 f30 f31 f32 f33 f34 f35 f36 f37 f38 f39 f40 f41 f42 f43 f44 f45 f46 f47 f48 f49 f50 f51 f52 f53 f54 f55 f56 f57 f58 f59 f60 f61 f62 f63 f64 f65 f66 f67 f68 f69 f70 f71 f72 f73 f74 f75 f76 => q_310w_11 (q0 := q0) (n0 := ρ 10) (n1 := ρ 9) (n2 := ρ 8) (n3 := ρ 7) (n4 := ρ 6) (n5 := ρ 5) (n6 := ρ 4) (n7 := ρ 3) (n8 := ρ 2) (n9 := ρ 1) (n10 := ρ 0) (n11 := ρ 11) (n12 := ρ 12) (n13 := ρ 13) (n14 := ρ 14) (n15 := ρ 15) (n16 := ρ 16) (n17 := ρ 17) (n18 := ρ 18) (n19 := ρ 19) (n20 := ρ 20) (n21 := ρ 21) (n22 := ρ 22) (n23 := ρ 23) (n24 := ρ 24) (n25 := ρ 25) (n26 := ρ 26) (n27 := ρ 27) (n28 := ρ 28) (n29 := ρ 29) (n30 := ρ 30) (n31 := ρ 31) (n32 := ρ 32) (n33 := ρ 33) (n34 := ρ 34) (n35 := ρ 35) (n36 := ρ 36) (H0 := η 0) (H1 := η 1) (H2 := η 2) (H3 := η 3) (H4 := η 4) f76 f75 f74 f73 f72 f71 f70 f69 f68 f67 f66 f65 f64 f63 f62 f61 f60 f59 f58 f57 f56 f55 f54 f53 f52 f51 f50 f49 f48 f47 f46 f45 f44 f43 f42 f41 f40 f39 f38 f37 f36 f35 f34 f33 f32 f31 f30 f29 f28 f27 f26 f25 f24 f23 f22 f21 f20 f19 f18 f17 f16 f15 f14 f13 f12 f11 f10 f9 f8 f7 f6 f5 f4 f3 f2 f1 f0
def p_310w_110 : List vG := [g_310w_110_0,
  g_310w_110_1,
  g_310w_110_2,
  g_310w_110_3]
theorem r_310w_110 : vCovBO (eRc e_310 L_310 cs_310 2000 (110, [(0, (3, 12, 285, 0)), (1, (0, 0, 7, 0)), (2, (0, -2147483648, 2147483647, 0)), (3, (0, 0, 5, 0)), (4, (0, 0, 39, 0)), (5, (0, 0, 1007, 0)), (6, (0, 0, 240, 0))])) p_310w_110 = true := by decide +kernel
theorem q_310w_12 {q0 : Nat} {n0 n1 n2 n3 n4 n5 n6 n7 n8 n9 n10 n11 : Int} {H0 H1 : gH} (f0 : n0 ≤ 60) (f1 : 0 ≤ n0) (f2 : n1 ≤ 2147483647) (f3 : (-2147483648) ≤ n1) (f4 : n2 ≤ 5) (f5 : 0 ≤ n2) (f6 : n3 ≤ 2147483647) (f7 : (-2147483648) ≤ n3) (f8 : n4 ≤ 7) (f9 : 0 ≤ n4) (f10 : n5 = 285) (f11 : n6 ≤ 5) (f12 : 0 ≤ n6) (f13 : n7 ≤ 2147483647) (f14 : (-2147483648) ≤ n7) (f15 : n8 ≤ 7) (f16 : 0 ≤ n8) (f17 : n9 = 285) (f18 : (hLe T0 H0 H1 ∧ hFr s_310.2.2.2.2 H0 H1 ∧ hWt T0 H1) ∧ ((Ab_310_201 n9 n8 n7 n6 n5 n4 n3 n2 n1 n0 H0 H1 ∧ Bb_310_201 n9 n8 n7 n6 n5 n4 n3 n2 n1 n0 H0 H1) ∧ preb_310 n9 n8 n7 n6 H0) ∧ some q0 = some (mub_310_201 n9 n8 n7 n6 n5 n4 n3 n2 n1 n0 H0 H1)) (f19 : n10 = 325) (f20 : hK H1 (n5).toNat = 12) (f21 : n10 = hV H1 (n5).toNat 61) (f22 : n11 ≤ 60) (f23 : 0 ≤ n11) (f24 : n11 = hV H1 (n10).toNat (n2).toNat) (f25 : n11 ≤ n0) : nb_310 n1 n9 n8 n7 n6 H0 H1 := by
  unfold nb_310
  intro sk mt q0 q1 k3 d0 d1 d5 fb
  have gb := f18.2.1.1.2
  unfold Bb_310_201 at gb
  have gb := gb sk mt q0 q1 k3 d0 d1 d5 fb
  have m5 := (MTr mt).2.2.2.1
  obtain ⟨e4, e5, rb⟩ := gb
  have cb := cnt_b _ e4
  have ga := f18.2.1.1.1
  unfold Ab_310_201 at ga
  obtain ⟨h1, h2, h3, h4⟩ := ga
  have d24 := rdW (q := 325) f24 f19
  have b325 : hV H1 325 = hV H0 325 := fRow f18.1.2.1 325 (by decide +kernel)
  have b293 : hV H1 293 = hV H0 293 := fRow f18.1.2.1 293 (by decide +kernel)
  have b327 : hV H1 327 = hV H0 327 := fRow f18.1.2.1 327 (by decide +kernel)
  have z5 : n11 = hV H0 325 (n6).toNat := by
    rw [d24, h3, b325]
  unfold SNDf
  rw [← show (n0).toNat = (hV H0 325 (n6).toNat).toNat by omega]
  exact e4
def g_310w_201_0 : vG := ([(43, [9, 11], [], 0), (22, [11, 10, 7], [1], 0), (90, [11], [], 0), (91, [11], [], 60), (20, [10, 4], [1], 61), (23, [4], [1], 12), (0, [10], [], 325), (5000, [0, 1, 2, 3, 4, 5, 6, 7, 8, 9], [0, 1], 201), (0, [0], [], 285), (90, [1], [], 0), (91, [1], [], 7), (90, [2], [], -2147483648), (91, [2], [], 2147483647), (90, [3], [], 0), (91, [3], [], 5), (0, [4], [], 285), (90, [5], [], 0), (91, [5], [], 7), (90, [6], [], -2147483648), (91, [6], [], 2147483647), (90, [7], [], 0), (91, [7], [], 5), (90, [8], [], -2147483648), (91, [8], [], 2147483647), (90, [9], [], 0), (91, [9], [], 60)], (3000, [8], [1], 254))
theorem c_310w_201_0 {q0 : Nat} : vOkm T0 (eN e_310 L_310w A_310 mu_310 n_310 B_310 (some q0)) 4 g_310w_201_0 := vOk_inI fun ρ η f0 f1 f2 f3 f4 f5 f6 f7 f8 f9 f10 f11 f12 f13 f14 f15 f16 f17 f18 f19 f20 f21 f22 f23 f24 f25 => q_310w_12 (q0 := q0) (n0 := ρ 9) (n1 := ρ 8) (n2 := ρ 7) (n3 := ρ 6) (n4 := ρ 5) (n5 := ρ 4) (n6 := ρ 3) (n7 := ρ 2) (n8 := ρ 1) (n9 := ρ 0) (n10 := ρ 10) (n11 := ρ 11) (H0 := η 0) (H1 := η 1) f25 f24 f23 f22 f21 f20 f19 f18 f17 f16 f15 f14 f13 f12 f11 f10 f9 f8 f7 f6 f5 f4 f3 f2 f1 f0
theorem q_310w_13 {q0 : Nat} {n0 n1 n2 n3 n4 n5 n6 n7 n8 n9 n10 n11 n12 n13 n14 n15 n16 : Int} {H0 H1 H2 : gH} (f0 : n0 ≤ 60) (f1 : 0 ≤ n0) (f2 : n1 ≤ 2147483647) (f3 : (-2147483648) ≤ n1) (f4 : n2 ≤ 5) (f5 : 0 ≤ n2) (f6 : n3 ≤ 2147483647) (f7 : (-2147483648) ≤ n3) (f8 : n4 ≤ 7) (f9 : 0 ≤ n4) (f10 : n5 = 285) (f11 : n6 ≤ 5) (f12 : 0 ≤ n6) (f13 : n7 ≤ 2147483647) (f14 : (-2147483648) ≤ n7) (f15 : n8 ≤ 7) (f16 : 0 ≤ n8) (f17 : n9 = 285) (f18 : (hLe T0 H0 H1 ∧ hFr s_310.2.2.2.2 H0 H1 ∧ hWt T0 H1) ∧ ((Ab_310_201 n9 n8 n7 n6 n5 n4 n3 n2 n1 n0 H0 H1 ∧ Bb_310_201 n9 n8 n7 n6 n5 n4 n3 n2 n1 n0 H0 H1) ∧ preb_310 n9 n8 n7 n6 H0) ∧ some q0 = some (mub_310_201 n9 n8 n7 n6 n5 n4 n3 n2 n1 n0 H0 H1)) (f19 : n10 = 325) (f20 : hK H1 (n5).toNat = 12) (f21 : n10 = hV H1 (n5).toNat 61) (f22 : n11 ≤ 60) (f23 : 0 ≤ n11) (f24 : n11 = hV H1 (n10).toNat (n2).toNat) (f25 : n0 < n11) (f26 : n12 = 293) (f27 : hK H1 (n5).toNat = 12) (f28 : n12 = hV H1 (n5).toNat 19) (f29 : n13 ≤ 5) (f30 : 0 ≤ n13) (f31 : n13 = hV H1 (n12).toNat (n4).toNat) (f32 : n14 ≤ 59) (f33 : (-1) ≤ n14) (f34 : (hLe T0 H1 H2 ∧ hFr s_248.2.2.2.2 H1 H2 ∧ ((0 : Int) = 0 → H2.length = H1.length) ∧ hWt T0 H2) ∧ (True ∧ nb_248 n14 n5 n2 n0 n13 H1 H2)) (f35 : n15 = (-1)) (f36 : n14 = n15) (f37 : n16 = w32 (n0 + 1)) : Bb_310_201 n9 n8 n7 n6 n5 n4 n3 n2 n1 n16 H0 H2 := by
  unfold Bb_310_201
  intro sk mt q0 q1 k3 d0 d1 d5 fb
  have gb := f18.2.1.1.2
  unfold Bb_310_201 at gb
  have gb := gb sk mt q0 q1 k3 d0 d1 d5 fb
  have m5 := (MTr mt).2.2.2.1
  obtain ⟨e4, e5, rb⟩ := gb
  have cb := cnt_b _ e4
  have ga := f18.2.1.1.1
  unfold Ab_310_201 at ga
  obtain ⟨h1, h2, h3, h4⟩ := ga
  have d24 := rdW (q := 325) f24 f19
  have d31 := rdW (q := 293) f31 f26
  have b325 : hV H1 325 = hV H0 325 := fRow f18.1.2.1 325 (by decide +kernel)
  have b293 : hV H1 293 = hV H0 293 := fRow f18.1.2.1 293 (by decide +kernel)
  have b327 : hV H1 327 = hV H0 327 := fRow f18.1.2.1 327 (by decide +kernel)
  have z5 : n11 = hV H0 325 (n6).toNat := by
    rw [d24, h3, b325]
  have z3 : n13 = hV H0 293 (n8).toNat := by
    rw [d31, h1, b293]
  have qo := f34.2.2
  unfold nb_248 at qo
  rw [show hV H1 327 = hV H0 327 from fRow f18.1.2.1 327 (by decide +kernel), z3, h3] at qo
  have qo := qo (by rw [(mR_fr f18.1.2.1 (by decide +kernel)).1]; exact mt) d0 d1
  have w37 := f37
  unfold w32 at w37
  refine ⟨cnt_n (g := n0) (by omega) e4 (fun w => w.1 (qo.symm.trans (by omega))) (by omega) (by omega), by omega, ?_⟩
  · rw [show hV H2 356 = hV H1 356 from fRow f34.1.2.1 356 (by decide +kernel)]
    exact rb
def g_310w_201_1 : vG := ([(10, [16, 9], [], 1), (40, [14, 15], [], 0), (0, [15], [], -1), (1248, [14, 4, 7, 9, 13], [1, 2], 0), (90, [14], [], -1), (91, [14], [], 59), (22, [13, 12, 5], [1], 0), (90, [13], [], 0), (91, [13], [], 5), (20, [12, 4], [1], 19), (23, [4], [1], 12), (0, [12], [], 293), (42, [9, 11], [], 0), (22, [11, 10, 7], [1], 0), (90, [11], [], 0), (91, [11], [], 60), (20, [10, 4], [1], 61), (23, [4], [1], 12), (0, [10], [], 325), (5000, [0, 1, 2, 3, 4, 5, 6, 7, 8, 9], [0, 1], 201), (0, [0], [], 285), (90, [1], [], 0), (91, [1], [], 7), (90, [2], [], -2147483648), (91, [2], [], 2147483647), (90, [3], [], 0), (91, [3], [], 5), (0, [4], [], 285), (90, [5], [], 0), (91, [5], [], 7), (90, [6], [], -2147483648), (91, [6], [], 2147483647), (90, [7], [], 0), (91, [7], [], 5), (90, [8], [], -2147483648), (91, [8], [], 2147483647), (90, [9], [], 0), (91, [9], [], 60)], (4000, [4, 5, 6, 7, 8, 16], [2], 201))
theorem c_310w_201_1 {q0 : Nat} : vOkm T0 (eN e_310 L_310w A_310 mu_310 n_310 B_310 (some q0)) 4 g_310w_201_1 := vOk_inI fun ρ η f0 f1 f2 f3 f4 f5 f6 f7 f8 f9 f10 f11 f12 f13 f14 f15 f16 f17 f18 f19 f20 f21 f22 f23 f24 f25 f26 f27 f28 f29 f30 f31 f32 f33 f34 f35 f36 f37 => q_310w_13 (q0 := q0) (n0 := ρ 9) (n1 := ρ 8) (n2 := ρ 7) (n3 := ρ 6) (n4 := ρ 5) (n5 := ρ 4) (n6 := ρ 3) (n7 := ρ 2) (n8 := ρ 1) (n9 := ρ 0) (n10 := ρ 10) (n11 := ρ 11) (n12 := ρ 12) (n13 := ρ 13) (n14 := ρ 14) (n15 := ρ 15) (n16 := ρ 16) (H0 := η 0) (H1 := η 1) (H2 := η 2) f37 f36 f35 f34 f33 f32 f31 f30 f29 f28 f27 f26 f25 f24 f23 f22 f21 f20 f19 f18 f17 f16 f15 f14 f13 f12 f11 f10 f9 f8 f7 f6 f5 f4 f3 f2 f1 f0
theorem q_310w_14 {q0 : Nat} {n0 n1 n2 n3 n4 n5 n6 n7 n8 n9 n10 n11 n12 n13 n14 n15 n16 n17 n18 : Int} {H0 H1 H2 : gH} (f0 : n0 ≤ 60) (f1 : 0 ≤ n0) (f2 : n1 ≤ 2147483647) (f3 : (-2147483648) ≤ n1) (f4 : n2 ≤ 5) (f5 : 0 ≤ n2) (f6 : n3 ≤ 2147483647) (f7 : (-2147483648) ≤ n3) (f8 : n4 ≤ 7) (f9 : 0 ≤ n4) (f10 : n5 = 285) (f11 : n6 ≤ 5) (f12 : 0 ≤ n6) (f13 : n7 ≤ 2147483647) (f14 : (-2147483648) ≤ n7) (f15 : n8 ≤ 7) (f16 : 0 ≤ n8) (f17 : n9 = 285) (f18 : (hLe T0 H0 H1 ∧ hFr s_310.2.2.2.2 H0 H1 ∧ hWt T0 H1) ∧ ((Ab_310_201 n9 n8 n7 n6 n5 n4 n3 n2 n1 n0 H0 H1 ∧ Bb_310_201 n9 n8 n7 n6 n5 n4 n3 n2 n1 n0 H0 H1) ∧ preb_310 n9 n8 n7 n6 H0) ∧ some q0 = some (mub_310_201 n9 n8 n7 n6 n5 n4 n3 n2 n1 n0 H0 H1)) (f19 : n10 = 325) (f20 : hK H1 (n5).toNat = 12) (f21 : n10 = hV H1 (n5).toNat 61) (f22 : n11 ≤ 60) (f23 : 0 ≤ n11) (f24 : n11 = hV H1 (n10).toNat (n2).toNat) (f25 : n0 < n11) (f26 : n12 = 293) (f27 : hK H1 (n5).toNat = 12) (f28 : n12 = hV H1 (n5).toNat 19) (f29 : n13 ≤ 5) (f30 : 0 ≤ n13) (f31 : n13 = hV H1 (n12).toNat (n4).toNat) (f32 : n14 ≤ 59) (f33 : (-1) ≤ n14) (f34 : (hLe T0 H1 H2 ∧ hFr s_248.2.2.2.2 H1 H2 ∧ ((0 : Int) = 0 → H2.length = H1.length) ∧ hWt T0 H2) ∧ (True ∧ nb_248 n14 n5 n2 n0 n13 H1 H2)) (f35 : n15 = (-1)) (f36 : n14 ≠ n15) (f37 : n16 = 356) (f38 : hK H2 (n5).toNat = 12) (f39 : n16 = hV H2 (n5).toNat 98) (f40 : n17 ≤ 1) (f41 : 0 ≤ n17) (f42 : n17 = hV H2 (n16).toNat (n14).toNat) (f43 : n17 = 0) (f44 : n18 = w32 (n0 + 1)) : Bb_310_201 n9 n8 n7 n6 n5 n4 n3 n2 n1 n18 H0 H2 := by
  unfold Bb_310_201
  intro sk mt q0 q1 k3 d0 d1 d5 fb
  have gb := f18.2.1.1.2
  unfold Bb_310_201 at gb
  have gb := gb sk mt q0 q1 k3 d0 d1 d5 fb
  have m5 := (MTr mt).2.2.2.1
  obtain ⟨e4, e5, rb⟩ := gb
  have cb := cnt_b _ e4
  have ga := f18.2.1.1.1
  unfold Ab_310_201 at ga
  obtain ⟨h1, h2, h3, h4⟩ := ga
  have d24 := rdW (q := 325) f24 f19
  have d31 := rdW (q := 293) f31 f26
  have d42 := rdW (q := 356) f42 f37
  have b325 : hV H1 325 = hV H0 325 := fRow f18.1.2.1 325 (by decide +kernel)
  have b293 : hV H1 293 = hV H0 293 := fRow f18.1.2.1 293 (by decide +kernel)
  have b327 : hV H1 327 = hV H0 327 := fRow f18.1.2.1 327 (by decide +kernel)
  have z5 : n11 = hV H0 325 (n6).toNat := by
    rw [d24, h3, b325]
  have z3 : n13 = hV H0 293 (n8).toNat := by
    rw [d31, h1, b293]
  have qo := f34.2.2
  unfold nb_248 at qo
  rw [show hV H1 327 = hV H0 327 from fRow f18.1.2.1 327 (by decide +kernel), z3, h3] at qo
  have qo := qo (by rw [(mR_fr f18.1.2.1 (by decide +kernel)).1]; exact mt) d0 d1
  have w44 := f44
  unfold w32 at w44
  have ra := RB_at rb (f := n14) (by omega) (by omega)
  have yq : n17 = hV H1 356 (n14).toNat := by
    rw [d42, show hV H2 356 = hV H1 356 from fRow f34.1.2.1 356 (by decide +kernel)]
  rw [← yq, qo] at ra
  refine ⟨cnt_n (g := n0) (by omega) e4 (fun w => (ra.mpr w.2) (by omega)) (by omega) (by omega), by omega, ?_⟩
  · rw [show hV H2 356 = hV H1 356 from fRow f34.1.2.1 356 (by decide +kernel)]
    exact rb
def g_310w_201_2 : vG := ([(10, [18, 9], [], 1), (30, [17], [], 0), (22, [17, 16, 14], [2], 0), (90, [17], [], 0), (91, [17], [], 1), (20, [16, 4], [2], 98), (23, [4], [2], 12), (0, [16], [], 356), (41, [14, 15], [], 0), (0, [15], [], -1), (1248, [14, 4, 7, 9, 13], [1, 2], 0), (90, [14], [], -1), (91, [14], [], 59), (22, [13, 12, 5], [1], 0), (90, [13], [], 0), (91, [13], [], 5), (20, [12, 4], [1], 19), (23, [4], [1], 12), (0, [12], [], 293), (42, [9, 11], [], 0), (22, [11, 10, 7], [1], 0), (90, [11], [], 0), (91, [11], [], 60), (20, [10, 4], [1], 61), (23, [4], [1], 12), (0, [10], [], 325), (5000, [0, 1, 2, 3, 4, 5, 6, 7, 8, 9], [0, 1], 201), (0, [0], [], 285), (90, [1], [], 0), (91, [1], [], 7), (90, [2], [], -2147483648), (91, [2], [], 2147483647), (90, [3], [], 0), (91, [3], [], 5), (0, [4], [], 285), (90, [5], [], 0), (91, [5], [], 7), (90, [6], [], -2147483648), (91, [6], [], 2147483647), (90, [7], [], 0), (91, [7], [], 5), (90, [8], [], -2147483648), (91, [8], [], 2147483647), (90, [9], [], 0), (91, [9], [], 60)], (4000, [4, 5, 6, 7, 8, 18], [2], 201))
theorem c_310w_201_2 {q0 : Nat} : vOkm T0 (eN e_310 L_310w A_310 mu_310 n_310 B_310 (some q0)) 4 g_310w_201_2 := vOk_inI fun ρ η f0 f1 f2 f3 f4 f5 f6 f7 f8 f9 f10 f11 f12 f13 f14 f15 f16 f17 f18 f19 f20 f21 f22 f23 f24 f25 f26 f27 f28 f29 f30 f31 f32 f33 f34 f35 f36 f37 f38 f39 f40 f41 f42 f43 f44 => q_310w_14 (q0 := q0) (n0 := ρ 9) (n1 := ρ 8) (n2 := ρ 7) (n3 := ρ 6) (n4 := ρ 5) (n5 := ρ 4) (n6 := ρ 3) (n7 := ρ 2) (n8 := ρ 1) (n9 := ρ 0) (n10 := ρ 10) (n11 := ρ 11) (n12 := ρ 12) (n13 := ρ 13) (n14 := ρ 14) (n15 := ρ 15) (n16 := ρ 16) (n17 := ρ 17) (n18 := ρ 18) (H0 := η 0) (H1 := η 1) (H2 := η 2) f44 f43 f42 f41 f40 f39 f38 f37 f36 f35 f34 f33 f32 f31 f30 f29 f28 f27 f26 f25 f24 f23 f22 f21 f20 f19 f18 f17 f16 f15 f14 f13 f12 f11 f10 f9 f8 f7 f6 f5 f4 f3 f2 f1 f0
theorem q_310w_15 {q0 : Nat} {n0 n1 n2 n3 n4 n5 n6 n7 n8 n9 n10 n11 n12 n13 n14 n15 n16 n17 n18 n19 : Int} {H0 H1 H2 : gH} (f0 : n0 ≤ 60) (f1 : 0 ≤ n0) (f2 : n1 ≤ 2147483647) (f3 : (-2147483648) ≤ n1) (f4 : n2 ≤ 5) (f5 : 0 ≤ n2) (f6 : n3 ≤ 2147483647) (f7 : (-2147483648) ≤ n3) (f8 : n4 ≤ 7) (f9 : 0 ≤ n4) (f10 : n5 = 285) (f11 : n6 ≤ 5) (f12 : 0 ≤ n6) (f13 : n7 ≤ 2147483647) (f14 : (-2147483648) ≤ n7) (f15 : n8 ≤ 7) (f16 : 0 ≤ n8) (f17 : n9 = 285) (f18 : (hLe T0 H0 H1 ∧ hFr s_310.2.2.2.2 H0 H1 ∧ hWt T0 H1) ∧ ((Ab_310_201 n9 n8 n7 n6 n5 n4 n3 n2 n1 n0 H0 H1 ∧ Bb_310_201 n9 n8 n7 n6 n5 n4 n3 n2 n1 n0 H0 H1) ∧ preb_310 n9 n8 n7 n6 H0) ∧ some q0 = some (mub_310_201 n9 n8 n7 n6 n5 n4 n3 n2 n1 n0 H0 H1)) (f19 : n10 = 325) (f20 : hK H1 (n5).toNat = 12) (f21 : n10 = hV H1 (n5).toNat 61) (f22 : n11 ≤ 60) (f23 : 0 ≤ n11) (f24 : n11 = hV H1 (n10).toNat (n2).toNat) (f25 : n0 < n11) (f26 : n12 = 293) (f27 : hK H1 (n5).toNat = 12) (f28 : n12 = hV H1 (n5).toNat 19) (f29 : n13 ≤ 5) (f30 : 0 ≤ n13) (f31 : n13 = hV H1 (n12).toNat (n4).toNat) (f32 : n14 ≤ 59) (f33 : (-1) ≤ n14) (f34 : (hLe T0 H1 H2 ∧ hFr s_248.2.2.2.2 H1 H2 ∧ ((0 : Int) = 0 → H2.length = H1.length) ∧ hWt T0 H2) ∧ (True ∧ nb_248 n14 n5 n2 n0 n13 H1 H2)) (f35 : n15 = (-1)) (f36 : n14 ≠ n15) (f37 : n16 = 356) (f38 : hK H2 (n5).toNat = 12) (f39 : n16 = hV H2 (n5).toNat 98) (f40 : n17 ≤ 1) (f41 : 0 ≤ n17) (f42 : n17 = hV H2 (n16).toNat (n14).toNat) (f43 : n17 ≠ 0) (f44 : n18 = w32 (n1 + 1)) (f45 : n19 = w32 (n0 + 1)) : Bb_310_201 n9 n8 n7 n6 n5 n4 n3 n2 n18 n19 H0 H2 := by
  unfold Bb_310_201
  intro sk mt q0 q1 k3 d0 d1 d5 fb
  have gb := f18.2.1.1.2
  unfold Bb_310_201 at gb
  have gb := gb sk mt q0 q1 k3 d0 d1 d5 fb
  have m5 := (MTr mt).2.2.2.1
  obtain ⟨e4, e5, rb⟩ := gb
  have cb := cnt_b _ e4
  have ga := f18.2.1.1.1
  unfold Ab_310_201 at ga
  obtain ⟨h1, h2, h3, h4⟩ := ga
  have d24 := rdW (q := 325) f24 f19
  have d31 := rdW (q := 293) f31 f26
  have d42 := rdW (q := 356) f42 f37
  have b325 : hV H1 325 = hV H0 325 := fRow f18.1.2.1 325 (by decide +kernel)
  have b293 : hV H1 293 = hV H0 293 := fRow f18.1.2.1 293 (by decide +kernel)
  have b327 : hV H1 327 = hV H0 327 := fRow f18.1.2.1 327 (by decide +kernel)
  have z5 : n11 = hV H0 325 (n6).toNat := by
    rw [d24, h3, b325]
  have z3 : n13 = hV H0 293 (n8).toNat := by
    rw [d31, h1, b293]
  have qo := f34.2.2
  unfold nb_248 at qo
  rw [show hV H1 327 = hV H0 327 from fRow f18.1.2.1 327 (by decide +kernel), z3, h3] at qo
  have qo := qo (by rw [(mR_fr f18.1.2.1 (by decide +kernel)).1]; exact mt) d0 d1
  have w44 := f44
  unfold w32 at w44
  have w45 := f45
  unfold w32 at w45
  have ra := RB_at rb (f := n14) (by omega) (by omega)
  have yq : n17 = hV H1 356 (n14).toNat := by
    rw [d42, show hV H2 356 = hV H1 356 from fRow f34.1.2.1 356 (by decide +kernel)]
  rw [← yq, qo] at ra
  refine ⟨cnt_y (g := n0) (by omega) e4 ⟨fun w => by omega, ra.mp (by omega)⟩ (by omega) (by omega), by omega, ?_⟩
  · rw [show hV H2 356 = hV H1 356 from fRow f34.1.2.1 356 (by decide +kernel)]
    exact rb
def g_310w_201_3 : vG := ([(10, [19, 9], [], 1), (10, [18, 8], [], 1), (31, [17], [], 0), (22, [17, 16, 14], [2], 0), (90, [17], [], 0), (91, [17], [], 1), (20, [16, 4], [2], 98), (23, [4], [2], 12), (0, [16], [], 356), (41, [14, 15], [], 0), (0, [15], [], -1), (1248, [14, 4, 7, 9, 13], [1, 2], 0), (90, [14], [], -1), (91, [14], [], 59), (22, [13, 12, 5], [1], 0), (90, [13], [], 0), (91, [13], [], 5), (20, [12, 4], [1], 19), (23, [4], [1], 12), (0, [12], [], 293), (42, [9, 11], [], 0), (22, [11, 10, 7], [1], 0), (90, [11], [], 0), (91, [11], [], 60), (20, [10, 4], [1], 61), (23, [4], [1], 12), (0, [10], [], 325), (5000, [0, 1, 2, 3, 4, 5, 6, 7, 8, 9], [0, 1], 201), (0, [0], [], 285), (90, [1], [], 0), (91, [1], [], 7), (90, [2], [], -2147483648), (91, [2], [], 2147483647), (90, [3], [], 0), (91, [3], [], 5), (0, [4], [], 285), (90, [5], [], 0), (91, [5], [], 7), (90, [6], [], -2147483648), (91, [6], [], 2147483647), (90, [7], [], 0), (91, [7], [], 5), (90, [8], [], -2147483648), (91, [8], [], 2147483647), (90, [9], [], 0), (91, [9], [], 60)], (4000, [4, 5, 6, 7, 18, 19], [2], 201))
theorem c_310w_201_3 {q0 : Nat} : vOkm T0 (eN e_310 L_310w A_310 mu_310 n_310 B_310 (some q0)) 4 g_310w_201_3 := vOk_inI fun ρ η f0 f1 f2 f3 f4 f5 f6 f7 f8 f9 f10 f11 f12 f13 f14 f15 f16 f17 f18 f19 f20 f21 f22 f23 f24 f25 f26 f27 f28 f29 f30 f31 f32 f33 f34 f35 f36 f37 f38 f39 f40 f41 f42 f43 f44 f45 => q_310w_15 (q0 := q0) (n0 := ρ 9) (n1 := ρ 8) (n2 := ρ 7) (n3 := ρ 6) (n4 := ρ 5) (n5 := ρ 4) (n6 := ρ 3) (n7 := ρ 2) (n8 := ρ 1) (n9 := ρ 0) (n10 := ρ 10) (n11 := ρ 11) (n12 := ρ 12) (n13 := ρ 13) (n14 := ρ 14) (n15 := ρ 15) (n16 := ρ 16) (n17 := ρ 17) (n18 := ρ 18) (n19 := ρ 19) (H0 := η 0) (H1 := η 1) (H2 := η 2) f45 f44 f43 f42 f41 f40 f39 f38 f37 f36 f35 f34 f33 f32 f31 f30 f29 f28 f27 f26 f25 f24 f23 f22 f21 f20 f19 f18 f17 f16 f15 f14 f13 f12 f11 f10 f9 f8 f7 f6 f5 f4 f3 f2 f1 f0
def p_310w_201 : List vG := [g_310w_201_0,
  g_310w_201_1,
  g_310w_201_2,
  g_310w_201_3]
theorem r_310w_201 : vCovBO (eRc e_310 L_310 cs_310 2000 (201, [(0, (3, 12, 285, 0)), (1, (0, 0, 7, 0)), (2, (0, -2147483648, 2147483647, 0)), (3, (0, 0, 5, 0)), (4, (0, -2147483648, 2147483647, 0)), (5, (0, 0, 60, 0))])) p_310w_201 = true := by decide +kernel
theorem m_310w (d : Nat) : eC e_310w (d + 4) := eC_ref (e := e_310) (L := L_310) (L' := L_310w) (cs := cs_310) (n := 2000) (d := d + 3) (A := A_310) (μ := mu_310) (tp := true) (p0 := p_310_s) (p1 := p_310w_s) (N := n_310) (B := B_310) rfl ⟨m_248w (d + 2), ⟨m_250 (d + 2), ⟨m_264w (d + 2), ⟨m_266w (d + 1), ⟨m_270w (d + 1), ⟨m_273w d, trivial⟩⟩⟩⟩⟩⟩ rfl (.inl rfl) (by decide +kernel) (fun _ => post0_ok) r_310_s (allC c_310_s_0 (allC c_310_s_1 allN)) (allC (.inl ⟨p_310_13, r_310_13, fun q0 => (allC c_310_13_0 (allC c_310_13_1 (allC c_310_13_2 (allC c_310_13_3 (allC c_310_13_4 allN)))))⟩) (allC (.inl ⟨p_310_37, r_310_37, fun q0 => (allC c_310_37_0 (allC c_310_37_1 (allC c_310_37_2 (allC c_310_37_3 (allC c_310_37_4 (allC c_310_37_5 (allC c_310_37_6 (allC c_310_37_7 (allC c_310_37_8 (allC c_310_37_9 (allC c_310_37_10 (allC c_310_37_11 (allC c_310_37_12 (allC c_310_37_13 (allC c_310_37_14 (allC c_310_37_15 allN))))))))))))))))⟩) (allC (.inl ⟨p_310_110, r_310_110, fun q0 => (allC c_310_110_0 (allC c_310_110_1 (allC c_310_110_2 (allC c_310_110_3 (allC c_310_110_4 (allC c_310_110_5 (allC c_310_110_6 (allC c_310_110_7 (allC c_310_110_8 (allC c_310_110_9 (allC c_310_110_10 (allC c_310_110_11 (allC c_310_110_12 (allC c_310_110_13 (allC c_310_110_14 (allC c_310_110_15 (allC c_310_110_16 (allC c_310_110_17 allN))))))))))))))))))⟩) (allC (.inl ⟨p_310_201, r_310_201, fun q0 => (allC c_310_201_0 (allC c_310_201_1 (allC c_310_201_2 (allC c_310_201_3 (allC c_310_201_4 (allC c_310_201_5 (allC c_310_201_6 (allC c_310_201_7 (allC c_310_201_8 (allC c_310_201_9 (allC c_310_201_10 allN)))))))))))⟩) allN)))) (sub1 (sub0 (sub1 (sub1 (sub1 (sub1 trivial)))))) r_310w_s (allC c_310w_s_0 allN) (allC ⟨p_310w_13, r_310w_13, fun q0 => (allC c_310w_13_0 (allC c_310w_13_1 allN))⟩ (allC ⟨p_310w_37, r_310w_37, fun q0 => (allC c_310w_37_0 (allC c_310w_37_1 (allC c_310w_37_2 (allC c_310w_37_3 (allC c_310w_37_4 allN)))))⟩ (allC ⟨p_310w_110, r_310w_110, fun q0 => (allC c_310w_110_0 (allC c_310w_110_1 (allC c_310w_110_2 (allC c_310w_110_3 allN))))⟩ (allC ⟨p_310w_201, r_310w_201, fun q0 => (allC c_310w_201_0 (allC c_310w_201_1 (allC c_310w_201_2 (allC c_310w_201_3 allN))))⟩ allN))))
/- MixStageModel.isLater (II)Z, more fully -/
def nb_284 (r a0 a1 a2 : Int) (h0 h : gH) : Prop := (r = 1 ∧ ((0 ≤ a1 ∧ a1 < hV h0 285 18) ∧ 0 ≤ a2 ∧ a2 < hV h0 285 60 ∧ hV h0 293 (a1).toNat ≤ a2) ∧ 0 ≤ hV h0 293 (a1).toNat) ∨ (r = 0 ∧ ¬ ((0 ≤ a1 ∧ a1 < hV h0 285 18) ∧ 0 ≤ a2 ∧ a2 < hV h0 285 60 ∧ hV h0 293 (a1).toNat ≤ a2))
def n_284 : List Int → gH → gH → Prop := fun xs h0 h => match xs with
  | [r, a0, a1, a2] => nb_284 r a0 a1 a2 h0 h
  | _ => True
noncomputable def e_284w : vE := eV e_284 n_284
noncomputable def L_284w : List vE := [e_246, e_282]
def B_284 : Int → List Int → gH → gH → Prop := fun c xs h0 h => True
theorem q_284w_0 {n0 n1 n2 n3 n4 : Int} {H0 H1 : gH} (f0 : n0 ≤ 2147483647) (f1 : (-2147483648) ≤ n0) (f2 : n1 ≤ 2147483647) (f3 : (-2147483648) ≤ n1) (f4 : n2 = 285) (f5 : hWt T0 H0 ∧ True) (f6 : n3 ≤ 1) (f7 : 0 ≤ n3) (f8 : (hLe T0 H0 H1 ∧ hFr s_282.2.2.2.2 H0 H1 ∧ ((0 : Int) = 0 → H1.length = H0.length) ∧ hWt T0 H1) ∧ postb_282 n3 n2 n1 H0 H1) (f9 : n3 = 0) (f10 : n4 = 0) : nb_284 n4 n2 n1 n0 H0 H1 := by
  unfold nb_284
  have q8 := f8.2
  unfold postb_282 at q8
  rw [show hV H1 285 18 = hV H0 285 18 from f8.1.2.1.1 285 18 (by decide +kernel)] at q8
  omega
def g_284w_s_0 : vG := ([(0, [4], [], 0), (30, [3], [], 0), (1282, [3, 0, 1], [0, 1], 0), (90, [3], [], 0), (91, [3], [], 1), (6000, [0, 1, 2], [0], 0), (0, [0], [], 285), (90, [1], [], -2147483648), (91, [1], [], 2147483647), (90, [2], [], -2147483648), (91, [2], [], 2147483647)], (3000, [4], [1], 31))
theorem c_284w_s_0 : vOkm T0 (eN e_284 L_284w A_284 mu_284 n_284 B_284 none) 3 g_284w_s_0 := vOk_inI fun ρ η f0 f1 f2 f3 f4 f5 f6 f7 f8 f9 f10 => q_284w_0 (n0 := ρ 2) (n1 := ρ 1) (n2 := ρ 0) (n3 := ρ 3) (n4 := ρ 4) (H0 := η 0) (H1 := η 1) f10 f9 f8 f7 f6 f5 f4 f3 f2 f1 f0
theorem q_284w_1 {n0 n1 n2 n3 n4 n5 : Int} {H0 H1 H2 : gH} (f0 : n0 ≤ 2147483647) (f1 : (-2147483648) ≤ n0) (f2 : n1 ≤ 2147483647) (f3 : (-2147483648) ≤ n1) (f4 : n2 = 285) (f5 : hWt T0 H0 ∧ True) (f6 : n3 ≤ 1) (f7 : 0 ≤ n3) (f8 : (hLe T0 H0 H1 ∧ hFr s_282.2.2.2.2 H0 H1 ∧ ((0 : Int) = 0 → H1.length = H0.length) ∧ hWt T0 H1) ∧ postb_282 n3 n2 n1 H0 H1) (f9 : n3 ≠ 0) (f10 : n4 ≤ 1) (f11 : 0 ≤ n4) (f12 : (hLe T0 H1 H2 ∧ hFr s_246.2.2.2.2 H1 H2 ∧ ((0 : Int) = 0 → H2.length = H1.length) ∧ hWt T0 H2) ∧ postb_246 n4 n2 n0 H1 H2) (f13 : n4 = 0) (f14 : n5 = 0) : nb_284 n5 n2 n1 n0 H0 H2 := by
  unfold nb_284
  have q8 := f8.2
  unfold postb_282 at q8
  rw [show hV H1 285 18 = hV H0 285 18 from f8.1.2.1.1 285 18 (by decide +kernel)] at q8
  have q12 := f12.2
  unfold postb_246 at q12
  rw [show hV H2 285 60 = hV H0 285 60 from (f12.1.2.1.1 285 60 (by decide +kernel)).trans (f8.1.2.1.1 285 60 (by decide +kernel))] at q12
  omega
def g_284w_s_1 : vG := ([(0, [5], [], 0), (30, [4], [], 0), (1246, [4, 0, 2], [1, 2], 0), (90, [4], [], 0), (91, [4], [], 1), (31, [3], [], 0), (1282, [3, 0, 1], [0, 1], 0), (90, [3], [], 0), (91, [3], [], 1), (6000, [0, 1, 2], [0], 0), (0, [0], [], 285), (90, [1], [], -2147483648), (91, [1], [], 2147483647), (90, [2], [], -2147483648), (91, [2], [], 2147483647)], (3000, [5], [2], 31))
theorem c_284w_s_1 : vOkm T0 (eN e_284 L_284w A_284 mu_284 n_284 B_284 none) 3 g_284w_s_1 := vOk_inI fun ρ η f0 f1 f2 f3 f4 f5 f6 f7 f8 f9 f10 f11 f12 f13 f14 => q_284w_1 (n0 := ρ 2) (n1 := ρ 1) (n2 := ρ 0) (n3 := ρ 3) (n4 := ρ 4) (n5 := ρ 5) (H0 := η 0) (H1 := η 1) (H2 := η 2) f14 f13 f12 f11 f10 f9 f8 f7 f6 f5 f4 f3 f2 f1 f0
theorem q_284w_2 {n0 n1 n2 n3 n4 n5 n6 n7 : Int} {H0 H1 H2 : gH} (f0 : n0 ≤ 2147483647) (f1 : (-2147483648) ≤ n0) (f2 : n1 ≤ 2147483647) (f3 : (-2147483648) ≤ n1) (f4 : n2 = 285) (f5 : hWt T0 H0 ∧ True) (f6 : n3 ≤ 1) (f7 : 0 ≤ n3) (f8 : (hLe T0 H0 H1 ∧ hFr s_282.2.2.2.2 H0 H1 ∧ ((0 : Int) = 0 → H1.length = H0.length) ∧ hWt T0 H1) ∧ postb_282 n3 n2 n1 H0 H1) (f9 : n3 ≠ 0) (f10 : n4 ≤ 1) (f11 : 0 ≤ n4) (f12 : (hLe T0 H1 H2 ∧ hFr s_246.2.2.2.2 H1 H2 ∧ ((0 : Int) = 0 → H2.length = H1.length) ∧ hWt T0 H2) ∧ postb_246 n4 n2 n0 H1 H2) (f13 : n4 ≠ 0) (f14 : n5 = 293) (f15 : hK H2 (n2).toNat = 12) (f16 : n5 = hV H2 (n2).toNat 19) (f17 : n6 ≤ 5) (f18 : 0 ≤ n6) (f19 : n6 = hV H2 (n5).toNat (n1).toNat) (f20 : n0 < n6) (f21 : n7 = 0) : nb_284 n7 n2 n1 n0 H0 H2 := by
  unfold nb_284
  have q8 := f8.2
  unfold postb_282 at q8
  rw [show hV H1 285 18 = hV H0 285 18 from f8.1.2.1.1 285 18 (by decide +kernel)] at q8
  have q12 := f12.2
  unfold postb_246 at q12
  rw [show hV H2 285 60 = hV H0 285 60 from (f12.1.2.1.1 285 60 (by decide +kernel)).trans (f8.1.2.1.1 285 60 (by decide +kernel))] at q12
  have d19 := rdW (q := 293) f19 f14
  rw [show hV H2 293 = hV H0 293 from (fRow f12.1.2.1 293 (by decide +kernel)).trans (fRow f8.1.2.1 293 (by decide +kernel))] at d19
  omega
def g_284w_s_2 : vG := ([(0, [7], [], 0), (42, [2, 6], [], 0), (22, [6, 5, 1], [2], 0), (90, [6], [], 0), (91, [6], [], 5), (20, [5, 0], [2], 19), (23, [0], [2], 12), (0, [5], [], 293), (31, [4], [], 0), (1246, [4, 0, 2], [1, 2], 0), (90, [4], [], 0), (91, [4], [], 1), (31, [3], [], 0), (1282, [3, 0, 1], [0, 1], 0), (90, [3], [], 0), (91, [3], [], 1), (6000, [0, 1, 2], [0], 0), (0, [0], [], 285), (90, [1], [], -2147483648), (91, [1], [], 2147483647), (90, [2], [], -2147483648), (91, [2], [], 2147483647)], (3000, [7], [2], 31))
theorem c_284w_s_2 : vOkm T0 (eN e_284 L_284w A_284 mu_284 n_284 B_284 none) 3 g_284w_s_2 := vOk_inI fun ρ η f0 f1 f2 f3 f4 f5 f6 f7 f8 f9 f10 f11 f12 f13 f14 f15 f16 f17 f18 f19 f20 f21 => q_284w_2 (n0 := ρ 2) (n1 := ρ 1) (n2 := ρ 0) (n3 := ρ 3) (n4 := ρ 4) (n5 := ρ 5) (n6 := ρ 6) (n7 := ρ 7) (H0 := η 0) (H1 := η 1) (H2 := η 2) f21 f20 f19 f18 f17 f16 f15 f14 f13 f12 f11 f10 f9 f8 f7 f6 f5 f4 f3 f2 f1 f0
theorem q_284w_3 {n0 n1 n2 n3 n4 n5 n6 n7 : Int} {H0 H1 H2 : gH} (f0 : n0 ≤ 2147483647) (f1 : (-2147483648) ≤ n0) (f2 : n1 ≤ 2147483647) (f3 : (-2147483648) ≤ n1) (f4 : n2 = 285) (f5 : hWt T0 H0 ∧ True) (f6 : n3 ≤ 1) (f7 : 0 ≤ n3) (f8 : (hLe T0 H0 H1 ∧ hFr s_282.2.2.2.2 H0 H1 ∧ ((0 : Int) = 0 → H1.length = H0.length) ∧ hWt T0 H1) ∧ postb_282 n3 n2 n1 H0 H1) (f9 : n3 ≠ 0) (f10 : n4 ≤ 1) (f11 : 0 ≤ n4) (f12 : (hLe T0 H1 H2 ∧ hFr s_246.2.2.2.2 H1 H2 ∧ ((0 : Int) = 0 → H2.length = H1.length) ∧ hWt T0 H2) ∧ postb_246 n4 n2 n0 H1 H2) (f13 : n4 ≠ 0) (f14 : n5 = 293) (f15 : hK H2 (n2).toNat = 12) (f16 : n5 = hV H2 (n2).toNat 19) (f17 : n6 ≤ 5) (f18 : 0 ≤ n6) (f19 : n6 = hV H2 (n5).toNat (n1).toNat) (f20 : n6 ≤ n0) (f21 : n7 = 1) : nb_284 n7 n2 n1 n0 H0 H2 := by
  unfold nb_284
  have q8 := f8.2
  unfold postb_282 at q8
  rw [show hV H1 285 18 = hV H0 285 18 from f8.1.2.1.1 285 18 (by decide +kernel)] at q8
  have q12 := f12.2
  unfold postb_246 at q12
  rw [show hV H2 285 60 = hV H0 285 60 from (f12.1.2.1.1 285 60 (by decide +kernel)).trans (f8.1.2.1.1 285 60 (by decide +kernel))] at q12
  have d19 := rdW (q := 293) f19 f14
  rw [show hV H2 293 = hV H0 293 from (fRow f12.1.2.1 293 (by decide +kernel)).trans (fRow f8.1.2.1 293 (by decide +kernel))] at d19
  omega
def g_284w_s_3 : vG := ([(0, [7], [], 1), (43, [2, 6], [], 0), (22, [6, 5, 1], [2], 0), (90, [6], [], 0), (91, [6], [], 5), (20, [5, 0], [2], 19), (23, [0], [2], 12), (0, [5], [], 293), (31, [4], [], 0), (1246, [4, 0, 2], [1, 2], 0), (90, [4], [], 0), (91, [4], [], 1), (31, [3], [], 0), (1282, [3, 0, 1], [0, 1], 0), (90, [3], [], 0), (91, [3], [], 1), (6000, [0, 1, 2], [0], 0), (0, [0], [], 285), (90, [1], [], -2147483648), (91, [1], [], 2147483647), (90, [2], [], -2147483648), (91, [2], [], 2147483647)], (3000, [7], [2], 31))
theorem c_284w_s_3 : vOkm T0 (eN e_284 L_284w A_284 mu_284 n_284 B_284 none) 3 g_284w_s_3 := vOk_inI fun ρ η f0 f1 f2 f3 f4 f5 f6 f7 f8 f9 f10 f11 f12 f13 f14 f15 f16 f17 f18 f19 f20 f21 => q_284w_3 (n0 := ρ 2) (n1 := ρ 1) (n2 := ρ 0) (n3 := ρ 3) (n4 := ρ 4) (n5 := ρ 5) (n6 := ρ 6) (n7 := ρ 7) (H0 := η 0) (H1 := η 1) (H2 := η 2) f21 f20 f19 f18 f17 f16 f15 f14 f13 f12 f11 f10 f9 f8 f7 f6 f5 f4 f3 f2 f1 f0
def p_284w_s : List vG := [g_284w_s_0,
  g_284w_s_1,
  g_284w_s_2,
  g_284w_s_3]
theorem r_284w_s : vCovBO (eR0 e_284 L_284 cs_284 2000) p_284w_s = true := by decide +kernel
theorem m_284w (d : Nat) : eC e_284w (d + 2) := eC_ref (e := e_284) (L := L_284) (L' := L_284w) (cs := cs_284) (n := 2000) (d := d + 1) (A := A_284) (μ := mu_284) (tp := false) (p0 := p_284_s) (p1 := p_284w_s) (N := n_284) (B := B_284) rfl ⟨m_246 d, ⟨m_282 d, trivial⟩⟩ rfl (.inr pre0_ok) (by decide +kernel) (fun z => nomatch z) r_284_s (allC c_284_s_0 (allC c_284_s_1 (allC c_284_s_2 (allC c_284_s_3 (allC c_284_s_4 allN))))) allN (sub0 (sub0 trivial)) r_284w_s (allC c_284w_s_0 (allC c_284w_s_1 (allC c_284w_s_2 (allC c_284w_s_3 allN)))) allN
/- MixStageModel.isMusic (III)Z, more fully -/
def nb_311 (r a0 a1 a2 a3 : Int) (h0 h : gH) : Prop := (r = 1 ∧ (((0 ≤ a1 ∧ a1 < hV h0 285 18) ∧ 0 ≤ a3 ∧ a3 < hV h0 285 60 ∧ hV h0 293 (a1).toNat ≤ a3) ∧ 0 ≤ a2 ∧ a2 < hV h0 285 64 ∧ hV h0 328 (a2).toNat = 3) ∧ 0 ≤ (hV h0 293 (a1).toNat)) ∨ (r = 0 ∧ ¬ (((0 ≤ a1 ∧ a1 < hV h0 285 18) ∧ 0 ≤ a3 ∧ a3 < hV h0 285 60 ∧ hV h0 293 (a1).toNat ≤ a3) ∧ 0 ≤ a2 ∧ a2 < hV h0 285 64 ∧ hV h0 328 (a2).toNat = 3))
def n_311 : List Int → gH → gH → Prop := fun xs h0 h => match xs with
  | [r, a0, a1, a2, a3] => nb_311 r a0 a1 a2 a3 h0 h
  | _ => True
noncomputable def e_311w : vE := eV e_311 n_311
noncomputable def L_311w : List vE := [e_250, e_284w]
def B_311 : Int → List Int → gH → gH → Prop := fun c xs h0 h => True
theorem q_311w_0 {n0 n1 n2 n3 n4 n5 : Int} {H0 H1 : gH} (f0 : n0 ≤ 2147483647) (f1 : (-2147483648) ≤ n0) (f2 : n1 ≤ 2147483647) (f3 : (-2147483648) ≤ n1) (f4 : n2 ≤ 2147483647) (f5 : (-2147483648) ≤ n2) (f6 : n3 = 285) (f7 : hWt T0 H0 ∧ True) (f8 : n4 ≤ 1) (f9 : 0 ≤ n4) (f10 : (hLe T0 H0 H1 ∧ hFr s_284.2.2.2.2 H0 H1 ∧ ((0 : Int) = 0 → H1.length = H0.length) ∧ hWt T0 H1) ∧ (postb_284 n4 n3 n2 n0 H0 H1 ∧ nb_284 n4 n3 n2 n0 H0 H1)) (f11 : n4 = 0) (f12 : n5 = 0) : nb_311 n5 n3 n2 n1 n0 H0 H1 := by
  unfold nb_311
  have ql := f10.2.2
  unfold nb_284 at ql
  have rc := f12
  have a := (ql.resolve_left (fun w => by have := w.1; omega)).2
  exact .inr ⟨rc, fun w => a w.1⟩
def g_311w_s_0 : vG := ([(0, [5], [], 0), (30, [4], [], 0), (1284, [4, 0, 1, 3], [0, 1], 0), (90, [4], [], 0), (91, [4], [], 1), (6000, [0, 1, 2, 3], [0], 0), (0, [0], [], 285), (90, [1], [], -2147483648), (91, [1], [], 2147483647), (90, [2], [], -2147483648), (91, [2], [], 2147483647), (90, [3], [], -2147483648), (91, [3], [], 2147483647)], (3000, [5], [1], 32))
theorem c_311w_s_0 : vOkm T0 (eN e_311 L_311w A_311 mu_311 n_311 B_311 none) 4 g_311w_s_0 := vOk_inI fun ρ η f0 f1 f2 f3 f4 f5 f6 f7 f8 f9 f10 f11 f12 => q_311w_0 (n0 := ρ 3) (n1 := ρ 2) (n2 := ρ 1) (n3 := ρ 0) (n4 := ρ 4) (n5 := ρ 5) (H0 := η 0) (H1 := η 1) f12 f11 f10 f9 f8 f7 f6 f5 f4 f3 f2 f1 f0
theorem q_311w_1 {n0 n1 n2 n3 n4 n5 n6 : Int} {H0 H1 H2 : gH} (f0 : n0 ≤ 2147483647) (f1 : (-2147483648) ≤ n0) (f2 : n1 ≤ 2147483647) (f3 : (-2147483648) ≤ n1) (f4 : n2 ≤ 2147483647) (f5 : (-2147483648) ≤ n2) (f6 : n3 = 285) (f7 : hWt T0 H0 ∧ True) (f8 : n4 ≤ 1) (f9 : 0 ≤ n4) (f10 : (hLe T0 H0 H1 ∧ hFr s_284.2.2.2.2 H0 H1 ∧ ((0 : Int) = 0 → H1.length = H0.length) ∧ hWt T0 H1) ∧ (postb_284 n4 n3 n2 n0 H0 H1 ∧ nb_284 n4 n3 n2 n0 H0 H1)) (f11 : n4 ≠ 0) (f12 : n5 ≤ 1) (f13 : 0 ≤ n5) (f14 : (hLe T0 H1 H2 ∧ hFr s_250.2.2.2.2 H1 H2 ∧ ((0 : Int) = 0 → H2.length = H1.length) ∧ hWt T0 H2) ∧ postb_250 n5 n3 n1 H1 H2) (f15 : n5 = 0) (f16 : n6 = 0) : nb_311 n6 n3 n2 n1 n0 H0 H2 := by
  unfold nb_311
  have ql := f10.2.2
  unfold nb_284 at ql
  have qi := f14.2
  unfold postb_250 at qi
  rw [show hV H2 285 64 = hV H0 285 64 from (f14.1.2.1.1 285 64 (by decide +kernel)).trans (f10.1.2.1.1 285 64 (by decide +kernel))] at qi
  have rc := f16
  exact .inr ⟨rc, fun w => by
    have w2 := w.2
    omega⟩
def g_311w_s_1 : vG := ([(0, [6], [], 0), (30, [5], [], 0), (1250, [5, 0, 2], [1, 2], 0), (90, [5], [], 0), (91, [5], [], 1), (31, [4], [], 0), (1284, [4, 0, 1, 3], [0, 1], 0), (90, [4], [], 0), (91, [4], [], 1), (6000, [0, 1, 2, 3], [0], 0), (0, [0], [], 285), (90, [1], [], -2147483648), (91, [1], [], 2147483647), (90, [2], [], -2147483648), (91, [2], [], 2147483647), (90, [3], [], -2147483648), (91, [3], [], 2147483647)], (3000, [6], [2], 32))
theorem c_311w_s_1 : vOkm T0 (eN e_311 L_311w A_311 mu_311 n_311 B_311 none) 4 g_311w_s_1 := vOk_inI fun ρ η f0 f1 f2 f3 f4 f5 f6 f7 f8 f9 f10 f11 f12 f13 f14 f15 f16 => q_311w_1 (n0 := ρ 3) (n1 := ρ 2) (n2 := ρ 1) (n3 := ρ 0) (n4 := ρ 4) (n5 := ρ 5) (n6 := ρ 6) (H0 := η 0) (H1 := η 1) (H2 := η 2) f16 f15 f14 f13 f12 f11 f10 f9 f8 f7 f6 f5 f4 f3 f2 f1 f0
theorem q_311w_2 {n0 n1 n2 n3 n4 n5 n6 n7 n8 n9 : Int} {H0 H1 H2 : gH} (f0 : n0 ≤ 2147483647) (f1 : (-2147483648) ≤ n0) (f2 : n1 ≤ 2147483647) (f3 : (-2147483648) ≤ n1) (f4 : n2 ≤ 2147483647) (f5 : (-2147483648) ≤ n2) (f6 : n3 = 285) (f7 : hWt T0 H0 ∧ True) (f8 : n4 ≤ 1) (f9 : 0 ≤ n4) (f10 : (hLe T0 H0 H1 ∧ hFr s_284.2.2.2.2 H0 H1 ∧ ((0 : Int) = 0 → H1.length = H0.length) ∧ hWt T0 H1) ∧ (postb_284 n4 n3 n2 n0 H0 H1 ∧ nb_284 n4 n3 n2 n0 H0 H1)) (f11 : n4 ≠ 0) (f12 : n5 ≤ 1) (f13 : 0 ≤ n5) (f14 : (hLe T0 H1 H2 ∧ hFr s_250.2.2.2.2 H1 H2 ∧ ((0 : Int) = 0 → H2.length = H1.length) ∧ hWt T0 H2) ∧ postb_250 n5 n3 n1 H1 H2) (f15 : n5 ≠ 0) (f16 : n6 = 328) (f17 : hK H2 (n3).toNat = 12) (f18 : n6 = hV H2 (n3).toNat 66) (f19 : n7 ≤ 6) (f20 : 0 ≤ n7) (f21 : n7 = hV H2 (n6).toNat (n1).toNat) (f22 : n8 = 3) (f23 : n7 ≠ n8) (f24 : n9 = 0) : nb_311 n9 n3 n2 n1 n0 H0 H2 := by
  unfold nb_311
  have ql := f10.2.2
  unfold nb_284 at ql
  have qi := f14.2
  unfold postb_250 at qi
  rw [show hV H2 285 64 = hV H0 285 64 from (f14.1.2.1.1 285 64 (by decide +kernel)).trans (f10.1.2.1.1 285 64 (by decide +kernel))] at qi
  have d21 := rdW (q := 328) f21 f16
  rw [show hV H2 328 = hV H0 328 from (fRow f14.1.2.1 328 (by decide +kernel)).trans (fRow f10.1.2.1 328 (by decide +kernel))] at d21
  have rc := f24
  exact .inr ⟨rc, fun w => by
    have w2 := w.2
    omega⟩
def g_311w_s_2 : vG := ([(0, [9], [], 0), (41, [7, 8], [], 0), (0, [8], [], 3), (22, [7, 6, 2], [2], 0), (90, [7], [], 0), (91, [7], [], 6), (20, [6, 0], [2], 66), (23, [0], [2], 12), (0, [6], [], 328), (31, [5], [], 0), (1250, [5, 0, 2], [1, 2], 0), (90, [5], [], 0), (91, [5], [], 1), (31, [4], [], 0), (1284, [4, 0, 1, 3], [0, 1], 0), (90, [4], [], 0), (91, [4], [], 1), (6000, [0, 1, 2, 3], [0], 0), (0, [0], [], 285), (90, [1], [], -2147483648), (91, [1], [], 2147483647), (90, [2], [], -2147483648), (91, [2], [], 2147483647), (90, [3], [], -2147483648), (91, [3], [], 2147483647)], (3000, [9], [2], 32))
theorem c_311w_s_2 : vOkm T0 (eN e_311 L_311w A_311 mu_311 n_311 B_311 none) 4 g_311w_s_2 := vOk_inI fun ρ η f0 f1 f2 f3 f4 f5 f6 f7 f8 f9 f10 f11 f12 f13 f14 f15 f16 f17 f18 f19 f20 f21 f22 f23 f24 => q_311w_2 (n0 := ρ 3) (n1 := ρ 2) (n2 := ρ 1) (n3 := ρ 0) (n4 := ρ 4) (n5 := ρ 5) (n6 := ρ 6) (n7 := ρ 7) (n8 := ρ 8) (n9 := ρ 9) (H0 := η 0) (H1 := η 1) (H2 := η 2) f24 f23 f22 f21 f20 f19 f18 f17 f16 f15 f14 f13 f12 f11 f10 f9 f8 f7 f6 f5 f4 f3 f2 f1 f0
theorem q_311w_3 {n0 n1 n2 n3 n4 n5 n6 n7 n8 n9 : Int} {H0 H1 H2 : gH} (f0 : n0 ≤ 2147483647) (f1 : (-2147483648) ≤ n0) (f2 : n1 ≤ 2147483647) (f3 : (-2147483648) ≤ n1) (f4 : n2 ≤ 2147483647) (f5 : (-2147483648) ≤ n2) (f6 : n3 = 285) (f7 : hWt T0 H0 ∧ True) (f8 : n4 ≤ 1) (f9 : 0 ≤ n4) (f10 : (hLe T0 H0 H1 ∧ hFr s_284.2.2.2.2 H0 H1 ∧ ((0 : Int) = 0 → H1.length = H0.length) ∧ hWt T0 H1) ∧ (postb_284 n4 n3 n2 n0 H0 H1 ∧ nb_284 n4 n3 n2 n0 H0 H1)) (f11 : n4 ≠ 0) (f12 : n5 ≤ 1) (f13 : 0 ≤ n5) (f14 : (hLe T0 H1 H2 ∧ hFr s_250.2.2.2.2 H1 H2 ∧ ((0 : Int) = 0 → H2.length = H1.length) ∧ hWt T0 H2) ∧ postb_250 n5 n3 n1 H1 H2) (f15 : n5 ≠ 0) (f16 : n6 = 328) (f17 : hK H2 (n3).toNat = 12) (f18 : n6 = hV H2 (n3).toNat 66) (f19 : n7 ≤ 6) (f20 : 0 ≤ n7) (f21 : n7 = hV H2 (n6).toNat (n1).toNat) (f22 : n8 = 3) (f23 : n7 = n8) (f24 : n9 = 1) : nb_311 n9 n3 n2 n1 n0 H0 H2 := by
  unfold nb_311
  have ql := f10.2.2
  unfold nb_284 at ql
  have qi := f14.2
  unfold postb_250 at qi
  rw [show hV H2 285 64 = hV H0 285 64 from (f14.1.2.1.1 285 64 (by decide +kernel)).trans (f10.1.2.1.1 285 64 (by decide +kernel))] at qi
  have d21 := rdW (q := 328) f21 f16
  rw [show hV H2 328 = hV H0 328 from (fRow f14.1.2.1 328 (by decide +kernel)).trans (fRow f10.1.2.1 328 (by decide +kernel))] at d21
  have rc := f24
  have a := (ql.resolve_right (fun w => by have := w.1; omega)).2
  exact .inl ⟨rc, ⟨a.1, by omega, by omega, by omega⟩, a.2⟩
def g_311w_s_3 : vG := ([(0, [9], [], 1), (40, [7, 8], [], 0), (0, [8], [], 3), (22, [7, 6, 2], [2], 0), (90, [7], [], 0), (91, [7], [], 6), (20, [6, 0], [2], 66), (23, [0], [2], 12), (0, [6], [], 328), (31, [5], [], 0), (1250, [5, 0, 2], [1, 2], 0), (90, [5], [], 0), (91, [5], [], 1), (31, [4], [], 0), (1284, [4, 0, 1, 3], [0, 1], 0), (90, [4], [], 0), (91, [4], [], 1), (6000, [0, 1, 2, 3], [0], 0), (0, [0], [], 285), (90, [1], [], -2147483648), (91, [1], [], 2147483647), (90, [2], [], -2147483648), (91, [2], [], 2147483647), (90, [3], [], -2147483648), (91, [3], [], 2147483647)], (3000, [9], [2], 32))
theorem c_311w_s_3 : vOkm T0 (eN e_311 L_311w A_311 mu_311 n_311 B_311 none) 4 g_311w_s_3 := vOk_inI fun ρ η f0 f1 f2 f3 f4 f5 f6 f7 f8 f9 f10 f11 f12 f13 f14 f15 f16 f17 f18 f19 f20 f21 f22 f23 f24 => q_311w_3 (n0 := ρ 3) (n1 := ρ 2) (n2 := ρ 1) (n3 := ρ 0) (n4 := ρ 4) (n5 := ρ 5) (n6 := ρ 6) (n7 := ρ 7) (n8 := ρ 8) (n9 := ρ 9) (H0 := η 0) (H1 := η 1) (H2 := η 2) f24 f23 f22 f21 f20 f19 f18 f17 f16 f15 f14 f13 f12 f11 f10 f9 f8 f7 f6 f5 f4 f3 f2 f1 f0
def p_311w_s : List vG := [g_311w_s_0,
  g_311w_s_1,
  g_311w_s_2,
  g_311w_s_3]
theorem r_311w_s : vCovBO (eR0 e_311 L_311 cs_311 2000) p_311w_s = true := by decide +kernel
theorem m_311w (d : Nat) : eC e_311w (d + 3) := eC_ref (e := e_311) (L := L_311) (L' := L_311w) (cs := cs_311) (n := 2000) (d := d + 2) (A := A_311) (μ := mu_311) (tp := false) (p0 := p_311_s) (p1 := p_311w_s) (N := n_311) (B := B_311) rfl ⟨m_250 (d + 1), ⟨m_284w d, trivial⟩⟩ rfl (.inr pre0_ok) (by decide +kernel) (fun z => nomatch z) r_311_s (allC c_311_s_0 (allC c_311_s_1 (allC c_311_s_2 (allC c_311_s_3 (allC c_311_s_4 allN))))) allN (sub0 (sub1 trivial)) r_311w_s (allC c_311w_s_0 (allC c_311w_s_1 (allC c_311w_s_2 (allC c_311w_s_3 allN)))) allN
/- MixStageModel.sounding (III)I, more fully -/
def nb_312 (r a0 a1 a2 a3 : Int) (h0 h : gH) : Prop := (¬ (((0 ≤ a1 ∧ a1 < hV h0 285 18) ∧ 0 ≤ a3 ∧ a3 < hV h0 285 60 ∧ hV h0 293 (a1).toNat ≤ a3) ∧ 0 ≤ a2 ∧ a2 < hV h0 285 64 ∧ hV h0 328 (a2).toNat = 3) → r = -1) ∧ ((((0 ≤ a1 ∧ a1 < hV h0 285 18) ∧ 0 ≤ a3 ∧ a3 < hV h0 285 60 ∧ hV h0 293 (a1).toNat ≤ a3) ∧ 0 ≤ a2 ∧ a2 < hV h0 285 64 ∧ hV h0 328 (a2).toNat = 3) → 0 ≤ (hV h0 293 (a1).toNat) ∧ (SEok (RE h0) → MT (mR h0) → (∀ c, c ∈ (lrL h0 (hV h0 340) (flS (hV h0 296) (hV h0 298) (hV h0 300) (hV h0 301) (hV h0 302) (hV h0 340) (7 * (a1).toNat) 7 6 0)) → FBc c) → r = SNDf (RE h0) (lrL h0 (hV h0 340) (flS (hV h0 296) (hV h0 298) (hV h0 300) (hV h0 301) (hV h0 302) (hV h0 340) (7 * (a1).toNat) 7 6 0)) a2 (hV h0 325 (hV h0 293 (a1).toNat).toNat) (hV h0 327) (hV h0 293 (a1).toNat) a3 (hV h0 325 (a3).toNat)))
def n_312 : List Int → gH → gH → Prop := fun xs h0 h => match xs with
  | [r, a0, a1, a2, a3] => nb_312 r a0 a1 a2 a3 h0 h
  | _ => True
noncomputable def e_312w : vE := eV e_312 n_312
noncomputable def L_312w : List vE := [e_310w, e_311w]
def B_312 : Int → List Int → gH → gH → Prop := fun c xs h0 h => True
theorem q_312w_0 {n0 n1 n2 n3 n4 n5 : Int} {H0 H1 : gH} (f0 : n0 ≤ 2147483647) (f1 : (-2147483648) ≤ n0) (f2 : n1 ≤ 2147483647) (f3 : (-2147483648) ≤ n1) (f4 : n2 ≤ 2147483647) (f5 : (-2147483648) ≤ n2) (f6 : n3 = 285) (f7 : hWt T0 H0 ∧ preb_312 n3 n2 n1 n0 H0) (f8 : n4 ≤ 1) (f9 : 0 ≤ n4) (f10 : (hLe T0 H0 H1 ∧ hFr s_311.2.2.2.2 H0 H1 ∧ ((0 : Int) = 0 → H1.length = H0.length) ∧ hWt T0 H1) ∧ (postb_311 n4 n3 n2 n1 n0 H0 H1 ∧ nb_311 n4 n3 n2 n1 n0 H0 H1)) (f11 : n4 = 0) (f12 : n5 = (-1)) : nb_312 n5 n3 n2 n1 n0 H0 H1 := by
  unfold nb_312
  have qm := f10.2.2
  unfold nb_311 at qm
  have a := (qm.resolve_left (fun w => by have := w.1; omega)).2
  exact ⟨fun _ => by omega, fun w => absurd w a⟩
def g_312w_s_0 : vG := ([(0, [5], [], -1), (30, [4], [], 0), (1311, [4, 0, 1, 2, 3], [0, 1], 0), (90, [4], [], 0), (91, [4], [], 1), (6000, [0, 1, 2, 3], [0], 0), (0, [0], [], 285), (90, [1], [], -2147483648), (91, [1], [], 2147483647), (90, [2], [], -2147483648), (91, [2], [], 2147483647), (90, [3], [], -2147483648), (91, [3], [], 2147483647)], (3000, [5], [1], 21))
theorem c_312w_s_0 : vOkm T0 (eN e_312 L_312w A_312 mu_312 n_312 B_312 none) 4 g_312w_s_0 := vOk_inI fun ρ η f0 f1 f2 f3 f4 f5 f6 f7 f8 f9 f10 f11 f12 => q_312w_0 (n0 := ρ 3) (n1 := ρ 2) (n2 := ρ 1) (n3 := ρ 0) (n4 := ρ 4) (n5 := ρ 5) (H0 := η 0) (H1 := η 1) f12 f11 f10 f9 f8 f7 f6 f5 f4 f3 f2 f1 f0
theorem q_312w_1 {n0 n1 n2 n3 n4 n5 : Int} {H0 H1 H2 : gH} (f0 : n0 ≤ 2147483647) (f1 : (-2147483648) ≤ n0) (f2 : n1 ≤ 2147483647) (f3 : (-2147483648) ≤ n1) (f4 : n2 ≤ 2147483647) (f5 : (-2147483648) ≤ n2) (f6 : n3 = 285) (f7 : hWt T0 H0 ∧ preb_312 n3 n2 n1 n0 H0) (f8 : n4 ≤ 1) (f9 : 0 ≤ n4) (f10 : (hLe T0 H0 H1 ∧ hFr s_311.2.2.2.2 H0 H1 ∧ ((0 : Int) = 0 → H1.length = H0.length) ∧ hWt T0 H1) ∧ (postb_311 n4 n3 n2 n1 n0 H0 H1 ∧ nb_311 n4 n3 n2 n1 n0 H0 H1)) (f11 : n4 ≠ 0) (f12 : n5 ≤ 2147483647) (f13 : (-2147483648) ≤ n5) (f14 : (hLe T0 H1 H2 ∧ hFr s_310.2.2.2.2 H1 H2 ∧ ((0 : Int) = 0 → H2.length = H1.length) ∧ hWt T0 H2) ∧ (True ∧ nb_310 n5 n3 n2 n1 n0 H1 H2)) : nb_312 n5 n3 n2 n1 n0 H0 H2 := by
  unfold nb_312
  have qm := f10.2.2
  unfold nb_311 at qm
  have a := (qm.resolve_right (fun w => by have := w.1; omega)).2
  obtain ⟨a, d0⟩ := a
  refine ⟨fun w => absurd a w, fun w => ⟨d0, fun sk mt fb => ?_⟩⟩
  have qs := f14.2.2
  unfold nb_310 at qs
  rw [show RE H1 = RE H0 from RE_fr f10.1.2.1 (by decide +kernel), show hV H1 293 = hV H0 293 from fRow f10.1.2.1 293 (by decide +kernel), show hV H1 296 = hV H0 296 from fRow f10.1.2.1 296 (by decide +kernel), show hV H1 298 = hV H0 298 from fRow f10.1.2.1 298 (by decide +kernel), show hV H1 300 = hV H0 300 from fRow f10.1.2.1 300 (by decide +kernel), show hV H1 301 = hV H0 301 from fRow f10.1.2.1 301 (by decide +kernel), show hV H1 302 = hV H0 302 from fRow f10.1.2.1 302 (by decide +kernel), show hV H1 340 = hV H0 340 from fRow f10.1.2.1 340 (by decide +kernel), show hV H1 325 = hV H0 325 from fRow f10.1.2.1 325 (by decide +kernel), show hV H1 327 = hV H0 327 from fRow f10.1.2.1 327 (by decide +kernel), show hV H1 328 = hV H0 328 from fRow f10.1.2.1 328 (by decide +kernel), show hV H1 285 64 = hV H0 285 64 from f10.1.2.1.1 285 64 (by decide +kernel)] at qs
  rw [show lrL H1 (hV H0 340) (flS (hV H0 296) (hV H0 298) (hV H0 300) (hV H0 301) (hV H0 302) (hV H0 340) (7 * (n2).toNat) 7 6 0) = lrL H0 (hV H0 340) (flS (hV H0 296) (hV H0 298) (hV H0 300) (hV H0 301) (hV H0 302) (hV H0 340) (7 * (n2).toNat) 7 6 0) from by
    unfold lrL
    refine List.map_congr_left fun p _ => ?_
    rw [show recR H1 p.1 = recR H0 p.1 from recR_fr f10.1.2.1 (by decide +kernel) p.1]] at qs
  have m6 := (MTr mt).2.2.1
  exact qs sk (by rw [show mR H1 = mR H0 from (mR_fr f10.1.2.1 (by decide +kernel)).1]; exact mt) w.2.1 w.2.2.1 w.2.2.2 d0 w.1.2.2.2 (by omega) fb
def g_312w_s_1 : vG := ([(1310, [5, 0, 1, 2, 3], [1, 2], 0), (90, [5], [], -2147483648), (91, [5], [], 2147483647), (31, [4], [], 0), (1311, [4, 0, 1, 2, 3], [0, 1], 0), (90, [4], [], 0), (91, [4], [], 1), (6000, [0, 1, 2, 3], [0], 0), (0, [0], [], 285), (90, [1], [], -2147483648), (91, [1], [], 2147483647), (90, [2], [], -2147483648), (91, [2], [], 2147483647), (90, [3], [], -2147483648), (91, [3], [], 2147483647)], (3000, [5], [2], 21))
theorem c_312w_s_1 : vOkm T0 (eN e_312 L_312w A_312 mu_312 n_312 B_312 none) 4 g_312w_s_1 := vOk_inI fun ρ η f0 f1 f2 f3 f4 f5 f6 f7 f8 f9 f10 f11 f12 f13 f14 => q_312w_1 (n0 := ρ 3) (n1 := ρ 2) (n2 := ρ 1) (n3 := ρ 0) (n4 := ρ 4) (n5 := ρ 5) (H0 := η 0) (H1 := η 1) (H2 := η 2) f14 f13 f12 f11 f10 f9 f8 f7 f6 f5 f4 f3 f2 f1 f0
def p_312w_s : List vG := [g_312w_s_0,
  g_312w_s_1]
theorem r_312w_s : vCovBO (eR0 e_312 L_312 cs_312 2000) p_312w_s = true := by decide +kernel
theorem m_312w (d : Nat) : eC e_312w (d + 5) := eC_ref (e := e_312) (L := L_312) (L' := L_312w) (cs := cs_312) (n := 2000) (d := d + 4) (A := A_312) (μ := mu_312) (tp := true) (p0 := p_312_s) (p1 := p_312w_s) (N := n_312) (B := B_312) rfl ⟨m_310w d, ⟨m_311w (d + 1), trivial⟩⟩ rfl (.inl rfl) (by decide +kernel) (fun _ => post0_ok) r_312_s (allC c_312_s_0 (allC c_312_s_1 (allC c_312_s_2 (allC c_312_s_3 (allC c_312_s_4 allN))))) allN (sub1 (sub1 trivial)) r_312w_s (allC c_312w_s_0 (allC c_312w_s_1 allN)) allN
