/- Reader.check ([II)I, more fully -/
def nbo_60 (r a0 a1 a2 : Int) (h0 h : gH) : Prop := ∀ d : Int, d = hV h0 30 8 → RO h0 d → W49 h0 → RO h d ∧ OT h0 h d ∧ W49 h ∧ (r = 0 → (pTx (hV h0 8) a2).1 0 = 19 → RRe h d (pTx (hV h0 8) a2) (0, 0))
def no_60 : List Int → gH → gH → Prop := fun xs h0 h => match xs with
  | [r, a0, a1, a2] => nbo_60 r a0 a1 a2 h0 h
  | _ => True
noncomputable def e_60o : vE := eV e_60v no_60
noncomputable def L_60o : List vE := [e_61v, e_64v, e_66v, e_68v, e_69v, e_70v, e_72v, e_84o, e_125v]
def Bbo_60_15 (a0 a1 a2 x0 x1 x2 x3 : Int) (h0 h : gH) : Prop := ∀ d : Int, d = hV h0 30 8 → RO h0 d → W49 h0 → RO h d ∧ OT h0 h d ∧ W49 h ∧ True
def Bbo_60_55 (a0 a1 a2 x0 x1 x2 x3 : Int) (h0 h : gH) : Prop := ∀ d : Int, d = hV h0 30 8 → RO h0 d → W49 h0 → RO h d ∧ OT h0 h d ∧ W49 h ∧ True
def Bbo_60_89 (a0 a1 a2 x0 x1 x2 x3 : Int) (h0 h : gH) : Prop := ∀ d : Int, d = hV h0 30 8 → RO h0 d → W49 h0 → RO h d ∧ OT h0 h d ∧ W49 h ∧ ((pTx (hV h0 8) a2).1 0 = 19 → 0 ≤ (absC h).1 → (absC h).2 = 0 → RRe h d (pTx (hV h0 8) a2) (0, 0))
def Bo_60 : Int → List Int → gH → gH → Prop := fun c xs h0 h => match c.toNat with
  | 15 => (match xs with
    | [a0, a1, a2, x0, x1, x2, x3] => Bbo_60_15 a0 a1 a2 x0 x1 x2 x3 h0 h
    | _ => False)
  | 55 => (match xs with
    | [a0, a1, a2, x0, x1, x2, x3] => Bbo_60_55 a0 a1 a2 x0 x1 x2 x3 h0 h
    | _ => False)
  | 89 => (match xs with
    | [a0, a1, a2, x0, x1, x2, x3] => Bbo_60_89 a0 a1 a2 x0 x1 x2 x3 h0 h
    | _ => False)
  | _ => True
theorem q_60o_0 {n0 n1 n2 n3 n4 : Int} {H0 H1 H2 : gH} (f0 : n0 ≤ 2147483647) (f1 : (-2147483648) ≤ n0) (f2 : n1 = 30) (f3 : hWt T0 H0 ∧ preb_60v n1 n2 n0 H0) (f4 : n3 = 31) (f5 : hK H0 (n1).toNat = 4) (f6 : n3 = hV H0 (n1).toNat 0) (f7 : (hLe T0 H0 H1 ∧ hFr s_125v.2.2.2.2 H0 H1 ∧ ((0 : Int) = 0 → H1.length = H0.length) ∧ hWt T0 H1) ∧ postb_125v n3 n2 n0 H0 H1) (f8 : (hLe T0 H1 H2 ∧ hFr s_61v.2.2.2.2 H1 H2 ∧ ((0 : Int) = 0 → H2.length = H1.length) ∧ hWt T0 H2) ∧ postb_61v n1 H1 H2) (f9 : n4 = 0) : Bbo_60_15 n1 n2 n0 n1 n2 n0 n4 H0 H2 := by
  unfold Bbo_60_15
  intro d ed zo w49
  have kk := KO_sm zo (SMf_tr (SMf_fr f7.1.1 f7.1.2.1 (by decide +kernel) (by decide +kernel)) (SMf_fr f8.1.1 f8.1.2.1 (by decide +kernel) (by decide +kernel)))
  exact ⟨kk.1, kk.2.2.2, (W49_le f8.1.1 (W49_le f7.1.1 w49)), trivial⟩
def g_60o_s_0 : vG := ([(0, [4], [], 0), (1061, [0], [1, 2], 0), (1125, [3, 1, 2], [0, 1], 0), (20, [3, 0], [0], 0), (23, [0], [0], 4), (0, [3], [], 31), (6000, [0, 1, 2], [0], 0), (0, [0], [], 30), (90, [2], [], -2147483648), (91, [2], [], 2147483647)], (4000, [0, 1, 2, 4], [2], 15))
theorem c_60o_s_0 : vOkm T0 (eN e_60v L_60o A_60v mu_60v no_60 Bo_60 none) 3 g_60o_s_0 := vOk_inI fun ρ η f0 f1 f2 f3 f4 f5 f6 f7 f8 f9 => q_60o_0 (n0 := ρ 2) (n1 := ρ 0) (n2 := ρ 1) (n3 := ρ 3) (n4 := ρ 4) (H0 := η 0) (H1 := η 1) (H2 := η 2) f9 f8 f7 f6 f5 f4 f3 f2 f1 f0
def p_60o_s : List vG := [g_60o_s_0]
theorem r_60o_s : vCovBO (eR0 e_60v L_60v cs_60v 2000) p_60o_s = true := by decide +kernel
theorem q_60o_1 {q0 : Nat} {n0 n1 n2 n3 n4 n5 n6 n7 : Int} {H0 H1 : gH} (f0 : n0 ≤ 2147483647) (f1 : (-2147483648) ≤ n0) (f2 : n1 ≤ 2147483647) (f3 : (-2147483648) ≤ n1) (f4 : n2 = 30) (f5 : n3 ≤ 2147483647) (f6 : (-2147483648) ≤ n3) (f7 : n4 = 30) (f8 : (hLe T0 H0 H1 ∧ hFr s_60v.2.2.2.2 H0 H1 ∧ hWt T0 H1) ∧ ((Ab_60v_15 n4 n5 n3 n2 n6 n1 n0 H0 H1 ∧ Bbo_60_15 n4 n5 n3 n2 n6 n1 n0 H0 H1) ∧ preb_60v n4 n5 n3 H0) ∧ some q0 = some (mub_60v_15 n4 n5 n3 n2 n6 n1 n0 H0 H1)) (f9 : n7 = 6) (f10 : n7 < n0) : Bbo_60_55 n4 n5 n3 n2 n6 n1 n0 H0 H1 := by
  unfold Bbo_60_55
  intro d ed zo w49
  have gb := f8.2.1.1.2
  unfold Bbo_60_15 at gb
  obtain ⟨zr, ot, w1, k⟩ := gb d ed zo w49
  have e8 : hV H1 30 8 = d := (f8.1.2.1.1 30 8 (by decide +kernel)).trans ed.symm
  exact ⟨zr, ot, w1, trivial⟩
def g_60o_15_0 : vG := ([(44, [6, 7], [], 0), (0, [7], [], 6), (5000, [0, 1, 2, 3, 4, 5, 6], [0, 1], 15), (0, [0], [], 30), (90, [2], [], -2147483648), (91, [2], [], 2147483647), (0, [3], [], 30), (90, [5], [], -2147483648), (91, [5], [], 2147483647), (90, [6], [], -2147483648), (91, [6], [], 2147483647)], (4000, [3, 4, 5, 6], [1], 55))
theorem c_60o_15_0 {q0 : Nat} : vOkm T0 (eN e_60v L_60o A_60v mu_60v no_60 Bo_60 (some q0)) 3 g_60o_15_0 := vOk_inI fun ρ η f0 f1 f2 f3 f4 f5 f6 f7 f8 f9 f10 => q_60o_1 (q0 := q0) (n0 := ρ 6) (n1 := ρ 5) (n2 := ρ 3) (n3 := ρ 2) (n4 := ρ 0) (n5 := ρ 1) (n6 := ρ 4) (n7 := ρ 7) (H0 := η 0) (H1 := η 1) f10 f9 f8 f7 f6 f5 f4 f3 f2 f1 f0
theorem q_60o_2 {q0 : Nat} {n0 n1 n2 n3 n4 n5 n6 n7 n8 : Int} {H0 H1 : gH} (f0 : n0 ≤ 2147483647) (f1 : (-2147483648) ≤ n0) (f2 : n1 ≤ 2147483647) (f3 : (-2147483648) ≤ n1) (f4 : n2 = 30) (f5 : n3 ≤ 2147483647) (f6 : (-2147483648) ≤ n3) (f7 : n4 = 30) (f8 : (hLe T0 H0 H1 ∧ hFr s_60v.2.2.2.2 H0 H1 ∧ hWt T0 H1) ∧ ((Ab_60v_15 n4 n5 n3 n2 n6 n1 n0 H0 H1 ∧ Bbo_60_15 n4 n5 n3 n2 n6 n1 n0 H0 H1) ∧ preb_60v n4 n5 n3 H0) ∧ some q0 = some (mub_60v_15 n4 n5 n3 n2 n6 n1 n0 H0 H1)) (f9 : n7 = 6) (f10 : n0 ≤ n7) (f11 : n8 ≤ 2147483647) (f12 : (-2147483648) ≤ n8) (f13 : hK H1 (n2).toNat = 4) (f14 : n8 = hV H1 (n2).toNat 3) (f15 : n8 ≠ 0) : Bbo_60_55 n4 n5 n3 n2 n6 n1 n0 H0 H1 := by
  unfold Bbo_60_55
  intro d ed zo w49
  have gb := f8.2.1.1.2
  unfold Bbo_60_15 at gb
  obtain ⟨zr, ot, w1, k⟩ := gb d ed zo w49
  have e8 : hV H1 30 8 = d := (f8.1.2.1.1 30 8 (by decide +kernel)).trans ed.symm
  have r14 : n8 = hV H1 30 3 := by
    have w := f14
    rw [f4] at w
    exact w
  exact ⟨zr, ot, w1, trivial⟩
def g_60o_15_1 : vG := ([(31, [8], [], 0), (20, [8, 3], [1], 3), (23, [3], [1], 4), (90, [8], [], -2147483648), (91, [8], [], 2147483647), (45, [6, 7], [], 0), (0, [7], [], 6), (5000, [0, 1, 2, 3, 4, 5, 6], [0, 1], 15), (0, [0], [], 30), (90, [2], [], -2147483648), (91, [2], [], 2147483647), (0, [3], [], 30), (90, [5], [], -2147483648), (91, [5], [], 2147483647), (90, [6], [], -2147483648), (91, [6], [], 2147483647)], (4000, [3, 4, 5, 6], [1], 55))
theorem c_60o_15_1 {q0 : Nat} : vOkm T0 (eN e_60v L_60o A_60v mu_60v no_60 Bo_60 (some q0)) 3 g_60o_15_1 := vOk_inI fun ρ η f0 f1 f2 f3 f4 f5 f6 f7 f8 f9 f10 f11 f12 f13 f14 f15 => q_60o_2 (q0 := q0) (n0 := ρ 6) (n1 := ρ 5) (n2 := ρ 3) (n3 := ρ 2) (n4 := ρ 0) (n5 := ρ 1) (n6 := ρ 4) (n7 := ρ 7) (n8 := ρ 8) (H0 := η 0) (H1 := η 1) f15 f14 f13 f12 f11 f10 f9 f8 f7 f6 f5 f4 f3 f2 f1 f0
theorem q_60o_3 {q0 : Nat} {n0 n1 n2 n3 n4 n5 n6 n7 n8 n9 n10 : Int} {H0 H1 : gH} (f0 : n0 ≤ 2147483647) (f1 : (-2147483648) ≤ n0) (f2 : n1 ≤ 2147483647) (f3 : (-2147483648) ≤ n1) (f4 : n2 = 30) (f5 : n3 ≤ 2147483647) (f6 : (-2147483648) ≤ n3) (f7 : n4 = 30) (f8 : (hLe T0 H0 H1 ∧ hFr s_60v.2.2.2.2 H0 H1 ∧ hWt T0 H1) ∧ ((Ab_60v_15 n4 n5 n3 n2 n6 n1 n0 H0 H1 ∧ Bbo_60_15 n4 n5 n3 n2 n6 n1 n0 H0 H1) ∧ preb_60v n4 n5 n3 H0) ∧ some q0 = some (mub_60v_15 n4 n5 n3 n2 n6 n1 n0 H0 H1)) (f9 : n7 = 6) (f10 : n0 ≤ n7) (f11 : n8 ≤ 2147483647) (f12 : (-2147483648) ≤ n8) (f13 : hK H1 (n2).toNat = 4) (f14 : n8 = hV H1 (n2).toNat 3) (f15 : n8 = 0) (f16 : n9 ≤ 2147483647) (f17 : (-2147483648) ≤ n9) (f18 : hK H1 (n2).toNat = 4) (f19 : n9 = hV H1 (n2).toNat 2) (f20 : n10 = 16) (f21 : n9 ≠ n10) : Bbo_60_55 n4 n5 n3 n2 n6 n1 n0 H0 H1 := by
  unfold Bbo_60_55
  intro d ed zo w49
  have gb := f8.2.1.1.2
  unfold Bbo_60_15 at gb
  obtain ⟨zr, ot, w1, k⟩ := gb d ed zo w49
  have e8 : hV H1 30 8 = d := (f8.1.2.1.1 30 8 (by decide +kernel)).trans ed.symm
  have r14 : n8 = hV H1 30 3 := by
    have w := f14
    rw [f4] at w
    exact w
  have r19 : n9 = hV H1 30 2 := by
    have w := f19
    rw [f4] at w
    exact w
  exact ⟨zr, ot, w1, trivial⟩
def g_60o_15_2 : vG := ([(41, [9, 10], [], 0), (0, [10], [], 16), (20, [9, 3], [1], 2), (23, [3], [1], 4), (90, [9], [], -2147483648), (91, [9], [], 2147483647), (30, [8], [], 0), (20, [8, 3], [1], 3), (23, [3], [1], 4), (90, [8], [], -2147483648), (91, [8], [], 2147483647), (45, [6, 7], [], 0), (0, [7], [], 6), (5000, [0, 1, 2, 3, 4, 5, 6], [0, 1], 15), (0, [0], [], 30), (90, [2], [], -2147483648), (91, [2], [], 2147483647), (0, [3], [], 30), (90, [5], [], -2147483648), (91, [5], [], 2147483647), (90, [6], [], -2147483648), (91, [6], [], 2147483647)], (4000, [3, 4, 5, 6], [1], 55))
theorem c_60o_15_2 {q0 : Nat} : vOkm T0 (eN e_60v L_60o A_60v mu_60v no_60 Bo_60 (some q0)) 3 g_60o_15_2 := vOk_inI fun ρ η f0 f1 f2 f3 f4 f5 f6 f7 f8 f9 f10 f11 f12 f13 f14 f15 f16 f17 f18 f19 f20 f21 => q_60o_3 (q0 := q0) (n0 := ρ 6) (n1 := ρ 5) (n2 := ρ 3) (n3 := ρ 2) (n4 := ρ 0) (n5 := ρ 1) (n6 := ρ 4) (n7 := ρ 7) (n8 := ρ 8) (n9 := ρ 9) (n10 := ρ 10) (H0 := η 0) (H1 := η 1) f21 f20 f19 f18 f17 f16 f15 f14 f13 f12 f11 f10 f9 f8 f7 f6 f5 f4 f3 f2 f1 f0
theorem q_60o_4 {q0 : Nat} {n0 n1 n2 n3 n4 n5 n6 n7 n8 n9 n10 n11 : Int} {H0 H1 H2 H3 H4 : gH} (f0 : n0 ≤ 2147483647) (f1 : (-2147483648) ≤ n0) (f2 : n1 ≤ 2147483647) (f3 : (-2147483648) ≤ n1) (f4 : n2 = 30) (f5 : n3 ≤ 2147483647) (f6 : (-2147483648) ≤ n3) (f7 : n4 = 30) (f8 : (hLe T0 H0 H1 ∧ hFr s_60v.2.2.2.2 H0 H1 ∧ hWt T0 H1) ∧ ((Ab_60v_15 n4 n5 n3 n2 n6 n1 n0 H0 H1 ∧ Bbo_60_15 n4 n5 n3 n2 n6 n1 n0 H0 H1) ∧ preb_60v n4 n5 n3 H0) ∧ some q0 = some (mub_60v_15 n4 n5 n3 n2 n6 n1 n0 H0 H1)) (f9 : n7 = 6) (f10 : n0 ≤ n7) (f11 : n8 ≤ 2147483647) (f12 : (-2147483648) ≤ n8) (f13 : hK H1 (n2).toNat = 4) (f14 : n8 = hV H1 (n2).toNat 3) (f15 : n8 = 0) (f16 : n9 ≤ 2147483647) (f17 : (-2147483648) ≤ n9) (f18 : hK H1 (n2).toNat = 4) (f19 : n9 = hV H1 (n2).toNat 2) (f20 : n10 = 16) (f21 : n9 = n10) (f22 : (hLe T0 H1 H2 ∧ hFr s_68v.2.2.2.2 H1 H2 ∧ ((0 : Int) = 0 → H2.length = H1.length) ∧ hWt T0 H2) ∧ postb_68v n2 H1 H2) (f23 : (hLe T0 H2 H3 ∧ hFr s_72v.2.2.2.2 H2 H3 ∧ ((0 : Int) = 0 → H3.length = H2.length) ∧ hWt T0 H3) ∧ postb_72v n2 H2 H3) (f24 : (hLe T0 H3 H4 ∧ hFr s_69v.2.2.2.2 H3 H4 ∧ ((0 : Int) = 0 → H4.length = H3.length) ∧ hWt T0 H4) ∧ postb_69v n2 H3 H4) (f25 : n11 = w32 (n0 + 1)) : Bbo_60_15 n4 n5 n3 n2 n6 n1 n11 H0 H4 := by
  unfold Bbo_60_15
  intro d ed zo w49
  have gb := f8.2.1.1.2
  unfold Bbo_60_15 at gb
  obtain ⟨zr, ot, w1, k⟩ := gb d ed zo w49
  have e8 : hV H1 30 8 = d := (f8.1.2.1.1 30 8 (by decide +kernel)).trans ed.symm
  have r14 : n8 = hV H1 30 3 := by
    have w := f14
    rw [f4] at w
    exact w
  have r19 : n9 = hV H1 30 2 := by
    have w := f19
    rw [f4] at w
    exact w
  have kk := KO_sm zr (SMf_tr (SMf_fr f22.1.1 f22.1.2.1 (by decide +kernel) (by decide +kernel)) (SMf_tr (SMf_fr f23.1.1 f23.1.2.1 (by decide +kernel) (by decide +kernel)) (SMf_fr f24.1.1 f24.1.2.1 (by decide +kernel) (by decide +kernel))))
  exact ⟨kk.1, OT_tr ot kk.2.2.2, (W49_le f24.1.1 (W49_le f23.1.1 (W49_le f22.1.1 w1))), trivial⟩
def g_60o_15_3 : vG := ([(10, [11, 6], [], 1), (1069, [3], [3, 4], 0), (1072, [3], [2, 3], 0), (1068, [3], [1, 2], 0), (40, [9, 10], [], 0), (0, [10], [], 16), (20, [9, 3], [1], 2), (23, [3], [1], 4), (90, [9], [], -2147483648), (91, [9], [], 2147483647), (30, [8], [], 0), (20, [8, 3], [1], 3), (23, [3], [1], 4), (90, [8], [], -2147483648), (91, [8], [], 2147483647), (45, [6, 7], [], 0), (0, [7], [], 6), (5000, [0, 1, 2, 3, 4, 5, 6], [0, 1], 15), (0, [0], [], 30), (90, [2], [], -2147483648), (91, [2], [], 2147483647), (0, [3], [], 30), (90, [5], [], -2147483648), (91, [5], [], 2147483647), (90, [6], [], -2147483648), (91, [6], [], 2147483647)], (4000, [3, 4, 5, 11], [4], 15))
theorem c_60o_15_3 {q0 : Nat} : vOkm T0 (eN e_60v L_60o A_60v mu_60v no_60 Bo_60 (some q0)) 3 g_60o_15_3 := vOk_inI fun ρ η f0 f1 f2 f3 f4 f5 f6 f7 f8 f9 f10 f11 f12 f13 f14 f15 f16 f17 f18 f19 f20 f21 f22 f23 f24 f25 => q_60o_4 (q0 := q0) (n0 := ρ 6) (n1 := ρ 5) (n2 := ρ 3) (n3 := ρ 2) (n4 := ρ 0) (n5 := ρ 1) (n6 := ρ 4) (n7 := ρ 7) (n8 := ρ 8) (n9 := ρ 9) (n10 := ρ 10) (n11 := ρ 11) (H0 := η 0) (H1 := η 1) (H2 := η 2) (H3 := η 3) (H4 := η 4) f25 f24 f23 f22 f21 f20 f19 f18 f17 f16 f15 f14 f13 f12 f11 f10 f9 f8 f7 f6 f5 f4 f3 f2 f1 f0
def p_60o_15 : List vG := [g_60o_15_0,
  g_60o_15_1,
  g_60o_15_2,
  g_60o_15_3]
theorem r_60o_15 : vCovBO (eRc e_60v L_60v cs_60v 2000 (15, [(0, (3, 4, 30, 0)), (1, (2, 692, -1, 0)), (2, (0, -2147483648, 2147483647, 0)), (3, (0, -2147483648, 2147483647, 0))])) p_60o_15 = true := by decide +kernel
theorem q_60o_5 {q0 : Nat} {n0 n1 n2 n3 n4 n5 n6 n7 n8 n9 : Int} {H0 H1 H2 H3 H4 : gH} (f0 : n0 ≤ 2147483647) (f1 : (-2147483648) ≤ n0) (f2 : n1 ≤ 2147483647) (f3 : (-2147483648) ≤ n1) (f4 : n2 = 30) (f5 : n3 ≤ 2147483647) (f6 : (-2147483648) ≤ n3) (f7 : n4 = 30) (f8 : (hLe T0 H0 H1 ∧ hFr s_60v.2.2.2.2 H0 H1 ∧ hWt T0 H1) ∧ ((Ab_60v_55 n4 n5 n3 n2 n6 n1 n0 H0 H1 ∧ Bbo_60_55 n4 n5 n3 n2 n6 n1 n0 H0 H1) ∧ preb_60v n4 n5 n3 H0) ∧ some q0 = some (mub_60v_55 n4 n5 n3 n2 n6 n1 n0 H0 H1)) (f9 : n7 ≤ 1) (f10 : 0 ≤ n7) (f11 : hK H1 (n2).toNat = 4) (f12 : n7 = hV H1 (n2).toNat 7) (f13 : n7 = 0) (f14 : n8 ≤ 2147483647) (f15 : (-2147483648) ≤ n8) (f16 : hK H1 (n2).toNat = 4) (f17 : n8 = hV H1 (n2).toNat 1) (f18 : n9 = 18) (f19 : (hLe T0 H1 H2 ∧ hFr s_66v.2.2.2.2 H1 H2 ∧ ((0 : Int) = 0 → H2.length = H1.length) ∧ hWt T0 H2) ∧ postb_66v n2 n9 H1 H2) (f20 : (hLe T0 H2 H3 ∧ hFr s_72v.2.2.2.2 H2 H3 ∧ ((0 : Int) = 0 → H3.length = H2.length) ∧ hWt T0 H3) ∧ postb_72v n2 H2 H3) (f21 : (hLe T0 H3 H4 ∧ hFr s_70v.2.2.2.2 H3 H4 ∧ ((0 : Int) = 0 → H4.length = H3.length) ∧ hWt T0 H4) ∧ postb_70v n2 n8 H3 H4) : Bbo_60_89 n4 n5 n3 n2 n6 n1 n8 H0 H4 := by
  unfold Bbo_60_89
  intro d ed zo w49
  have gb := f8.2.1.1.2
  unfold Bbo_60_55 at gb
  obtain ⟨zr, ot, w1, k⟩ := gb d ed zo w49
  have e8 : hV H1 30 8 = d := (f8.1.2.1.1 30 8 (by decide +kernel)).trans ed.symm
  have r12 : n7 = hV H1 30 7 := by
    have w := f12
    rw [f4] at w
    exact w
  have r17 : n8 = hV H1 30 1 := by
    have w := f17
    rw [f4] at w
    exact w
  have ga := f8.2.1.1.1
  unfold Ab_60v_55 at ga
  obtain ⟨kz, bz, cz, dz, vz, wz, ir, yb, yt⟩ := ga
  have kk := KO_sm zr (SMf_tr (SMf_fr f19.1.1 f19.1.2.1 (by decide +kernel) (by decide +kernel)) (SMf_tr (SMf_fr f20.1.1 f20.1.2.1 (by decide +kernel) (by decide +kernel)) (SMf_fr f21.1.1 f21.1.2.1 (by decide +kernel) (by decide +kernel))))
  exact ⟨kk.1, OT_tr ot kk.2.2.2, (W49_le f21.1.1 (W49_le f20.1.1 (W49_le f19.1.1 w1))), fun k19 => by
    exfalso
    rcases ir with q | q
    · have := q.1
      omega
    · exact q.2 k19⟩
def g_60o_55_0 : vG := ([(1070, [3, 8], [3, 4], 0), (1072, [3], [2, 3], 0), (1066, [3, 9], [1, 2], 0), (0, [9], [], 18), (20, [8, 3], [1], 1), (23, [3], [1], 4), (90, [8], [], -2147483648), (91, [8], [], 2147483647), (30, [7], [], 0), (20, [7, 3], [1], 7), (23, [3], [1], 4), (90, [7], [], 0), (91, [7], [], 1), (5000, [0, 1, 2, 3, 4, 5, 6], [0, 1], 55), (0, [0], [], 30), (90, [2], [], -2147483648), (91, [2], [], 2147483647), (0, [3], [], 30), (90, [5], [], -2147483648), (91, [5], [], 2147483647), (90, [6], [], -2147483648), (91, [6], [], 2147483647)], (4000, [3, 4, 5, 8], [4], 89))
theorem c_60o_55_0 {q0 : Nat} : vOkm T0 (eN e_60v L_60o A_60v mu_60v no_60 Bo_60 (some q0)) 3 g_60o_55_0 := vOk_inI fun ρ η f0 f1 f2 f3 f4 f5 f6 f7 f8 f9 f10 f11 f12 f13 f14 f15 f16 f17 f18 f19 f20 f21 => q_60o_5 (q0 := q0) (n0 := ρ 6) (n1 := ρ 5) (n2 := ρ 3) (n3 := ρ 2) (n4 := ρ 0) (n5 := ρ 1) (n6 := ρ 4) (n7 := ρ 7) (n8 := ρ 8) (n9 := ρ 9) (H0 := η 0) (H1 := η 1) (H2 := η 2) (H3 := η 3) (H4 := η 4) f21 f20 f19 f18 f17 f16 f15 f14 f13 f12 f11 f10 f9 f8 f7 f6 f5 f4 f3 f2 f1 f0
theorem q_60o_6 {q0 : Nat} {n0 n1 n2 n3 n4 n5 n6 n7 : Int} {H0 H1 H2 : gH} (f0 : n0 ≤ 2147483647) (f1 : (-2147483648) ≤ n0) (f2 : n1 ≤ 2147483647) (f3 : (-2147483648) ≤ n1) (f4 : n2 = 30) (f5 : n3 ≤ 2147483647) (f6 : (-2147483648) ≤ n3) (f7 : n4 = 30) (f8 : (hLe T0 H0 H1 ∧ hFr s_60v.2.2.2.2 H0 H1 ∧ hWt T0 H1) ∧ ((Ab_60v_55 n4 n5 n3 n2 n6 n1 n0 H0 H1 ∧ Bbo_60_55 n4 n5 n3 n2 n6 n1 n0 H0 H1) ∧ preb_60v n4 n5 n3 H0) ∧ some q0 = some (mub_60v_55 n4 n5 n3 n2 n6 n1 n0 H0 H1)) (f9 : n7 ≤ 1) (f10 : 0 ≤ n7) (f11 : hK H1 (n2).toNat = 4) (f12 : n7 = hV H1 (n2).toNat 7) (f13 : n7 ≠ 0) (f14 : (hLe T0 H1 H2 ∧ hFr s_84v.2.2.2.2 H1 H2 ∧ ((0 : Int) = 0 → H2.length = H1.length) ∧ hWt T0 H2) ∧ (postb_84v n2 H1 H2 ∧ nbo_84 n2 H1 H2)) : Bbo_60_89 n4 n5 n3 n2 n6 n1 n0 H0 H2 := by
  unfold Bbo_60_89
  intro d ed zo w49
  have gb := f8.2.1.1.2
  unfold Bbo_60_55 at gb
  obtain ⟨zr, ot, w1, k⟩ := gb d ed zo w49
  have e8 : hV H1 30 8 = d := (f8.1.2.1.1 30 8 (by decide +kernel)).trans ed.symm
  have r12 : n7 = hV H1 30 7 := by
    have w := f12
    rw [f4] at w
    exact w
  have ga := f8.2.1.1.1
  unfold Ab_60v_55 at ga
  obtain ⟨kz, bz, cz, dz, vz, wz, ir, yb, yt⟩ := ga
  have rq := f14.2.2
  unfold nbo_84 at rq
  obtain ⟨g1, g2, g3, gr⟩ := rq d (show hV H1 30 8 = d from e8).symm zr w1
  refine ⟨g1, OT_tr ot g2, g3, fun k19 hp h2 => ?_⟩
  have z0 : absC H1 = (0, 0) := by
    rw [yb]
    exact pBlocks_stop (by show ¬ (pTx (hV H0 8) n3).1 0 = 16; omega)
  have y := gr hp h2
  rw [vz, z0] at y
  exact y
def g_60o_55_1 : vG := ([(1084, [3], [1, 2], 0), (31, [7], [], 0), (20, [7, 3], [1], 7), (23, [3], [1], 4), (90, [7], [], 0), (91, [7], [], 1), (5000, [0, 1, 2, 3, 4, 5, 6], [0, 1], 55), (0, [0], [], 30), (90, [2], [], -2147483648), (91, [2], [], 2147483647), (0, [3], [], 30), (90, [5], [], -2147483648), (91, [5], [], 2147483647), (90, [6], [], -2147483648), (91, [6], [], 2147483647)], (4000, [3, 4, 5, 6], [2], 89))
theorem c_60o_55_1 {q0 : Nat} : vOkm T0 (eN e_60v L_60o A_60v mu_60v no_60 Bo_60 (some q0)) 3 g_60o_55_1 := vOk_inI fun ρ η f0 f1 f2 f3 f4 f5 f6 f7 f8 f9 f10 f11 f12 f13 f14 => q_60o_6 (q0 := q0) (n0 := ρ 6) (n1 := ρ 5) (n2 := ρ 3) (n3 := ρ 2) (n4 := ρ 0) (n5 := ρ 1) (n6 := ρ 4) (n7 := ρ 7) (H0 := η 0) (H1 := η 1) (H2 := η 2) f14 f13 f12 f11 f10 f9 f8 f7 f6 f5 f4 f3 f2 f1 f0
def p_60o_55 : List vG := [g_60o_55_0,
  g_60o_55_1]
theorem r_60o_55 : vCovBO (eRc e_60v L_60v cs_60v 2000 (55, [(0, (3, 4, 30, 0)), (1, (2, 692, -1, 0)), (2, (0, -2147483648, 2147483647, 0)), (3, (0, -2147483648, 2147483647, 0))])) p_60o_55 = true := by decide +kernel
theorem q_60o_7 {q0 : Nat} {n0 n1 n2 n3 n4 n5 n6 n7 n8 n9 : Int} {H0 H1 : gH} (f0 : n0 ≤ 2147483647) (f1 : (-2147483648) ≤ n0) (f2 : n1 ≤ 2147483647) (f3 : (-2147483648) ≤ n1) (f4 : n2 = 30) (f5 : n3 ≤ 2147483647) (f6 : (-2147483648) ≤ n3) (f7 : n4 = 30) (f8 : (hLe T0 H0 H1 ∧ hFr s_60v.2.2.2.2 H0 H1 ∧ hWt T0 H1) ∧ ((Ab_60v_89 n4 n5 n3 n2 n6 n1 n0 H0 H1 ∧ Bbo_60_89 n4 n5 n3 n2 n6 n1 n0 H0 H1) ∧ preb_60v n4 n5 n3 H0) ∧ some q0 = some (mub_60v_89 n4 n5 n3 n2 n6 n1 n0 H0 H1)) (f9 : n7 ≤ 2147483647) (f10 : (-2147483648) ≤ n7) (f11 : hK H1 (n2).toNat = 4) (f12 : n7 = hV H1 (n2).toNat 2) (f13 : n7 = 0) (f14 : n8 ≤ 2147483647) (f15 : (-2147483648) ≤ n8) (f16 : hK H1 (n2).toNat = 4) (f17 : n8 = hV H1 (n2).toNat 3) (f18 : n8 ≠ 0) (f19 : n9 ≤ 2147483647) (f20 : (-2147483648) ≤ n9) (f21 : hK H1 (n2).toNat = 4) (f22 : n9 = hV H1 (n2).toNat 3) : nbo_60 n9 n4 n5 n3 H0 H1 := by
  unfold nbo_60
  intro d ed zo w49
  have gb := f8.2.1.1.2
  unfold Bbo_60_89 at gb
  obtain ⟨zr, ot, w1, k⟩ := gb d ed zo w49
  have e8 : hV H1 30 8 = d := (f8.1.2.1.1 30 8 (by decide +kernel)).trans ed.symm
  have r12 : n7 = hV H1 30 2 := by
    have w := f12
    rw [f4] at w
    exact w
  have r17 : n8 = hV H1 30 3 := by
    have w := f17
    rw [f4] at w
    exact w
  have r22 : n9 = hV H1 30 3 := by
    have w := f22
    rw [f4] at w
    exact w
  have ga := f8.2.1.1.1
  unfold Ab_60v_89 at ga
  obtain ⟨kz, vz, wz, ir, yb⟩ := ga
  exact ⟨zr, ot, w1, fun w => by omega⟩
def g_60o_89_0 : vG := ([(20, [9, 3], [1], 3), (23, [3], [1], 4), (90, [9], [], -2147483648), (91, [9], [], 2147483647), (31, [8], [], 0), (20, [8, 3], [1], 3), (23, [3], [1], 4), (90, [8], [], -2147483648), (91, [8], [], 2147483647), (30, [7], [], 0), (20, [7, 3], [1], 2), (23, [3], [1], 4), (90, [7], [], -2147483648), (91, [7], [], 2147483647), (5000, [0, 1, 2, 3, 4, 5, 6], [0, 1], 89), (0, [0], [], 30), (90, [2], [], -2147483648), (91, [2], [], 2147483647), (0, [3], [], 30), (90, [5], [], -2147483648), (91, [5], [], 2147483647), (90, [6], [], -2147483648), (91, [6], [], 2147483647)], (3000, [9], [1], 128))
theorem c_60o_89_0 {q0 : Nat} : vOkm T0 (eN e_60v L_60o A_60v mu_60v no_60 Bo_60 (some q0)) 3 g_60o_89_0 := vOk_inI fun ρ η f0 f1 f2 f3 f4 f5 f6 f7 f8 f9 f10 f11 f12 f13 f14 f15 f16 f17 f18 f19 f20 f21 f22 => q_60o_7 (q0 := q0) (n0 := ρ 6) (n1 := ρ 5) (n2 := ρ 3) (n3 := ρ 2) (n4 := ρ 0) (n5 := ρ 1) (n6 := ρ 4) (n7 := ρ 7) (n8 := ρ 8) (n9 := ρ 9) (H0 := η 0) (H1 := η 1) f22 f21 f20 f19 f18 f17 f16 f15 f14 f13 f12 f11 f10 f9 f8 f7 f6 f5 f4 f3 f2 f1 f0
theorem q_60o_8 {q0 : Nat} {n0 n1 n2 n3 n4 n5 n6 n7 n8 n9 n10 n11 n12 n13 : Int} {H0 H1 H2 H3 : gH} (f0 : n0 ≤ 2147483647) (f1 : (-2147483648) ≤ n0) (f2 : n1 ≤ 2147483647) (f3 : (-2147483648) ≤ n1) (f4 : n2 = 30) (f5 : n3 ≤ 2147483647) (f6 : (-2147483648) ≤ n3) (f7 : n4 = 30) (f8 : (hLe T0 H0 H1 ∧ hFr s_60v.2.2.2.2 H0 H1 ∧ hWt T0 H1) ∧ ((Ab_60v_89 n4 n5 n3 n2 n6 n1 n0 H0 H1 ∧ Bbo_60_89 n4 n5 n3 n2 n6 n1 n0 H0 H1) ∧ preb_60v n4 n5 n3 H0) ∧ some q0 = some (mub_60v_89 n4 n5 n3 n2 n6 n1 n0 H0 H1)) (f9 : n7 ≤ 2147483647) (f10 : (-2147483648) ≤ n7) (f11 : hK H1 (n2).toNat = 4) (f12 : n7 = hV H1 (n2).toNat 2) (f13 : n7 = 0) (f14 : n8 ≤ 2147483647) (f15 : (-2147483648) ≤ n8) (f16 : hK H1 (n2).toNat = 4) (f17 : n8 = hV H1 (n2).toNat 3) (f18 : n8 = 0) (f19 : n9 ≤ 2147483647) (f20 : (-2147483648) ≤ n9) (f21 : hK H1 (n2).toNat = 4) (f22 : n9 = hV H1 (n2).toNat 5) (f23 : hK H1 (n2).toNat = 4) (f24 : n10 = 3) (f25 : hUpd H2 H1 n2 n10 n9) (f26 : n11 ≤ 2147483647) (f27 : (-2147483648) ≤ n11) (f28 : hK H2 (n2).toNat = 4) (f29 : n11 = hV H2 (n2).toNat 6) (f30 : hK H2 (n2).toNat = 4) (f31 : n12 = 4) (f32 : hUpd H3 H2 n2 n12 n11) (f33 : n13 ≤ 2147483647) (f34 : (-2147483648) ≤ n13) (f35 : hK H3 (n2).toNat = 4) (f36 : n13 = hV H3 (n2).toNat 3) : nbo_60 n13 n4 n5 n3 H0 H3 := by
  unfold nbo_60
  intro d ed zo w49
  have gb := f8.2.1.1.2
  unfold Bbo_60_89 at gb
  obtain ⟨zr, ot, w1, k⟩ := gb d ed zo w49
  have e8 : hV H1 30 8 = d := (f8.1.2.1.1 30 8 (by decide +kernel)).trans ed.symm
  have r12 : n7 = hV H1 30 2 := by
    have w := f12
    rw [f4] at w
    exact w
  have r17 : n8 = hV H1 30 3 := by
    have w := f17
    rw [f4] at w
    exact w
  have r22 : n9 = hV H1 30 5 := by
    have w := f22
    rw [f4] at w
    exact w
  have r29 : n11 = hV H2 30 6 := by
    have w := f29
    rw [f4] at w
    exact w
  have r36 : n13 = hV H3 30 3 := by
    have w := f36
    rw [f4] at w
    exact w
  have ga := f8.2.1.1.1
  unfold Ab_60v_89 at ga
  obtain ⟨kz, vz, wz, ir, yb⟩ := ga
  have k30 := kz.1.1
  have k30b : hK H2 30 = 4 := kUp f25 k30
  have ka := KO_rd zr k30 f25 f4
  have kb := KO_rd ka.1 k30b f32 f4
  refine ⟨kb.1, OT_tr ot (OT_tr ka.2.2.2 kb.2.2.2), W49_up f32 (W49_up f25 w1), fun hr k19 => ?_⟩
  have w3 : hV H3 30 3 = n9 := (uSlot f32 30 3 (by rw [f31]; decide)).trans (uSame f25 30 3 (by rw [f4]; rfl) (by rw [f24]; rfl))
  have hf : hV H1 30 3 = 0 := by omega
  have l5 : hV H1 30 5 = 0 := by omega
  have ap := absC_pos kz hf
  have y := k k19 ap.2 (absC_2 hf l5)
  obtain ⟨R, r1, r2, r3⟩ := y
  have e1 : ∀ q : Nat, ¬ q = 30 → hV H3 q = hV H1 q := fun q n => (uRowNe f32 q (by rw [f4]; omega)).trans (uRowNe f25 q (by rw [f4]; omega))
  have dz_ := zr.1
  exact ⟨R, RLo_eq (fun j j1 j2 => e1 _ (by omega)) (congrFun (e1 _ (by omega)) 0) r1, r2, r3⟩
def g_60o_89_1 : vG := ([(20, [13, 3], [3], 3), (23, [3], [3], 4), (90, [13], [], -2147483648), (91, [13], [], 2147483647), (80, [3, 12, 11], [3, 2], 0), (0, [12], [], 4), (23, [3], [2], 4), (20, [11, 3], [2], 6), (23, [3], [2], 4), (90, [11], [], -2147483648), (91, [11], [], 2147483647), (80, [3, 10, 9], [2, 1], 0), (0, [10], [], 3), (23, [3], [1], 4), (20, [9, 3], [1], 5), (23, [3], [1], 4), (90, [9], [], -2147483648), (91, [9], [], 2147483647), (30, [8], [], 0), (20, [8, 3], [1], 3), (23, [3], [1], 4), (90, [8], [], -2147483648), (91, [8], [], 2147483647), (30, [7], [], 0), (20, [7, 3], [1], 2), (23, [3], [1], 4), (90, [7], [], -2147483648), (91, [7], [], 2147483647), (5000, [0, 1, 2, 3, 4, 5, 6], [0, 1], 89), (0, [0], [], 30), (90, [2], [], -2147483648), (91, [2], [], 2147483647), (0, [3], [], 30), (90, [5], [], -2147483648), (91, [5], [], 2147483647), (90, [6], [], -2147483648), (91, [6], [], 2147483647)], (3000, [13], [3], 128))
theorem c_60o_89_1 {q0 : Nat} : vOkm T0 (eN e_60v L_60o A_60v mu_60v no_60 Bo_60 (some q0)) 3 g_60o_89_1 := vOk_inI fun ρ η f0 f1 f2 f3 f4 f5 f6 f7 f8 f9 f10 f11 f12 f13 f14 f15 f16 f17 f18 f19 f20 f21 f22 f23 f24 f25 f26 f27 f28 f29 f30 f31 f32 f33 f34 f35 f36 => q_60o_8 (q0 := q0) (n0 := ρ 6) (n1 := ρ 5) (n2 := ρ 3) (n3 := ρ 2) (n4 := ρ 0) (n5 := ρ 1) (n6 := ρ 4) (n7 := ρ 7) (n8 := ρ 8) (n9 := ρ 9) (n10 := ρ 10) (n11 := ρ 11) (n12 := ρ 12) (n13 := ρ 13) (H0 := η 0) (H1 := η 1) (H2 := η 2) (H3 := η 3) f36 f35 f34 f33 f32 f31 f30 f29 f28 f27 f26 f25 f24 f23 f22 f21 f20 f19 f18 f17 f16 f15 f14 f13 f12 f11 f10 f9 f8 f7 f6 f5 f4 f3 f2 f1 f0
theorem q_60o_9 {q0 : Nat} {n0 n1 n2 n3 n4 n5 n6 n7 n8 n9 n10 : Int} {H0 H1 H2 : gH} (f0 : n0 ≤ 2147483647) (f1 : (-2147483648) ≤ n0) (f2 : n1 ≤ 2147483647) (f3 : (-2147483648) ≤ n1) (f4 : n2 = 30) (f5 : n3 ≤ 2147483647) (f6 : (-2147483648) ≤ n3) (f7 : n4 = 30) (f8 : (hLe T0 H0 H1 ∧ hFr s_60v.2.2.2.2 H0 H1 ∧ hWt T0 H1) ∧ ((Ab_60v_89 n4 n5 n3 n2 n6 n1 n0 H0 H1 ∧ Bbo_60_89 n4 n5 n3 n2 n6 n1 n0 H0 H1) ∧ preb_60v n4 n5 n3 H0) ∧ some q0 = some (mub_60v_89 n4 n5 n3 n2 n6 n1 n0 H0 H1)) (f9 : n7 ≤ 2147483647) (f10 : (-2147483648) ≤ n7) (f11 : hK H1 (n2).toNat = 4) (f12 : n7 = hV H1 (n2).toNat 2) (f13 : n7 ≠ 0) (f14 : n8 = 1) (f15 : (hLe T0 H1 H2 ∧ hFr s_64v.2.2.2.2 H1 H2 ∧ ((0 : Int) = 0 → H2.length = H1.length) ∧ hWt T0 H2) ∧ postb_64v n2 n8 H1 H2) (f16 : n9 ≤ 2147483647) (f17 : (-2147483648) ≤ n9) (f18 : hK H2 (n2).toNat = 4) (f19 : n9 = hV H2 (n2).toNat 3) (f20 : n9 ≠ 0) (f21 : n10 ≤ 2147483647) (f22 : (-2147483648) ≤ n10) (f23 : hK H2 (n2).toNat = 4) (f24 : n10 = hV H2 (n2).toNat 3) : nbo_60 n10 n4 n5 n3 H0 H2 := by
  unfold nbo_60
  intro d ed zo w49
  have gb := f8.2.1.1.2
  unfold Bbo_60_89 at gb
  obtain ⟨zr, ot, w1, k⟩ := gb d ed zo w49
  have e8 : hV H1 30 8 = d := (f8.1.2.1.1 30 8 (by decide +kernel)).trans ed.symm
  have r12 : n7 = hV H1 30 2 := by
    have w := f12
    rw [f4] at w
    exact w
  have r19 : n9 = hV H2 30 3 := by
    have w := f19
    rw [f4] at w
    exact w
  have r24 : n10 = hV H2 30 3 := by
    have w := f24
    rw [f4] at w
    exact w
  have ga := f8.2.1.1.1
  unfold Ab_60v_89 at ga
  obtain ⟨kz, vz, wz, ir, yb⟩ := ga
  have kk := KO_sm zr (SMf_fr f15.1.1 f15.1.2.1 (by decide +kernel) (by decide +kernel))
  exact ⟨kk.1, OT_tr ot kk.2.2.2, (W49_le f15.1.1 w1), fun w => by omega⟩
def g_60o_89_2 : vG := ([(20, [10, 3], [2], 3), (23, [3], [2], 4), (90, [10], [], -2147483648), (91, [10], [], 2147483647), (31, [9], [], 0), (20, [9, 3], [2], 3), (23, [3], [2], 4), (90, [9], [], -2147483648), (91, [9], [], 2147483647), (1064, [3, 8], [1, 2], 0), (0, [8], [], 1), (31, [7], [], 0), (20, [7, 3], [1], 2), (23, [3], [1], 4), (90, [7], [], -2147483648), (91, [7], [], 2147483647), (5000, [0, 1, 2, 3, 4, 5, 6], [0, 1], 89), (0, [0], [], 30), (90, [2], [], -2147483648), (91, [2], [], 2147483647), (0, [3], [], 30), (90, [5], [], -2147483648), (91, [5], [], 2147483647), (90, [6], [], -2147483648), (91, [6], [], 2147483647)], (3000, [10], [2], 128))
theorem c_60o_89_2 {q0 : Nat} : vOkm T0 (eN e_60v L_60o A_60v mu_60v no_60 Bo_60 (some q0)) 3 g_60o_89_2 := vOk_inI fun ρ η f0 f1 f2 f3 f4 f5 f6 f7 f8 f9 f10 f11 f12 f13 f14 f15 f16 f17 f18 f19 f20 f21 f22 f23 f24 => q_60o_9 (q0 := q0) (n0 := ρ 6) (n1 := ρ 5) (n2 := ρ 3) (n3 := ρ 2) (n4 := ρ 0) (n5 := ρ 1) (n6 := ρ 4) (n7 := ρ 7) (n8 := ρ 8) (n9 := ρ 9) (n10 := ρ 10) (H0 := η 0) (H1 := η 1) (H2 := η 2) f24 f23 f22 f21 f20 f19 f18 f17 f16 f15 f14 f13 f12 f11 f10 f9 f8 f7 f6 f5 f4 f3 f2 f1 f0
theorem q_60o_10 {q0 : Nat} {n0 n1 n2 n3 n4 n5 n6 n7 n8 n9 n10 n11 n12 n13 n14 : Int} {H0 H1 H2 H3 H4 : gH} (f0 : n0 ≤ 2147483647) (f1 : (-2147483648) ≤ n0) (f2 : n1 ≤ 2147483647) (f3 : (-2147483648) ≤ n1) (f4 : n2 = 30) (f5 : n3 ≤ 2147483647) (f6 : (-2147483648) ≤ n3) (f7 : n4 = 30) (f8 : (hLe T0 H0 H1 ∧ hFr s_60v.2.2.2.2 H0 H1 ∧ hWt T0 H1) ∧ ((Ab_60v_89 n4 n5 n3 n2 n6 n1 n0 H0 H1 ∧ Bbo_60_89 n4 n5 n3 n2 n6 n1 n0 H0 H1) ∧ preb_60v n4 n5 n3 H0) ∧ some q0 = some (mub_60v_89 n4 n5 n3 n2 n6 n1 n0 H0 H1)) (f9 : n7 ≤ 2147483647) (f10 : (-2147483648) ≤ n7) (f11 : hK H1 (n2).toNat = 4) (f12 : n7 = hV H1 (n2).toNat 2) (f13 : n7 ≠ 0) (f14 : n8 = 1) (f15 : (hLe T0 H1 H2 ∧ hFr s_64v.2.2.2.2 H1 H2 ∧ ((0 : Int) = 0 → H2.length = H1.length) ∧ hWt T0 H2) ∧ postb_64v n2 n8 H1 H2) (f16 : n9 ≤ 2147483647) (f17 : (-2147483648) ≤ n9) (f18 : hK H2 (n2).toNat = 4) (f19 : n9 = hV H2 (n2).toNat 3) (f20 : n9 = 0) (f21 : n10 ≤ 2147483647) (f22 : (-2147483648) ≤ n10) (f23 : hK H2 (n2).toNat = 4) (f24 : n10 = hV H2 (n2).toNat 5) (f25 : hK H2 (n2).toNat = 4) (f26 : n11 = 3) (f27 : hUpd H3 H2 n2 n11 n10) (f28 : n12 ≤ 2147483647) (f29 : (-2147483648) ≤ n12) (f30 : hK H3 (n2).toNat = 4) (f31 : n12 = hV H3 (n2).toNat 6) (f32 : hK H3 (n2).toNat = 4) (f33 : n13 = 4) (f34 : hUpd H4 H3 n2 n13 n12) (f35 : n14 ≤ 2147483647) (f36 : (-2147483648) ≤ n14) (f37 : hK H4 (n2).toNat = 4) (f38 : n14 = hV H4 (n2).toNat 3) : nbo_60 n14 n4 n5 n3 H0 H4 := by
  unfold nbo_60
  intro d ed zo w49
  have gb := f8.2.1.1.2
  unfold Bbo_60_89 at gb
  obtain ⟨zr, ot, w1, k⟩ := gb d ed zo w49
  have e8 : hV H1 30 8 = d := (f8.1.2.1.1 30 8 (by decide +kernel)).trans ed.symm
  have r12 : n7 = hV H1 30 2 := by
    have w := f12
    rw [f4] at w
    exact w
  have r19 : n9 = hV H2 30 3 := by
    have w := f19
    rw [f4] at w
    exact w
  have r24 : n10 = hV H2 30 5 := by
    have w := f24
    rw [f4] at w
    exact w
  have r31 : n12 = hV H3 30 6 := by
    have w := f31
    rw [f4] at w
    exact w
  have r38 : n14 = hV H4 30 3 := by
    have w := f38
    rw [f4] at w
    exact w
  have ga := f8.2.1.1.1
  unfold Ab_60v_89 at ga
  obtain ⟨kz, vz, wz, ir, yb⟩ := ga
  have pf := f15.2
  unfold postb_64v at pf
  rw [f14] at pf
  have ff := fault_of pf.1 (by rw [pf.2]; exact pfail_lt kz (by decide))
  exact absurd (show hV H2 30 3 = 0 by omega) ff
def g_60o_89_3 : vG := ([(20, [14, 3], [4], 3), (23, [3], [4], 4), (90, [14], [], -2147483648), (91, [14], [], 2147483647), (80, [3, 13, 12], [4, 3], 0), (0, [13], [], 4), (23, [3], [3], 4), (20, [12, 3], [3], 6), (23, [3], [3], 4), (90, [12], [], -2147483648), (91, [12], [], 2147483647), (80, [3, 11, 10], [3, 2], 0), (0, [11], [], 3), (23, [3], [2], 4), (20, [10, 3], [2], 5), (23, [3], [2], 4), (90, [10], [], -2147483648), (91, [10], [], 2147483647), (30, [9], [], 0), (20, [9, 3], [2], 3), (23, [3], [2], 4), (90, [9], [], -2147483648), (91, [9], [], 2147483647), (1064, [3, 8], [1, 2], 0), (0, [8], [], 1), (31, [7], [], 0), (20, [7, 3], [1], 2), (23, [3], [1], 4), (90, [7], [], -2147483648), (91, [7], [], 2147483647), (5000, [0, 1, 2, 3, 4, 5, 6], [0, 1], 89), (0, [0], [], 30), (90, [2], [], -2147483648), (91, [2], [], 2147483647), (0, [3], [], 30), (90, [5], [], -2147483648), (91, [5], [], 2147483647), (90, [6], [], -2147483648), (91, [6], [], 2147483647)], (3000, [14], [4], 128))
theorem c_60o_89_3 {q0 : Nat} : vOkm T0 (eN e_60v L_60o A_60v mu_60v no_60 Bo_60 (some q0)) 3 g_60o_89_3 := vOk_inI fun ρ η f0 f1 f2 f3 f4 f5 f6 f7 f8 f9 f10 f11 f12 f13 f14 f15 f16 f17 f18 f19 f20 f21 f22 f23 f24 f25 f26 f27 f28 f29 f30 f31 f32 f33 f34 f35 f36 f37 f38 => q_60o_10 (q0 := q0) (n0 := ρ 6) (n1 := ρ 5) (n2 := ρ 3) (n3 := ρ 2) (n4 := ρ 0) (n5 := ρ 1) (n6 := ρ 4) (n7 := ρ 7) (n8 := ρ 8) (n9 := ρ 9) (n10 := ρ 10) (n11 := ρ 11) (n12 := ρ 12) (n13 := ρ 13) (n14 := ρ 14) (H0 := η 0) (H1 := η 1) (H2 := η 2) (H3 := η 3) (H4 := η 4) f38 f37 f36 f35 f34 f33 f32 f31 f30 f29 f28 f27 f26 f25 f24 f23 f22 f21 f20 f19 f18 f17 f16 f15 f14 f13 f12 f11 f10 f9 f8 f7 f6 f5 f4 f3 f2 f1 f0
def p_60o_89 : List vG := [g_60o_89_0,
  g_60o_89_1,
  g_60o_89_2,
  g_60o_89_3]
theorem r_60o_89 : vCovBO (eRc e_60v L_60v cs_60v 2000 (89, [(0, (3, 4, 30, 0)), (1, (2, 692, -1, 0)), (2, (0, -2147483648, 2147483647, 0)), (3, (0, -2147483648, 2147483647, 0))])) p_60o_89 = true := by decide +kernel
theorem m_60o (d : Nat) : eC e_60o (d + 7) := eC_ref (e := e_60v) (L := L_60v) (L' := L_60o) (cs := cs_60v) (n := 2000) (d := d + 6) (A := A_60v) (μ := mu_60v) (tp := false) (p0 := p_60v_s) (p1 := p_60o_s) (N := no_60) (B := Bo_60) rfl ⟨m_61v (d + 4), ⟨m_64v (d + 5), ⟨m_66v (d + 4), ⟨m_68v (d + 3), ⟨m_69v (d + 3), ⟨m_70v (d + 3), ⟨m_72v d, ⟨m_84o d, ⟨m_125v (d + 1), trivial⟩⟩⟩⟩⟩⟩⟩⟩⟩ rfl (.inl rfl) (by decide +kernel) (fun z => nomatch z) r_60v_s (allC c_60v_s_0 (allC c_60v_s_1 (allC c_60v_s_2 allN))) (allC (.inl ⟨p_60v_15, r_60v_15, fun q0 => (allC c_60v_15_0 (allC c_60v_15_1 (allC c_60v_15_2 (allC c_60v_15_3 (allC c_60v_15_4 (allC c_60v_15_5 (allC c_60v_15_6 allN)))))))⟩) (allC (.inl ⟨p_60v_55, r_60v_55, fun q0 => (allC c_60v_55_0 (allC c_60v_55_1 (allC c_60v_55_2 (allC c_60v_55_3 (allC c_60v_55_4 (allC c_60v_55_5 allN))))))⟩) (allC (.inl ⟨p_60v_89, r_60v_89, fun q0 => (allC c_60v_89_0 (allC c_60v_89_1 (allC c_60v_89_2 (allC c_60v_89_3 (allC c_60v_89_4 allN)))))⟩) allN))) (sub0 (sub0 (sub0 (sub0 (sub0 (sub0 (sub0 (sub1 (sub0 trivial))))))))) r_60o_s (allC c_60o_s_0 allN) (allC ⟨p_60o_15, r_60o_15, fun q0 => (allC c_60o_15_0 (allC c_60o_15_1 (allC c_60o_15_2 (allC c_60o_15_3 allN))))⟩ (allC ⟨p_60o_55, r_60o_55, fun q0 => (allC c_60o_55_0 (allC c_60o_55_1 allN))⟩ (allC ⟨p_60o_89, r_60o_89, fun q0 => (allC c_60o_89_0 (allC c_60o_89_1 (allC c_60o_89_2 (allC c_60o_89_3 allN))))⟩ allN)))
/- Reader.exchange (LMixStage$Rules;)LMixStage$Rules;, more fully -/
def nbo_63 (r a0 a1 : Int) (h0 h : gH) : Prop := r = hV h0 30 8 ∧ hV h 30 8 = a1
def no_63 : List Int → gH → gH → Prop := fun xs h0 h => match xs with
  | [r, a0, a1] => nbo_63 r a0 a1 h0 h
  | _ => True
noncomputable def e_63o : vE := eV e_63 no_63
noncomputable def L_63o : List vE := []
def Bo_63 : Int → List Int → gH → gH → Prop := fun c xs h0 h => True
theorem q_63o_0 {n0 n1 n2 n3 : Int} {H0 H1 : gH} (f0 : 0 ≤ n0) (f1 : n1 = 30) (f2 : hWt T0 H0 ∧ True) (f3 : 0 ≤ n2) (f4 : hK H0 (n1).toNat = 4) (f5 : n2 = hV H0 (n1).toNat 8) (f6 : hK H0 (n1).toNat = 4) (f7 : n3 = 8) (f8 : hUpd H1 H0 n1 n3 n0) : nbo_63 n2 n1 n0 H0 H1 := by
  unfold nbo_63
  have r5 : n2 = hV H0 30 8 := by
    have w := f5
    rw [f1] at w
    exact w
  exact ⟨r5, uSame f8 30 8 (by rw [f1]; rfl) (by rw [f7]; rfl)⟩
def g_63o_s_0 : vG := ([(80, [0, 3, 1], [1, 0], 2), (0, [3], [], 8), (23, [0], [0], 4), (20, [2, 0], [0], 8), (23, [0], [0], 4), (51, [2], [], 0), (6000, [0, 1], [0], 0), (0, [0], [], 30), (51, [1], [], 0)], (3000, [2], [1], 11))
theorem c_63o_s_0 : vOkm T0 (eN e_63 L_63o A_63 mu_63 no_63 Bo_63 none) 2 g_63o_s_0 := vOk_inI fun ρ η f0 f1 f2 f3 f4 f5 f6 f7 f8 => q_63o_0 (n0 := ρ 1) (n1 := ρ 0) (n2 := ρ 2) (n3 := ρ 3) (H0 := η 0) (H1 := η 1) f8 f7 f6 f5 f4 f3 f2 f1 f0
def p_63o_s : List vG := [g_63o_s_0]
theorem r_63o_s : vCovBO (eR0 e_63 L_63 cs_63 2000) p_63o_s = true := by decide +kernel
theorem m_63o (d : Nat) : eC e_63o (d + 1) := eC_ref (e := e_63) (L := L_63) (L' := L_63o) (cs := cs_63) (n := 2000) (d := d + 0) (A := A_63) (μ := mu_63) (tp := true) (p0 := p_63_s) (p1 := p_63o_s) (N := no_63) (B := Bo_63) rfl trivial rfl (.inr pre0_ok) (by decide +kernel) (fun _ => post0_ok) r_63_s allN allN trivial r_63o_s (allC c_63o_s_0 allN) allN
