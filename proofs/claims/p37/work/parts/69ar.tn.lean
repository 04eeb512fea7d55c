/- Reader.takeNots ()Z, more fully -/
def nbo_89 (r a0 : Int) (h0 h : gH) : Prop := 0 ≤ (absC h).1 → (absC h0).1 ≤ (absC h).1 ∧ r = ((absC h).1 - (absC h0).1) % 2
def no_89 : List Int → gH → gH → Prop := fun xs h0 h => match xs with
  | [r, a0] => nbo_89 r a0 h0 h
  | _ => True
noncomputable def e_89o : vE := eV e_89v no_89
noncomputable def L_89o : List vE := [e_66v]
def Bbo_89_4 (a0 x0 x1 x2 : Int) (h0 h : gH) : Prop := 0 ≤ (absC h).1 → (absC h0).1 ≤ (absC h).1 ∧ x1 = ((absC h).1 - (absC h0).1) % 2
def Bo_89 : Int → List Int → gH → gH → Prop := fun c xs h0 h => match c.toNat with
  | 4 => (match xs with
    | [a0, x0, x1, x2] => Bbo_89_4 a0 x0 x1 x2 h0 h
    | _ => False)
  | _ => True
theorem q_89o_0 {n0 n1 n2 : Int} {H0 : gH} (f0 : n0 = 30) (f1 : hWt T0 H0 ∧ preb_89v n0 H0) (f2 : n1 = 0) (f3 : n2 = 0) : Bbo_89_4 n0 n0 n1 n2 H0 H0 := by
  unfold Bbo_89_4
  intro hp
  exact ⟨Int.le_refl _, by omega⟩
def g_89o_s_0 : vG := ([(0, [2], [], 0), (0, [1], [], 0), (6000, [0], [0], 0), (0, [0], [], 30)], (4000, [0, 1, 2], [0], 4))
theorem c_89o_s_0 : vOkm T0 (eN e_89v L_89o A_89v mu_89v no_89 Bo_89 none) 1 g_89o_s_0 := vOk_inI fun ρ η f0 f1 f2 f3 => q_89o_0 (n0 := ρ 0) (n1 := ρ 1) (n2 := ρ 2) (H0 := η 0) f3 f2 f1 f0
def p_89o_s : List vG := [g_89o_s_0]
theorem r_89o_s : vCovBO (eR0 e_89v L_89v cs_89v 2000) p_89o_s = true := by decide +kernel
theorem q_89o_1 {q0 : Nat} {n0 n1 n2 n3 n4 : Int} {H0 H1 : gH} (f0 : n0 ≤ 2147483647) (f1 : (-2147483648) ≤ n0) (f2 : n1 ≤ 1) (f3 : 0 ≤ n1) (f4 : n2 = 30) (f5 : n3 = 30) (f6 : (hLe T0 H0 H1 ∧ hFr s_89v.2.2.2.2 H0 H1 ∧ hWt T0 H1) ∧ ((Ab_89v_4 n3 n2 n1 n0 H0 H1 ∧ Bbo_89_4 n3 n2 n1 n0 H0 H1) ∧ preb_89v n3 H0) ∧ some q0 = some (mub_89v_4 n3 n2 n1 n0 H0 H1)) (f7 : n4 = 500) (f8 : n4 < n0) : nbo_89 n1 n3 H0 H1 := by
  unfold nbo_89
  intro hp
  have pz := f6.2.1.2
  unfold preb_89v at pz
  have ga := f6.2.1.1.1
  unfold Ab_89v_4 at ga
  have vz : vwC H1 = vwC H0 := vwC_fr f6.1.2.1 (by decide +kernel)
  have gb := f6.2.1.1.2
  unfold Bbo_89_4 at gb
  exact gb hp
def g_89o_4_0 : vG := ([(44, [3, 4], [], 0), (0, [4], [], 500), (5000, [0, 1, 2, 3], [0, 1], 4), (0, [0], [], 30), (0, [1], [], 30), (90, [2], [], 0), (91, [2], [], 1), (90, [3], [], -2147483648), (91, [3], [], 2147483647)], (3000, [2], [1], 50))
theorem c_89o_4_0 {q0 : Nat} : vOkm T0 (eN e_89v L_89o A_89v mu_89v no_89 Bo_89 (some q0)) 1 g_89o_4_0 := vOk_inI fun ρ η f0 f1 f2 f3 f4 f5 f6 f7 f8 => q_89o_1 (q0 := q0) (n0 := ρ 3) (n1 := ρ 2) (n2 := ρ 1) (n3 := ρ 0) (n4 := ρ 4) (H0 := η 0) (H1 := η 1) f8 f7 f6 f5 f4 f3 f2 f1 f0
theorem q_89o_2 {q0 : Nat} {n0 n1 n2 n3 n4 n5 : Int} {H0 H1 : gH} (f0 : n0 ≤ 2147483647) (f1 : (-2147483648) ≤ n0) (f2 : n1 ≤ 1) (f3 : 0 ≤ n1) (f4 : n2 = 30) (f5 : n3 = 30) (f6 : (hLe T0 H0 H1 ∧ hFr s_89v.2.2.2.2 H0 H1 ∧ hWt T0 H1) ∧ ((Ab_89v_4 n3 n2 n1 n0 H0 H1 ∧ Bbo_89_4 n3 n2 n1 n0 H0 H1) ∧ preb_89v n3 H0) ∧ some q0 = some (mub_89v_4 n3 n2 n1 n0 H0 H1)) (f7 : n4 = 500) (f8 : n0 ≤ n4) (f9 : n5 ≤ 2147483647) (f10 : (-2147483648) ≤ n5) (f11 : hK H1 (n2).toNat = 4) (f12 : n5 = hV H1 (n2).toNat 3) (f13 : n5 ≠ 0) : nbo_89 n1 n3 H0 H1 := by
  unfold nbo_89
  intro hp
  have pz := f6.2.1.2
  unfold preb_89v at pz
  have ga := f6.2.1.1.1
  unfold Ab_89v_4 at ga
  have vz : vwC H1 = vwC H0 := vwC_fr f6.1.2.1 (by decide +kernel)
  have gb := f6.2.1.1.2
  unfold Bbo_89_4 at gb
  exact gb hp
def g_89o_4_1 : vG := ([(31, [5], [], 0), (20, [5, 1], [1], 3), (23, [1], [1], 4), (90, [5], [], -2147483648), (91, [5], [], 2147483647), (45, [3, 4], [], 0), (0, [4], [], 500), (5000, [0, 1, 2, 3], [0, 1], 4), (0, [0], [], 30), (0, [1], [], 30), (90, [2], [], 0), (91, [2], [], 1), (90, [3], [], -2147483648), (91, [3], [], 2147483647)], (3000, [2], [1], 50))
theorem c_89o_4_1 {q0 : Nat} : vOkm T0 (eN e_89v L_89o A_89v mu_89v no_89 Bo_89 (some q0)) 1 g_89o_4_1 := vOk_inI fun ρ η f0 f1 f2 f3 f4 f5 f6 f7 f8 f9 f10 f11 f12 f13 => q_89o_2 (q0 := q0) (n0 := ρ 3) (n1 := ρ 2) (n2 := ρ 1) (n3 := ρ 0) (n4 := ρ 4) (n5 := ρ 5) (H0 := η 0) (H1 := η 1) f13 f12 f11 f10 f9 f8 f7 f6 f5 f4 f3 f2 f1 f0
theorem q_89o_3 {q0 : Nat} {n0 n1 n2 n3 n4 n5 n6 n7 : Int} {H0 H1 : gH} (f0 : n0 ≤ 2147483647) (f1 : (-2147483648) ≤ n0) (f2 : n1 ≤ 1) (f3 : 0 ≤ n1) (f4 : n2 = 30) (f5 : n3 = 30) (f6 : (hLe T0 H0 H1 ∧ hFr s_89v.2.2.2.2 H0 H1 ∧ hWt T0 H1) ∧ ((Ab_89v_4 n3 n2 n1 n0 H0 H1 ∧ Bbo_89_4 n3 n2 n1 n0 H0 H1) ∧ preb_89v n3 H0) ∧ some q0 = some (mub_89v_4 n3 n2 n1 n0 H0 H1)) (f7 : n4 = 500) (f8 : n0 ≤ n4) (f9 : n5 ≤ 2147483647) (f10 : (-2147483648) ≤ n5) (f11 : hK H1 (n2).toNat = 4) (f12 : n5 = hV H1 (n2).toNat 3) (f13 : n5 = 0) (f14 : n6 ≤ 2147483647) (f15 : (-2147483648) ≤ n6) (f16 : hK H1 (n2).toNat = 4) (f17 : n6 = hV H1 (n2).toNat 2) (f18 : n7 = 44) (f19 : n6 ≠ n7) : nbo_89 n1 n3 H0 H1 := by
  unfold nbo_89
  intro hp
  have pz := f6.2.1.2
  unfold preb_89v at pz
  have ga := f6.2.1.1.1
  unfold Ab_89v_4 at ga
  have vz : vwC H1 = vwC H0 := vwC_fr f6.1.2.1 (by decide +kernel)
  have gb := f6.2.1.1.2
  unfold Bbo_89_4 at gb
  exact gb hp
def g_89o_4_2 : vG := ([(41, [6, 7], [], 0), (0, [7], [], 44), (20, [6, 1], [1], 2), (23, [1], [1], 4), (90, [6], [], -2147483648), (91, [6], [], 2147483647), (30, [5], [], 0), (20, [5, 1], [1], 3), (23, [1], [1], 4), (90, [5], [], -2147483648), (91, [5], [], 2147483647), (45, [3, 4], [], 0), (0, [4], [], 500), (5000, [0, 1, 2, 3], [0, 1], 4), (0, [0], [], 30), (0, [1], [], 30), (90, [2], [], 0), (91, [2], [], 1), (90, [3], [], -2147483648), (91, [3], [], 2147483647)], (3000, [2], [1], 50))
theorem c_89o_4_2 {q0 : Nat} : vOkm T0 (eN e_89v L_89o A_89v mu_89v no_89 Bo_89 (some q0)) 1 g_89o_4_2 := vOk_inI fun ρ η f0 f1 f2 f3 f4 f5 f6 f7 f8 f9 f10 f11 f12 f13 f14 f15 f16 f17 f18 f19 => q_89o_3 (q0 := q0) (n0 := ρ 3) (n1 := ρ 2) (n2 := ρ 1) (n3 := ρ 0) (n4 := ρ 4) (n5 := ρ 5) (n6 := ρ 6) (n7 := ρ 7) (H0 := η 0) (H1 := η 1) f19 f18 f17 f16 f15 f14 f13 f12 f11 f10 f9 f8 f7 f6 f5 f4 f3 f2 f1 f0
theorem q_89o_4 {q0 : Nat} {n0 n1 n2 n3 n4 n5 n6 n7 n8 n9 n10 : Int} {H0 H1 H2 : gH} (f0 : n0 ≤ 2147483647) (f1 : (-2147483648) ≤ n0) (f2 : n1 ≤ 1) (f3 : 0 ≤ n1) (f4 : n2 = 30) (f5 : n3 = 30) (f6 : (hLe T0 H0 H1 ∧ hFr s_89v.2.2.2.2 H0 H1 ∧ hWt T0 H1) ∧ ((Ab_89v_4 n3 n2 n1 n0 H0 H1 ∧ Bbo_89_4 n3 n2 n1 n0 H0 H1) ∧ preb_89v n3 H0) ∧ some q0 = some (mub_89v_4 n3 n2 n1 n0 H0 H1)) (f7 : n4 = 500) (f8 : n0 ≤ n4) (f9 : n5 ≤ 2147483647) (f10 : (-2147483648) ≤ n5) (f11 : hK H1 (n2).toNat = 4) (f12 : n5 = hV H1 (n2).toNat 3) (f13 : n5 = 0) (f14 : n6 ≤ 2147483647) (f15 : (-2147483648) ≤ n6) (f16 : hK H1 (n2).toNat = 4) (f17 : n6 = hV H1 (n2).toNat 2) (f18 : n7 = 44) (f19 : n6 = n7) (f20 : n8 = 44) (f21 : (hLe T0 H1 H2 ∧ hFr s_66v.2.2.2.2 H1 H2 ∧ ((0 : Int) = 0 → H2.length = H1.length) ∧ hWt T0 H2) ∧ postb_66v n2 n8 H1 H2) (f22 : n1 ≠ 0) (f23 : n9 = 0) (f24 : n10 = w32 (n0 + 1)) : Bbo_89_4 n3 n2 n9 n10 H0 H2 := by
  unfold Bbo_89_4
  intro hp
  have pz := f6.2.1.2
  unfold preb_89v at pz
  have ga := f6.2.1.1.1
  unfold Ab_89v_4 at ga
  have vz : vwC H1 = vwC H0 := vwC_fr f6.1.2.1 (by decide +kernel)
  have c0 := f21.2
  unfold postb_66v at c0
  try rw [f20] at c0
  rw [vz] at c0
  have a0 : absC H2 = (ptk (vwC H0) 44 (absC H1)) := c0.2
  have v0 : vwC H2 = vwC H0 := (vwC_fr f21.1.2.1 (by decide +kernel)).trans vz
  have gb := f6.2.1.1.2
  unfold Bbo_89_4 at gb
  rw [a0] at hp ⊢
  have kq := pt1_kind (h := H0) pz.2.1 (s := (absC H1).1) hp
  have pn := ptk_next (h := H0) pz.2.1 (p := absC H1) hp
  have g1 := gb kq.1
  rw [pn]
  omega
def g_89o_4_3 : vG := ([(10, [10, 3], [], 1), (0, [9], [], 0), (31, [2], [], 0), (1066, [1, 8], [1, 2], 0), (0, [8], [], 44), (40, [6, 7], [], 0), (0, [7], [], 44), (20, [6, 1], [1], 2), (23, [1], [1], 4), (90, [6], [], -2147483648), (91, [6], [], 2147483647), (30, [5], [], 0), (20, [5, 1], [1], 3), (23, [1], [1], 4), (90, [5], [], -2147483648), (91, [5], [], 2147483647), (45, [3, 4], [], 0), (0, [4], [], 500), (5000, [0, 1, 2, 3], [0, 1], 4), (0, [0], [], 30), (0, [1], [], 30), (90, [2], [], 0), (91, [2], [], 1), (90, [3], [], -2147483648), (91, [3], [], 2147483647)], (4000, [1, 9, 10], [2], 4))
theorem c_89o_4_3 {q0 : Nat} : vOkm T0 (eN e_89v L_89o A_89v mu_89v no_89 Bo_89 (some q0)) 1 g_89o_4_3 := vOk_inI fun ρ η f0 f1 f2 f3 f4 f5 f6 f7 f8 f9 f10 f11 f12 f13 f14 f15 f16 f17 f18 f19 f20 f21 f22 f23 f24 => q_89o_4 (q0 := q0) (n0 := ρ 3) (n1 := ρ 2) (n2 := ρ 1) (n3 := ρ 0) (n4 := ρ 4) (n5 := ρ 5) (n6 := ρ 6) (n7 := ρ 7) (n8 := ρ 8) (n9 := ρ 9) (n10 := ρ 10) (H0 := η 0) (H1 := η 1) (H2 := η 2) f24 f23 f22 f21 f20 f19 f18 f17 f16 f15 f14 f13 f12 f11 f10 f9 f8 f7 f6 f5 f4 f3 f2 f1 f0
theorem q_89o_5 {q0 : Nat} {n0 n1 n2 n3 n4 n5 n6 n7 n8 n9 n10 : Int} {H0 H1 H2 : gH} (f0 : n0 ≤ 2147483647) (f1 : (-2147483648) ≤ n0) (f2 : n1 ≤ 1) (f3 : 0 ≤ n1) (f4 : n2 = 30) (f5 : n3 = 30) (f6 : (hLe T0 H0 H1 ∧ hFr s_89v.2.2.2.2 H0 H1 ∧ hWt T0 H1) ∧ ((Ab_89v_4 n3 n2 n1 n0 H0 H1 ∧ Bbo_89_4 n3 n2 n1 n0 H0 H1) ∧ preb_89v n3 H0) ∧ some q0 = some (mub_89v_4 n3 n2 n1 n0 H0 H1)) (f7 : n4 = 500) (f8 : n0 ≤ n4) (f9 : n5 ≤ 2147483647) (f10 : (-2147483648) ≤ n5) (f11 : hK H1 (n2).toNat = 4) (f12 : n5 = hV H1 (n2).toNat 3) (f13 : n5 = 0) (f14 : n6 ≤ 2147483647) (f15 : (-2147483648) ≤ n6) (f16 : hK H1 (n2).toNat = 4) (f17 : n6 = hV H1 (n2).toNat 2) (f18 : n7 = 44) (f19 : n6 = n7) (f20 : n8 = 44) (f21 : (hLe T0 H1 H2 ∧ hFr s_66v.2.2.2.2 H1 H2 ∧ ((0 : Int) = 0 → H2.length = H1.length) ∧ hWt T0 H2) ∧ postb_66v n2 n8 H1 H2) (f22 : n1 = 0) (f23 : n9 = 1) (f24 : n10 = w32 (n0 + 1)) : Bbo_89_4 n3 n2 n9 n10 H0 H2 := by
  unfold Bbo_89_4
  intro hp
  have pz := f6.2.1.2
  unfold preb_89v at pz
  have ga := f6.2.1.1.1
  unfold Ab_89v_4 at ga
  have vz : vwC H1 = vwC H0 := vwC_fr f6.1.2.1 (by decide +kernel)
  have c0 := f21.2
  unfold postb_66v at c0
  try rw [f20] at c0
  rw [vz] at c0
  have a0 : absC H2 = (ptk (vwC H0) 44 (absC H1)) := c0.2
  have v0 : vwC H2 = vwC H0 := (vwC_fr f21.1.2.1 (by decide +kernel)).trans vz
  have gb := f6.2.1.1.2
  unfold Bbo_89_4 at gb
  rw [a0] at hp ⊢
  have kq := pt1_kind (h := H0) pz.2.1 (s := (absC H1).1) hp
  have pn := ptk_next (h := H0) pz.2.1 (p := absC H1) hp
  have g1 := gb kq.1
  rw [pn]
  omega
def g_89o_4_4 : vG := ([(10, [10, 3], [], 1), (0, [9], [], 1), (30, [2], [], 0), (1066, [1, 8], [1, 2], 0), (0, [8], [], 44), (40, [6, 7], [], 0), (0, [7], [], 44), (20, [6, 1], [1], 2), (23, [1], [1], 4), (90, [6], [], -2147483648), (91, [6], [], 2147483647), (30, [5], [], 0), (20, [5, 1], [1], 3), (23, [1], [1], 4), (90, [5], [], -2147483648), (91, [5], [], 2147483647), (45, [3, 4], [], 0), (0, [4], [], 500), (5000, [0, 1, 2, 3], [0, 1], 4), (0, [0], [], 30), (0, [1], [], 30), (90, [2], [], 0), (91, [2], [], 1), (90, [3], [], -2147483648), (91, [3], [], 2147483647)], (4000, [1, 9, 10], [2], 4))
theorem c_89o_4_4 {q0 : Nat} : vOkm T0 (eN e_89v L_89o A_89v mu_89v no_89 Bo_89 (some q0)) 1 g_89o_4_4 := vOk_inI fun ρ η f0 f1 f2 f3 f4 f5 f6 f7 f8 f9 f10 f11 f12 f13 f14 f15 f16 f17 f18 f19 f20 f21 f22 f23 f24 => q_89o_5 (q0 := q0) (n0 := ρ 3) (n1 := ρ 2) (n2 := ρ 1) (n3 := ρ 0) (n4 := ρ 4) (n5 := ρ 5) (n6 := ρ 6) (n7 := ρ 7) (n8 := ρ 8) (n9 := ρ 9) (n10 := ρ 10) (H0 := η 0) (H1 := η 1) (H2 := η 2) f24 f23 f22 f21 f20 f19 f18 f17 f16 f15 f14 f13 f12 f11 f10 f9 f8 f7 f6 f5 f4 f3 f2 f1 f0
def p_89o_4 : List vG := [g_89o_4_0,
  g_89o_4_1,
  g_89o_4_2,
  g_89o_4_3,
  g_89o_4_4]
theorem r_89o_4 : vCovBO (eRc e_89v L_89v cs_89v 2000 (4, [(0, (3, 4, 30, 0)), (1, (0, 0, 1, 0)), (2, (0, -2147483648, 2147483647, 0))])) p_89o_4 = true := by decide +kernel
theorem m_89o (d : Nat) : eC e_89o (d + 3) := eC_ref (e := e_89v) (L := L_89v) (L' := L_89o) (cs := cs_89v) (n := 2000) (d := d + 2) (A := A_89v) (μ := mu_89v) (tp := false) (p0 := p_89v_s) (p1 := p_89o_s) (N := no_89) (B := Bo_89) rfl ⟨m_66v d, trivial⟩ rfl (.inl rfl) (by decide +kernel) (fun z => nomatch z) r_89v_s (allC c_89v_s_0 allN) (allC (.inl ⟨p_89v_4, r_89v_4, fun q0 => (allC c_89v_4_0 (allC c_89v_4_1 (allC c_89v_4_2 (allC c_89v_4_3 (allC c_89v_4_4 (allC c_89v_4_5 allN))))))⟩) allN) (sub0 trivial) r_89o_s (allC c_89o_s_0 allN) (allC ⟨p_89o_4, r_89o_4, fun q0 => (allC c_89o_4_0 (allC c_89o_4_1 (allC c_89o_4_2 (allC c_89o_4_3 (allC c_89o_4_4 allN)))))⟩ allN)
/- Reader.takeRelation ()I, more fully -/
def nbo_90 (r a0 : Int) (h0 h : gH) : Prop := 0 ≤ (absC h).1 → r = (vwC h0).1 (absC h0).1 ∧ 12 ≤ r ∧ r ≤ 15 ∧ (absC h).1 = (absC h0).1 + 1
def no_90 : List Int → gH → gH → Prop := fun xs h0 h => match xs with
  | [r, a0] => nbo_90 r a0 h0 h
  | _ => True
noncomputable def e_90o : vE := eV e_90v no_90
noncomputable def L_90o : List vE := [e_64v, e_66v]
def Bo_90 : Int → List Int → gH → gH → Prop := fun c xs h0 h => True
theorem q_90o_0 {n0 n1 n2 n3 : Int} {H0 H1 H2 : gH} (f0 : n0 = 30) (f1 : hWt T0 H0 ∧ preb_90v n0 H0) (f2 : n1 ≤ 2147483647) (f3 : (-2147483648) ≤ n1) (f4 : hK H0 (n0).toNat = 4) (f5 : n1 = hV H0 (n0).toNat 2) (f6 : n2 = 12) (f7 : n1 < n2) (f8 : n3 = 1) (f9 : (hLe T0 H0 H1 ∧ hFr s_64v.2.2.2.2 H0 H1 ∧ ((0 : Int) = 0 → H1.length = H0.length) ∧ hWt T0 H1) ∧ postb_64v n0 n3 H0 H1) (f10 : (hLe T0 H1 H2 ∧ hFr s_66v.2.2.2.2 H1 H2 ∧ ((0 : Int) = 0 → H2.length = H1.length) ∧ hWt T0 H2) ∧ postb_66v n0 n1 H1 H2) : nbo_90 n1 n0 H0 H2 := by
  unfold nbo_90
  intro hp
  have pz := f1.2
  unfold preb_90v at pz
  have c0 := f9.2
  unfold postb_64v at c0
  try rw [f8] at c0
  have a0 : absC H1 = (pfail (vwC H0) 1 (absC H0)) := c0.2
  have v0 : vwC H1 = vwC H0 := (vwC_fr f9.1.2.1 (by decide +kernel))
  have c1 := f10.2
  unfold postb_66v at c1
  rw [v0] at c1
  rw [a0] at c1
  have a1 : absC H2 = (ptk (vwC H0) n1 (pfail (vwC H0) 1 (absC H0))) := c1.2
  have v1 : vwC H2 = vwC H0 := (vwC_fr f10.1.2.1 (by decide +kernel)).trans v0
  have r5 : n1 = hV H0 30 2 := by
    have w := f5
    rw [f0] at w
    exact w
  exfalso
  rw [a1, ptk_neg (pfail_lt pz (by decide)) pfail_ok] at hp
  have := pfail_lt pz (f := 1) (by decide) (p := absC H0)
  omega
def g_90o_s_0 : vG := ([(1066, [0, 1], [1, 2], 0), (1064, [0, 3], [0, 1], 0), (0, [3], [], 1), (42, [1, 2], [], 0), (0, [2], [], 12), (20, [1, 0], [0], 2), (23, [0], [0], 4), (90, [1], [], -2147483648), (91, [1], [], 2147483647), (6000, [0], [0], 0), (0, [0], [], 30)], (3000, [1], [2], 28))
theorem c_90o_s_0 : vOkm T0 (eN e_90v L_90o A_90v mu_90v no_90 Bo_90 none) 1 g_90o_s_0 := vOk_inI fun ρ η f0 f1 f2 f3 f4 f5 f6 f7 f8 f9 f10 => q_90o_0 (n0 := ρ 0) (n1 := ρ 1) (n2 := ρ 2) (n3 := ρ 3) (H0 := η 0) (H1 := η 1) (H2 := η 2) f10 f9 f8 f7 f6 f5 f4 f3 f2 f1 f0
theorem q_90o_1 {n0 n1 n2 n3 : Int} {H0 H1 : gH} (f0 : n0 = 30) (f1 : hWt T0 H0 ∧ preb_90v n0 H0) (f2 : n1 ≤ 2147483647) (f3 : (-2147483648) ≤ n1) (f4 : hK H0 (n0).toNat = 4) (f5 : n1 = hV H0 (n0).toNat 2) (f6 : n2 = 12) (f7 : n2 ≤ n1) (f8 : n3 = 15) (f9 : n1 ≤ n3) (f10 : (hLe T0 H0 H1 ∧ hFr s_66v.2.2.2.2 H0 H1 ∧ ((0 : Int) = 0 → H1.length = H0.length) ∧ hWt T0 H1) ∧ postb_66v n0 n1 H0 H1) : nbo_90 n1 n0 H0 H1 := by
  unfold nbo_90
  intro hp
  have pz := f1.2
  unfold preb_90v at pz
  have c0 := f10.2
  unfold postb_66v at c0
  have a0 : absC H1 = (ptk (vwC H0) n1 (absC H0)) := c0.2
  have v0 : vwC H1 = vwC H0 := (vwC_fr f10.1.2.1 (by decide +kernel))
  have r5 : n1 = hV H0 30 2 := by
    have w := f5
    rw [f0] at w
    exact w
  rw [a0] at hp
  have kq := pt1_kind (h := H0) pz.2.1 (s := (absC H0).1) hp
  have pn := ptk_next (h := H0) pz.2.1 (p := absC H0) hp
  rw [a0]
  have u := (kd_at pz).resolve_left (by have := kq.1; omega)
  exact ⟨by omega, by omega, by omega, pn⟩
def g_90o_s_1 : vG := ([(1066, [0, 1], [0, 1], 0), (45, [1, 3], [], 0), (0, [3], [], 15), (43, [1, 2], [], 0), (0, [2], [], 12), (20, [1, 0], [0], 2), (23, [0], [0], 4), (90, [1], [], -2147483648), (91, [1], [], 2147483647), (6000, [0], [0], 0), (0, [0], [], 30)], (3000, [1], [1], 28))
theorem c_90o_s_1 : vOkm T0 (eN e_90v L_90o A_90v mu_90v no_90 Bo_90 none) 1 g_90o_s_1 := vOk_inI fun ρ η f0 f1 f2 f3 f4 f5 f6 f7 f8 f9 f10 => q_90o_1 (n0 := ρ 0) (n1 := ρ 1) (n2 := ρ 2) (n3 := ρ 3) (H0 := η 0) (H1 := η 1) f10 f9 f8 f7 f6 f5 f4 f3 f2 f1 f0
theorem q_90o_2 {n0 n1 n2 n3 n4 : Int} {H0 H1 H2 : gH} (f0 : n0 = 30) (f1 : hWt T0 H0 ∧ preb_90v n0 H0) (f2 : n1 ≤ 2147483647) (f3 : (-2147483648) ≤ n1) (f4 : hK H0 (n0).toNat = 4) (f5 : n1 = hV H0 (n0).toNat 2) (f6 : n2 = 12) (f7 : n2 ≤ n1) (f8 : n3 = 15) (f9 : n3 < n1) (f10 : n4 = 1) (f11 : (hLe T0 H0 H1 ∧ hFr s_64v.2.2.2.2 H0 H1 ∧ ((0 : Int) = 0 → H1.length = H0.length) ∧ hWt T0 H1) ∧ postb_64v n0 n4 H0 H1) (f12 : (hLe T0 H1 H2 ∧ hFr s_66v.2.2.2.2 H1 H2 ∧ ((0 : Int) = 0 → H2.length = H1.length) ∧ hWt T0 H2) ∧ postb_66v n0 n1 H1 H2) : nbo_90 n1 n0 H0 H2 := by
  unfold nbo_90
  intro hp
  have pz := f1.2
  unfold preb_90v at pz
  have c0 := f11.2
  unfold postb_64v at c0
  try rw [f10] at c0
  have a0 : absC H1 = (pfail (vwC H0) 1 (absC H0)) := c0.2
  have v0 : vwC H1 = vwC H0 := (vwC_fr f11.1.2.1 (by decide +kernel))
  have c1 := f12.2
  unfold postb_66v at c1
  rw [v0] at c1
  rw [a0] at c1
  have a1 : absC H2 = (ptk (vwC H0) n1 (pfail (vwC H0) 1 (absC H0))) := c1.2
  have v1 : vwC H2 = vwC H0 := (vwC_fr f12.1.2.1 (by decide +kernel)).trans v0
  have r5 : n1 = hV H0 30 2 := by
    have w := f5
    rw [f0] at w
    exact w
  exfalso
  rw [a1, ptk_neg (pfail_lt pz (by decide)) pfail_ok] at hp
  have := pfail_lt pz (f := 1) (by decide) (p := absC H0)
  omega
def g_90o_s_2 : vG := ([(1066, [0, 1], [1, 2], 0), (1064, [0, 4], [0, 1], 0), (0, [4], [], 1), (44, [1, 3], [], 0), (0, [3], [], 15), (43, [1, 2], [], 0), (0, [2], [], 12), (20, [1, 0], [0], 2), (23, [0], [0], 4), (90, [1], [], -2147483648), (91, [1], [], 2147483647), (6000, [0], [0], 0), (0, [0], [], 30)], (3000, [1], [2], 28))
theorem c_90o_s_2 : vOkm T0 (eN e_90v L_90o A_90v mu_90v no_90 Bo_90 none) 1 g_90o_s_2 := vOk_inI fun ρ η f0 f1 f2 f3 f4 f5 f6 f7 f8 f9 f10 f11 f12 => q_90o_2 (n0 := ρ 0) (n1 := ρ 1) (n2 := ρ 2) (n3 := ρ 3) (n4 := ρ 4) (H0 := η 0) (H1 := η 1) (H2 := η 2) f12 f11 f10 f9 f8 f7 f6 f5 f4 f3 f2 f1 f0
def p_90o_s : List vG := [g_90o_s_0,
  g_90o_s_1,
  g_90o_s_2]
theorem r_90o_s : vCovBO (eR0 e_90v L_90v cs_90v 2000) p_90o_s = true := by decide +kernel
theorem m_90o (d : Nat) : eC e_90o (d + 3) := eC_ref (e := e_90v) (L := L_90v) (L' := L_90o) (cs := cs_90v) (n := 2000) (d := d + 2) (A := A_90v) (μ := mu_90v) (tp := false) (p0 := p_90v_s) (p1 := p_90o_s) (N := no_90) (B := Bo_90) rfl ⟨m_64v (d + 1), ⟨m_66v d, trivial⟩⟩ rfl (.inl rfl) (by decide +kernel) (fun z => nomatch z) r_90v_s (allC c_90v_s_0 (allC c_90v_s_1 (allC c_90v_s_2 (allC c_90v_s_3 (allC c_90v_s_4 (allC c_90v_s_5 (allC c_90v_s_6 (allC c_90v_s_7 allN)))))))) allN (sub0 (sub0 trivial)) r_90o_s (allC c_90o_s_0 (allC c_90o_s_1 (allC c_90o_s_2 allN))) allN
/- Reader.emitLiteral (IZ)V, more fully -/
def nbo_91 (a0 a1 a2 : Int) (h0 h : gH) : Prop := ∀ d : Int, d = hV h0 30 8 → ELp h0 h d a1 a2
def no_91 : List Int → gH → gH → Prop := fun xs h0 h => match xs with
  | [a0, a1, a2] => nbo_91 a0 a1 a2 h0 h
  | _ => True
noncomputable def e_91o : vE := eV e_91 no_91
noncomputable def L_91o : List vE := [e_98o]
def Bo_91 : Int → List Int → gH → gH → Prop := fun c xs h0 h => True
theorem q_91o_0 {n0 n1 n2 n3 n4 n5 : Int} {H0 H1 : gH} (f0 : n0 ≤ 1) (f1 : 0 ≤ n0) (f2 : n1 ≤ 2147483647) (f3 : (-2147483648) ≤ n1) (f4 : n2 = 30) (f5 : hWt T0 H0 ∧ True) (f6 : 0 ≤ n3) (f7 : hK H0 (n2).toNat = 4) (f8 : n3 = hV H0 (n2).toNat 8) (f9 : n4 = 10000) (f10 : n5 = w32 (n4 + n1)) (f11 : (hLe T0 H0 H1 ∧ hFr s_98.2.2.2.2 H0 H1 ∧ ((0 : Int) = 0 → H1.length = H0.length) ∧ hWt T0 H1) ∧ (True ∧ nbo_98 n3 n5 H0 H1)) (f12 : n0 = 0) : nbo_91 n2 n1 n0 H0 H1 := by
  unfold nbo_91
  intro d ed
  have r8 : n3 = hV H0 30 8 := by
    have w := f8
    rw [f4] at w
    exact w
  have w := f10
  rw [f9] at w
  have q11 := f11.2.2
  unfold nbo_98 at q11
  rw [show n3 = d from r8.trans (ed.symm)] at q11
  exact EL_0 q11 w (by omega)
def g_91o_s_0 : vG := ([(30, [2], [], 0), (1098, [3, 5], [0, 1], 0), (1, [5, 4, 1], [], 0), (0, [4], [], 10000), (20, [3, 0], [0], 8), (23, [0], [0], 4), (51, [3], [], 0), (6000, [0, 1, 2], [0], 0), (0, [0], [], 30), (90, [1], [], -2147483648), (91, [1], [], 2147483647), (90, [2], [], 0), (91, [2], [], 1)], (3000, [], [1], 26))
theorem c_91o_s_0 : vOkm T0 (eN e_91 L_91o A_91 mu_91 no_91 Bo_91 none) 3 g_91o_s_0 := vOk_inI fun ρ η f0 f1 f2 f3 f4 f5 f6 f7 f8 f9 f10 f11 f12 => q_91o_0 (n0 := ρ 2) (n1 := ρ 1) (n2 := ρ 0) (n3 := ρ 3) (n4 := ρ 4) (n5 := ρ 5) (H0 := η 0) (H1 := η 1) f12 f11 f10 f9 f8 f7 f6 f5 f4 f3 f2 f1 f0
theorem q_91o_1 {n0 n1 n2 n3 n4 n5 n6 n7 : Int} {H0 H1 H2 : gH} (f0 : n0 ≤ 1) (f1 : 0 ≤ n0) (f2 : n1 ≤ 2147483647) (f3 : (-2147483648) ≤ n1) (f4 : n2 = 30) (f5 : hWt T0 H0 ∧ True) (f6 : 0 ≤ n3) (f7 : hK H0 (n2).toNat = 4) (f8 : n3 = hV H0 (n2).toNat 8) (f9 : n4 = 10000) (f10 : n5 = w32 (n4 + n1)) (f11 : (hLe T0 H0 H1 ∧ hFr s_98.2.2.2.2 H0 H1 ∧ ((0 : Int) = 0 → H1.length = H0.length) ∧ hWt T0 H1) ∧ (True ∧ nbo_98 n3 n5 H0 H1)) (f12 : n0 ≠ 0) (f13 : 0 ≤ n6) (f14 : hK H1 (n2).toNat = 4) (f15 : n6 = hV H1 (n2).toNat 8) (f16 : n7 = 10044) (f17 : (hLe T0 H1 H2 ∧ hFr s_98.2.2.2.2 H1 H2 ∧ ((0 : Int) = 0 → H2.length = H1.length) ∧ hWt T0 H2) ∧ (True ∧ nbo_98 n6 n7 H1 H2)) : nbo_91 n2 n1 n0 H0 H2 := by
  unfold nbo_91
  intro d ed
  have r8 : n3 = hV H0 30 8 := by
    have w := f8
    rw [f4] at w
    exact w
  have r15 : n6 = hV H1 30 8 := by
    have w := f15
    rw [f4] at w
    exact w
  have w := f10
  rw [f9] at w
  have q11 := f11.2.2
  unfold nbo_98 at q11
  rw [show n3 = d from r8.trans (ed.symm)] at q11
  have q17 := f17.2.2
  unfold nbo_98 at q17
  rw [show n6 = d from r15.trans ((f11.1.2.1.1 30 8 (by decide +kernel)).trans ed.symm)] at q17
  exact EL_1 q11 w (by omega) q17 f16
def g_91o_s_1 : vG := ([(1098, [6, 7], [1, 2], 0), (0, [7], [], 10044), (20, [6, 0], [1], 8), (23, [0], [1], 4), (51, [6], [], 0), (31, [2], [], 0), (1098, [3, 5], [0, 1], 0), (1, [5, 4, 1], [], 0), (0, [4], [], 10000), (20, [3, 0], [0], 8), (23, [0], [0], 4), (51, [3], [], 0), (6000, [0, 1, 2], [0], 0), (0, [0], [], 30), (90, [1], [], -2147483648), (91, [1], [], 2147483647), (90, [2], [], 0), (91, [2], [], 1)], (3000, [], [2], 26))
theorem c_91o_s_1 : vOkm T0 (eN e_91 L_91o A_91 mu_91 no_91 Bo_91 none) 3 g_91o_s_1 := vOk_inI fun ρ η f0 f1 f2 f3 f4 f5 f6 f7 f8 f9 f10 f11 f12 f13 f14 f15 f16 f17 => q_91o_1 (n0 := ρ 2) (n1 := ρ 1) (n2 := ρ 0) (n3 := ρ 3) (n4 := ρ 4) (n5 := ρ 5) (n6 := ρ 6) (n7 := ρ 7) (H0 := η 0) (H1 := η 1) (H2 := η 2) f17 f16 f15 f14 f13 f12 f11 f10 f9 f8 f7 f6 f5 f4 f3 f2 f1 f0
def p_91o_s : List vG := [g_91o_s_0,
  g_91o_s_1]
theorem r_91o_s : vCovBO (eR0 e_91 L_91 cs_91 2000) p_91o_s = true := by decide +kernel
theorem m_91o (d : Nat) : eC e_91o (d + 2) := eC_ref (e := e_91) (L := L_91) (L' := L_91o) (cs := cs_91) (n := 2000) (d := d + 1) (A := A_91) (μ := mu_91) (tp := true) (p0 := p_91_s) (p1 := p_91o_s) (N := no_91) (B := Bo_91) rfl ⟨m_98o d, trivial⟩ rfl (.inr pre0_ok) (by decide +kernel) (fun _ => post0_ok) r_91_s allN allN (sub1 trivial) r_91o_s (allC c_91o_s_0 (allC c_91o_s_1 allN)) allN
