/- Tokens.wordKind (J)I -/
noncomputable def s_129v : vM := ([(3, 8, 31, 0), (1, 0, 0, 0)], (0, -2147483648, 2147483647, 0), 1, 0, [])
def preb_129v (a0 a1 : Int) (h : gH) : Prop := WDS h ∧ 0 ≤ a1 ∧ a1 < 1099511627776
def pre_129v : List Int → gH → Prop := fun xs h => match xs with
  | [a0, a1] => preb_129v a0 a1 h
  | _ => False
def postb_129v (r a0 a1 : Int) (h0 h : gH) : Prop := r = kwL a1 16 kw32
def post_129v : List Int → gH → gH → Prop := fun xs h0 h => match xs with
  | [r, a0, a1] => postb_129v r a0 a1 h0 h
  | _ => True
noncomputable def e_129v : vE := (129, s_129v, pre_129v, post_129v)
noncomputable def L_129v : List vE := [e_200vk725]
def cs_129v : List vC := [(2, [(0, (3, 8, 31, 0)), (1, (1, 0, 0, 0)), (3, (0, -2147483648, 2147483647, 0))])]
def Ab_129v_2 (a0 a1 x0 x1 x3 : Int) (h0 h : gH) : Prop := x0 = a0 ∧ x1 = a1 ∧ 0 ≤ x3 ∧ x3 ≤ 34 ∧ kwL a1 (16 + x3) (kw32.drop (x3).toNat) = kwL a1 16 kw32
def mub_129v_2 (a0 a1 x0 x1 x3 : Int) (h0 h : gH) : Nat := (2147483648 - x3).toNat
def A_129v : Int → List Int → gH → gH → Prop := fun c xs h0 h => match c.toNat with
  | 2 => (match xs with
    | [a0, a1, x0, x1, x3] => Ab_129v_2 a0 a1 x0 x1 x3 h0 h
    | _ => False)
  | _ => True
def mu_129v : Int → List Int → gH → gH → Nat := fun c xs h0 h => match c.toNat with
  | 2 => (match xs with
    | [a0, a1, x0, x1, x3] => mub_129v_2 a0 a1 x0 x1 x3 h0 h
    | _ => 0)
  | _ => 0
theorem q_129v_0 {n0 n1 n2 : Int} {H0 : gH} (f0 : n0 = 31) (f1 : hWt T0 H0 ∧ preb_129v n0 n1 H0) (f2 : n2 = 0) : Ab_129v_2 n0 n1 n0 n1 n2 H0 H0 ∧ ∀ q, none = some q → mub_129v_2 n0 n1 n0 n1 n2 H0 H0 < q := by
  have pz := f1.2
  unfold preb_129v at pz
  unfold Ab_129v_2
  refine ⟨⟨rfl, rfl, by omega, by omega, ?_⟩, fun q hq => nomatch hq⟩
  rw [show (n2).toNat = 0 by omega, show n2 = 0 by omega, Int.add_zero]
  rfl
theorem c_129v_s_0 : vOkm T0 (eP e_129v L_129v A_129v mu_129v none) 2 ([(0, [2], [], 0), (6000, [0, 1], [0], 0), (0, [0], [], 31)], (4000, [0, 1, 2], [0], 2)) := vOk_in fun ρ η h => by
  obtain ⟨f0, f1, f2, _⟩ := h
  exact q_129v_0 (n0 := ρ 0) (n1 := ρ 1) (n2 := ρ 2) (H0 := η 0) f2 f1 f0
def p_129v_s : List vG := [([(0, [2], [], 0), (6000, [0, 1], [0], 0), (0, [0], [], 31)], (4000, [0, 1, 2], [0], 2))]
theorem r_129v_s : vCovO false (eR0 e_129v L_129v cs_129v 2000) p_129v_s = true := by decide +kernel
theorem q_129v_1 {q0 : Nat} {n0 n1 n2 n3 n4 n5 n6 : Int} {H0 H1 : gH} (f0 : n0 ≤ 2147483647) (f1 : (-2147483648) ≤ n0) (f2 : n1 = 31) (f3 : n2 = 31) (f4 : (hLe T0 H0 H1 ∧ hFr s_129v.2.2.2.2 H0 H1 ∧ hWt T0 H1) ∧ (Ab_129v_2 n2 n3 n1 n4 n0 H0 H1 ∧ preb_129v n2 n3 H0) ∧ some q0 = some (mub_129v_2 n2 n3 n1 n4 n0 H0 H1)) (f5 : n5 = 34) (f6 : n5 ≤ n0) (f7 : n6 = 2) : postb_129v n6 n2 n3 H0 H1 := by
  have ga := f4.2.1.1
  unfold Ab_129v_2 at ga
  obtain ⟨k0, k1, i0, i1, y⟩ := ga
  have pz := f4.2.1.2
  unfold preb_129v at pz
  obtain ⟨wd, a0, a1⟩ := pz
  unfold postb_129v
  rw [show (n0).toNat = 34 by omega, show n0 = 34 by omega] at y
  have e : kwL n3 (16 + (34 : Int)) (kw32.drop 34) = 2 := rfl
  rw [e] at y
  omega
theorem c_129v_2_0 {q0 : Nat} : vOkm T0 (eP e_129v L_129v A_129v mu_129v (some q0)) 2 ([(0, [6], [], 2), (43, [4, 5], [], 0), (0, [5], [], 34), (5000, [0, 1, 2, 3, 4], [0, 1], 2), (0, [0], [], 31), (0, [2], [], 31), (90, [4], [], -2147483648), (91, [4], [], 2147483647)], (3000, [6], [1], 33)) := vOk_in fun ρ η h => by
  obtain ⟨f0, f1, f2, f3, f4, f5, f6, f7, _⟩ := h
  exact q_129v_1 (q0 := q0) (n0 := ρ 4) (n1 := ρ 2) (n2 := ρ 0) (n3 := ρ 1) (n4 := ρ 3) (n5 := ρ 5) (n6 := ρ 6) (H0 := η 0) (H1 := η 1) f7 f6 f5 f4 f3 f2 f1 f0
theorem q_129v_2 {q0 : Nat} {n0 n1 n2 n3 n4 n5 n6 n7 n8 n9 : Int} {H0 H1 H2 : gH} (f0 : n0 ≤ 2147483647) (f1 : (-2147483648) ≤ n0) (f2 : n1 = 31) (f3 : n2 = 31) (f4 : (hLe T0 H0 H1 ∧ hFr s_129v.2.2.2.2 H0 H1 ∧ hWt T0 H1) ∧ (Ab_129v_2 n2 n3 n1 n4 n0 H0 H1 ∧ preb_129v n2 n3 H0) ∧ some q0 = some (mub_129v_2 n2 n3 n1 n4 n0 H0 H1)) (f5 : n5 = 34) (f6 : n0 < n5) (f7 : n6 = 32) (f8 : n6 = hV H1 (n1).toNat 0) (f9 : (hLe T0 H1 H2 ∧ hFr s_200vk725.2.2.2.2 H1 H2 ∧ ((0 : Int) = 0 → H2.length = H1.length) ∧ hWt T0 H2) ∧ postb_200vk725 n7 n6 n0 H1 H2) (f10 : n8 = (lg_cmp (Int64.ofInt n7) (Int64.ofInt n4)).toInt) (f11 : n8 ≠ 0) (f12 : n9 = w32 (n0 + 1)) : Ab_129v_2 n2 n3 n1 n4 n9 H0 H2 ∧ ∀ q, some q0 = some q → mub_129v_2 n2 n3 n1 n4 n9 H0 H2 < q := by
  have ga := f4.2.1.1
  unfold Ab_129v_2 at ga
  obtain ⟨k0, k1, i0, i1, y⟩ := ga
  have pz := f4.2.1.2
  unfold preb_129v at pz
  obtain ⟨wd, a0, a1⟩ := pz
  have qa := f9.2
  unfold postb_200vk725 atQ at qa
  have w1 := WDS_fr f4.1.1 f4.1.2.1 (by decide +kernel) wd
  rw [f7] at qa
  have n34 : hN H1 32 = 34 := w1.2.1
  rw [if_pos ⟨by decide, by omega, by show _ < (hN H1 32 : Int); rw [n34]; omega⟩, show ((32 : Int)).toNat = 32 from rfl, w1.2.2 _ (by omega)] at qa
  have kb := kw_in ⟨(n0).toNat, by omega⟩
  have kb1 : 0 ≤ kw32.getD (n0).toNat 0 ∧ kw32.getD (n0).toNat 0 < 1099511627776 := kb
  have lc := lcq f10 (by omega) (by omega) (by omega) (by omega)
  have ks := kw_step (x := n3) (j := (n0).toNat) (by omega)
  rw [Int.toNat_of_nonneg i0] at ks
  have wq12 := f12
  unfold w32 at wq12
  have g5 := Option.some.inj f4.2.2
  unfold mub_129v_2 at g5
  rw [if_neg (by omega)] at ks
  unfold Ab_129v_2 mub_129v_2
  refine ⟨⟨k0, k1, by omega, by omega, ?_⟩, fun q hq => ?_⟩
  · rw [show (n9).toNat = (n0).toNat + 1 by omega, show n9 = (((n0).toNat + 1 : Nat) : Int) by omega, ← ks]
    exact y
  · have g6 := Option.some.inj hq
    subst g6
    omega
theorem c_129v_2_1 {q0 : Nat} : vOkm T0 (eP e_129v L_129v A_129v mu_129v (some q0)) 2 ([(10, [9, 4], [], 1), (31, [8], [], 0), (65, [8, 7, 3], [], 0), (1200, [7, 6, 4], [1, 2], 0), (20, [6, 2], [1], 0), (0, [6], [], 32), (42, [4, 5], [], 0), (0, [5], [], 34), (5000, [0, 1, 2, 3, 4], [0, 1], 2), (0, [0], [], 31), (0, [2], [], 31), (90, [4], [], -2147483648), (91, [4], [], 2147483647)], (4000, [2, 3, 9], [2], 2)) := vOk_in fun ρ η h => by
  obtain ⟨f0, f1, f2, f3, f4, f5, f6, f7, f8, f9, f10, f11, f12, _⟩ := h
  exact q_129v_2 (q0 := q0) (n0 := ρ 4) (n1 := ρ 2) (n2 := ρ 0) (n3 := ρ 1) (n4 := ρ 3) (n5 := ρ 5) (n6 := ρ 6) (n7 := ρ 7) (n8 := ρ 8) (n9 := ρ 9) (H0 := η 0) (H1 := η 1) (H2 := η 2) f12 f11 f10 f9 f8 f7 f6 f5 f4 f3 f2 f1 f0
theorem q_129v_3 {q0 : Nat} {n0 n1 n2 n3 n4 n5 n6 n7 n8 n9 n10 : Int} {H0 H1 H2 : gH} (f0 : n0 ≤ 2147483647) (f1 : (-2147483648) ≤ n0) (f2 : n1 = 31) (f3 : n2 = 31) (f4 : (hLe T0 H0 H1 ∧ hFr s_129v.2.2.2.2 H0 H1 ∧ hWt T0 H1) ∧ (Ab_129v_2 n2 n3 n1 n4 n0 H0 H1 ∧ preb_129v n2 n3 H0) ∧ some q0 = some (mub_129v_2 n2 n3 n1 n4 n0 H0 H1)) (f5 : n5 = 34) (f6 : n0 < n5) (f7 : n6 = 32) (f8 : n6 = hV H1 (n1).toNat 0) (f9 : (hLe T0 H1 H2 ∧ hFr s_200vk725.2.2.2.2 H1 H2 ∧ ((0 : Int) = 0 → H2.length = H1.length) ∧ hWt T0 H2) ∧ postb_200vk725 n7 n6 n0 H1 H2) (f10 : n8 = (lg_cmp (Int64.ofInt n7) (Int64.ofInt n4)).toInt) (f11 : n8 = 0) (f12 : n9 = 16) (f13 : n10 = w32 (n9 + n0)) : postb_129v n10 n2 n3 H0 H2 := by
  have ga := f4.2.1.1
  unfold Ab_129v_2 at ga
  obtain ⟨k0, k1, i0, i1, y⟩ := ga
  have pz := f4.2.1.2
  unfold preb_129v at pz
  obtain ⟨wd, a0, a1⟩ := pz
  have qa := f9.2
  unfold postb_200vk725 atQ at qa
  have w1 := WDS_fr f4.1.1 f4.1.2.1 (by decide +kernel) wd
  rw [f7] at qa
  have n34 : hN H1 32 = 34 := w1.2.1
  rw [if_pos ⟨by decide, by omega, by show _ < (hN H1 32 : Int); rw [n34]; omega⟩, show ((32 : Int)).toNat = 32 from rfl, w1.2.2 _ (by omega)] at qa
  have kb := kw_in ⟨(n0).toNat, by omega⟩
  have kb1 : 0 ≤ kw32.getD (n0).toNat 0 ∧ kw32.getD (n0).toNat 0 < 1099511627776 := kb
  have lc := lcq f10 (by omega) (by omega) (by omega) (by omega)
  have ks := kw_step (x := n3) (j := (n0).toNat) (by omega)
  rw [Int.toNat_of_nonneg i0] at ks
  unfold postb_129v
  rw [if_pos (by omega)] at ks
  have wq13 := f13
  unfold w32 at wq13
  omega
theorem c_129v_2_2 {q0 : Nat} : vOkm T0 (eP e_129v L_129v A_129v mu_129v (some q0)) 2 ([(1, [10, 9, 4], [], 0), (0, [9], [], 16), (30, [8], [], 0), (65, [8, 7, 3], [], 0), (1200, [7, 6, 4], [1, 2], 0), (20, [6, 2], [1], 0), (0, [6], [], 32), (42, [4, 5], [], 0), (0, [5], [], 34), (5000, [0, 1, 2, 3, 4], [0, 1], 2), (0, [0], [], 31), (0, [2], [], 31), (90, [4], [], -2147483648), (91, [4], [], 2147483647)], (3000, [10], [2], 25)) := vOk_in fun ρ η h => by
  obtain ⟨f0, f1, f2, f3, f4, f5, f6, f7, f8, f9, f10, f11, f12, f13, _⟩ := h
  exact q_129v_3 (q0 := q0) (n0 := ρ 4) (n1 := ρ 2) (n2 := ρ 0) (n3 := ρ 1) (n4 := ρ 3) (n5 := ρ 5) (n6 := ρ 6) (n7 := ρ 7) (n8 := ρ 8) (n9 := ρ 9) (n10 := ρ 10) (H0 := η 0) (H1 := η 1) (H2 := η 2) f13 f12 f11 f10 f9 f8 f7 f6 f5 f4 f3 f2 f1 f0
def p_129v_2 : List vG := [([(0, [6], [], 2), (43, [4, 5], [], 0), (0, [5], [], 34), (5000, [0, 1, 2, 3, 4], [0, 1], 2), (0, [0], [], 31), (0, [2], [], 31), (90, [4], [], -2147483648), (91, [4], [], 2147483647)], (3000, [6], [1], 33)),
  ([(10, [9, 4], [], 1), (31, [8], [], 0), (65, [8, 7, 3], [], 0), (1200, [7, 6, 4], [1, 2], 0), (20, [6, 2], [1], 0), (0, [6], [], 32), (42, [4, 5], [], 0), (0, [5], [], 34), (5000, [0, 1, 2, 3, 4], [0, 1], 2), (0, [0], [], 31), (0, [2], [], 31), (90, [4], [], -2147483648), (91, [4], [], 2147483647)], (4000, [2, 3, 9], [2], 2)),
  ([(1, [10, 9, 4], [], 0), (0, [9], [], 16), (30, [8], [], 0), (65, [8, 7, 3], [], 0), (1200, [7, 6, 4], [1, 2], 0), (20, [6, 2], [1], 0), (0, [6], [], 32), (42, [4, 5], [], 0), (0, [5], [], 34), (5000, [0, 1, 2, 3, 4], [0, 1], 2), (0, [0], [], 31), (0, [2], [], 31), (90, [4], [], -2147483648), (91, [4], [], 2147483647)], (3000, [10], [2], 25))]
theorem r_129v_2 : vCovO false (eRc e_129v L_129v cs_129v 2000 (2, [(0, (3, 8, 31, 0)), (1, (1, 0, 0, 0)), (3, (0, -2147483648, 2147483647, 0))])) p_129v_2 = true := by decide +kernel
theorem m_129v (d : Nat) : eC e_129v (d + 2) := eC_ok (e := e_129v) (L := L_129v) (cs := cs_129v) (n := 2000) (d := d + 1) (A := A_129v) (μ := mu_129v) (tp := false) (p0 := p_129v_s) rfl ⟨m_200vk725 d, trivial⟩ rfl (.inl rfl) (by decide +kernel) (fun z => nomatch z) r_129v_s (allC c_129v_s_0 allN) (allC (.inl ⟨p_129v_2, r_129v_2, fun q0 => (allC c_129v_2_0 (allC c_129v_2_1 (allC c_129v_2_2 allN)))⟩) allN)
