/- Tokens.scanInt ([III)I -/
noncomputable def s_130v : vM := ([(3, 8, 31, 0), (2, 692, -1, 0), (0, -2147483648, 2147483647, 0), (0, -2147483648, 2147483647, 0)], (0, -2147483648, 2147483647, 0), 1, 0, [(8, 4), (716, 0), (725, 0)])
def preb_130v (a0 a1 a2 a3 : Int) (h : gH) : Prop := KS5 h ∧ TP h ∧ a1 = 8 ∧ 0 ≤ a2 ∧ a2 < a3 ∧ a3 ≤ 2000 ∧ 0 ≤ hV h 31 4 ∧ hV h 31 4 ≤ 501
def pre_130v : List Int → gH → Prop := fun xs h => match xs with
  | [a0, a1, a2, a3] => preb_130v a0 a1 a2 a3 h
  | _ => False
def postb_130v (r a0 a1 a2 a3 : Int) (h0 h : gH) : Prop := r = a2 + pDi (hV h0 8) (a3).toNat ((a3).toNat - (a2).toNat) (a2).toNat ∧ NTD (hV h0 8) (a3).toNat (a2).toNat a2 h0 h ∧ KS5 h
def post_130v : List Int → gH → gH → Prop := fun xs h0 h => match xs with
  | [r, a0, a1, a2, a3] => postb_130v r a0 a1 a2 a3 h0 h
  | _ => True
noncomputable def e_130v : vE := (130, s_130v, pre_130v, post_130v)
noncomputable def L_130v : List vE := [e_126v, e_199vk692]
def cs_130v : List vC := [(6, [(0, (3, 8, 31, 0)), (1, (2, 692, -1, 0)), (2, (0, -2147483648, 2147483647, 0)), (3, (0, -2147483648, 2147483647, 0)), (4, (0, -2147483648, 2147483647, 0)), (5, (1, 0, 0, 0))])]
def Ab_130v_6 (a0 a1 a2 a3 x0 x1 x2 x3 x4 x5 : Int) (h0 h : gH) : Prop := x0 = a0 ∧ x1 = a1 ∧ x2 = a2 ∧ x3 = a3 ∧ a2 ≤ x4 ∧ x4 ≤ a3 ∧ DIs (hV h0 8) (a3).toNat (a2).toNat (x4).toNat ∧ LVa (hV h0 8) (a2).toNat (x4).toNat x5 ∧ SMT h0 h
def mub_130v_6 (a0 a1 a2 a3 x0 x1 x2 x3 x4 x5 : Int) (h0 h : gH) : Nat := (2147483648 - x4).toNat
def A_130v : Int → List Int → gH → gH → Prop := fun c xs h0 h => match c.toNat with
  | 6 => (match xs with
    | [a0, a1, a2, a3, x0, x1, x2, x3, x4, x5] => Ab_130v_6 a0 a1 a2 a3 x0 x1 x2 x3 x4 x5 h0 h
    | _ => False)
  | _ => True
def mu_130v : Int → List Int → gH → gH → Nat := fun c xs h0 h => match c.toNat with
  | 6 => (match xs with
    | [a0, a1, a2, a3, x0, x1, x2, x3, x4, x5] => mub_130v_6 a0 a1 a2 a3 x0 x1 x2 x3 x4 x5 h0 h
    | _ => 0)
  | _ => 0
theorem q_130v_0 {n0 n1 n2 n3 n4 : Int} {H0 : gH} (f0 : n0 ≤ 2147483647) (f1 : (-2147483648) ≤ n0) (f2 : n1 ≤ 2147483647) (f3 : (-2147483648) ≤ n1) (f4 : n2 = 31) (f5 : hWt T0 H0 ∧ preb_130v n2 n3 n1 n0 H0) (f6 : n4 = 0) : Ab_130v_6 n2 n3 n1 n0 n2 n3 n1 n0 n1 n4 H0 H0 ∧ ∀ q, none = some q → mub_130v_6 n2 n3 n1 n0 n2 n3 n1 n0 n1 n4 H0 H0 < q := by
  have pz := f5.2
  unfold preb_130v at pz
  unfold Ab_130v_6
  exact ⟨⟨rfl, rfl, rfl, rfl, Int.le_refl _, by omega, DIs_zero, fun _ => by rw [Nat.sub_self]; show n4 = 0; omega, SMT_rfl⟩, fun q hq => nomatch hq⟩
theorem c_130v_s_0 : vOkm T0 (eP e_130v L_130v A_130v mu_130v none) 4 ([(0, [4], [], 0), (6000, [0, 1, 2, 3], [0], 0), (0, [0], [], 31), (90, [2], [], -2147483648), (91, [2], [], 2147483647), (90, [3], [], -2147483648), (91, [3], [], 2147483647)], (4000, [0, 1, 2, 3, 2, 4], [0], 6)) := vOk_in fun ρ η h => by
  obtain ⟨f0, f1, f2, f3, f4, f5, f6, _⟩ := h
  exact q_130v_0 (n0 := ρ 3) (n1 := ρ 2) (n2 := ρ 0) (n3 := ρ 1) (n4 := ρ 4) (H0 := η 0) f6 f5 f4 f3 f2 f1 f0
def p_130v_s : List vG := [([(0, [4], [], 0), (6000, [0, 1, 2, 3], [0], 0), (0, [0], [], 31), (90, [2], [], -2147483648), (91, [2], [], 2147483647), (90, [3], [], -2147483648), (91, [3], [], 2147483647)], (4000, [0, 1, 2, 3, 2, 4], [0], 6))]
theorem r_130v_s : vCovO false (eR0 e_130v L_130v cs_130v 2000) p_130v_s = true := by decide +kernel
theorem q_130v_1 {q0 : Nat} {n0 n1 n2 n3 n4 n5 n6 n7 n8 n9 n10 n11 n12 : Int} {H0 H1 : gH} (f0 : n0 ≤ 2147483647) (f1 : (-2147483648) ≤ n0) (f2 : n1 ≤ 2147483647) (f3 : (-2147483648) ≤ n1) (f4 : n2 ≤ 2147483647) (f5 : (-2147483648) ≤ n2) (f6 : n3 = 31) (f7 : n4 ≤ 2147483647) (f8 : (-2147483648) ≤ n4) (f9 : n5 ≤ 2147483647) (f10 : (-2147483648) ≤ n5) (f11 : n6 = 31) (f12 : (hLe T0 H0 H1 ∧ hFr s_130v.2.2.2.2 H0 H1 ∧ hWt T0 H1) ∧ (Ab_130v_6 n6 n7 n5 n4 n3 n8 n2 n1 n0 n9 H0 H1 ∧ preb_130v n6 n7 n5 n4 H0) ∧ some q0 = some (mub_130v_6 n6 n7 n5 n4 n3 n8 n2 n1 n0 n9 H0 H1)) (f13 : n1 ≤ n0) (f14 : n10 = w32 (n0 - n2)) (f15 : n11 = 4) (f16 : n10 ≤ n11) (f17 : n12 = 3) : preb_126v n3 n12 n2 n9 H1 := by
  have ga := f12.2.1.1
  unfold Ab_130v_6 at ga
  obtain ⟨k0, k1, k2, k3, i0, i1, di, lv, sm⟩ := ga
  have pz := f12.2.1.2
  unfold preb_130v at pz
  obtain ⟨ks, tp, b0, b1, b2, b3, c0, c1⟩ := pz
  have ks1 := KS5_le f12.1.1 ks
  have tp1 := TP_le f12.1.1 tp
  unfold preb_126v
  exact ⟨ks1, by rw [sm.1]; exact c0, by rw [sm.1]; exact c1⟩
theorem c_130v_6_0 {q0 : Nat} : vOkm T0 (eP e_130v L_130v A_130v mu_130v (some q0)) 4 ([(0, [12], [], 3), (45, [10, 11], [], 0), (0, [11], [], 4), (2, [10, 8, 6], [], 0), (43, [8, 7], [], 0), (5000, [0, 1, 2, 3, 4, 5, 6, 7, 8, 9], [0, 1], 6), (0, [0], [], 31), (90, [2], [], -2147483648), (91, [2], [], 2147483647), (90, [3], [], -2147483648), (91, [3], [], 2147483647), (0, [4], [], 31), (90, [6], [], -2147483648), (91, [6], [], 2147483647), (90, [7], [], -2147483648), (91, [7], [], 2147483647), (90, [8], [], -2147483648), (91, [8], [], 2147483647)], (2126, [4, 12, 6, 9], [1], 0)) := vOk_in fun ρ η h => by
  obtain ⟨f0, f1, f2, f3, f4, f5, f6, f7, f8, f9, f10, f11, f12, f13, f14, f15, f16, f17, _⟩ := h
  exact q_130v_1 (q0 := q0) (n0 := ρ 8) (n1 := ρ 7) (n2 := ρ 6) (n3 := ρ 4) (n4 := ρ 3) (n5 := ρ 2) (n6 := ρ 0) (n7 := ρ 1) (n8 := ρ 5) (n9 := ρ 9) (n10 := ρ 10) (n11 := ρ 11) (n12 := ρ 12) (H0 := η 0) (H1 := η 1) f17 f16 f15 f14 f13 f12 f11 f10 f9 f8 f7 f6 f5 f4 f3 f2 f1 f0
theorem q_130v_2 {q0 : Nat} {n0 n1 n2 n3 n4 n5 n6 n7 n8 n9 n10 n11 n12 : Int} {H0 H1 H2 : gH} (f0 : n0 ≤ 2147483647) (f1 : (-2147483648) ≤ n0) (f2 : n1 ≤ 2147483647) (f3 : (-2147483648) ≤ n1) (f4 : n2 ≤ 2147483647) (f5 : (-2147483648) ≤ n2) (f6 : n3 = 31) (f7 : n4 ≤ 2147483647) (f8 : (-2147483648) ≤ n4) (f9 : n5 ≤ 2147483647) (f10 : (-2147483648) ≤ n5) (f11 : n6 = 31) (f12 : (hLe T0 H0 H1 ∧ hFr s_130v.2.2.2.2 H0 H1 ∧ hWt T0 H1) ∧ (Ab_130v_6 n6 n7 n5 n4 n3 n8 n2 n1 n0 n9 H0 H1 ∧ preb_130v n6 n7 n5 n4 H0) ∧ some q0 = some (mub_130v_6 n6 n7 n5 n4 n3 n8 n2 n1 n0 n9 H0 H1)) (f13 : n1 ≤ n0) (f14 : n10 = w32 (n0 - n2)) (f15 : n11 = 4) (f16 : n10 ≤ n11) (f17 : n12 = 3) (f18 : (hLe T0 H1 H2 ∧ hFr s_126v.2.2.2.2 H1 H2 ∧ ((0 : Int) = 0 → H2.length = H1.length) ∧ hWt T0 H2) ∧ postb_126v n3 n12 n2 n9 H1 H2) : postb_130v n0 n6 n7 n5 n4 H0 H2 := by
  have ga := f12.2.1.1
  unfold Ab_130v_6 at ga
  obtain ⟨k0, k1, k2, k3, i0, i1, di, lv, sm⟩ := ga
  have pz := f12.2.1.2
  unfold preb_130v at pz
  obtain ⟨ks, tp, b0, b1, b2, b3, c0, c1⟩ := pz
  have ks1 := KS5_le f12.1.1 ks
  have tp1 := TP_le f12.1.1 tp
  have wq14 := f14
  unfold w32 at wq14
  have nt := f18.2
  unfold postb_126v at nt
  have et : ((n0).toNat : Int) = n0 := Int.toNat_of_nonneg (by omega)
  have nn_ := NTp_from sm nt.1
  have nd := NTD_mk di lv (by omega) nn_ (by omega)
  rw [show n2 = n5 from k2] at nd
  have de := DIs_end di (by omega)
  unfold postb_130v
  exact ⟨by omega, nd, nt.2⟩
theorem c_130v_6_1 {q0 : Nat} : vOkm T0 (eP e_130v L_130v A_130v mu_130v (some q0)) 4 ([(1126, [4, 12, 6, 9], [1, 2], 0), (0, [12], [], 3), (45, [10, 11], [], 0), (0, [11], [], 4), (2, [10, 8, 6], [], 0), (43, [8, 7], [], 0), (5000, [0, 1, 2, 3, 4, 5, 6, 7, 8, 9], [0, 1], 6), (0, [0], [], 31), (90, [2], [], -2147483648), (91, [2], [], 2147483647), (90, [3], [], -2147483648), (91, [3], [], 2147483647), (0, [4], [], 31), (90, [6], [], -2147483648), (91, [6], [], 2147483647), (90, [7], [], -2147483648), (91, [7], [], 2147483647), (90, [8], [], -2147483648), (91, [8], [], 2147483647)], (3000, [8], [2], 81)) := vOk_in fun ρ η h => by
  obtain ⟨f0, f1, f2, f3, f4, f5, f6, f7, f8, f9, f10, f11, f12, f13, f14, f15, f16, f17, f18, _⟩ := h
  exact q_130v_2 (q0 := q0) (n0 := ρ 8) (n1 := ρ 7) (n2 := ρ 6) (n3 := ρ 4) (n4 := ρ 3) (n5 := ρ 2) (n6 := ρ 0) (n7 := ρ 1) (n8 := ρ 5) (n9 := ρ 9) (n10 := ρ 10) (n11 := ρ 11) (n12 := ρ 12) (H0 := η 0) (H1 := η 1) (H2 := η 2) f18 f17 f16 f15 f14 f13 f12 f11 f10 f9 f8 f7 f6 f5 f4 f3 f2 f1 f0
theorem q_130v_3 {q0 : Nat} {n0 n1 n2 n3 n4 n5 n6 n7 n8 n9 n10 n11 n12 : Int} {H0 H1 : gH} (f0 : n0 ≤ 2147483647) (f1 : (-2147483648) ≤ n0) (f2 : n1 ≤ 2147483647) (f3 : (-2147483648) ≤ n1) (f4 : n2 ≤ 2147483647) (f5 : (-2147483648) ≤ n2) (f6 : n3 = 31) (f7 : n4 ≤ 2147483647) (f8 : (-2147483648) ≤ n4) (f9 : n5 ≤ 2147483647) (f10 : (-2147483648) ≤ n5) (f11 : n6 = 31) (f12 : (hLe T0 H0 H1 ∧ hFr s_130v.2.2.2.2 H0 H1 ∧ hWt T0 H1) ∧ (Ab_130v_6 n6 n7 n5 n4 n3 n8 n2 n1 n0 n9 H0 H1 ∧ preb_130v n6 n7 n5 n4 H0) ∧ some q0 = some (mub_130v_6 n6 n7 n5 n4 n3 n8 n2 n1 n0 n9 H0 H1)) (f13 : n1 ≤ n0) (f14 : n10 = w32 (n0 - n2)) (f15 : n11 = 4) (f16 : n11 < n10) (f17 : n12 = 1) : preb_126v n3 n12 n2 n9 H1 := by
  have ga := f12.2.1.1
  unfold Ab_130v_6 at ga
  obtain ⟨k0, k1, k2, k3, i0, i1, di, lv, sm⟩ := ga
  have pz := f12.2.1.2
  unfold preb_130v at pz
  obtain ⟨ks, tp, b0, b1, b2, b3, c0, c1⟩ := pz
  have ks1 := KS5_le f12.1.1 ks
  have tp1 := TP_le f12.1.1 tp
  unfold preb_126v
  exact ⟨ks1, by rw [sm.1]; exact c0, by rw [sm.1]; exact c1⟩
theorem c_130v_6_2 {q0 : Nat} : vOkm T0 (eP e_130v L_130v A_130v mu_130v (some q0)) 4 ([(0, [12], [], 1), (44, [10, 11], [], 0), (0, [11], [], 4), (2, [10, 8, 6], [], 0), (43, [8, 7], [], 0), (5000, [0, 1, 2, 3, 4, 5, 6, 7, 8, 9], [0, 1], 6), (0, [0], [], 31), (90, [2], [], -2147483648), (91, [2], [], 2147483647), (90, [3], [], -2147483648), (91, [3], [], 2147483647), (0, [4], [], 31), (90, [6], [], -2147483648), (91, [6], [], 2147483647), (90, [7], [], -2147483648), (91, [7], [], 2147483647), (90, [8], [], -2147483648), (91, [8], [], 2147483647)], (2126, [4, 12, 6, 9], [1], 0)) := vOk_in fun ρ η h => by
  obtain ⟨f0, f1, f2, f3, f4, f5, f6, f7, f8, f9, f10, f11, f12, f13, f14, f15, f16, f17, _⟩ := h
  exact q_130v_3 (q0 := q0) (n0 := ρ 8) (n1 := ρ 7) (n2 := ρ 6) (n3 := ρ 4) (n4 := ρ 3) (n5 := ρ 2) (n6 := ρ 0) (n7 := ρ 1) (n8 := ρ 5) (n9 := ρ 9) (n10 := ρ 10) (n11 := ρ 11) (n12 := ρ 12) (H0 := η 0) (H1 := η 1) f17 f16 f15 f14 f13 f12 f11 f10 f9 f8 f7 f6 f5 f4 f3 f2 f1 f0
theorem q_130v_4 {q0 : Nat} {n0 n1 n2 n3 n4 n5 n6 n7 n8 n9 n10 n11 n12 : Int} {H0 H1 H2 : gH} (f0 : n0 ≤ 2147483647) (f1 : (-2147483648) ≤ n0) (f2 : n1 ≤ 2147483647) (f3 : (-2147483648) ≤ n1) (f4 : n2 ≤ 2147483647) (f5 : (-2147483648) ≤ n2) (f6 : n3 = 31) (f7 : n4 ≤ 2147483647) (f8 : (-2147483648) ≤ n4) (f9 : n5 ≤ 2147483647) (f10 : (-2147483648) ≤ n5) (f11 : n6 = 31) (f12 : (hLe T0 H0 H1 ∧ hFr s_130v.2.2.2.2 H0 H1 ∧ hWt T0 H1) ∧ (Ab_130v_6 n6 n7 n5 n4 n3 n8 n2 n1 n0 n9 H0 H1 ∧ preb_130v n6 n7 n5 n4 H0) ∧ some q0 = some (mub_130v_6 n6 n7 n5 n4 n3 n8 n2 n1 n0 n9 H0 H1)) (f13 : n1 ≤ n0) (f14 : n10 = w32 (n0 - n2)) (f15 : n11 = 4) (f16 : n11 < n10) (f17 : n12 = 1) (f18 : (hLe T0 H1 H2 ∧ hFr s_126v.2.2.2.2 H1 H2 ∧ ((0 : Int) = 0 → H2.length = H1.length) ∧ hWt T0 H2) ∧ postb_126v n3 n12 n2 n9 H1 H2) : postb_130v n0 n6 n7 n5 n4 H0 H2 := by
  have ga := f12.2.1.1
  unfold Ab_130v_6 at ga
  obtain ⟨k0, k1, k2, k3, i0, i1, di, lv, sm⟩ := ga
  have pz := f12.2.1.2
  unfold preb_130v at pz
  obtain ⟨ks, tp, b0, b1, b2, b3, c0, c1⟩ := pz
  have ks1 := KS5_le f12.1.1 ks
  have tp1 := TP_le f12.1.1 tp
  have wq14 := f14
  unfold w32 at wq14
  have nt := f18.2
  unfold postb_126v at nt
  have et : ((n0).toNat : Int) = n0 := Int.toNat_of_nonneg (by omega)
  have nn_ := NTp_from sm nt.1
  have nd := NTD_mk di lv (by omega) nn_ (by omega)
  rw [show n2 = n5 from k2] at nd
  have de := DIs_end di (by omega)
  unfold postb_130v
  exact ⟨by omega, nd, nt.2⟩
theorem c_130v_6_3 {q0 : Nat} : vOkm T0 (eP e_130v L_130v A_130v mu_130v (some q0)) 4 ([(1126, [4, 12, 6, 9], [1, 2], 0), (0, [12], [], 1), (44, [10, 11], [], 0), (0, [11], [], 4), (2, [10, 8, 6], [], 0), (43, [8, 7], [], 0), (5000, [0, 1, 2, 3, 4, 5, 6, 7, 8, 9], [0, 1], 6), (0, [0], [], 31), (90, [2], [], -2147483648), (91, [2], [], 2147483647), (90, [3], [], -2147483648), (91, [3], [], 2147483647), (0, [4], [], 31), (90, [6], [], -2147483648), (91, [6], [], 2147483647), (90, [7], [], -2147483648), (91, [7], [], 2147483647), (90, [8], [], -2147483648), (91, [8], [], 2147483647)], (3000, [8], [2], 81)) := vOk_in fun ρ η h => by
  obtain ⟨f0, f1, f2, f3, f4, f5, f6, f7, f8, f9, f10, f11, f12, f13, f14, f15, f16, f17, f18, _⟩ := h
  exact q_130v_4 (q0 := q0) (n0 := ρ 8) (n1 := ρ 7) (n2 := ρ 6) (n3 := ρ 4) (n4 := ρ 3) (n5 := ρ 2) (n6 := ρ 0) (n7 := ρ 1) (n8 := ρ 5) (n9 := ρ 9) (n10 := ρ 10) (n11 := ρ 11) (n12 := ρ 12) (H0 := η 0) (H1 := η 1) (H2 := η 2) f18 f17 f16 f15 f14 f13 f12 f11 f10 f9 f8 f7 f6 f5 f4 f3 f2 f1 f0
theorem q_130v_5 {q0 : Nat} {n0 n1 n2 n3 n4 n5 n6 n7 n8 n9 n10 n11 n12 n13 n14 : Int} {H0 H1 H2 : gH} (f0 : n0 ≤ 2147483647) (f1 : (-2147483648) ≤ n0) (f2 : n1 ≤ 2147483647) (f3 : (-2147483648) ≤ n1) (f4 : n2 ≤ 2147483647) (f5 : (-2147483648) ≤ n2) (f6 : n3 = 31) (f7 : n4 ≤ 2147483647) (f8 : (-2147483648) ≤ n4) (f9 : n5 ≤ 2147483647) (f10 : (-2147483648) ≤ n5) (f11 : n6 = 31) (f12 : (hLe T0 H0 H1 ∧ hFr s_130v.2.2.2.2 H0 H1 ∧ hWt T0 H1) ∧ (Ab_130v_6 n6 n7 n5 n4 n3 n8 n2 n1 n0 n9 H0 H1 ∧ preb_130v n6 n7 n5 n4 H0) ∧ some q0 = some (mub_130v_6 n6 n7 n5 n4 n3 n8 n2 n1 n0 n9 H0 H1)) (f13 : n0 < n1) (f14 : n10 ≤ 2147483647) (f15 : (-2147483648) ≤ n10) (f16 : (hLe T0 H1 H2 ∧ hFr s_199vk692.2.2.2.2 H1 H2 ∧ ((0 : Int) = 0 → H2.length = H1.length) ∧ hWt T0 H2) ∧ postb_199vk692 n10 n8 n0 H1 H2) (f17 : n11 = 48) (f18 : n10 < n11) (f19 : n12 = w32 (n0 - n2)) (f20 : n13 = 4) (f21 : n12 ≤ n13) (f22 : n14 = 3) : preb_126v n3 n14 n2 n9 H2 := by
  have ga := f12.2.1.1
  unfold Ab_130v_6 at ga
  obtain ⟨k0, k1, k2, k3, i0, i1, di, lv, sm⟩ := ga
  have pz := f12.2.1.2
  unfold preb_130v at pz
  obtain ⟨ks, tp, b0, b1, b2, b3, c0, c1⟩ := pz
  have ks1 := KS5_le f12.1.1 ks
  have tp1 := TP_le f12.1.1 tp
  have qa0 := f16.2
  unfold postb_199vk692 at qa0
  have a0 := at8 sm tp1 qa0 (by omega) (by omega) (by omega)
  have sm0 := SMT_trans sm (SMT_fr f16.1.2.1 (by decide +kernel))
  have ks_0 := KS5_le f16.1.1 ks1
  have tp_0 := TP_le f16.1.1 tp1
  unfold preb_126v
  exact ⟨ks_0, by rw [sm0.1]; exact c0, by rw [sm0.1]; exact c1⟩
theorem c_130v_6_4 {q0 : Nat} : vOkm T0 (eP e_130v L_130v A_130v mu_130v (some q0)) 4 ([(0, [14], [], 3), (45, [12, 13], [], 0), (0, [13], [], 4), (2, [12, 8, 6], [], 0), (42, [10, 11], [], 0), (0, [11], [], 48), (1199, [10, 5, 8], [1, 2], 0), (90, [10], [], -2147483648), (91, [10], [], 2147483647), (42, [8, 7], [], 0), (5000, [0, 1, 2, 3, 4, 5, 6, 7, 8, 9], [0, 1], 6), (0, [0], [], 31), (90, [2], [], -2147483648), (91, [2], [], 2147483647), (90, [3], [], -2147483648), (91, [3], [], 2147483647), (0, [4], [], 31), (90, [6], [], -2147483648), (91, [6], [], 2147483647), (90, [7], [], -2147483648), (91, [7], [], 2147483647), (90, [8], [], -2147483648), (91, [8], [], 2147483647)], (2126, [4, 14, 6, 9], [2], 0)) := vOk_in fun ρ η h => by
  obtain ⟨f0, f1, f2, f3, f4, f5, f6, f7, f8, f9, f10, f11, f12, f13, f14, f15, f16, f17, f18, f19, f20, f21, f22, _⟩ := h
  exact q_130v_5 (q0 := q0) (n0 := ρ 8) (n1 := ρ 7) (n2 := ρ 6) (n3 := ρ 4) (n4 := ρ 3) (n5 := ρ 2) (n6 := ρ 0) (n7 := ρ 1) (n8 := ρ 5) (n9 := ρ 9) (n10 := ρ 10) (n11 := ρ 11) (n12 := ρ 12) (n13 := ρ 13) (n14 := ρ 14) (H0 := η 0) (H1 := η 1) (H2 := η 2) f22 f21 f20 f19 f18 f17 f16 f15 f14 f13 f12 f11 f10 f9 f8 f7 f6 f5 f4 f3 f2 f1 f0
theorem q_130v_6 {q0 : Nat} {n0 n1 n2 n3 n4 n5 n6 n7 n8 n9 n10 n11 n12 n13 n14 : Int} {H0 H1 H2 H3 : gH} (f0 : n0 ≤ 2147483647) (f1 : (-2147483648) ≤ n0) (f2 : n1 ≤ 2147483647) (f3 : (-2147483648) ≤ n1) (f4 : n2 ≤ 2147483647) (f5 : (-2147483648) ≤ n2) (f6 : n3 = 31) (f7 : n4 ≤ 2147483647) (f8 : (-2147483648) ≤ n4) (f9 : n5 ≤ 2147483647) (f10 : (-2147483648) ≤ n5) (f11 : n6 = 31) (f12 : (hLe T0 H0 H1 ∧ hFr s_130v.2.2.2.2 H0 H1 ∧ hWt T0 H1) ∧ (Ab_130v_6 n6 n7 n5 n4 n3 n8 n2 n1 n0 n9 H0 H1 ∧ preb_130v n6 n7 n5 n4 H0) ∧ some q0 = some (mub_130v_6 n6 n7 n5 n4 n3 n8 n2 n1 n0 n9 H0 H1)) (f13 : n0 < n1) (f14 : n10 ≤ 2147483647) (f15 : (-2147483648) ≤ n10) (f16 : (hLe T0 H1 H2 ∧ hFr s_199vk692.2.2.2.2 H1 H2 ∧ ((0 : Int) = 0 → H2.length = H1.length) ∧ hWt T0 H2) ∧ postb_199vk692 n10 n8 n0 H1 H2) (f17 : n11 = 48) (f18 : n10 < n11) (f19 : n12 = w32 (n0 - n2)) (f20 : n13 = 4) (f21 : n12 ≤ n13) (f22 : n14 = 3) (f23 : (hLe T0 H2 H3 ∧ hFr s_126v.2.2.2.2 H2 H3 ∧ ((0 : Int) = 0 → H3.length = H2.length) ∧ hWt T0 H3) ∧ postb_126v n3 n14 n2 n9 H2 H3) : postb_130v n0 n6 n7 n5 n4 H0 H3 := by
  have ga := f12.2.1.1
  unfold Ab_130v_6 at ga
  obtain ⟨k0, k1, k2, k3, i0, i1, di, lv, sm⟩ := ga
  have pz := f12.2.1.2
  unfold preb_130v at pz
  obtain ⟨ks, tp, b0, b1, b2, b3, c0, c1⟩ := pz
  have ks1 := KS5_le f12.1.1 ks
  have tp1 := TP_le f12.1.1 tp
  have qa0 := f16.2
  unfold postb_199vk692 at qa0
  have a0 := at8 sm tp1 qa0 (by omega) (by omega) (by omega)
  have sm0 := SMT_trans sm (SMT_fr f16.1.2.1 (by decide +kernel))
  have ks_0 := KS5_le f16.1.1 ks1
  have tp_0 := TP_le f16.1.1 tp1
  have wq19 := f19
  unfold w32 at wq19
  have nt := f23.2
  unfold postb_126v at nt
  have et : ((n0).toNat : Int) = n0 := Int.toNat_of_nonneg (by omega)
  have hb : n10 = hV H0 8 (n0).toNat := a0
  have nn_ := NTp_from sm0 nt.1
  have nd := NTD_mk di lv (by omega) nn_ (by omega)
  rw [show n2 = n5 from k2] at nd
  have de := DIs_end di (by omega)
  unfold postb_130v
  exact ⟨by omega, nd, nt.2⟩
theorem c_130v_6_5 {q0 : Nat} : vOkm T0 (eP e_130v L_130v A_130v mu_130v (some q0)) 4 ([(1126, [4, 14, 6, 9], [2, 3], 0), (0, [14], [], 3), (45, [12, 13], [], 0), (0, [13], [], 4), (2, [12, 8, 6], [], 0), (42, [10, 11], [], 0), (0, [11], [], 48), (1199, [10, 5, 8], [1, 2], 0), (90, [10], [], -2147483648), (91, [10], [], 2147483647), (42, [8, 7], [], 0), (5000, [0, 1, 2, 3, 4, 5, 6, 7, 8, 9], [0, 1], 6), (0, [0], [], 31), (90, [2], [], -2147483648), (91, [2], [], 2147483647), (90, [3], [], -2147483648), (91, [3], [], 2147483647), (0, [4], [], 31), (90, [6], [], -2147483648), (91, [6], [], 2147483647), (90, [7], [], -2147483648), (91, [7], [], 2147483647), (90, [8], [], -2147483648), (91, [8], [], 2147483647)], (3000, [8], [3], 81)) := vOk_in fun ρ η h => by
  obtain ⟨f0, f1, f2, f3, f4, f5, f6, f7, f8, f9, f10, f11, f12, f13, f14, f15, f16, f17, f18, f19, f20, f21, f22, f23, _⟩ := h
  exact q_130v_6 (q0 := q0) (n0 := ρ 8) (n1 := ρ 7) (n2 := ρ 6) (n3 := ρ 4) (n4 := ρ 3) (n5 := ρ 2) (n6 := ρ 0) (n7 := ρ 1) (n8 := ρ 5) (n9 := ρ 9) (n10 := ρ 10) (n11 := ρ 11) (n12 := ρ 12) (n13 := ρ 13) (n14 := ρ 14) (H0 := η 0) (H1 := η 1) (H2 := η 2) (H3 := η 3) f23 f22 f21 f20 f19 f18 f17 f16 f15 f14 f13 f12 f11 f10 f9 f8 f7 f6 f5 f4 f3 f2 f1 f0
theorem q_130v_7 {q0 : Nat} {n0 n1 n2 n3 n4 n5 n6 n7 n8 n9 n10 n11 n12 n13 n14 : Int} {H0 H1 H2 : gH} (f0 : n0 ≤ 2147483647) (f1 : (-2147483648) ≤ n0) (f2 : n1 ≤ 2147483647) (f3 : (-2147483648) ≤ n1) (f4 : n2 ≤ 2147483647) (f5 : (-2147483648) ≤ n2) (f6 : n3 = 31) (f7 : n4 ≤ 2147483647) (f8 : (-2147483648) ≤ n4) (f9 : n5 ≤ 2147483647) (f10 : (-2147483648) ≤ n5) (f11 : n6 = 31) (f12 : (hLe T0 H0 H1 ∧ hFr s_130v.2.2.2.2 H0 H1 ∧ hWt T0 H1) ∧ (Ab_130v_6 n6 n7 n5 n4 n3 n8 n2 n1 n0 n9 H0 H1 ∧ preb_130v n6 n7 n5 n4 H0) ∧ some q0 = some (mub_130v_6 n6 n7 n5 n4 n3 n8 n2 n1 n0 n9 H0 H1)) (f13 : n0 < n1) (f14 : n10 ≤ 2147483647) (f15 : (-2147483648) ≤ n10) (f16 : (hLe T0 H1 H2 ∧ hFr s_199vk692.2.2.2.2 H1 H2 ∧ ((0 : Int) = 0 → H2.length = H1.length) ∧ hWt T0 H2) ∧ postb_199vk692 n10 n8 n0 H1 H2) (f17 : n11 = 48) (f18 : n10 < n11) (f19 : n12 = w32 (n0 - n2)) (f20 : n13 = 4) (f21 : n13 < n12) (f22 : n14 = 1) : preb_126v n3 n14 n2 n9 H2 := by
  have ga := f12.2.1.1
  unfold Ab_130v_6 at ga
  obtain ⟨k0, k1, k2, k3, i0, i1, di, lv, sm⟩ := ga
  have pz := f12.2.1.2
  unfold preb_130v at pz
  obtain ⟨ks, tp, b0, b1, b2, b3, c0, c1⟩ := pz
  have ks1 := KS5_le f12.1.1 ks
  have tp1 := TP_le f12.1.1 tp
  have qa0 := f16.2
  unfold postb_199vk692 at qa0
  have a0 := at8 sm tp1 qa0 (by omega) (by omega) (by omega)
  have sm0 := SMT_trans sm (SMT_fr f16.1.2.1 (by decide +kernel))
  have ks_0 := KS5_le f16.1.1 ks1
  have tp_0 := TP_le f16.1.1 tp1
  unfold preb_126v
  exact ⟨ks_0, by rw [sm0.1]; exact c0, by rw [sm0.1]; exact c1⟩
theorem c_130v_6_6 {q0 : Nat} : vOkm T0 (eP e_130v L_130v A_130v mu_130v (some q0)) 4 ([(0, [14], [], 1), (44, [12, 13], [], 0), (0, [13], [], 4), (2, [12, 8, 6], [], 0), (42, [10, 11], [], 0), (0, [11], [], 48), (1199, [10, 5, 8], [1, 2], 0), (90, [10], [], -2147483648), (91, [10], [], 2147483647), (42, [8, 7], [], 0), (5000, [0, 1, 2, 3, 4, 5, 6, 7, 8, 9], [0, 1], 6), (0, [0], [], 31), (90, [2], [], -2147483648), (91, [2], [], 2147483647), (90, [3], [], -2147483648), (91, [3], [], 2147483647), (0, [4], [], 31), (90, [6], [], -2147483648), (91, [6], [], 2147483647), (90, [7], [], -2147483648), (91, [7], [], 2147483647), (90, [8], [], -2147483648), (91, [8], [], 2147483647)], (2126, [4, 14, 6, 9], [2], 0)) := vOk_in fun ρ η h => by
  obtain ⟨f0, f1, f2, f3, f4, f5, f6, f7, f8, f9, f10, f11, f12, f13, f14, f15, f16, f17, f18, f19, f20, f21, f22, _⟩ := h
  exact q_130v_7 (q0 := q0) (n0 := ρ 8) (n1 := ρ 7) (n2 := ρ 6) (n3 := ρ 4) (n4 := ρ 3) (n5 := ρ 2) (n6 := ρ 0) (n7 := ρ 1) (n8 := ρ 5) (n9 := ρ 9) (n10 := ρ 10) (n11 := ρ 11) (n12 := ρ 12) (n13 := ρ 13) (n14 := ρ 14) (H0 := η 0) (H1 := η 1) (H2 := η 2) f22 f21 f20 f19 f18 f17 f16 f15 f14 f13 f12 f11 f10 f9 f8 f7 f6 f5 f4 f3 f2 f1 f0
theorem q_130v_8 {q0 : Nat} {n0 n1 n2 n3 n4 n5 n6 n7 n8 n9 n10 n11 n12 n13 n14 : Int} {H0 H1 H2 H3 : gH} (f0 : n0 ≤ 2147483647) (f1 : (-2147483648) ≤ n0) (f2 : n1 ≤ 2147483647) (f3 : (-2147483648) ≤ n1) (f4 : n2 ≤ 2147483647) (f5 : (-2147483648) ≤ n2) (f6 : n3 = 31) (f7 : n4 ≤ 2147483647) (f8 : (-2147483648) ≤ n4) (f9 : n5 ≤ 2147483647) (f10 : (-2147483648) ≤ n5) (f11 : n6 = 31) (f12 : (hLe T0 H0 H1 ∧ hFr s_130v.2.2.2.2 H0 H1 ∧ hWt T0 H1) ∧ (Ab_130v_6 n6 n7 n5 n4 n3 n8 n2 n1 n0 n9 H0 H1 ∧ preb_130v n6 n7 n5 n4 H0) ∧ some q0 = some (mub_130v_6 n6 n7 n5 n4 n3 n8 n2 n1 n0 n9 H0 H1)) (f13 : n0 < n1) (f14 : n10 ≤ 2147483647) (f15 : (-2147483648) ≤ n10) (f16 : (hLe T0 H1 H2 ∧ hFr s_199vk692.2.2.2.2 H1 H2 ∧ ((0 : Int) = 0 → H2.length = H1.length) ∧ hWt T0 H2) ∧ postb_199vk692 n10 n8 n0 H1 H2) (f17 : n11 = 48) (f18 : n10 < n11) (f19 : n12 = w32 (n0 - n2)) (f20 : n13 = 4) (f21 : n13 < n12) (f22 : n14 = 1) (f23 : (hLe T0 H2 H3 ∧ hFr s_126v.2.2.2.2 H2 H3 ∧ ((0 : Int) = 0 → H3.length = H2.length) ∧ hWt T0 H3) ∧ postb_126v n3 n14 n2 n9 H2 H3) : postb_130v n0 n6 n7 n5 n4 H0 H3 := by
  have ga := f12.2.1.1
  unfold Ab_130v_6 at ga
  obtain ⟨k0, k1, k2, k3, i0, i1, di, lv, sm⟩ := ga
  have pz := f12.2.1.2
  unfold preb_130v at pz
  obtain ⟨ks, tp, b0, b1, b2, b3, c0, c1⟩ := pz
  have ks1 := KS5_le f12.1.1 ks
  have tp1 := TP_le f12.1.1 tp
  have qa0 := f16.2
  unfold postb_199vk692 at qa0
  have a0 := at8 sm tp1 qa0 (by omega) (by omega) (by omega)
  have sm0 := SMT_trans sm (SMT_fr f16.1.2.1 (by decide +kernel))
  have ks_0 := KS5_le f16.1.1 ks1
  have tp_0 := TP_le f16.1.1 tp1
  have wq19 := f19
  unfold w32 at wq19
  have nt := f23.2
  unfold postb_126v at nt
  have et : ((n0).toNat : Int) = n0 := Int.toNat_of_nonneg (by omega)
  have hb : n10 = hV H0 8 (n0).toNat := a0
  have nn_ := NTp_from sm0 nt.1
  have nd := NTD_mk di lv (by omega) nn_ (by omega)
  rw [show n2 = n5 from k2] at nd
  have de := DIs_end di (by omega)
  unfold postb_130v
  exact ⟨by omega, nd, nt.2⟩
theorem c_130v_6_7 {q0 : Nat} : vOkm T0 (eP e_130v L_130v A_130v mu_130v (some q0)) 4 ([(1126, [4, 14, 6, 9], [2, 3], 0), (0, [14], [], 1), (44, [12, 13], [], 0), (0, [13], [], 4), (2, [12, 8, 6], [], 0), (42, [10, 11], [], 0), (0, [11], [], 48), (1199, [10, 5, 8], [1, 2], 0), (90, [10], [], -2147483648), (91, [10], [], 2147483647), (42, [8, 7], [], 0), (5000, [0, 1, 2, 3, 4, 5, 6, 7, 8, 9], [0, 1], 6), (0, [0], [], 31), (90, [2], [], -2147483648), (91, [2], [], 2147483647), (90, [3], [], -2147483648), (91, [3], [], 2147483647), (0, [4], [], 31), (90, [6], [], -2147483648), (91, [6], [], 2147483647), (90, [7], [], -2147483648), (91, [7], [], 2147483647), (90, [8], [], -2147483648), (91, [8], [], 2147483647)], (3000, [8], [3], 81)) := vOk_in fun ρ η h => by
  obtain ⟨f0, f1, f2, f3, f4, f5, f6, f7, f8, f9, f10, f11, f12, f13, f14, f15, f16, f17, f18, f19, f20, f21, f22, f23, _⟩ := h
  exact q_130v_8 (q0 := q0) (n0 := ρ 8) (n1 := ρ 7) (n2 := ρ 6) (n3 := ρ 4) (n4 := ρ 3) (n5 := ρ 2) (n6 := ρ 0) (n7 := ρ 1) (n8 := ρ 5) (n9 := ρ 9) (n10 := ρ 10) (n11 := ρ 11) (n12 := ρ 12) (n13 := ρ 13) (n14 := ρ 14) (H0 := η 0) (H1 := η 1) (H2 := η 2) (H3 := η 3) f23 f22 f21 f20 f19 f18 f17 f16 f15 f14 f13 f12 f11 f10 f9 f8 f7 f6 f5 f4 f3 f2 f1 f0
theorem q_130v_9 {q0 : Nat} {n0 n1 n2 n3 n4 n5 n6 n7 n8 n9 n10 n11 n12 n13 n14 n15 n16 : Int} {H0 H1 H2 H3 : gH} (f0 : n0 ≤ 2147483647) (f1 : (-2147483648) ≤ n0) (f2 : n1 ≤ 2147483647) (f3 : (-2147483648) ≤ n1) (f4 : n2 ≤ 2147483647) (f5 : (-2147483648) ≤ n2) (f6 : n3 = 31) (f7 : n4 ≤ 2147483647) (f8 : (-2147483648) ≤ n4) (f9 : n5 ≤ 2147483647) (f10 : (-2147483648) ≤ n5) (f11 : n6 = 31) (f12 : (hLe T0 H0 H1 ∧ hFr s_130v.2.2.2.2 H0 H1 ∧ hWt T0 H1) ∧ (Ab_130v_6 n6 n7 n5 n4 n3 n8 n2 n1 n0 n9 H0 H1 ∧ preb_130v n6 n7 n5 n4 H0) ∧ some q0 = some (mub_130v_6 n6 n7 n5 n4 n3 n8 n2 n1 n0 n9 H0 H1)) (f13 : n0 < n1) (f14 : n10 ≤ 2147483647) (f15 : (-2147483648) ≤ n10) (f16 : (hLe T0 H1 H2 ∧ hFr s_199vk692.2.2.2.2 H1 H2 ∧ ((0 : Int) = 0 → H2.length = H1.length) ∧ hWt T0 H2) ∧ postb_199vk692 n10 n8 n0 H1 H2) (f17 : n11 = 48) (f18 : n11 ≤ n10) (f19 : n12 ≤ 2147483647) (f20 : (-2147483648) ≤ n12) (f21 : (hLe T0 H2 H3 ∧ hFr s_199vk692.2.2.2.2 H2 H3 ∧ ((0 : Int) = 0 → H3.length = H2.length) ∧ hWt T0 H3) ∧ postb_199vk692 n12 n8 n0 H2 H3) (f22 : n13 = 57) (f23 : n13 < n12) (f24 : n14 = w32 (n0 - n2)) (f25 : n15 = 4) (f26 : n14 ≤ n15) (f27 : n16 = 3) : preb_126v n3 n16 n2 n9 H3 := by
  have ga := f12.2.1.1
  unfold Ab_130v_6 at ga
  obtain ⟨k0, k1, k2, k3, i0, i1, di, lv, sm⟩ := ga
  have pz := f12.2.1.2
  unfold preb_130v at pz
  obtain ⟨ks, tp, b0, b1, b2, b3, c0, c1⟩ := pz
  have ks1 := KS5_le f12.1.1 ks
  have tp1 := TP_le f12.1.1 tp
  have qa0 := f16.2
  unfold postb_199vk692 at qa0
  have a0 := at8 sm tp1 qa0 (by omega) (by omega) (by omega)
  have sm0 := SMT_trans sm (SMT_fr f16.1.2.1 (by decide +kernel))
  have ks_0 := KS5_le f16.1.1 ks1
  have tp_0 := TP_le f16.1.1 tp1
  have qa1 := f21.2
  unfold postb_199vk692 at qa1
  have a1 := at8 sm0 tp_0 qa1 (by omega) (by omega) (by omega)
  have sm1 := SMT_trans sm0 (SMT_fr f21.1.2.1 (by decide +kernel))
  have ks_1 := KS5_le f21.1.1 ks_0
  have tp_1 := TP_le f21.1.1 tp_0
  unfold preb_126v
  exact ⟨ks_1, by rw [sm1.1]; exact c0, by rw [sm1.1]; exact c1⟩
theorem c_130v_6_8 {q0 : Nat} : vOkm T0 (eP e_130v L_130v A_130v mu_130v (some q0)) 4 ([(0, [16], [], 3), (45, [14, 15], [], 0), (0, [15], [], 4), (2, [14, 8, 6], [], 0), (44, [12, 13], [], 0), (0, [13], [], 57), (1199, [12, 5, 8], [2, 3], 0), (90, [12], [], -2147483648), (91, [12], [], 2147483647), (43, [10, 11], [], 0), (0, [11], [], 48), (1199, [10, 5, 8], [1, 2], 0), (90, [10], [], -2147483648), (91, [10], [], 2147483647), (42, [8, 7], [], 0), (5000, [0, 1, 2, 3, 4, 5, 6, 7, 8, 9], [0, 1], 6), (0, [0], [], 31), (90, [2], [], -2147483648), (91, [2], [], 2147483647), (90, [3], [], -2147483648), (91, [3], [], 2147483647), (0, [4], [], 31), (90, [6], [], -2147483648), (91, [6], [], 2147483647), (90, [7], [], -2147483648), (91, [7], [], 2147483647), (90, [8], [], -2147483648), (91, [8], [], 2147483647)], (2126, [4, 16, 6, 9], [3], 0)) := vOk_in fun ρ η h => by
  obtain ⟨f0, f1, f2, f3, f4, f5, f6, f7, f8, f9, f10, f11, f12, f13, f14, f15, f16, f17, f18, f19, f20, f21, f22, f23, f24, f25, f26, f27, _⟩ := h
  exact q_130v_9 (q0 := q0) (n0 := ρ 8) (n1 := ρ 7) (n2 := ρ 6) (n3 := ρ 4) (n4 := ρ 3) (n5 := ρ 2) (n6 := ρ 0) (n7 := ρ 1) (n8 := ρ 5) (n9 := ρ 9) (n10 := ρ 10) (n11 := ρ 11) (n12 := ρ 12) (n13 := ρ 13) (n14 := ρ 14) (n15 := ρ 15) (n16 := ρ 16) (H0 := η 0) (H1 := η 1) (H2 := η 2) (H3 := η 3) f27 f26 f25 f24 f23 f22 f21 f20 f19 f18 f17 f16 f15 f14 f13 f12 f11 f10 f9 f8 f7 f6 f5 f4 f3 f2 f1 f0
theorem q_130v_10 {q0 : Nat} {n0 n1 n2 n3 n4 n5 n6 n7 n8 n9 n10 n11 n12 n13 n14 n15 n16 : Int} {H0 H1 H2 H3 H4 : gH} (f0 : n0 ≤ 2147483647) (f1 : (-2147483648) ≤ n0) (f2 : n1 ≤ 2147483647) (f3 : (-2147483648) ≤ n1) (f4 : n2 ≤ 2147483647) (f5 : (-2147483648) ≤ n2) (f6 : n3 = 31) (f7 : n4 ≤ 2147483647) (f8 : (-2147483648) ≤ n4) (f9 : n5 ≤ 2147483647) (f10 : (-2147483648) ≤ n5) (f11 : n6 = 31) (f12 : (hLe T0 H0 H1 ∧ hFr s_130v.2.2.2.2 H0 H1 ∧ hWt T0 H1) ∧ (Ab_130v_6 n6 n7 n5 n4 n3 n8 n2 n1 n0 n9 H0 H1 ∧ preb_130v n6 n7 n5 n4 H0) ∧ some q0 = some (mub_130v_6 n6 n7 n5 n4 n3 n8 n2 n1 n0 n9 H0 H1)) (f13 : n0 < n1) (f14 : n10 ≤ 2147483647) (f15 : (-2147483648) ≤ n10) (f16 : (hLe T0 H1 H2 ∧ hFr s_199vk692.2.2.2.2 H1 H2 ∧ ((0 : Int) = 0 → H2.length = H1.length) ∧ hWt T0 H2) ∧ postb_199vk692 n10 n8 n0 H1 H2) (f17 : n11 = 48) (f18 : n11 ≤ n10) (f19 : n12 ≤ 2147483647) (f20 : (-2147483648) ≤ n12) (f21 : (hLe T0 H2 H3 ∧ hFr s_199vk692.2.2.2.2 H2 H3 ∧ ((0 : Int) = 0 → H3.length = H2.length) ∧ hWt T0 H3) ∧ postb_199vk692 n12 n8 n0 H2 H3) (f22 : n13 = 57) (f23 : n13 < n12) (f24 : n14 = w32 (n0 - n2)) (f25 : n15 = 4) (f26 : n14 ≤ n15) (f27 : n16 = 3) (f28 : (hLe T0 H3 H4 ∧ hFr s_126v.2.2.2.2 H3 H4 ∧ ((0 : Int) = 0 → H4.length = H3.length) ∧ hWt T0 H4) ∧ postb_126v n3 n16 n2 n9 H3 H4) : postb_130v n0 n6 n7 n5 n4 H0 H4 := by
  have ga := f12.2.1.1
  unfold Ab_130v_6 at ga
  obtain ⟨k0, k1, k2, k3, i0, i1, di, lv, sm⟩ := ga
  have pz := f12.2.1.2
  unfold preb_130v at pz
  obtain ⟨ks, tp, b0, b1, b2, b3, c0, c1⟩ := pz
  have ks1 := KS5_le f12.1.1 ks
  have tp1 := TP_le f12.1.1 tp
  have qa0 := f16.2
  unfold postb_199vk692 at qa0
  have a0 := at8 sm tp1 qa0 (by omega) (by omega) (by omega)
  have sm0 := SMT_trans sm (SMT_fr f16.1.2.1 (by decide +kernel))
  have ks_0 := KS5_le f16.1.1 ks1
  have tp_0 := TP_le f16.1.1 tp1
  have qa1 := f21.2
  unfold postb_199vk692 at qa1
  have a1 := at8 sm0 tp_0 qa1 (by omega) (by omega) (by omega)
  have sm1 := SMT_trans sm0 (SMT_fr f21.1.2.1 (by decide +kernel))
  have ks_1 := KS5_le f21.1.1 ks_0
  have tp_1 := TP_le f21.1.1 tp_0
  have wq24 := f24
  unfold w32 at wq24
  have nt := f28.2
  unfold postb_126v at nt
  have et : ((n0).toNat : Int) = n0 := Int.toNat_of_nonneg (by omega)
  have hb : n12 = hV H0 8 (n0).toNat := a1
  have nn_ := NTp_from sm1 nt.1
  have nd := NTD_mk di lv (by omega) nn_ (by omega)
  rw [show n2 = n5 from k2] at nd
  have de := DIs_end di (by omega)
  unfold postb_130v
  exact ⟨by omega, nd, nt.2⟩
theorem c_130v_6_9 {q0 : Nat} : vOkm T0 (eP e_130v L_130v A_130v mu_130v (some q0)) 4 ([(1126, [4, 16, 6, 9], [3, 4], 0), (0, [16], [], 3), (45, [14, 15], [], 0), (0, [15], [], 4), (2, [14, 8, 6], [], 0), (44, [12, 13], [], 0), (0, [13], [], 57), (1199, [12, 5, 8], [2, 3], 0), (90, [12], [], -2147483648), (91, [12], [], 2147483647), (43, [10, 11], [], 0), (0, [11], [], 48), (1199, [10, 5, 8], [1, 2], 0), (90, [10], [], -2147483648), (91, [10], [], 2147483647), (42, [8, 7], [], 0), (5000, [0, 1, 2, 3, 4, 5, 6, 7, 8, 9], [0, 1], 6), (0, [0], [], 31), (90, [2], [], -2147483648), (91, [2], [], 2147483647), (90, [3], [], -2147483648), (91, [3], [], 2147483647), (0, [4], [], 31), (90, [6], [], -2147483648), (91, [6], [], 2147483647), (90, [7], [], -2147483648), (91, [7], [], 2147483647), (90, [8], [], -2147483648), (91, [8], [], 2147483647)], (3000, [8], [4], 81)) := vOk_in fun ρ η h => by
  obtain ⟨f0, f1, f2, f3, f4, f5, f6, f7, f8, f9, f10, f11, f12, f13, f14, f15, f16, f17, f18, f19, f20, f21, f22, f23, f24, f25, f26, f27, f28, _⟩ := h
  exact q_130v_10 (q0 := q0) (n0 := ρ 8) (n1 := ρ 7) (n2 := ρ 6) (n3 := ρ 4) (n4 := ρ 3) (n5 := ρ 2) (n6 := ρ 0) (n7 := ρ 1) (n8 := ρ 5) (n9 := ρ 9) (n10 := ρ 10) (n11 := ρ 11) (n12 := ρ 12) (n13 := ρ 13) (n14 := ρ 14) (n15 := ρ 15) (n16 := ρ 16) (H0 := η 0) (H1 := η 1) (H2 := η 2) (H3 := η 3) (H4 := η 4) f28 f27 f26 f25 f24 f23 f22 f21 f20 f19 f18 f17 f16 f15 f14 f13 f12 f11 f10 f9 f8 f7 f6 f5 f4 f3 f2 f1 f0
theorem q_130v_11 {q0 : Nat} {n0 n1 n2 n3 n4 n5 n6 n7 n8 n9 n10 n11 n12 n13 n14 n15 n16 : Int} {H0 H1 H2 H3 : gH} (f0 : n0 ≤ 2147483647) (f1 : (-2147483648) ≤ n0) (f2 : n1 ≤ 2147483647) (f3 : (-2147483648) ≤ n1) (f4 : n2 ≤ 2147483647) (f5 : (-2147483648) ≤ n2) (f6 : n3 = 31) (f7 : n4 ≤ 2147483647) (f8 : (-2147483648) ≤ n4) (f9 : n5 ≤ 2147483647) (f10 : (-2147483648) ≤ n5) (f11 : n6 = 31) (f12 : (hLe T0 H0 H1 ∧ hFr s_130v.2.2.2.2 H0 H1 ∧ hWt T0 H1) ∧ (Ab_130v_6 n6 n7 n5 n4 n3 n8 n2 n1 n0 n9 H0 H1 ∧ preb_130v n6 n7 n5 n4 H0) ∧ some q0 = some (mub_130v_6 n6 n7 n5 n4 n3 n8 n2 n1 n0 n9 H0 H1)) (f13 : n0 < n1) (f14 : n10 ≤ 2147483647) (f15 : (-2147483648) ≤ n10) (f16 : (hLe T0 H1 H2 ∧ hFr s_199vk692.2.2.2.2 H1 H2 ∧ ((0 : Int) = 0 → H2.length = H1.length) ∧ hWt T0 H2) ∧ postb_199vk692 n10 n8 n0 H1 H2) (f17 : n11 = 48) (f18 : n11 ≤ n10) (f19 : n12 ≤ 2147483647) (f20 : (-2147483648) ≤ n12) (f21 : (hLe T0 H2 H3 ∧ hFr s_199vk692.2.2.2.2 H2 H3 ∧ ((0 : Int) = 0 → H3.length = H2.length) ∧ hWt T0 H3) ∧ postb_199vk692 n12 n8 n0 H2 H3) (f22 : n13 = 57) (f23 : n13 < n12) (f24 : n14 = w32 (n0 - n2)) (f25 : n15 = 4) (f26 : n15 < n14) (f27 : n16 = 1) : preb_126v n3 n16 n2 n9 H3 := by
  have ga := f12.2.1.1
  unfold Ab_130v_6 at ga
  obtain ⟨k0, k1, k2, k3, i0, i1, di, lv, sm⟩ := ga
  have pz := f12.2.1.2
  unfold preb_130v at pz
  obtain ⟨ks, tp, b0, b1, b2, b3, c0, c1⟩ := pz
  have ks1 := KS5_le f12.1.1 ks
  have tp1 := TP_le f12.1.1 tp
  have qa0 := f16.2
  unfold postb_199vk692 at qa0
  have a0 := at8 sm tp1 qa0 (by omega) (by omega) (by omega)
  have sm0 := SMT_trans sm (SMT_fr f16.1.2.1 (by decide +kernel))
  have ks_0 := KS5_le f16.1.1 ks1
  have tp_0 := TP_le f16.1.1 tp1
  have qa1 := f21.2
  unfold postb_199vk692 at qa1
  have a1 := at8 sm0 tp_0 qa1 (by omega) (by omega) (by omega)
  have sm1 := SMT_trans sm0 (SMT_fr f21.1.2.1 (by decide +kernel))
  have ks_1 := KS5_le f21.1.1 ks_0
  have tp_1 := TP_le f21.1.1 tp_0
  unfold preb_126v
  exact ⟨ks_1, by rw [sm1.1]; exact c0, by rw [sm1.1]; exact c1⟩
theorem c_130v_6_10 {q0 : Nat} : vOkm T0 (eP e_130v L_130v A_130v mu_130v (some q0)) 4 ([(0, [16], [], 1), (44, [14, 15], [], 0), (0, [15], [], 4), (2, [14, 8, 6], [], 0), (44, [12, 13], [], 0), (0, [13], [], 57), (1199, [12, 5, 8], [2, 3], 0), (90, [12], [], -2147483648), (91, [12], [], 2147483647), (43, [10, 11], [], 0), (0, [11], [], 48), (1199, [10, 5, 8], [1, 2], 0), (90, [10], [], -2147483648), (91, [10], [], 2147483647), (42, [8, 7], [], 0), (5000, [0, 1, 2, 3, 4, 5, 6, 7, 8, 9], [0, 1], 6), (0, [0], [], 31), (90, [2], [], -2147483648), (91, [2], [], 2147483647), (90, [3], [], -2147483648), (91, [3], [], 2147483647), (0, [4], [], 31), (90, [6], [], -2147483648), (91, [6], [], 2147483647), (90, [7], [], -2147483648), (91, [7], [], 2147483647), (90, [8], [], -2147483648), (91, [8], [], 2147483647)], (2126, [4, 16, 6, 9], [3], 0)) := vOk_in fun ρ η h => by
  obtain ⟨f0, f1, f2, f3, f4, f5, f6, f7, f8, f9, f10, f11, f12, f13, f14, f15, f16, f17, f18, f19, f20, f21, f22, f23, f24, f25, f26, f27, _⟩ := h
  exact q_130v_11 (q0 := q0) (n0 := ρ 8) (n1 := ρ 7) (n2 := ρ 6) (n3 := ρ 4) (n4 := ρ 3) (n5 := ρ 2) (n6 := ρ 0) (n7 := ρ 1) (n8 := ρ 5) (n9 := ρ 9) (n10 := ρ 10) (n11 := ρ 11) (n12 := ρ 12) (n13 := ρ 13) (n14 := ρ 14) (n15 := ρ 15) (n16 := ρ 16) (H0 := η 0) (H1 := η 1) (H2 := η 2) (H3 := η 3) f27 f26 f25 f24 f23 f22 f21 f20 f19 f18 f17 f16 f15 f14 f13 f12 f11 f10 f9 f8 f7 f6 f5 f4 f3 f2 f1 f0
theorem q_130v_12 {q0 : Nat} {n0 n1 n2 n3 n4 n5 n6 n7 n8 n9 n10 n11 n12 n13 n14 n15 n16 : Int} {H0 H1 H2 H3 H4 : gH} (f0 : n0 ≤ 2147483647) (f1 : (-2147483648) ≤ n0) (f2 : n1 ≤ 2147483647) (f3 : (-2147483648) ≤ n1) (f4 : n2 ≤ 2147483647) (f5 : (-2147483648) ≤ n2) (f6 : n3 = 31) (f7 : n4 ≤ 2147483647) (f8 : (-2147483648) ≤ n4) (f9 : n5 ≤ 2147483647) (f10 : (-2147483648) ≤ n5) (f11 : n6 = 31) (f12 : (hLe T0 H0 H1 ∧ hFr s_130v.2.2.2.2 H0 H1 ∧ hWt T0 H1) ∧ (Ab_130v_6 n6 n7 n5 n4 n3 n8 n2 n1 n0 n9 H0 H1 ∧ preb_130v n6 n7 n5 n4 H0) ∧ some q0 = some (mub_130v_6 n6 n7 n5 n4 n3 n8 n2 n1 n0 n9 H0 H1)) (f13 : n0 < n1) (f14 : n10 ≤ 2147483647) (f15 : (-2147483648) ≤ n10) (f16 : (hLe T0 H1 H2 ∧ hFr s_199vk692.2.2.2.2 H1 H2 ∧ ((0 : Int) = 0 → H2.length = H1.length) ∧ hWt T0 H2) ∧ postb_199vk692 n10 n8 n0 H1 H2) (f17 : n11 = 48) (f18 : n11 ≤ n10) (f19 : n12 ≤ 2147483647) (f20 : (-2147483648) ≤ n12) (f21 : (hLe T0 H2 H3 ∧ hFr s_199vk692.2.2.2.2 H2 H3 ∧ ((0 : Int) = 0 → H3.length = H2.length) ∧ hWt T0 H3) ∧ postb_199vk692 n12 n8 n0 H2 H3) (f22 : n13 = 57) (f23 : n13 < n12) (f24 : n14 = w32 (n0 - n2)) (f25 : n15 = 4) (f26 : n15 < n14) (f27 : n16 = 1) (f28 : (hLe T0 H3 H4 ∧ hFr s_126v.2.2.2.2 H3 H4 ∧ ((0 : Int) = 0 → H4.length = H3.length) ∧ hWt T0 H4) ∧ postb_126v n3 n16 n2 n9 H3 H4) : postb_130v n0 n6 n7 n5 n4 H0 H4 := by
  have ga := f12.2.1.1
  unfold Ab_130v_6 at ga
  obtain ⟨k0, k1, k2, k3, i0, i1, di, lv, sm⟩ := ga
  have pz := f12.2.1.2
  unfold preb_130v at pz
  obtain ⟨ks, tp, b0, b1, b2, b3, c0, c1⟩ := pz
  have ks1 := KS5_le f12.1.1 ks
  have tp1 := TP_le f12.1.1 tp
  have qa0 := f16.2
  unfold postb_199vk692 at qa0
  have a0 := at8 sm tp1 qa0 (by omega) (by omega) (by omega)
  have sm0 := SMT_trans sm (SMT_fr f16.1.2.1 (by decide +kernel))
  have ks_0 := KS5_le f16.1.1 ks1
  have tp_0 := TP_le f16.1.1 tp1
  have qa1 := f21.2
  unfold postb_199vk692 at qa1
  have a1 := at8 sm0 tp_0 qa1 (by omega) (by omega) (by omega)
  have sm1 := SMT_trans sm0 (SMT_fr f21.1.2.1 (by decide +kernel))
  have ks_1 := KS5_le f21.1.1 ks_0
  have tp_1 := TP_le f21.1.1 tp_0
  have wq24 := f24
  unfold w32 at wq24
  have nt := f28.2
  unfold postb_126v at nt
  have et : ((n0).toNat : Int) = n0 := Int.toNat_of_nonneg (by omega)
  have hb : n12 = hV H0 8 (n0).toNat := a1
  have nn_ := NTp_from sm1 nt.1
  have nd := NTD_mk di lv (by omega) nn_ (by omega)
  rw [show n2 = n5 from k2] at nd
  have de := DIs_end di (by omega)
  unfold postb_130v
  exact ⟨by omega, nd, nt.2⟩
theorem c_130v_6_11 {q0 : Nat} : vOkm T0 (eP e_130v L_130v A_130v mu_130v (some q0)) 4 ([(1126, [4, 16, 6, 9], [3, 4], 0), (0, [16], [], 1), (44, [14, 15], [], 0), (0, [15], [], 4), (2, [14, 8, 6], [], 0), (44, [12, 13], [], 0), (0, [13], [], 57), (1199, [12, 5, 8], [2, 3], 0), (90, [12], [], -2147483648), (91, [12], [], 2147483647), (43, [10, 11], [], 0), (0, [11], [], 48), (1199, [10, 5, 8], [1, 2], 0), (90, [10], [], -2147483648), (91, [10], [], 2147483647), (42, [8, 7], [], 0), (5000, [0, 1, 2, 3, 4, 5, 6, 7, 8, 9], [0, 1], 6), (0, [0], [], 31), (90, [2], [], -2147483648), (91, [2], [], 2147483647), (90, [3], [], -2147483648), (91, [3], [], 2147483647), (0, [4], [], 31), (90, [6], [], -2147483648), (91, [6], [], 2147483647), (90, [7], [], -2147483648), (91, [7], [], 2147483647), (90, [8], [], -2147483648), (91, [8], [], 2147483647)], (3000, [8], [4], 81)) := vOk_in fun ρ η h => by
  obtain ⟨f0, f1, f2, f3, f4, f5, f6, f7, f8, f9, f10, f11, f12, f13, f14, f15, f16, f17, f18, f19, f20, f21, f22, f23, f24, f25, f26, f27, f28, _⟩ := h
  exact q_130v_12 (q0 := q0) (n0 := ρ 8) (n1 := ρ 7) (n2 := ρ 6) (n3 := ρ 4) (n4 := ρ 3) (n5 := ρ 2) (n6 := ρ 0) (n7 := ρ 1) (n8 := ρ 5) (n9 := ρ 9) (n10 := ρ 10) (n11 := ρ 11) (n12 := ρ 12) (n13 := ρ 13) (n14 := ρ 14) (n15 := ρ 15) (n16 := ρ 16) (H0 := η 0) (H1 := η 1) (H2 := η 2) (H3 := η 3) (H4 := η 4) f28 f27 f26 f25 f24 f23 f22 f21 f20 f19 f18 f17 f16 f15 f14 f13 f12 f11 f10 f9 f8 f7 f6 f5 f4 f3 f2 f1 f0
theorem q_130v_13 {q0 : Nat} {n0 n1 n2 n3 n4 n5 n6 n7 n8 n9 n10 n11 n12 n13 n14 n15 n16 n17 n18 n19 n20 n21 : Int} {H0 H1 H2 H3 H4 : gH} (f0 : n0 ≤ 2147483647) (f1 : (-2147483648) ≤ n0) (f2 : n1 ≤ 2147483647) (f3 : (-2147483648) ≤ n1) (f4 : n2 ≤ 2147483647) (f5 : (-2147483648) ≤ n2) (f6 : n3 = 31) (f7 : n4 ≤ 2147483647) (f8 : (-2147483648) ≤ n4) (f9 : n5 ≤ 2147483647) (f10 : (-2147483648) ≤ n5) (f11 : n6 = 31) (f12 : (hLe T0 H0 H1 ∧ hFr s_130v.2.2.2.2 H0 H1 ∧ hWt T0 H1) ∧ (Ab_130v_6 n6 n7 n5 n4 n3 n8 n2 n1 n0 n9 H0 H1 ∧ preb_130v n6 n7 n5 n4 H0) ∧ some q0 = some (mub_130v_6 n6 n7 n5 n4 n3 n8 n2 n1 n0 n9 H0 H1)) (f13 : n0 < n1) (f14 : n10 ≤ 2147483647) (f15 : (-2147483648) ≤ n10) (f16 : (hLe T0 H1 H2 ∧ hFr s_199vk692.2.2.2.2 H1 H2 ∧ ((0 : Int) = 0 → H2.length = H1.length) ∧ hWt T0 H2) ∧ postb_199vk692 n10 n8 n0 H1 H2) (f17 : n11 = 48) (f18 : n11 ≤ n10) (f19 : n12 ≤ 2147483647) (f20 : (-2147483648) ≤ n12) (f21 : (hLe T0 H2 H3 ∧ hFr s_199vk692.2.2.2.2 H2 H3 ∧ ((0 : Int) = 0 → H3.length = H2.length) ∧ hWt T0 H3) ∧ postb_199vk692 n12 n8 n0 H2 H3) (f22 : n13 = 57) (f23 : n12 ≤ n13) (f24 : n14 = 10) (f25 : n15 = o64 (fun x y => x * y) n9 n14) (f26 : n16 ≤ 2147483647) (f27 : (-2147483648) ≤ n16) (f28 : (hLe T0 H3 H4 ∧ hFr s_199vk692.2.2.2.2 H3 H4 ∧ ((0 : Int) = 0 → H4.length = H3.length) ∧ hWt T0 H4) ∧ postb_199vk692 n16 n8 n0 H3 H4) (f29 : n17 = 48) (f30 : n18 = w32 (n16 - n17)) (f31 : n19 = n18) (f32 : n20 = o64 (fun x y => x + y) n15 n19) (f33 : n21 = w32 (n0 + 1)) : Ab_130v_6 n6 n7 n5 n4 n3 n8 n2 n1 n21 n20 H0 H4 ∧ ∀ q, some q0 = some q → mub_130v_6 n6 n7 n5 n4 n3 n8 n2 n1 n21 n20 H0 H4 < q := by
  have ga := f12.2.1.1
  unfold Ab_130v_6 at ga
  obtain ⟨k0, k1, k2, k3, i0, i1, di, lv, sm⟩ := ga
  have pz := f12.2.1.2
  unfold preb_130v at pz
  obtain ⟨ks, tp, b0, b1, b2, b3, c0, c1⟩ := pz
  have ks1 := KS5_le f12.1.1 ks
  have tp1 := TP_le f12.1.1 tp
  have qa0 := f16.2
  unfold postb_199vk692 at qa0
  have a0 := at8 sm tp1 qa0 (by omega) (by omega) (by omega)
  have sm0 := SMT_trans sm (SMT_fr f16.1.2.1 (by decide +kernel))
  have ks_0 := KS5_le f16.1.1 ks1
  have tp_0 := TP_le f16.1.1 tp1
  have qa1 := f21.2
  unfold postb_199vk692 at qa1
  have a1 := at8 sm0 tp_0 qa1 (by omega) (by omega) (by omega)
  have sm1 := SMT_trans sm0 (SMT_fr f21.1.2.1 (by decide +kernel))
  have ks_1 := KS5_le f21.1.1 ks_0
  have tp_1 := TP_le f21.1.1 tp_0
  have qa2 := f28.2
  unfold postb_199vk692 at qa2
  have a2 := at8 sm1 tp_1 qa2 (by omega) (by omega) (by omega)
  have sm2 := SMT_trans sm1 (SMT_fr f28.1.2.1 (by decide +kernel))
  have ks_2 := KS5_le f28.1.1 ks_1
  have tp_2 := TP_le f28.1.1 tp_1
  have wq30 := f30
  unfold w32 at wq30
  have wq33 := f33
  unfold w32 at wq33
  have hm := f25
  rw [f24] at hm
  have ha := f32
  rw [show n19 = hV H0 8 (n0).toNat - 48 by omega] at ha
  have e1 : (n21).toNat = (n0).toNat + 1 := by omega
  have d1 := DIs_step di (by omega) (by omega) (by omega)
  have l1 := LVa_step di lv (by omega) (by omega) hm ha
  have g5 := Option.some.inj f12.2.2
  unfold mub_130v_6 at g5
  unfold Ab_130v_6 mub_130v_6
  refine ⟨⟨k0, k1, k2, k3, by omega, by omega, by rw [e1]; exact d1, by rw [e1]; exact l1, sm2⟩, fun q hq => ?_⟩
  have g6 := Option.some.inj hq
  subst g6
  omega
theorem c_130v_6_12 {q0 : Nat} : vOkm T0 (eP e_130v L_130v A_130v mu_130v (some q0)) 4 ([(10, [21, 8], [], 1), (61, [20, 15, 19], [], 0), (17, [19, 18], [], 0), (2, [18, 16, 17], [], 0), (0, [17], [], 48), (1199, [16, 5, 8], [3, 4], 0), (90, [16], [], -2147483648), (91, [16], [], 2147483647), (63, [15, 9, 14], [], 0), (0, [14], [], 10), (45, [12, 13], [], 0), (0, [13], [], 57), (1199, [12, 5, 8], [2, 3], 0), (90, [12], [], -2147483648), (91, [12], [], 2147483647), (43, [10, 11], [], 0), (0, [11], [], 48), (1199, [10, 5, 8], [1, 2], 0), (90, [10], [], -2147483648), (91, [10], [], 2147483647), (42, [8, 7], [], 0), (5000, [0, 1, 2, 3, 4, 5, 6, 7, 8, 9], [0, 1], 6), (0, [0], [], 31), (90, [2], [], -2147483648), (91, [2], [], 2147483647), (90, [3], [], -2147483648), (91, [3], [], 2147483647), (0, [4], [], 31), (90, [6], [], -2147483648), (91, [6], [], 2147483647), (90, [7], [], -2147483648), (91, [7], [], 2147483647), (90, [8], [], -2147483648), (91, [8], [], 2147483647)], (4000, [4, 5, 6, 7, 21, 20], [4], 6)) := vOk_in fun ρ η h => by
  obtain ⟨f0, f1, f2, f3, f4, f5, f6, f7, f8, f9, f10, f11, f12, f13, f14, f15, f16, f17, f18, f19, f20, f21, f22, f23, f24, f25, f26, f27, f28, f29, f30, f31, f32, f33, _⟩ := h
  exact q_130v_13 (q0 := q0) (n0 := ρ 8) (n1 := ρ 7) (n2 := ρ 6) (n3 := ρ 4) (n4 := ρ 3) (n5 := ρ 2) (n6 := ρ 0) (n7 := ρ 1) (n8 := ρ 5) (n9 := ρ 9) (n10 := ρ 10) (n11 := ρ 11) (n12 := ρ 12) (n13 := ρ 13) (n14 := ρ 14) (n15 := ρ 15) (n16 := ρ 16) (n17 := ρ 17) (n18 := ρ 18) (n19 := ρ 19) (n20 := ρ 20) (n21 := ρ 21) (H0 := η 0) (H1 := η 1) (H2 := η 2) (H3 := η 3) (H4 := η 4) f33 f32 f31 f30 f29 f28 f27 f26 f25 f24 f23 f22 f21 f20 f19 f18 f17 f16 f15 f14 f13 f12 f11 f10 f9 f8 f7 f6 f5 f4 f3 f2 f1 f0
def p_130v_6 : List vG := [([(0, [12], [], 3), (45, [10, 11], [], 0), (0, [11], [], 4), (2, [10, 8, 6], [], 0), (43, [8, 7], [], 0), (5000, [0, 1, 2, 3, 4, 5, 6, 7, 8, 9], [0, 1], 6), (0, [0], [], 31), (90, [2], [], -2147483648), (91, [2], [], 2147483647), (90, [3], [], -2147483648), (91, [3], [], 2147483647), (0, [4], [], 31), (90, [6], [], -2147483648), (91, [6], [], 2147483647), (90, [7], [], -2147483648), (91, [7], [], 2147483647), (90, [8], [], -2147483648), (91, [8], [], 2147483647)], (2126, [4, 12, 6, 9], [1], 0)),
  ([(1126, [4, 12, 6, 9], [1, 2], 0), (0, [12], [], 3), (45, [10, 11], [], 0), (0, [11], [], 4), (2, [10, 8, 6], [], 0), (43, [8, 7], [], 0), (5000, [0, 1, 2, 3, 4, 5, 6, 7, 8, 9], [0, 1], 6), (0, [0], [], 31), (90, [2], [], -2147483648), (91, [2], [], 2147483647), (90, [3], [], -2147483648), (91, [3], [], 2147483647), (0, [4], [], 31), (90, [6], [], -2147483648), (91, [6], [], 2147483647), (90, [7], [], -2147483648), (91, [7], [], 2147483647), (90, [8], [], -2147483648), (91, [8], [], 2147483647)], (3000, [8], [2], 81)),
  ([(0, [12], [], 1), (44, [10, 11], [], 0), (0, [11], [], 4), (2, [10, 8, 6], [], 0), (43, [8, 7], [], 0), (5000, [0, 1, 2, 3, 4, 5, 6, 7, 8, 9], [0, 1], 6), (0, [0], [], 31), (90, [2], [], -2147483648), (91, [2], [], 2147483647), (90, [3], [], -2147483648), (91, [3], [], 2147483647), (0, [4], [], 31), (90, [6], [], -2147483648), (91, [6], [], 2147483647), (90, [7], [], -2147483648), (91, [7], [], 2147483647), (90, [8], [], -2147483648), (91, [8], [], 2147483647)], (2126, [4, 12, 6, 9], [1], 0)),
  ([(1126, [4, 12, 6, 9], [1, 2], 0), (0, [12], [], 1), (44, [10, 11], [], 0), (0, [11], [], 4), (2, [10, 8, 6], [], 0), (43, [8, 7], [], 0), (5000, [0, 1, 2, 3, 4, 5, 6, 7, 8, 9], [0, 1], 6), (0, [0], [], 31), (90, [2], [], -2147483648), (91, [2], [], 2147483647), (90, [3], [], -2147483648), (91, [3], [], 2147483647), (0, [4], [], 31), (90, [6], [], -2147483648), (91, [6], [], 2147483647), (90, [7], [], -2147483648), (91, [7], [], 2147483647), (90, [8], [], -2147483648), (91, [8], [], 2147483647)], (3000, [8], [2], 81)),
  ([(0, [14], [], 3), (45, [12, 13], [], 0), (0, [13], [], 4), (2, [12, 8, 6], [], 0), (42, [10, 11], [], 0), (0, [11], [], 48), (1199, [10, 5, 8], [1, 2], 0), (90, [10], [], -2147483648), (91, [10], [], 2147483647), (42, [8, 7], [], 0), (5000, [0, 1, 2, 3, 4, 5, 6, 7, 8, 9], [0, 1], 6), (0, [0], [], 31), (90, [2], [], -2147483648), (91, [2], [], 2147483647), (90, [3], [], -2147483648), (91, [3], [], 2147483647), (0, [4], [], 31), (90, [6], [], -2147483648), (91, [6], [], 2147483647), (90, [7], [], -2147483648), (91, [7], [], 2147483647), (90, [8], [], -2147483648), (91, [8], [], 2147483647)], (2126, [4, 14, 6, 9], [2], 0)),
  ([(1126, [4, 14, 6, 9], [2, 3], 0), (0, [14], [], 3), (45, [12, 13], [], 0), (0, [13], [], 4), (2, [12, 8, 6], [], 0), (42, [10, 11], [], 0), (0, [11], [], 48), (1199, [10, 5, 8], [1, 2], 0), (90, [10], [], -2147483648), (91, [10], [], 2147483647), (42, [8, 7], [], 0), (5000, [0, 1, 2, 3, 4, 5, 6, 7, 8, 9], [0, 1], 6), (0, [0], [], 31), (90, [2], [], -2147483648), (91, [2], [], 2147483647), (90, [3], [], -2147483648), (91, [3], [], 2147483647), (0, [4], [], 31), (90, [6], [], -2147483648), (91, [6], [], 2147483647), (90, [7], [], -2147483648), (91, [7], [], 2147483647), (90, [8], [], -2147483648), (91, [8], [], 2147483647)], (3000, [8], [3], 81)),
  ([(0, [14], [], 1), (44, [12, 13], [], 0), (0, [13], [], 4), (2, [12, 8, 6], [], 0), (42, [10, 11], [], 0), (0, [11], [], 48), (1199, [10, 5, 8], [1, 2], 0), (90, [10], [], -2147483648), (91, [10], [], 2147483647), (42, [8, 7], [], 0), (5000, [0, 1, 2, 3, 4, 5, 6, 7, 8, 9], [0, 1], 6), (0, [0], [], 31), (90, [2], [], -2147483648), (91, [2], [], 2147483647), (90, [3], [], -2147483648), (91, [3], [], 2147483647), (0, [4], [], 31), (90, [6], [], -2147483648), (91, [6], [], 2147483647), (90, [7], [], -2147483648), (91, [7], [], 2147483647), (90, [8], [], -2147483648), (91, [8], [], 2147483647)], (2126, [4, 14, 6, 9], [2], 0)),
  ([(1126, [4, 14, 6, 9], [2, 3], 0), (0, [14], [], 1), (44, [12, 13], [], 0), (0, [13], [], 4), (2, [12, 8, 6], [], 0), (42, [10, 11], [], 0), (0, [11], [], 48), (1199, [10, 5, 8], [1, 2], 0), (90, [10], [], -2147483648), (91, [10], [], 2147483647), (42, [8, 7], [], 0), (5000, [0, 1, 2, 3, 4, 5, 6, 7, 8, 9], [0, 1], 6), (0, [0], [], 31), (90, [2], [], -2147483648), (91, [2], [], 2147483647), (90, [3], [], -2147483648), (91, [3], [], 2147483647), (0, [4], [], 31), (90, [6], [], -2147483648), (91, [6], [], 2147483647), (90, [7], [], -2147483648), (91, [7], [], 2147483647), (90, [8], [], -2147483648), (91, [8], [], 2147483647)], (3000, [8], [3], 81)),
  ([(0, [16], [], 3), (45, [14, 15], [], 0), (0, [15], [], 4), (2, [14, 8, 6], [], 0), (44, [12, 13], [], 0), (0, [13], [], 57), (1199, [12, 5, 8], [2, 3], 0), (90, [12], [], -2147483648), (91, [12], [], 2147483647), (43, [10, 11], [], 0), (0, [11], [], 48), (1199, [10, 5, 8], [1, 2], 0), (90, [10], [], -2147483648), (91, [10], [], 2147483647), (42, [8, 7], [], 0), (5000, [0, 1, 2, 3, 4, 5, 6, 7, 8, 9], [0, 1], 6), (0, [0], [], 31), (90, [2], [], -2147483648), (91, [2], [], 2147483647), (90, [3], [], -2147483648), (91, [3], [], 2147483647), (0, [4], [], 31), (90, [6], [], -2147483648), (91, [6], [], 2147483647), (90, [7], [], -2147483648), (91, [7], [], 2147483647), (90, [8], [], -2147483648), (91, [8], [], 2147483647)], (2126, [4, 16, 6, 9], [3], 0)),
  ([(1126, [4, 16, 6, 9], [3, 4], 0), (0, [16], [], 3), (45, [14, 15], [], 0), (0, [15], [], 4), (2, [14, 8, 6], [], 0), (44, [12, 13], [], 0), (0, [13], [], 57), (1199, [12, 5, 8], [2, 3], 0), (90, [12], [], -2147483648), (91, [12], [], 2147483647), (43, [10, 11], [], 0), (0, [11], [], 48), (1199, [10, 5, 8], [1, 2], 0), (90, [10], [], -2147483648), (91, [10], [], 2147483647), (42, [8, 7], [], 0), (5000, [0, 1, 2, 3, 4, 5, 6, 7, 8, 9], [0, 1], 6), (0, [0], [], 31), (90, [2], [], -2147483648), (91, [2], [], 2147483647), (90, [3], [], -2147483648), (91, [3], [], 2147483647), (0, [4], [], 31), (90, [6], [], -2147483648), (91, [6], [], 2147483647), (90, [7], [], -2147483648), (91, [7], [], 2147483647), (90, [8], [], -2147483648), (91, [8], [], 2147483647)], (3000, [8], [4], 81)),
  ([(0, [16], [], 1), (44, [14, 15], [], 0), (0, [15], [], 4), (2, [14, 8, 6], [], 0), (44, [12, 13], [], 0), (0, [13], [], 57), (1199, [12, 5, 8], [2, 3], 0), (90, [12], [], -2147483648), (91, [12], [], 2147483647), (43, [10, 11], [], 0), (0, [11], [], 48), (1199, [10, 5, 8], [1, 2], 0), (90, [10], [], -2147483648), (91, [10], [], 2147483647), (42, [8, 7], [], 0), (5000, [0, 1, 2, 3, 4, 5, 6, 7, 8, 9], [0, 1], 6), (0, [0], [], 31), (90, [2], [], -2147483648), (91, [2], [], 2147483647), (90, [3], [], -2147483648), (91, [3], [], 2147483647), (0, [4], [], 31), (90, [6], [], -2147483648), (91, [6], [], 2147483647), (90, [7], [], -2147483648), (91, [7], [], 2147483647), (90, [8], [], -2147483648), (91, [8], [], 2147483647)], (2126, [4, 16, 6, 9], [3], 0)),
  ([(1126, [4, 16, 6, 9], [3, 4], 0), (0, [16], [], 1), (44, [14, 15], [], 0), (0, [15], [], 4), (2, [14, 8, 6], [], 0), (44, [12, 13], [], 0), (0, [13], [], 57), (1199, [12, 5, 8], [2, 3], 0), (90, [12], [], -2147483648), (91, [12], [], 2147483647), (43, [10, 11], [], 0), (0, [11], [], 48), (1199, [10, 5, 8], [1, 2], 0), (90, [10], [], -2147483648), (91, [10], [], 2147483647), (42, [8, 7], [], 0), (5000, [0, 1, 2, 3, 4, 5, 6, 7, 8, 9], [0, 1], 6), (0, [0], [], 31), (90, [2], [], -2147483648), (91, [2], [], 2147483647), (90, [3], [], -2147483648), (91, [3], [], 2147483647), (0, [4], [], 31), (90, [6], [], -2147483648), (91, [6], [], 2147483647), (90, [7], [], -2147483648), (91, [7], [], 2147483647), (90, [8], [], -2147483648), (91, [8], [], 2147483647)], (3000, [8], [4], 81)),
  ([(10, [21, 8], [], 1), (61, [20, 15, 19], [], 0), (17, [19, 18], [], 0), (2, [18, 16, 17], [], 0), (0, [17], [], 48), (1199, [16, 5, 8], [3, 4], 0), (90, [16], [], -2147483648), (91, [16], [], 2147483647), (63, [15, 9, 14], [], 0), (0, [14], [], 10), (45, [12, 13], [], 0), (0, [13], [], 57), (1199, [12, 5, 8], [2, 3], 0), (90, [12], [], -2147483648), (91, [12], [], 2147483647), (43, [10, 11], [], 0), (0, [11], [], 48), (1199, [10, 5, 8], [1, 2], 0), (90, [10], [], -2147483648), (91, [10], [], 2147483647), (42, [8, 7], [], 0), (5000, [0, 1, 2, 3, 4, 5, 6, 7, 8, 9], [0, 1], 6), (0, [0], [], 31), (90, [2], [], -2147483648), (91, [2], [], 2147483647), (90, [3], [], -2147483648), (91, [3], [], 2147483647), (0, [4], [], 31), (90, [6], [], -2147483648), (91, [6], [], 2147483647), (90, [7], [], -2147483648), (91, [7], [], 2147483647), (90, [8], [], -2147483648), (91, [8], [], 2147483647)], (4000, [4, 5, 6, 7, 21, 20], [4], 6))]
theorem r_130v_6 : vCovO false (eRc e_130v L_130v cs_130v 2000 (6, [(0, (3, 8, 31, 0)), (1, (2, 692, -1, 0)), (2, (0, -2147483648, 2147483647, 0)), (3, (0, -2147483648, 2147483647, 0)), (4, (0, -2147483648, 2147483647, 0)), (5, (1, 0, 0, 0))])) p_130v_6 = true := by decide +kernel
theorem m_130v (d : Nat) : eC e_130v (d + 3) := eC_ok (e := e_130v) (L := L_130v) (cs := cs_130v) (n := 2000) (d := d + 2) (A := A_130v) (μ := mu_130v) (tp := false) (p0 := p_130v_s) rfl ⟨m_126v d, ⟨m_199vk692 (d + 1), trivial⟩⟩ rfl (.inl rfl) (by decide +kernel) (fun z => nomatch z) r_130v_s (allC c_130v_s_0 allN) (allC (.inl ⟨p_130v_6, r_130v_6, fun q0 => (allC c_130v_6_0 (allC c_130v_6_1 (allC c_130v_6_2 (allC c_130v_6_3 (allC c_130v_6_4 (allC c_130v_6_5 (allC c_130v_6_6 (allC c_130v_6_7 (allC c_130v_6_8 (allC c_130v_6_9 (allC c_130v_6_10 (allC c_130v_6_11 (allC c_130v_6_12 allN)))))))))))))⟩) allN)
