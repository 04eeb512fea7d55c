/- Tracer.laysOfMusic (LMixStage$Sheet;I)I, more fully -/
def nb_142 (r a0 a1 a2 : Int) (h0 h : gH) : Prop := ∀ (E : SE) (D : List CR), SNC h0 E → K25 h0 → SHL h0 (a1).toNat D → 0 ≤ a1 → 0 ≤ a2 → a2 < E.1 → E.2.1 (a2).toNat = 3 → r = cntL E a2 (D.map (lrW (hV h0 25)))
def n_142 : List Int → gH → gH → Prop := fun xs h0 h => match xs with
  | [r, a0, a1, a2] => nb_142 r a0 a1 a2 h0 h
  | _ => True
noncomputable def e_142w : vE := eV e_142 n_142
noncomputable def L_142w : List vE := [e_115y, e_141w]
def Bb_142_5 (a0 a1 a2 x0 x1 x2 x3 x4 : Int) (h0 h : gH) : Prop := ∀ (E : SE) (D : List CR), SNC h0 E → K25 h0 → SHL h0 (a1).toNat D → 0 ≤ a1 → 0 ≤ a2 → a2 < E.1 → E.2.1 (a2).toNat = 3 → x1 = a1 ∧ x2 = a2 ∧ x3 = cntL E a2 ((D.map (lrW (hV h0 25))).take (x4).toNat) ∧ 0 ≤ x4 ∧ x4 ≤ (D.length : Int)
def B_142 : Int → List Int → gH → gH → Prop := fun c xs h0 h => match c.toNat with
  | 5 => (match xs with
    | [a0, a1, a2, x0, x1, x2, x3, x4] => Bb_142_5 a0 a1 a2 x0 x1 x2 x3 x4 h0 h
    | _ => False)
  | _ => True
theorem q_142w_0 {n0 n1 n2 n3 n4 : Int} {H0 : gH} (f0 : n0 ≤ 2147483647) (f1 : (-2147483648) ≤ n0) (f2 : 0 ≤ n1) (f3 : n2 = 281) (f4 : hWt T0 H0 ∧ True) (f5 : n3 = 0) (f6 : n4 = 0) : Bb_142_5 n2 n1 n0 n2 n1 n0 n3 n4 H0 H0 := by
  unfold Bb_142_5
  intro E D z k25 sl p1 q0 q1 k3
  exact ⟨rfl, rfl, cntL_0 (by omega) (by omega), by omega, by omega⟩
def g_142w_s_0 : vG := ([(0, [4], [], 0), (0, [3], [], 0), (6000, [0, 1, 2], [0], 0), (0, [0], [], 281), (51, [1], [], 0), (90, [2], [], -2147483648), (91, [2], [], 2147483647)], (4000, [0, 1, 2, 3, 4], [0], 5))
theorem c_142w_s_0 : vOkm T0 (eN e_142 L_142w A_142 mu_142 n_142 B_142 none) 3 g_142w_s_0 := vOk_inI fun ρ η f0 f1 f2 f3 f4 f5 f6 => q_142w_0 (n0 := ρ 2) (n1 := ρ 1) (n2 := ρ 0) (n3 := ρ 3) (n4 := ρ 4) (H0 := η 0) f6 f5 f4 f3 f2 f1 f0
def p_142w_s : List vG := [g_142w_s_0]
theorem r_142w_s : vCovBO (eR0 e_142 L_142 cs_142 2000) p_142w_s = true := by decide +kernel
theorem q_142w_1 {q0 : Nat} {n0 n1 n2 n3 n4 n5 n6 n7 n8 : Int} {H0 H1 : gH} (f0 : n0 ≤ 2147483647) (f1 : (-2147483648) ≤ n0) (f2 : n1 ≤ 2147483647) (f3 : (-2147483648) ≤ n1) (f4 : n2 ≤ 2147483647) (f5 : (-2147483648) ≤ n2) (f6 : 0 ≤ n3) (f7 : n4 = 281) (f8 : n5 ≤ 2147483647) (f9 : (-2147483648) ≤ n5) (f10 : 0 ≤ n6) (f11 : n7 = 281) (f12 : (hLe T0 H0 H1 ∧ hFr s_142.2.2.2.2 H0 H1 ∧ hWt T0 H1) ∧ ((True ∧ Bb_142_5 n7 n6 n5 n4 n3 n2 n1 n0 H0 H1) ∧ True) ∧ some q0 = some (mub_142_5 n7 n6 n5 n4 n3 n2 n1 n0 H0 H1)) (f13 : n8 ≤ 40) (f14 : 0 ≤ n8) (f15 : hK H1 (n3).toNat = 6) (f16 : n8 = hV H1 (n3).toNat 2) (f17 : n8 ≤ n0) : nb_142 n1 n7 n6 n5 H0 H1 := by
  unfold nb_142
  intro E D z k25 sl p1 q0 q1 k3
  have gb := f12.2.1.1.2
  unfold Bb_142_5 at gb
  obtain ⟨e1, e2, e3, e4, e5⟩ := gb E D z k25 sl p1 q0 q1 k3
  have z1 := SNC_fr f12.1.1 f12.1.2.1 (by decide +kernel) z
  have sl1 : SHL H1 (n6).toNat D := SHL_keep sl (SHo_fr f12.1.1 f12.1.2.1 (by decide +kernel)) (RWo_fr f12.1.1 f12.1.2.1 (by decide +kernel)) (CUo_fr f12.1.1 f12.1.2.1 (by decide +kernel))
  have e25 : hV H1 25 = hV H0 25 := fRow f12.1.2.1 25 (by decide +kernel)
  have ll : ((D.map (lrW (hV H0 25)))).length = D.length := List.length_map _
  have el := sl1.2.2.2.1
  have x2 : n8 = (D.length : Int) := by
    have w := f16
    rw [e1] at w
    exact w.trans el
  exact cntL_all (by omega) e3
def g_142w_5_0 : vG := ([(43, [7, 8], [], 0), (20, [8, 4], [1], 2), (23, [4], [1], 6), (90, [8], [], 0), (91, [8], [], 40), (5000, [0, 1, 2, 3, 4, 5, 6, 7], [0, 1], 5), (0, [0], [], 281), (51, [1], [], 0), (90, [2], [], -2147483648), (91, [2], [], 2147483647), (0, [3], [], 281), (51, [4], [], 0), (90, [5], [], -2147483648), (91, [5], [], 2147483647), (90, [6], [], -2147483648), (91, [6], [], 2147483647), (90, [7], [], -2147483648), (91, [7], [], 2147483647)], (3000, [6], [1], 43))
theorem c_142w_5_0 {q0 : Nat} : vOkm T0 (eN e_142 L_142w A_142 mu_142 n_142 B_142 (some q0)) 3 g_142w_5_0 := vOk_inI fun ρ η f0 f1 f2 f3 f4 f5 f6 f7 f8 f9 f10 f11 f12 f13 f14 f15 f16 f17 => q_142w_1 (q0 := q0) (n0 := ρ 7) (n1 := ρ 6) (n2 := ρ 5) (n3 := ρ 4) (n4 := ρ 3) (n5 := ρ 2) (n6 := ρ 1) (n7 := ρ 0) (n8 := ρ 8) (H0 := η 0) (H1 := η 1) f17 f16 f15 f14 f13 f12 f11 f10 f9 f8 f7 f6 f5 f4 f3 f2 f1 f0
theorem q_142w_2 {q0 : Nat} {n0 n1 n2 n3 n4 n5 n6 n7 n8 n9 n10 n11 n12 n13 : Int} {H0 H1 H2 H3 : gH} (f0 : n0 ≤ 2147483647) (f1 : (-2147483648) ≤ n0) (f2 : n1 ≤ 2147483647) (f3 : (-2147483648) ≤ n1) (f4 : n2 ≤ 2147483647) (f5 : (-2147483648) ≤ n2) (f6 : 0 ≤ n3) (f7 : n4 = 281) (f8 : n5 ≤ 2147483647) (f9 : (-2147483648) ≤ n5) (f10 : 0 ≤ n6) (f11 : n7 = 281) (f12 : (hLe T0 H0 H1 ∧ hFr s_142.2.2.2.2 H0 H1 ∧ hWt T0 H1) ∧ ((True ∧ Bb_142_5 n7 n6 n5 n4 n3 n2 n1 n0 H0 H1) ∧ True) ∧ some q0 = some (mub_142_5 n7 n6 n5 n4 n3 n2 n1 n0 H0 H1)) (f13 : n8 ≤ 40) (f14 : 0 ≤ n8) (f15 : hK H1 (n3).toNat = 6) (f16 : n8 = hV H1 (n3).toNat 2) (f17 : n0 < n8) (f18 : (hLe T0 H1 H2 ∧ hFr s_115.2.2.2.2 H1 H2 ∧ ((0 : Int) = 0 → H2.length = H1.length) ∧ hWt T0 H2) ∧ postb_115y n9 n3 n0 H1 H2) (f19 : n10 ≤ 1) (f20 : 0 ≤ n10) (f21 : (hLe T0 H2 H3 ∧ hFr s_141.2.2.2.2 H2 H3 ∧ ((0 : Int) = 0 → H3.length = H2.length) ∧ hWt T0 H3) ∧ (postb_141 n10 n4 n9 n2 H2 H3 ∧ nb_141 n10 n4 n9 n2 H2 H3)) (f22 : n10 = 0) (f23 : n11 = 0) (f24 : n12 = w32 (n1 + n11)) (f25 : n13 = w32 (n0 + 1)) : Bb_142_5 n7 n6 n5 n4 n3 n2 n12 n13 H0 H3 := by
  unfold Bb_142_5
  intro E D z k25 sl p1 q0 q1 k3
  have gb := f12.2.1.1.2
  unfold Bb_142_5 at gb
  obtain ⟨e1, e2, e3, e4, e5⟩ := gb E D z k25 sl p1 q0 q1 k3
  have z1 := SNC_fr f12.1.1 f12.1.2.1 (by decide +kernel) z
  have sl1 : SHL H1 (n6).toNat D := SHL_keep sl (SHo_fr f12.1.1 f12.1.2.1 (by decide +kernel)) (RWo_fr f12.1.1 f12.1.2.1 (by decide +kernel)) (CUo_fr f12.1.1 f12.1.2.1 (by decide +kernel))
  have e25 : hV H1 25 = hV H0 25 := fRow f12.1.2.1 25 (by decide +kernel)
  have ll : ((D.map (lrW (hV H0 25)))).length = D.length := List.length_map _
  have el := sl1.2.2.2.1
  have x2 : n8 = (D.length : Int) := by
    have w := f16
    rw [e1] at w
    exact w.trans el
  have e40 := sl1.2.2.2.2.1
  obtain ⟨p, hp⟩ : ∃ p, D[(n0).toNat]? = some p := ⟨_, List.getElem?_eq_getElem (by omega)⟩
  obtain ⟨y1, y2, y3⟩ := sl1.2.2.2.2.2.2 _ p hp
  have v := f18.2
  unfold postb_115y at v
  rw [e1] at v
  have u := v.1 (by omega) (by rw [el]; omega) (by omega)
  rw [sl1.2.1, show (((n6).toNat : Nat) : Int) + 1 = (((n6).toNat + 1 : Nat) : Int) by omega, Int.toNat_natCast] at u
  rw [← u] at y1 y2 y3
  have rl : recC H2 (n9).toNat = p := (recC_eq (fr1 f18.1.2.1 (by decide +kernel) y2)).trans y3
  have c25 : hV H2 25 = hV H0 25 := (fRow f18.1.2.1 25 (by decide +kernel)).trans e25
  have hL : ((D.map (lrW (hV H0 25))))[(n0).toNat]? = some (lrW (hV H0 25) p) := by
    rw [List.getElem?_map, hp]
    rfl
  have ql := f21.2.2
  unfold nb_141 at ql
  have ql := ql E (SNC_fr f18.1.1 f18.1.2.1 (by decide +kernel) z1) (by omega) (by omega) (by rw [e2]; exact k3) (by omega) (kLe f18.1.1 y2 rfl)
  rw [rl, c25, e2] at ql
  have cb := cntL_tb e4 e3
  have wn25 := f25
  unfold w32 at wn25
  have wa24 := f24
  rw [f23] at wa24
  unfold w32 at wa24
  have no := (ql.resolve_left (fun w => by have := w.1; omega)).2
  exact ⟨e1, e2, cntL_n hL no e4 e3 (by omega) (by omega), by omega, by omega⟩
def g_142w_5_1 : vG := ([(10, [13, 7], [], 1), (1, [12, 6, 11], [], 0), (0, [11], [], 0), (30, [10], [], 0), (1141, [10, 3, 9, 5], [2, 3], 0), (90, [10], [], 0), (91, [10], [], 1), (1115, [9, 4, 7], [1, 2], 0), (42, [7, 8], [], 0), (20, [8, 4], [1], 2), (23, [4], [1], 6), (90, [8], [], 0), (91, [8], [], 40), (5000, [0, 1, 2, 3, 4, 5, 6, 7], [0, 1], 5), (0, [0], [], 281), (51, [1], [], 0), (90, [2], [], -2147483648), (91, [2], [], 2147483647), (0, [3], [], 281), (51, [4], [], 0), (90, [5], [], -2147483648), (91, [5], [], 2147483647), (90, [6], [], -2147483648), (91, [6], [], 2147483647), (90, [7], [], -2147483648), (91, [7], [], 2147483647)], (4000, [3, 4, 5, 12, 13], [3], 5))
theorem c_142w_5_1 {q0 : Nat} : vOkm T0 (eN e_142 L_142w A_142 mu_142 n_142 B_142 (some q0)) 3 g_142w_5_1 := vOk_inI fun ρ η f0 f1 f2 f3 f4 f5 f6 f7 f8 f9 f10 f11 f12 f13 f14 f15 f16 f17 f18 f19 f20 f21 f22 f23 f24 f25 => q_142w_2 (q0 := q0) (n0 := ρ 7) (n1 := ρ 6) (n2 := ρ 5) (n3 := ρ 4) (n4 := ρ 3) (n5 := ρ 2) (n6 := ρ 1) (n7 := ρ 0) (n8 := ρ 8) (n9 := ρ 9) (n10 := ρ 10) (n11 := ρ 11) (n12 := ρ 12) (n13 := ρ 13) (H0 := η 0) (H1 := η 1) (H2 := η 2) (H3 := η 3) f25 f24 f23 f22 f21 f20 f19 f18 f17 f16 f15 f14 f13 f12 f11 f10 f9 f8 f7 f6 f5 f4 f3 f2 f1 f0
theorem q_142w_3 {q0 : Nat} {n0 n1 n2 n3 n4 n5 n6 n7 n8 n9 n10 n11 n12 n13 : Int} {H0 H1 H2 H3 : gH} (f0 : n0 ≤ 2147483647) (f1 : (-2147483648) ≤ n0) (f2 : n1 ≤ 2147483647) (f3 : (-2147483648) ≤ n1) (f4 : n2 ≤ 2147483647) (f5 : (-2147483648) ≤ n2) (f6 : 0 ≤ n3) (f7 : n4 = 281) (f8 : n5 ≤ 2147483647) (f9 : (-2147483648) ≤ n5) (f10 : 0 ≤ n6) (f11 : n7 = 281) (f12 : (hLe T0 H0 H1 ∧ hFr s_142.2.2.2.2 H0 H1 ∧ hWt T0 H1) ∧ ((True ∧ Bb_142_5 n7 n6 n5 n4 n3 n2 n1 n0 H0 H1) ∧ True) ∧ some q0 = some (mub_142_5 n7 n6 n5 n4 n3 n2 n1 n0 H0 H1)) (f13 : n8 ≤ 40) (f14 : 0 ≤ n8) (f15 : hK H1 (n3).toNat = 6) (f16 : n8 = hV H1 (n3).toNat 2) (f17 : n0 < n8) (f18 : (hLe T0 H1 H2 ∧ hFr s_115.2.2.2.2 H1 H2 ∧ ((0 : Int) = 0 → H2.length = H1.length) ∧ hWt T0 H2) ∧ postb_115y n9 n3 n0 H1 H2) (f19 : n10 ≤ 1) (f20 : 0 ≤ n10) (f21 : (hLe T0 H2 H3 ∧ hFr s_141.2.2.2.2 H2 H3 ∧ ((0 : Int) = 0 → H3.length = H2.length) ∧ hWt T0 H3) ∧ (postb_141 n10 n4 n9 n2 H2 H3 ∧ nb_141 n10 n4 n9 n2 H2 H3)) (f22 : n10 ≠ 0) (f23 : n11 = 1) (f24 : n12 = w32 (n1 + n11)) (f25 : n13 = w32 (n0 + 1)) : Bb_142_5 n7 n6 n5 n4 n3 n2 n12 n13 H0 H3 := by
  unfold Bb_142_5
  intro E D z k25 sl p1 q0 q1 k3
  have gb := f12.2.1.1.2
  unfold Bb_142_5 at gb
  obtain ⟨e1, e2, e3, e4, e5⟩ := gb E D z k25 sl p1 q0 q1 k3
  have z1 := SNC_fr f12.1.1 f12.1.2.1 (by decide +kernel) z
  have sl1 : SHL H1 (n6).toNat D := SHL_keep sl (SHo_fr f12.1.1 f12.1.2.1 (by decide +kernel)) (RWo_fr f12.1.1 f12.1.2.1 (by decide +kernel)) (CUo_fr f12.1.1 f12.1.2.1 (by decide +kernel))
  have e25 : hV H1 25 = hV H0 25 := fRow f12.1.2.1 25 (by decide +kernel)
  have ll : ((D.map (lrW (hV H0 25)))).length = D.length := List.length_map _
  have el := sl1.2.2.2.1
  have x2 : n8 = (D.length : Int) := by
    have w := f16
    rw [e1] at w
    exact w.trans el
  have e40 := sl1.2.2.2.2.1
  obtain ⟨p, hp⟩ : ∃ p, D[(n0).toNat]? = some p := ⟨_, List.getElem?_eq_getElem (by omega)⟩
  obtain ⟨y1, y2, y3⟩ := sl1.2.2.2.2.2.2 _ p hp
  have v := f18.2
  unfold postb_115y at v
  rw [e1] at v
  have u := v.1 (by omega) (by rw [el]; omega) (by omega)
  rw [sl1.2.1, show (((n6).toNat : Nat) : Int) + 1 = (((n6).toNat + 1 : Nat) : Int) by omega, Int.toNat_natCast] at u
  rw [← u] at y1 y2 y3
  have rl : recC H2 (n9).toNat = p := (recC_eq (fr1 f18.1.2.1 (by decide +kernel) y2)).trans y3
  have c25 : hV H2 25 = hV H0 25 := (fRow f18.1.2.1 25 (by decide +kernel)).trans e25
  have hL : ((D.map (lrW (hV H0 25))))[(n0).toNat]? = some (lrW (hV H0 25) p) := by
    rw [List.getElem?_map, hp]
    rfl
  have ql := f21.2.2
  unfold nb_141 at ql
  have ql := ql E (SNC_fr f18.1.1 f18.1.2.1 (by decide +kernel) z1) (by omega) (by omega) (by rw [e2]; exact k3) (by omega) (kLe f18.1.1 y2 rfl)
  rw [rl, c25, e2] at ql
  have cb := cntL_tb e4 e3
  have wn25 := f25
  unfold w32 at wn25
  have wa24 := f24
  rw [f23] at wa24
  unfold w32 at wa24
  have yes := (ql.resolve_right (fun w => by have := w.1; omega)).2
  exact ⟨e1, e2, cntL_y hL yes e4 e3 (by omega) (by omega), by omega, by omega⟩
def g_142w_5_2 : vG := ([(10, [13, 7], [], 1), (1, [12, 6, 11], [], 0), (0, [11], [], 1), (31, [10], [], 0), (1141, [10, 3, 9, 5], [2, 3], 0), (90, [10], [], 0), (91, [10], [], 1), (1115, [9, 4, 7], [1, 2], 0), (42, [7, 8], [], 0), (20, [8, 4], [1], 2), (23, [4], [1], 6), (90, [8], [], 0), (91, [8], [], 40), (5000, [0, 1, 2, 3, 4, 5, 6, 7], [0, 1], 5), (0, [0], [], 281), (51, [1], [], 0), (90, [2], [], -2147483648), (91, [2], [], 2147483647), (0, [3], [], 281), (51, [4], [], 0), (90, [5], [], -2147483648), (91, [5], [], 2147483647), (90, [6], [], -2147483648), (91, [6], [], 2147483647), (90, [7], [], -2147483648), (91, [7], [], 2147483647)], (4000, [3, 4, 5, 12, 13], [3], 5))
theorem c_142w_5_2 {q0 : Nat} : vOkm T0 (eN e_142 L_142w A_142 mu_142 n_142 B_142 (some q0)) 3 g_142w_5_2 := vOk_inI fun ρ η f0 f1 f2 f3 f4 f5 f6 f7 f8 f9 f10 f11 f12 f13 f14 f15 f16 f17 f18 f19 f20 f21 f22 f23 f24 f25 => q_142w_3 (q0 := q0) (n0 := ρ 7) (n1 := ρ 6) (n2 := ρ 5) (n3 := ρ 4) (n4 := ρ 3) (n5 := ρ 2) (n6 := ρ 1) (n7 := ρ 0) (n8 := ρ 8) (n9 := ρ 9) (n10 := ρ 10) (n11 := ρ 11) (n12 := ρ 12) (n13 := ρ 13) (H0 := η 0) (H1 := η 1) (H2 := η 2) (H3 := η 3) f25 f24 f23 f22 f21 f20 f19 f18 f17 f16 f15 f14 f13 f12 f11 f10 f9 f8 f7 f6 f5 f4 f3 f2 f1 f0
def p_142w_5 : List vG := [g_142w_5_0,
  g_142w_5_1,
  g_142w_5_2]
theorem r_142w_5 : vCovBO (eRc e_142 L_142 cs_142 2000 (5, [(0, (3, 9, 281, 0)), (1, (3, 6, -1, 0)), (2, (0, -2147483648, 2147483647, 0)), (3, (0, -2147483648, 2147483647, 0)), (4, (0, -2147483648, 2147483647, 0))])) p_142w_5 = true := by decide +kernel
theorem m_142w (d : Nat) : eC e_142w (d + 5) := eC_ref (e := e_142) (L := L_142) (L' := L_142w) (cs := cs_142) (n := 2000) (d := d + 4) (A := A_142) (μ := mu_142) (tp := true) (p0 := p_142_s) (p1 := p_142w_s) (N := n_142) (B := B_142) rfl ⟨m_115y (d + 3), ⟨m_141w d, trivial⟩⟩ rfl (.inr pre0_ok) (by decide +kernel) (fun _ => post0_ok) r_142_s (allC c_142_s_0 allN) (allC (.inl ⟨p_142_5, r_142_5, fun q0 => (allC c_142_5_0 (allC c_142_5_1 allN))⟩) allN) ⟨⟨rfl, rfl, rfl, fun _ _ _ _ => trivial⟩, (sub1 trivial)⟩ r_142w_s (allC c_142w_s_0 allN) (allC ⟨p_142w_5, r_142w_5, fun q0 => (allC c_142w_5_0 (allC c_142w_5_1 (allC c_142w_5_2 allN)))⟩ allN)
