/- MixStage.putWord (I)V -/
noncomputable def s_192v : vM := ([(3, 11, 7, 0), (0, -2147483648, 2147483647, 0)], (9, 0, 0, 0), 1, 0, [(11, 1), (692, 0)])
def preb_192v (a0 a1 : Int) (h : gH) : Prop := KM h ∧ 0 ≤ hV h 7 1 ∧ hV h 7 1 ≤ 1996
def pre_192v : List Int → gH → Prop := fun xs h => match xs with
  | [a0, a1] => preb_192v a0 a1 h
  | _ => False
def postb_192v (a0 a1 : Int) (h0 h : gH) : Prop := KM h ∧ hV h 7 1 = hV h0 7 1 + 4 ∧ hV h 8 = pW a1 (hV h0 8) (hV h0 7 1) 4
def post_192v : List Int → gH → gH → Prop := fun xs h0 h => match xs with
  | [a0, a1] => postb_192v a0 a1 h0 h
  | _ => True
noncomputable def e_192v : vE := (192, s_192v, pre_192v, post_192v)
noncomputable def L_192v : List vE := [e_201vk692]
def cs_192v : List vC := [(3, [(0, (3, 11, 7, 0)), (1, (0, -2147483648, 2147483647, 0)), (2, (0, -2147483648, 2147483647, 0))])]
def Ab_192v_3 (a0 a1 x0 x1 x2 : Int) (h0 h : gH) : Prop := KM h ∧ x1 = a1 ∧ -8 ≤ x2 ∧ x2 ≤ 24 ∧ 8 * (hV h 7 1 - hV h0 7 1) = 24 - x2 ∧ hV h 8 = pW a1 (hV h0 8) (hV h0 7 1) (hV h 7 1 - hV h0 7 1).toNat
def mub_192v_3 (a0 a1 x0 x1 x2 : Int) (h0 h : gH) : Nat := (x2 + 9).toNat
def A_192v : Int → List Int → gH → gH → Prop := fun c xs h0 h => match c.toNat with
  | 3 => (match xs with
    | [a0, a1, x0, x1, x2] => Ab_192v_3 a0 a1 x0 x1 x2 h0 h
    | _ => False)
  | _ => True
def mu_192v : Int → List Int → gH → gH → Nat := fun c xs h0 h => match c.toNat with
  | 3 => (match xs with
    | [a0, a1, x0, x1, x2] => mub_192v_3 a0 a1 x0 x1 x2 h0 h
    | _ => 0)
  | _ => 0
theorem q_192v_0 {n0 n1 n2 : Int} {H0 : gH} (f0 : n0 ≤ 2147483647) (f1 : (-2147483648) ≤ n0) (f2 : n1 = 7) (f3 : hWt T0 H0 ∧ preb_192v n1 n0 H0) (f4 : n2 = 24) : Ab_192v_3 n1 n0 n1 n0 n2 H0 H0 ∧ ∀ q, none = some q → mub_192v_3 n1 n0 n1 n0 n2 H0 H0 < q := by
  have pz := f3.2
  unfold preb_192v at pz
  obtain ⟨km, b0, b1⟩ := pz
  unfold Ab_192v_3
  refine ⟨⟨km, rfl, by omega, by omega, by omega, ?_⟩, fun q hq => nomatch hq⟩
  rw [Int.sub_self]
  rfl
theorem c_192v_s_0 : vOkm T0 (eP e_192v L_192v A_192v mu_192v none) 2 ([(0, [2], [], 24), (6000, [0, 1], [0], 0), (0, [0], [], 7), (90, [1], [], -2147483648), (91, [1], [], 2147483647)], (4000, [0, 1, 2], [0], 3)) := vOk_in fun ρ η h => by
  obtain ⟨f0, f1, f2, f3, f4, _⟩ := h
  exact q_192v_0 (n0 := ρ 1) (n1 := ρ 0) (n2 := ρ 2) (H0 := η 0) f4 f3 f2 f1 f0
def p_192v_s : List vG := [([(0, [2], [], 24), (6000, [0, 1], [0], 0), (0, [0], [], 7), (90, [1], [], -2147483648), (91, [1], [], 2147483647)], (4000, [0, 1, 2], [0], 3))]
theorem r_192v_s : vCovO false (eR0 e_192v L_192v cs_192v 2000) p_192v_s = true := by decide +kernel
theorem q_192v_1 {q0 : Nat} {n0 n1 n2 n3 n4 : Int} {H0 H1 : gH} (f0 : n0 ≤ 2147483647) (f1 : (-2147483648) ≤ n0) (f2 : n1 ≤ 2147483647) (f3 : (-2147483648) ≤ n1) (f4 : n2 = 7) (f5 : n3 ≤ 2147483647) (f6 : (-2147483648) ≤ n3) (f7 : n4 = 7) (f8 : (hLe T0 H0 H1 ∧ hFr s_192v.2.2.2.2 H0 H1 ∧ hWt T0 H1) ∧ (Ab_192v_3 n4 n3 n2 n1 n0 H0 H1 ∧ preb_192v n4 n3 H0) ∧ some q0 = some (mub_192v_3 n4 n3 n2 n1 n0 H0 H1)) (f9 : n0 < 0) : postb_192v n4 n3 H0 H1 := by
  have pz := f8.2.1.2
  unfold preb_192v at pz
  obtain ⟨km0, b0, b1⟩ := pz
  have ga := f8.2.1.1
  unfold Ab_192v_3 at ga
  obtain ⟨km, x1, y1, y2, y3, y8⟩ := ga
  unfold postb_192v
  refine ⟨km, by omega, ?_⟩
  rw [y8, show (hV H1 7 1 - hV H0 7 1).toNat = 4 by omega]
theorem c_192v_3_0 {q0 : Nat} : vOkm T0 (eP e_192v L_192v A_192v mu_192v (some q0)) 2 ([(32, [4], [], 0), (5000, [0, 1, 2, 3, 4], [0, 1], 3), (0, [0], [], 7), (90, [1], [], -2147483648), (91, [1], [], 2147483647), (0, [2], [], 7), (90, [3], [], -2147483648), (91, [3], [], 2147483647), (90, [4], [], -2147483648), (91, [4], [], 2147483647)], (3000, [], [1], 41)) := vOk_in fun ρ η h => by
  obtain ⟨f0, f1, f2, f3, f4, f5, f6, f7, f8, f9, _⟩ := h
  exact q_192v_1 (q0 := q0) (n0 := ρ 4) (n1 := ρ 3) (n2 := ρ 2) (n3 := ρ 1) (n4 := ρ 0) (H0 := η 0) (H1 := η 1) f9 f8 f7 f6 f5 f4 f3 f2 f1 f0
theorem q_192v_2 {q0 : Nat} {n0 n1 n2 n3 n4 n5 n6 n7 n8 n9 n10 n11 n12 n13 n14 : Int} {H0 H1 H2 H3 : gH} (f0 : n0 ≤ 2147483647) (f1 : (-2147483648) ≤ n0) (f2 : n1 ≤ 2147483647) (f3 : (-2147483648) ≤ n1) (f4 : n2 = 7) (f5 : n3 ≤ 2147483647) (f6 : (-2147483648) ≤ n3) (f7 : n4 = 7) (f8 : (hLe T0 H0 H1 ∧ hFr s_192v.2.2.2.2 H0 H1 ∧ hWt T0 H1) ∧ (Ab_192v_3 n4 n3 n2 n1 n0 H0 H1 ∧ preb_192v n4 n3 H0) ∧ some q0 = some (mub_192v_3 n4 n3 n2 n1 n0 H0 H1)) (f9 : 0 ≤ n0) (f10 : n5 = 8) (f11 : n5 = hV H1 (n2).toNat 0) (f12 : n6 ≤ 2147483647) (f13 : (-2147483648) ≤ n6) (f14 : n6 = hV H1 (n2).toNat 1) (f15 : n7 = o32 (fun x y => (x.toUInt32 >>> (y.toUInt32 &&& Int32.toUInt32 31)).toInt32) n1 n0) (f16 : n8 = 255) (f17 : n9 = o32 (fun x y => x &&& y) n7 n8) (f18 : (hLe T0 H1 H2 ∧ hFr s_201vk692.2.2.2.2 H1 H2 ∧ ((0 : Int) = 0 → H2.length = H1.length) ∧ hWt T0 H2) ∧ postb_201vk692 n5 n6 n9 H1 H2) (f19 : n10 ≤ 2147483647) (f20 : (-2147483648) ≤ n10) (f21 : n10 = hV H2 (n2).toNat 1) (f22 : n11 = 1) (f23 : n12 = w32 (n10 + n11)) (f24 : n13 = 1) (f25 : hUpd H3 H2 n2 n13 n12) (f26 : n14 = w32 (n0 + (-8))) : Ab_192v_3 n4 n3 n2 n1 n14 H0 H3 ∧ ∀ q, some q0 = some q → mub_192v_3 n4 n3 n2 n1 n14 H0 H3 < q := by
  have pz := f8.2.1.2
  unfold preb_192v at pz
  obtain ⟨km0, b0, b1⟩ := pz
  have ga := f8.2.1.1
  unfold Ab_192v_3 at ga
  obtain ⟨km, x1, y1, y2, y3, y8⟩ := ga
  have r11 := f11
  rw [f4] at r11
  rw [show ((7 : Int)).toNat = 7 from rfl] at r11
  have r14 := f14
  rw [f4] at r14
  rw [show ((7 : Int)).toNat = 7 from rfl] at r14
  have r21 := f21
  rw [f4] at r21
  rw [show ((7 : Int)).toNat = 7 from rfl] at r21
  have t71 : hV H2 7 1 = hV H1 7 1 := f18.1.2.1.1 7 1 (by decide +kernel)
  have e_23 : n12 = n10 + (1) := by
    have w := f23
    rw [f22] at w
    rw [w]
    exact w32_id (by omega) (by omega)
  have e_26 : n14 = n0 + (-8) := by
    have w := f26
    rw [w]
    exact w32_id (by omega) (by omega)
  have bt := f17
  rw [f15, f16, byteU (by omega), x1] at bt
  have q := f18.2
  unfold postb_201vk692 at q
  have e := putQ_r (q := 8) (n := 2000) q f10 km.1.2 (by omega)
  have e71 : hV H3 7 1 = n12 := uSame f25 7 1 (by rw [f4]; rfl) (by rw [f24]; rfl)
  have e8 : hV H3 8 = hV H2 8 := uRowNe f25 8 (by rw [f4]; decide)
  have g5 := Option.some.inj f8.2.2
  unfold mub_192v_3 at g5
  unfold Ab_192v_3 mub_192v_3
  refine ⟨⟨KM_up f25 (KM_le f18.1.1 km), x1, by omega, by omega, by omega, ?_⟩, fun q hq => ?_⟩
  · rw [e8, e, y8, show (hV H3 7 1 - hV H0 7 1).toNat = (hV H1 7 1 - hV H0 7 1).toNat + 1 by omega]
    show _ = uF (pW _ _ _ _) _ _
    rw [bt, show n6 = hV H0 7 1 + (((hV H1 7 1 - hV H0 7 1).toNat : Nat) : Int) by omega, show n0 = 24 - 8 * (((hV H1 7 1 - hV H0 7 1).toNat : Nat) : Int) by omega]
  · have g6 := Option.some.inj hq
    subst g6
    omega
theorem c_192v_3_1 {q0 : Nat} : vOkm T0 (eP e_192v L_192v A_192v mu_192v (some q0)) 2 ([(10, [14, 4], [], -8), (80, [2, 13, 12], [3, 2], 0), (0, [13], [], 1), (1, [12, 10, 11], [], 0), (0, [11], [], 1), (20, [10, 2], [2], 1), (90, [10], [], -2147483648), (91, [10], [], 2147483647), (1201, [5, 6, 9], [1, 2], 0), (4, [9, 7, 8], [], 0), (0, [8], [], 255), (9, [7, 3, 4], [], 0), (20, [6, 2], [1], 1), (90, [6], [], -2147483648), (91, [6], [], 2147483647), (20, [5, 2], [1], 0), (0, [5], [], 8), (33, [4], [], 0), (5000, [0, 1, 2, 3, 4], [0, 1], 3), (0, [0], [], 7), (90, [1], [], -2147483648), (91, [1], [], 2147483647), (0, [2], [], 7), (90, [3], [], -2147483648), (91, [3], [], 2147483647), (90, [4], [], -2147483648), (91, [4], [], 2147483647)], (4000, [2, 3, 14], [3], 3)) := vOk_in fun ρ η h => by
  obtain ⟨f0, f1, f2, f3, f4, f5, f6, f7, f8, f9, f10, f11, f12, f13, f14, f15, f16, f17, f18, f19, f20, f21, f22, f23, f24, f25, f26, _⟩ := h
  exact q_192v_2 (q0 := q0) (n0 := ρ 4) (n1 := ρ 3) (n2 := ρ 2) (n3 := ρ 1) (n4 := ρ 0) (n5 := ρ 5) (n6 := ρ 6) (n7 := ρ 7) (n8 := ρ 8) (n9 := ρ 9) (n10 := ρ 10) (n11 := ρ 11) (n12 := ρ 12) (n13 := ρ 13) (n14 := ρ 14) (H0 := η 0) (H1 := η 1) (H2 := η 2) (H3 := η 3) f26 f25 f24 f23 f22 f21 f20 f19 f18 f17 f16 f15 f14 f13 f12 f11 f10 f9 f8 f7 f6 f5 f4 f3 f2 f1 f0
def p_192v_3 : List vG := [([(32, [4], [], 0), (5000, [0, 1, 2, 3, 4], [0, 1], 3), (0, [0], [], 7), (90, [1], [], -2147483648), (91, [1], [], 2147483647), (0, [2], [], 7), (90, [3], [], -2147483648), (91, [3], [], 2147483647), (90, [4], [], -2147483648), (91, [4], [], 2147483647)], (3000, [], [1], 41)),
  ([(10, [14, 4], [], -8), (80, [2, 13, 12], [3, 2], 0), (0, [13], [], 1), (1, [12, 10, 11], [], 0), (0, [11], [], 1), (20, [10, 2], [2], 1), (90, [10], [], -2147483648), (91, [10], [], 2147483647), (1201, [5, 6, 9], [1, 2], 0), (4, [9, 7, 8], [], 0), (0, [8], [], 255), (9, [7, 3, 4], [], 0), (20, [6, 2], [1], 1), (90, [6], [], -2147483648), (91, [6], [], 2147483647), (20, [5, 2], [1], 0), (0, [5], [], 8), (33, [4], [], 0), (5000, [0, 1, 2, 3, 4], [0, 1], 3), (0, [0], [], 7), (90, [1], [], -2147483648), (91, [1], [], 2147483647), (0, [2], [], 7), (90, [3], [], -2147483648), (91, [3], [], 2147483647), (90, [4], [], -2147483648), (91, [4], [], 2147483647)], (4000, [2, 3, 14], [3], 3))]
theorem r_192v_3 : vCovO false (eRc e_192v L_192v cs_192v 2000 (3, [(0, (3, 11, 7, 0)), (1, (0, -2147483648, 2147483647, 0)), (2, (0, -2147483648, 2147483647, 0))])) p_192v_3 = true := by decide +kernel
theorem m_192v (d : Nat) : eC e_192v (d + 2) := eC_ok (e := e_192v) (L := L_192v) (cs := cs_192v) (n := 2000) (d := d + 1) (A := A_192v) (μ := mu_192v) (tp := false) (p0 := p_192v_s) rfl ⟨m_201vk692 d, trivial⟩ rfl (.inl rfl) (by decide +kernel) (fun z => nomatch z) r_192v_s (allC c_192v_s_0 allN) (allC (.inl ⟨p_192v_3, r_192v_3, fun q0 => (allC c_192v_3_0 (allC c_192v_3_1 allN))⟩) allN)
/- MixStage.feed (IIIII)I -/
noncomputable def s_155v : vM := ([(3, 11, 7, 0), (0, -2147483648, 2147483647, 0), (0, -2147483648, 2147483647, 0), (0, -2147483648, 2147483647, 0), (0, -2147483648, 2147483647, 0), (0, -2147483648, 2147483647, 0)], (0, -2147483648, 2147483647, 0), 1, 0, [(11, 1), (692, 0)])
def preb_155v (a0 a1 a2 a3 a4 a5 : Int) (h : gH) : Prop := KM h ∧ ICm h ∧ MT (mC h)
def pre_155v : List Int → gH → Prop := fun xs h => match xs with
  | [a0, a1, a2, a3, a4, a5] => preb_155v a0 a1 a2 a3 a4 a5 h
  | _ => False
def postb_155v (r a0 a1 a2 a3 a4 a5 : Int) (h0 h : gH) : Prop := KM h ∧ ICm h ∧ (mC h, r) = mFeed a1 a2 a3 a4 a5 (mC h0)
def post_155v : List Int → gH → gH → Prop := fun xs h0 h => match xs with
  | [r, a0, a1, a2, a3, a4, a5] => postb_155v r a0 a1 a2 a3 a4 a5 h0 h
  | _ => True
noncomputable def e_155v : vE := (155, s_155v, pre_155v, post_155v)
noncomputable def L_155v : List vE := [e_192v]
def cs_155v : List vC := []
def A_155v : Int → List Int → gH → gH → Prop := fun c xs h0 h => True
def mu_155v : Int → List Int → gH → gH → Nat := fun c xs h0 h => 0
theorem q_155v_0 {n0 n1 n2 n3 n4 n5 n6 n7 n8 n9 : Int} {H0 : gH} (f0 : n0 ≤ 2147483647) (f1 : (-2147483648) ≤ n0) (f2 : n1 ≤ 2147483647) (f3 : (-2147483648) ≤ n1) (f4 : n2 ≤ 2147483647) (f5 : (-2147483648) ≤ n2) (f6 : n3 ≤ 2147483647) (f7 : (-2147483648) ≤ n3) (f8 : n4 ≤ 2147483647) (f9 : (-2147483648) ≤ n4) (f10 : n5 = 7) (f11 : hWt T0 H0 ∧ preb_155v n5 n4 n3 n2 n1 n0 H0) (f12 : n6 ≤ 2147483647) (f13 : (-2147483648) ≤ n6) (f14 : n6 = hV H0 (n5).toNat 1) (f15 : n7 = 20) (f16 : n8 = w32 (n6 + n7)) (f17 : n9 = 2000) (f18 : n8 ≤ n9) : preb_192v n5 n4 H0 := by
  have pz := f11.2
  unfold preb_155v at pz
  obtain ⟨km, ic, mt⟩ := pz
  obtain ⟨mf, ms, me, m20, m21, m22, mz⟩ := MTc mt
  have r14 := f14
  rw [f10] at r14
  rw [show ((7 : Int)).toNat = 7 from rfl] at r14
  have e_16 : n8 = n6 + (20) := by
    have w := f16
    rw [f15] at w
    rw [w]
    exact w32_id (by omega) (by omega)
  unfold preb_192v
  exact ⟨km, by omega, by omega⟩
theorem c_155v_s_0 : vOkm T0 (eP e_155v L_155v A_155v mu_155v none) 6 ([(45, [8, 9], [], 0), (0, [9], [], 2000), (1, [8, 6, 7], [], 0), (0, [7], [], 20), (20, [6, 0], [0], 1), (90, [6], [], -2147483648), (91, [6], [], 2147483647), (6000, [0, 1, 2, 3, 4, 5], [0], 0), (0, [0], [], 7), (90, [1], [], -2147483648), (91, [1], [], 2147483647), (90, [2], [], -2147483648), (91, [2], [], 2147483647), (90, [3], [], -2147483648), (91, [3], [], 2147483647), (90, [4], [], -2147483648), (91, [4], [], 2147483647), (90, [5], [], -2147483648), (91, [5], [], 2147483647)], (2192, [0, 1], [0], 0)) := vOk_in fun ρ η h => by
  obtain ⟨f0, f1, f2, f3, f4, f5, f6, f7, f8, f9, f10, f11, f12, f13, f14, f15, f16, f17, f18, _⟩ := h
  exact q_155v_0 (n0 := ρ 5) (n1 := ρ 4) (n2 := ρ 3) (n3 := ρ 2) (n4 := ρ 1) (n5 := ρ 0) (n6 := ρ 6) (n7 := ρ 7) (n8 := ρ 8) (n9 := ρ 9) (H0 := η 0) f18 f17 f16 f15 f14 f13 f12 f11 f10 f9 f8 f7 f6 f5 f4 f3 f2 f1 f0
theorem q_155v_1 {n0 n1 n2 n3 n4 n5 n6 n7 n8 n9 : Int} {H0 H1 : gH} (f0 : n0 ≤ 2147483647) (f1 : (-2147483648) ≤ n0) (f2 : n1 ≤ 2147483647) (f3 : (-2147483648) ≤ n1) (f4 : n2 ≤ 2147483647) (f5 : (-2147483648) ≤ n2) (f6 : n3 ≤ 2147483647) (f7 : (-2147483648) ≤ n3) (f8 : n4 ≤ 2147483647) (f9 : (-2147483648) ≤ n4) (f10 : n5 = 7) (f11 : hWt T0 H0 ∧ preb_155v n5 n4 n3 n2 n1 n0 H0) (f12 : n6 ≤ 2147483647) (f13 : (-2147483648) ≤ n6) (f14 : n6 = hV H0 (n5).toNat 1) (f15 : n7 = 20) (f16 : n8 = w32 (n6 + n7)) (f17 : n9 = 2000) (f18 : n8 ≤ n9) (f19 : (hLe T0 H0 H1 ∧ hFr s_192v.2.2.2.2 H0 H1 ∧ ((0 : Int) = 0 → H1.length = H0.length) ∧ hWt T0 H1) ∧ postb_192v n5 n4 H0 H1) : preb_192v n5 n3 H1 := by
  have pz := f11.2
  unfold preb_155v at pz
  obtain ⟨km, ic, mt⟩ := pz
  obtain ⟨mf, ms, me, m20, m21, m22, mz⟩ := MTc mt
  have r14 := f14
  rw [f10] at r14
  rw [show ((7 : Int)).toNat = 7 from rfl] at r14
  have e_16 : n8 = n6 + (20) := by
    have w := f16
    rw [f15] at w
    rw [w]
    exact w32_id (by omega) (by omega)
  have q0 := f19.2
  unfold postb_192v at q0
  have m0 := mC_put f19.1.2.1 (by decide +kernel) q0.2.1 q0.2.2
  have t01 := q0.1
  have t02 := q0.2.1
  unfold preb_192v
  exact ⟨q0.1, by omega, by omega⟩
theorem c_155v_s_1 : vOkm T0 (eP e_155v L_155v A_155v mu_155v none) 6 ([(1192, [0, 1], [0, 1], 0), (45, [8, 9], [], 0), (0, [9], [], 2000), (1, [8, 6, 7], [], 0), (0, [7], [], 20), (20, [6, 0], [0], 1), (90, [6], [], -2147483648), (91, [6], [], 2147483647), (6000, [0, 1, 2, 3, 4, 5], [0], 0), (0, [0], [], 7), (90, [1], [], -2147483648), (91, [1], [], 2147483647), (90, [2], [], -2147483648), (91, [2], [], 2147483647), (90, [3], [], -2147483648), (91, [3], [], 2147483647), (90, [4], [], -2147483648), (91, [4], [], 2147483647), (90, [5], [], -2147483648), (91, [5], [], 2147483647)], (2192, [0, 2], [1], 0)) := vOk_in fun ρ η h => by
  obtain ⟨f0, f1, f2, f3, f4, f5, f6, f7, f8, f9, f10, f11, f12, f13, f14, f15, f16, f17, f18, f19, _⟩ := h
  exact q_155v_1 (n0 := ρ 5) (n1 := ρ 4) (n2 := ρ 3) (n3 := ρ 2) (n4 := ρ 1) (n5 := ρ 0) (n6 := ρ 6) (n7 := ρ 7) (n8 := ρ 8) (n9 := ρ 9) (H0 := η 0) (H1 := η 1) f19 f18 f17 f16 f15 f14 f13 f12 f11 f10 f9 f8 f7 f6 f5 f4 f3 f2 f1 f0
theorem q_155v_2 {n0 n1 n2 n3 n4 n5 n6 n7 n8 n9 : Int} {H0 H1 H2 : gH} (f0 : n0 ≤ 2147483647) (f1 : (-2147483648) ≤ n0) (f2 : n1 ≤ 2147483647) (f3 : (-2147483648) ≤ n1) (f4 : n2 ≤ 2147483647) (f5 : (-2147483648) ≤ n2) (f6 : n3 ≤ 2147483647) (f7 : (-2147483648) ≤ n3) (f8 : n4 ≤ 2147483647) (f9 : (-2147483648) ≤ n4) (f10 : n5 = 7) (f11 : hWt T0 H0 ∧ preb_155v n5 n4 n3 n2 n1 n0 H0) (f12 : n6 ≤ 2147483647) (f13 : (-2147483648) ≤ n6) (f14 : n6 = hV H0 (n5).toNat 1) (f15 : n7 = 20) (f16 : n8 = w32 (n6 + n7)) (f17 : n9 = 2000) (f18 : n8 ≤ n9) (f19 : (hLe T0 H0 H1 ∧ hFr s_192v.2.2.2.2 H0 H1 ∧ ((0 : Int) = 0 → H1.length = H0.length) ∧ hWt T0 H1) ∧ postb_192v n5 n4 H0 H1) (f20 : (hLe T0 H1 H2 ∧ hFr s_192v.2.2.2.2 H1 H2 ∧ ((0 : Int) = 0 → H2.length = H1.length) ∧ hWt T0 H2) ∧ postb_192v n5 n3 H1 H2) : preb_192v n5 n2 H2 := by
  have pz := f11.2
  unfold preb_155v at pz
  obtain ⟨km, ic, mt⟩ := pz
  obtain ⟨mf, ms, me, m20, m21, m22, mz⟩ := MTc mt
  have r14 := f14
  rw [f10] at r14
  rw [show ((7 : Int)).toNat = 7 from rfl] at r14
  have e_16 : n8 = n6 + (20) := by
    have w := f16
    rw [f15] at w
    rw [w]
    exact w32_id (by omega) (by omega)
  have q0 := f19.2
  unfold postb_192v at q0
  have m0 := mC_put f19.1.2.1 (by decide +kernel) q0.2.1 q0.2.2
  have t01 := q0.1
  have t02 := q0.2.1
  have q1 := f20.2
  unfold postb_192v at q1
  have m1 := mC_put f20.1.2.1 (by decide +kernel) q1.2.1 q1.2.2
  have t11 := q1.1
  have t12 := q1.2.1
  unfold preb_192v
  exact ⟨q1.1, by omega, by omega⟩
theorem c_155v_s_2 : vOkm T0 (eP e_155v L_155v A_155v mu_155v none) 6 ([(1192, [0, 2], [1, 2], 0), (1192, [0, 1], [0, 1], 0), (45, [8, 9], [], 0), (0, [9], [], 2000), (1, [8, 6, 7], [], 0), (0, [7], [], 20), (20, [6, 0], [0], 1), (90, [6], [], -2147483648), (91, [6], [], 2147483647), (6000, [0, 1, 2, 3, 4, 5], [0], 0), (0, [0], [], 7), (90, [1], [], -2147483648), (91, [1], [], 2147483647), (90, [2], [], -2147483648), (91, [2], [], 2147483647), (90, [3], [], -2147483648), (91, [3], [], 2147483647), (90, [4], [], -2147483648), (91, [4], [], 2147483647), (90, [5], [], -2147483648), (91, [5], [], 2147483647)], (2192, [0, 3], [2], 0)) := vOk_in fun ρ η h => by
  obtain ⟨f0, f1, f2, f3, f4, f5, f6, f7, f8, f9, f10, f11, f12, f13, f14, f15, f16, f17, f18, f19, f20, _⟩ := h
  exact q_155v_2 (n0 := ρ 5) (n1 := ρ 4) (n2 := ρ 3) (n3 := ρ 2) (n4 := ρ 1) (n5 := ρ 0) (n6 := ρ 6) (n7 := ρ 7) (n8 := ρ 8) (n9 := ρ 9) (H0 := η 0) (H1 := η 1) (H2 := η 2) f20 f19 f18 f17 f16 f15 f14 f13 f12 f11 f10 f9 f8 f7 f6 f5 f4 f3 f2 f1 f0
theorem q_155v_3 {n0 n1 n2 n3 n4 n5 n6 n7 n8 n9 : Int} {H0 H1 H2 H3 : gH} (f0 : n0 ≤ 2147483647) (f1 : (-2147483648) ≤ n0) (f2 : n1 ≤ 2147483647) (f3 : (-2147483648) ≤ n1) (f4 : n2 ≤ 2147483647) (f5 : (-2147483648) ≤ n2) (f6 : n3 ≤ 2147483647) (f7 : (-2147483648) ≤ n3) (f8 : n4 ≤ 2147483647) (f9 : (-2147483648) ≤ n4) (f10 : n5 = 7) (f11 : hWt T0 H0 ∧ preb_155v n5 n4 n3 n2 n1 n0 H0) (f12 : n6 ≤ 2147483647) (f13 : (-2147483648) ≤ n6) (f14 : n6 = hV H0 (n5).toNat 1) (f15 : n7 = 20) (f16 : n8 = w32 (n6 + n7)) (f17 : n9 = 2000) (f18 : n8 ≤ n9) (f19 : (hLe T0 H0 H1 ∧ hFr s_192v.2.2.2.2 H0 H1 ∧ ((0 : Int) = 0 → H1.length = H0.length) ∧ hWt T0 H1) ∧ postb_192v n5 n4 H0 H1) (f20 : (hLe T0 H1 H2 ∧ hFr s_192v.2.2.2.2 H1 H2 ∧ ((0 : Int) = 0 → H2.length = H1.length) ∧ hWt T0 H2) ∧ postb_192v n5 n3 H1 H2) (f21 : (hLe T0 H2 H3 ∧ hFr s_192v.2.2.2.2 H2 H3 ∧ ((0 : Int) = 0 → H3.length = H2.length) ∧ hWt T0 H3) ∧ postb_192v n5 n2 H2 H3) : preb_192v n5 n1 H3 := by
  have pz := f11.2
  unfold preb_155v at pz
  obtain ⟨km, ic, mt⟩ := pz
  obtain ⟨mf, ms, me, m20, m21, m22, mz⟩ := MTc mt
  have r14 := f14
  rw [f10] at r14
  rw [show ((7 : Int)).toNat = 7 from rfl] at r14
  have e_16 : n8 = n6 + (20) := by
    have w := f16
    rw [f15] at w
    rw [w]
    exact w32_id (by omega) (by omega)
  have q0 := f19.2
  unfold postb_192v at q0
  have m0 := mC_put f19.1.2.1 (by decide +kernel) q0.2.1 q0.2.2
  have t01 := q0.1
  have t02 := q0.2.1
  have q1 := f20.2
  unfold postb_192v at q1
  have m1 := mC_put f20.1.2.1 (by decide +kernel) q1.2.1 q1.2.2
  have t11 := q1.1
  have t12 := q1.2.1
  have q2 := f21.2
  unfold postb_192v at q2
  have m2 := mC_put f21.1.2.1 (by decide +kernel) q2.2.1 q2.2.2
  have t21 := q2.1
  have t22 := q2.2.1
  unfold preb_192v
  exact ⟨q2.1, by omega, by omega⟩
theorem c_155v_s_3 : vOkm T0 (eP e_155v L_155v A_155v mu_155v none) 6 ([(1192, [0, 3], [2, 3], 0), (1192, [0, 2], [1, 2], 0), (1192, [0, 1], [0, 1], 0), (45, [8, 9], [], 0), (0, [9], [], 2000), (1, [8, 6, 7], [], 0), (0, [7], [], 20), (20, [6, 0], [0], 1), (90, [6], [], -2147483648), (91, [6], [], 2147483647), (6000, [0, 1, 2, 3, 4, 5], [0], 0), (0, [0], [], 7), (90, [1], [], -2147483648), (91, [1], [], 2147483647), (90, [2], [], -2147483648), (91, [2], [], 2147483647), (90, [3], [], -2147483648), (91, [3], [], 2147483647), (90, [4], [], -2147483648), (91, [4], [], 2147483647), (90, [5], [], -2147483648), (91, [5], [], 2147483647)], (2192, [0, 4], [3], 0)) := vOk_in fun ρ η h => by
  obtain ⟨f0, f1, f2, f3, f4, f5, f6, f7, f8, f9, f10, f11, f12, f13, f14, f15, f16, f17, f18, f19, f20, f21, _⟩ := h
  exact q_155v_3 (n0 := ρ 5) (n1 := ρ 4) (n2 := ρ 3) (n3 := ρ 2) (n4 := ρ 1) (n5 := ρ 0) (n6 := ρ 6) (n7 := ρ 7) (n8 := ρ 8) (n9 := ρ 9) (H0 := η 0) (H1 := η 1) (H2 := η 2) (H3 := η 3) f21 f20 f19 f18 f17 f16 f15 f14 f13 f12 f11 f10 f9 f8 f7 f6 f5 f4 f3 f2 f1 f0
theorem q_155v_4 {n0 n1 n2 n3 n4 n5 n6 n7 n8 n9 : Int} {H0 H1 H2 H3 H4 : gH} (f0 : n0 ≤ 2147483647) (f1 : (-2147483648) ≤ n0) (f2 : n1 ≤ 2147483647) (f3 : (-2147483648) ≤ n1) (f4 : n2 ≤ 2147483647) (f5 : (-2147483648) ≤ n2) (f6 : n3 ≤ 2147483647) (f7 : (-2147483648) ≤ n3) (f8 : n4 ≤ 2147483647) (f9 : (-2147483648) ≤ n4) (f10 : n5 = 7) (f11 : hWt T0 H0 ∧ preb_155v n5 n4 n3 n2 n1 n0 H0) (f12 : n6 ≤ 2147483647) (f13 : (-2147483648) ≤ n6) (f14 : n6 = hV H0 (n5).toNat 1) (f15 : n7 = 20) (f16 : n8 = w32 (n6 + n7)) (f17 : n9 = 2000) (f18 : n8 ≤ n9) (f19 : (hLe T0 H0 H1 ∧ hFr s_192v.2.2.2.2 H0 H1 ∧ ((0 : Int) = 0 → H1.length = H0.length) ∧ hWt T0 H1) ∧ postb_192v n5 n4 H0 H1) (f20 : (hLe T0 H1 H2 ∧ hFr s_192v.2.2.2.2 H1 H2 ∧ ((0 : Int) = 0 → H2.length = H1.length) ∧ hWt T0 H2) ∧ postb_192v n5 n3 H1 H2) (f21 : (hLe T0 H2 H3 ∧ hFr s_192v.2.2.2.2 H2 H3 ∧ ((0 : Int) = 0 → H3.length = H2.length) ∧ hWt T0 H3) ∧ postb_192v n5 n2 H2 H3) (f22 : (hLe T0 H3 H4 ∧ hFr s_192v.2.2.2.2 H3 H4 ∧ ((0 : Int) = 0 → H4.length = H3.length) ∧ hWt T0 H4) ∧ postb_192v n5 n1 H3 H4) : preb_192v n5 n0 H4 := by
  have pz := f11.2
  unfold preb_155v at pz
  obtain ⟨km, ic, mt⟩ := pz
  obtain ⟨mf, ms, me, m20, m21, m22, mz⟩ := MTc mt
  have r14 := f14
  rw [f10] at r14
  rw [show ((7 : Int)).toNat = 7 from rfl] at r14
  have e_16 : n8 = n6 + (20) := by
    have w := f16
    rw [f15] at w
    rw [w]
    exact w32_id (by omega) (by omega)
  have q0 := f19.2
  unfold postb_192v at q0
  have m0 := mC_put f19.1.2.1 (by decide +kernel) q0.2.1 q0.2.2
  have t01 := q0.1
  have t02 := q0.2.1
  have q1 := f20.2
  unfold postb_192v at q1
  have m1 := mC_put f20.1.2.1 (by decide +kernel) q1.2.1 q1.2.2
  have t11 := q1.1
  have t12 := q1.2.1
  have q2 := f21.2
  unfold postb_192v at q2
  have m2 := mC_put f21.1.2.1 (by decide +kernel) q2.2.1 q2.2.2
  have t21 := q2.1
  have t22 := q2.2.1
  have q3 := f22.2
  unfold postb_192v at q3
  have m3 := mC_put f22.1.2.1 (by decide +kernel) q3.2.1 q3.2.2
  have t31 := q3.1
  have t32 := q3.2.1
  unfold preb_192v
  exact ⟨q3.1, by omega, by omega⟩
theorem c_155v_s_4 : vOkm T0 (eP e_155v L_155v A_155v mu_155v none) 6 ([(1192, [0, 4], [3, 4], 0), (1192, [0, 3], [2, 3], 0), (1192, [0, 2], [1, 2], 0), (1192, [0, 1], [0, 1], 0), (45, [8, 9], [], 0), (0, [9], [], 2000), (1, [8, 6, 7], [], 0), (0, [7], [], 20), (20, [6, 0], [0], 1), (90, [6], [], -2147483648), (91, [6], [], 2147483647), (6000, [0, 1, 2, 3, 4, 5], [0], 0), (0, [0], [], 7), (90, [1], [], -2147483648), (91, [1], [], 2147483647), (90, [2], [], -2147483648), (91, [2], [], 2147483647), (90, [3], [], -2147483648), (91, [3], [], 2147483647), (90, [4], [], -2147483648), (91, [4], [], 2147483647), (90, [5], [], -2147483648), (91, [5], [], 2147483647)], (2192, [0, 5], [4], 0)) := vOk_in fun ρ η h => by
  obtain ⟨f0, f1, f2, f3, f4, f5, f6, f7, f8, f9, f10, f11, f12, f13, f14, f15, f16, f17, f18, f19, f20, f21, f22, _⟩ := h
  exact q_155v_4 (n0 := ρ 5) (n1 := ρ 4) (n2 := ρ 3) (n3 := ρ 2) (n4 := ρ 1) (n5 := ρ 0) (n6 := ρ 6) (n7 := ρ 7) (n8 := ρ 8) (n9 := ρ 9) (H0 := η 0) (H1 := η 1) (H2 := η 2) (H3 := η 3) (H4 := η 4) f22 f21 f20 f19 f18 f17 f16 f15 f14 f13 f12 f11 f10 f9 f8 f7 f6 f5 f4 f3 f2 f1 f0
theorem q_155v_5 {n0 n1 n2 n3 n4 n5 n6 n7 n8 n9 n10 : Int} {H0 H1 H2 H3 H4 H5 : gH} (f0 : n0 ≤ 2147483647) (f1 : (-2147483648) ≤ n0) (f2 : n1 ≤ 2147483647) (f3 : (-2147483648) ≤ n1) (f4 : n2 ≤ 2147483647) (f5 : (-2147483648) ≤ n2) (f6 : n3 ≤ 2147483647) (f7 : (-2147483648) ≤ n3) (f8 : n4 ≤ 2147483647) (f9 : (-2147483648) ≤ n4) (f10 : n5 = 7) (f11 : hWt T0 H0 ∧ preb_155v n5 n4 n3 n2 n1 n0 H0) (f12 : n6 ≤ 2147483647) (f13 : (-2147483648) ≤ n6) (f14 : n6 = hV H0 (n5).toNat 1) (f15 : n7 = 20) (f16 : n8 = w32 (n6 + n7)) (f17 : n9 = 2000) (f18 : n8 ≤ n9) (f19 : (hLe T0 H0 H1 ∧ hFr s_192v.2.2.2.2 H0 H1 ∧ ((0 : Int) = 0 → H1.length = H0.length) ∧ hWt T0 H1) ∧ postb_192v n5 n4 H0 H1) (f20 : (hLe T0 H1 H2 ∧ hFr s_192v.2.2.2.2 H1 H2 ∧ ((0 : Int) = 0 → H2.length = H1.length) ∧ hWt T0 H2) ∧ postb_192v n5 n3 H1 H2) (f21 : (hLe T0 H2 H3 ∧ hFr s_192v.2.2.2.2 H2 H3 ∧ ((0 : Int) = 0 → H3.length = H2.length) ∧ hWt T0 H3) ∧ postb_192v n5 n2 H2 H3) (f22 : (hLe T0 H3 H4 ∧ hFr s_192v.2.2.2.2 H3 H4 ∧ ((0 : Int) = 0 → H4.length = H3.length) ∧ hWt T0 H4) ∧ postb_192v n5 n1 H3 H4) (f23 : (hLe T0 H4 H5 ∧ hFr s_192v.2.2.2.2 H4 H5 ∧ ((0 : Int) = 0 → H5.length = H4.length) ∧ hWt T0 H5) ∧ postb_192v n5 n0 H4 H5) (f24 : n10 ≤ 2147483647) (f25 : (-2147483648) ≤ n10) (f26 : n10 = hV H5 (n5).toNat 1) : postb_155v n10 n5 n4 n3 n2 n1 n0 H0 H5 := by
  have pz := f11.2
  unfold preb_155v at pz
  obtain ⟨km, ic, mt⟩ := pz
  obtain ⟨mf, ms, me, m20, m21, m22, mz⟩ := MTc mt
  have r14 := f14
  rw [f10] at r14
  rw [show ((7 : Int)).toNat = 7 from rfl] at r14
  have r26 := f26
  rw [f10] at r26
  rw [show ((7 : Int)).toNat = 7 from rfl] at r26
  have e_16 : n8 = n6 + (20) := by
    have w := f16
    rw [f15] at w
    rw [w]
    exact w32_id (by omega) (by omega)
  have q0 := f19.2
  unfold postb_192v at q0
  have m0 := mC_put f19.1.2.1 (by decide +kernel) q0.2.1 q0.2.2
  have t01 := q0.1
  have t02 := q0.2.1
  have q1 := f20.2
  unfold postb_192v at q1
  have m1 := mC_put f20.1.2.1 (by decide +kernel) q1.2.1 q1.2.2
  have t11 := q1.1
  have t12 := q1.2.1
  have q2 := f21.2
  unfold postb_192v at q2
  have m2 := mC_put f21.1.2.1 (by decide +kernel) q2.2.1 q2.2.2
  have t21 := q2.1
  have t22 := q2.2.1
  have q3 := f22.2
  unfold postb_192v at q3
  have m3 := mC_put f22.1.2.1 (by decide +kernel) q3.2.1 q3.2.2
  have t31 := q3.1
  have t32 := q3.2.1
  have q4 := f23.2
  unfold postb_192v at q4
  have m4 := mC_put f23.1.2.1 (by decide +kernel) q4.2.1 q4.2.2
  have t41 := q4.1
  have t42 := q4.2.1
  unfold postb_155v
  refine ⟨q4.1, (ICm_of (ED_fr f23.1.2.1 (by decide +kernel)) (ICm_of (ED_fr f22.1.2.1 (by decide +kernel)) (ICm_of (ED_fr f21.1.2.1 (by decide +kernel)) (ICm_of (ED_fr f20.1.2.1 (by decide +kernel)) (ICm_of (ED_fr f19.1.2.1 (by decide +kernel)) ic))))), ?_⟩
  rw [show mFeed n4 n3 n2 n1 n0 (mC H0) = _ from if_neg (by show ¬ 2000 < hV H0 7 1 + 20; omega), m4, m3, m2, m1, m0]
  exact Prod.ext rfl (by show n10 = hV H0 7 1 + 20; omega)
theorem c_155v_s_5 : vOkm T0 (eP e_155v L_155v A_155v mu_155v none) 6 ([(20, [10, 0], [5], 1), (90, [10], [], -2147483648), (91, [10], [], 2147483647), (1192, [0, 5], [4, 5], 0), (1192, [0, 4], [3, 4], 0), (1192, [0, 3], [2, 3], 0), (1192, [0, 2], [1, 2], 0), (1192, [0, 1], [0, 1], 0), (45, [8, 9], [], 0), (0, [9], [], 2000), (1, [8, 6, 7], [], 0), (0, [7], [], 20), (20, [6, 0], [0], 1), (90, [6], [], -2147483648), (91, [6], [], 2147483647), (6000, [0, 1, 2, 3, 4, 5], [0], 0), (0, [0], [], 7), (90, [1], [], -2147483648), (91, [1], [], 2147483647), (90, [2], [], -2147483648), (91, [2], [], 2147483647), (90, [3], [], -2147483648), (91, [3], [], 2147483647), (90, [4], [], -2147483648), (91, [4], [], 2147483647), (90, [5], [], -2147483648), (91, [5], [], 2147483647)], (3000, [10], [5], 46)) := vOk_in fun ρ η h => by
  obtain ⟨f0, f1, f2, f3, f4, f5, f6, f7, f8, f9, f10, f11, f12, f13, f14, f15, f16, f17, f18, f19, f20, f21, f22, f23, f24, f25, f26, _⟩ := h
  exact q_155v_5 (n0 := ρ 5) (n1 := ρ 4) (n2 := ρ 3) (n3 := ρ 2) (n4 := ρ 1) (n5 := ρ 0) (n6 := ρ 6) (n7 := ρ 7) (n8 := ρ 8) (n9 := ρ 9) (n10 := ρ 10) (H0 := η 0) (H1 := η 1) (H2 := η 2) (H3 := η 3) (H4 := η 4) (H5 := η 5) f26 f25 f24 f23 f22 f21 f20 f19 f18 f17 f16 f15 f14 f13 f12 f11 f10 f9 f8 f7 f6 f5 f4 f3 f2 f1 f0
theorem q_155v_6 {n0 n1 n2 n3 n4 n5 n6 n7 n8 n9 n10 : Int} {H0 : gH} (f0 : n0 ≤ 2147483647) (f1 : (-2147483648) ≤ n0) (f2 : n1 ≤ 2147483647) (f3 : (-2147483648) ≤ n1) (f4 : n2 ≤ 2147483647) (f5 : (-2147483648) ≤ n2) (f6 : n3 ≤ 2147483647) (f7 : (-2147483648) ≤ n3) (f8 : n4 ≤ 2147483647) (f9 : (-2147483648) ≤ n4) (f10 : n5 = 7) (f11 : hWt T0 H0 ∧ preb_155v n5 n4 n3 n2 n1 n0 H0) (f12 : n6 ≤ 2147483647) (f13 : (-2147483648) ≤ n6) (f14 : n6 = hV H0 (n5).toNat 1) (f15 : n7 = 20) (f16 : n8 = w32 (n6 + n7)) (f17 : n9 = 2000) (f18 : n9 < n8) (f19 : n10 = (-1)) : postb_155v n10 n5 n4 n3 n2 n1 n0 H0 H0 := by
  have pz := f11.2
  unfold preb_155v at pz
  obtain ⟨km, ic, mt⟩ := pz
  obtain ⟨mf, ms, me, m20, m21, m22, mz⟩ := MTc mt
  have r14 := f14
  rw [f10] at r14
  rw [show ((7 : Int)).toNat = 7 from rfl] at r14
  have e_16 : n8 = n6 + (20) := by
    have w := f16
    rw [f15] at w
    rw [w]
    exact w32_id (by omega) (by omega)
  unfold postb_155v
  refine ⟨km, ic, ?_⟩
  rw [show n10 = -1 by omega]
  exact (if_pos (by show 2000 < hV H0 7 1 + 20; omega)).symm
theorem c_155v_s_6 : vOkm T0 (eP e_155v L_155v A_155v mu_155v none) 6 ([(0, [10], [], -1), (44, [8, 9], [], 0), (0, [9], [], 2000), (1, [8, 6, 7], [], 0), (0, [7], [], 20), (20, [6, 0], [0], 1), (90, [6], [], -2147483648), (91, [6], [], 2147483647), (6000, [0, 1, 2, 3, 4, 5], [0], 0), (0, [0], [], 7), (90, [1], [], -2147483648), (91, [1], [], 2147483647), (90, [2], [], -2147483648), (91, [2], [], 2147483647), (90, [3], [], -2147483648), (91, [3], [], 2147483647), (90, [4], [], -2147483648), (91, [4], [], 2147483647), (90, [5], [], -2147483648), (91, [5], [], 2147483647)], (3000, [10], [0], 14)) := vOk_in fun ρ η h => by
  obtain ⟨f0, f1, f2, f3, f4, f5, f6, f7, f8, f9, f10, f11, f12, f13, f14, f15, f16, f17, f18, f19, _⟩ := h
  exact q_155v_6 (n0 := ρ 5) (n1 := ρ 4) (n2 := ρ 3) (n3 := ρ 2) (n4 := ρ 1) (n5 := ρ 0) (n6 := ρ 6) (n7 := ρ 7) (n8 := ρ 8) (n9 := ρ 9) (n10 := ρ 10) (H0 := η 0) f19 f18 f17 f16 f15 f14 f13 f12 f11 f10 f9 f8 f7 f6 f5 f4 f3 f2 f1 f0
def p_155v_s : List vG := [([(45, [8, 9], [], 0), (0, [9], [], 2000), (1, [8, 6, 7], [], 0), (0, [7], [], 20), (20, [6, 0], [0], 1), (90, [6], [], -2147483648), (91, [6], [], 2147483647), (6000, [0, 1, 2, 3, 4, 5], [0], 0), (0, [0], [], 7), (90, [1], [], -2147483648), (91, [1], [], 2147483647), (90, [2], [], -2147483648), (91, [2], [], 2147483647), (90, [3], [], -2147483648), (91, [3], [], 2147483647), (90, [4], [], -2147483648), (91, [4], [], 2147483647), (90, [5], [], -2147483648), (91, [5], [], 2147483647)], (2192, [0, 1], [0], 0)),
  ([(1192, [0, 1], [0, 1], 0), (45, [8, 9], [], 0), (0, [9], [], 2000), (1, [8, 6, 7], [], 0), (0, [7], [], 20), (20, [6, 0], [0], 1), (90, [6], [], -2147483648), (91, [6], [], 2147483647), (6000, [0, 1, 2, 3, 4, 5], [0], 0), (0, [0], [], 7), (90, [1], [], -2147483648), (91, [1], [], 2147483647), (90, [2], [], -2147483648), (91, [2], [], 2147483647), (90, [3], [], -2147483648), (91, [3], [], 2147483647), (90, [4], [], -2147483648), (91, [4], [], 2147483647), (90, [5], [], -2147483648), (91, [5], [], 2147483647)], (2192, [0, 2], [1], 0)),
  ([(1192, [0, 2], [1, 2], 0), (1192, [0, 1], [0, 1], 0), (45, [8, 9], [], 0), (0, [9], [], 2000), (1, [8, 6, 7], [], 0), (0, [7], [], 20), (20, [6, 0], [0], 1), (90, [6], [], -2147483648), (91, [6], [], 2147483647), (6000, [0, 1, 2, 3, 4, 5], [0], 0), (0, [0], [], 7), (90, [1], [], -2147483648), (91, [1], [], 2147483647), (90, [2], [], -2147483648), (91, [2], [], 2147483647), (90, [3], [], -2147483648), (91, [3], [], 2147483647), (90, [4], [], -2147483648), (91, [4], [], 2147483647), (90, [5], [], -2147483648), (91, [5], [], 2147483647)], (2192, [0, 3], [2], 0)),
  ([(1192, [0, 3], [2, 3], 0), (1192, [0, 2], [1, 2], 0), (1192, [0, 1], [0, 1], 0), (45, [8, 9], [], 0), (0, [9], [], 2000), (1, [8, 6, 7], [], 0), (0, [7], [], 20), (20, [6, 0], [0], 1), (90, [6], [], -2147483648), (91, [6], [], 2147483647), (6000, [0, 1, 2, 3, 4, 5], [0], 0), (0, [0], [], 7), (90, [1], [], -2147483648), (91, [1], [], 2147483647), (90, [2], [], -2147483648), (91, [2], [], 2147483647), (90, [3], [], -2147483648), (91, [3], [], 2147483647), (90, [4], [], -2147483648), (91, [4], [], 2147483647), (90, [5], [], -2147483648), (91, [5], [], 2147483647)], (2192, [0, 4], [3], 0)),
  ([(1192, [0, 4], [3, 4], 0), (1192, [0, 3], [2, 3], 0), (1192, [0, 2], [1, 2], 0), (1192, [0, 1], [0, 1], 0), (45, [8, 9], [], 0), (0, [9], [], 2000), (1, [8, 6, 7], [], 0), (0, [7], [], 20), (20, [6, 0], [0], 1), (90, [6], [], -2147483648), (91, [6], [], 2147483647), (6000, [0, 1, 2, 3, 4, 5], [0], 0), (0, [0], [], 7), (90, [1], [], -2147483648), (91, [1], [], 2147483647), (90, [2], [], -2147483648), (91, [2], [], 2147483647), (90, [3], [], -2147483648), (91, [3], [], 2147483647), (90, [4], [], -2147483648), (91, [4], [], 2147483647), (90, [5], [], -2147483648), (91, [5], [], 2147483647)], (2192, [0, 5], [4], 0)),
  ([(20, [10, 0], [5], 1), (90, [10], [], -2147483648), (91, [10], [], 2147483647), (1192, [0, 5], [4, 5], 0), (1192, [0, 4], [3, 4], 0), (1192, [0, 3], [2, 3], 0), (1192, [0, 2], [1, 2], 0), (1192, [0, 1], [0, 1], 0), (45, [8, 9], [], 0), (0, [9], [], 2000), (1, [8, 6, 7], [], 0), (0, [7], [], 20), (20, [6, 0], [0], 1), (90, [6], [], -2147483648), (91, [6], [], 2147483647), (6000, [0, 1, 2, 3, 4, 5], [0], 0), (0, [0], [], 7), (90, [1], [], -2147483648), (91, [1], [], 2147483647), (90, [2], [], -2147483648), (91, [2], [], 2147483647), (90, [3], [], -2147483648), (91, [3], [], 2147483647), (90, [4], [], -2147483648), (91, [4], [], 2147483647), (90, [5], [], -2147483648), (91, [5], [], 2147483647)], (3000, [10], [5], 46)),
  ([(0, [10], [], -1), (44, [8, 9], [], 0), (0, [9], [], 2000), (1, [8, 6, 7], [], 0), (0, [7], [], 20), (20, [6, 0], [0], 1), (90, [6], [], -2147483648), (91, [6], [], 2147483647), (6000, [0, 1, 2, 3, 4, 5], [0], 0), (0, [0], [], 7), (90, [1], [], -2147483648), (91, [1], [], 2147483647), (90, [2], [], -2147483648), (91, [2], [], 2147483647), (90, [3], [], -2147483648), (91, [3], [], 2147483647), (90, [4], [], -2147483648), (91, [4], [], 2147483647), (90, [5], [], -2147483648), (91, [5], [], 2147483647)], (3000, [10], [0], 14))]
theorem r_155v_s : vCovO false (eR0 e_155v L_155v cs_155v 2000) p_155v_s = true := by decide +kernel
theorem m_155v (d : Nat) : eC e_155v (d + 3) := eC_ok (e := e_155v) (L := L_155v) (cs := cs_155v) (n := 2000) (d := d + 2) (A := A_155v) (μ := mu_155v) (tp := false) (p0 := p_155v_s) rfl ⟨m_192v d, trivial⟩ rfl (.inl rfl) (by decide +kernel) (fun z => nomatch z) r_155v_s (allC c_155v_s_0 (allC c_155v_s_1 (allC c_155v_s_2 (allC c_155v_s_3 (allC c_155v_s_4 (allC c_155v_s_5 (allC c_155v_s_6 allN))))))) allN
/- MixStage.back (I)I -/
noncomputable def s_156v : vM := ([(3, 11, 7, 0), (0, -2147483648, 2147483647, 0)], (0, -2147483648, 2147483647, 0), 1, 0, [(11, 1)])
def preb_156v (a0 a1 : Int) (h : gH) : Prop := KM h ∧ ICm h ∧ MT (mC h)
def pre_156v : List Int → gH → Prop := fun xs h => match xs with
  | [a0, a1] => preb_156v a0 a1 h
  | _ => False
def postb_156v (r a0 a1 : Int) (h0 h : gH) : Prop := KM h ∧ ICm h ∧ (mC h, r) = mBack a1 (mC h0)
def post_156v : List Int → gH → gH → Prop := fun xs h0 h => match xs with
  | [r, a0, a1] => postb_156v r a0 a1 h0 h
  | _ => True
noncomputable def e_156v : vE := (156, s_156v, pre_156v, post_156v)
noncomputable def L_156v : List vE := []
def cs_156v : List vC := []
def A_156v : Int → List Int → gH → gH → Prop := fun c xs h0 h => True
def mu_156v : Int → List Int → gH → gH → Nat := fun c xs h0 h => 0
theorem q_156v_0 {n0 n1 n2 : Int} {H0 : gH} (f0 : n0 ≤ 2147483647) (f1 : (-2147483648) ≤ n0) (f2 : n1 = 7) (f3 : hWt T0 H0 ∧ preb_156v n1 n0 H0) (f4 : n0 < 0) (f5 : n2 = (-1)) : postb_156v n2 n1 n0 H0 H0 := by
  have pz := f3.2
  unfold preb_156v at pz
  obtain ⟨km, ic, mt⟩ := pz
  obtain ⟨mf, ms, me, m20, m21, m22, mz⟩ := MTc mt
  unfold postb_156v
  refine ⟨km, ic, ?_⟩
  rw [show n2 = -1 by omega]
  exact (if_pos (by show n0 < 0 ∨ hV H0 7 1 < n0; omega)).symm
theorem c_156v_s_0 : vOkm T0 (eP e_156v L_156v A_156v mu_156v none) 2 ([(0, [2], [], -1), (32, [1], [], 0), (6000, [0, 1], [0], 0), (0, [0], [], 7), (90, [1], [], -2147483648), (91, [1], [], 2147483647)], (3000, [2], [0], 13)) := vOk_in fun ρ η h => by
  obtain ⟨f0, f1, f2, f3, f4, f5, _⟩ := h
  exact q_156v_0 (n0 := ρ 1) (n1 := ρ 0) (n2 := ρ 2) (H0 := η 0) f5 f4 f3 f2 f1 f0
theorem q_156v_1 {n0 n1 n2 n3 n4 n5 n6 : Int} {H0 H1 : gH} (f0 : n0 ≤ 2147483647) (f1 : (-2147483648) ≤ n0) (f2 : n1 = 7) (f3 : hWt T0 H0 ∧ preb_156v n1 n0 H0) (f4 : 0 ≤ n0) (f5 : n2 ≤ 2147483647) (f6 : (-2147483648) ≤ n2) (f7 : n2 = hV H0 (n1).toNat 1) (f8 : n0 ≤ n2) (f9 : n3 ≤ 2147483647) (f10 : (-2147483648) ≤ n3) (f11 : n3 = hV H0 (n1).toNat 1) (f12 : n4 = w32 (n3 - n0)) (f13 : n5 = 1) (f14 : hUpd H1 H0 n1 n5 n4) (f15 : n6 ≤ 2147483647) (f16 : (-2147483648) ≤ n6) (f17 : n6 = hV H1 (n1).toNat 1) : postb_156v n6 n1 n0 H0 H1 := by
  have pz := f3.2
  unfold preb_156v at pz
  obtain ⟨km, ic, mt⟩ := pz
  obtain ⟨mf, ms, me, m20, m21, m22, mz⟩ := MTc mt
  have r7 := f7
  rw [f2] at r7
  rw [show ((7 : Int)).toNat = 7 from rfl] at r7
  have r11 := f11
  rw [f2] at r11
  rw [show ((7 : Int)).toNat = 7 from rfl] at r11
  have r17 := f17
  rw [f2] at r17
  rw [show ((7 : Int)).toNat = 7 from rfl] at r17
  have e_12 : n4 = n3 - n0 := by
    have w := f12
    rw [w]
    exact w32_id (by omega) (by omega)
  unfold postb_156v
  have e71 : hV H1 7 1 = n4 := uSame f14 7 1 (by rw [f2]; rfl) (by rw [f13]; rfl)
  have r19 := uRowNe f14 19 (by rw [f2]; decide)
  refine ⟨KM_up f14 km, ICm_of ⟨congrFun r19 3, congrFun r19 4⟩ ic, ?_⟩
  rw [mC_taped (n := hV H0 7 1 - n0) f14 f2 f13 (by omega), show mBack n0 (mC H0) = _ from if_neg (by show ¬ (n0 < 0 ∨ hV H0 7 1 < n0); omega)]
  exact Prod.ext rfl (by show n6 = hV H0 7 1 - n0; omega)
theorem c_156v_s_1 : vOkm T0 (eP e_156v L_156v A_156v mu_156v none) 2 ([(20, [6, 0], [1], 1), (90, [6], [], -2147483648), (91, [6], [], 2147483647), (80, [0, 5, 4], [1, 0], 0), (0, [5], [], 1), (2, [4, 3, 1], [], 0), (20, [3, 0], [0], 1), (90, [3], [], -2147483648), (91, [3], [], 2147483647), (45, [1, 2], [], 0), (20, [2, 0], [0], 1), (90, [2], [], -2147483648), (91, [2], [], 2147483647), (33, [1], [], 0), (6000, [0, 1], [0], 0), (0, [0], [], 7), (90, [1], [], -2147483648), (91, [1], [], 2147483647)], (3000, [6], [1], 28)) := vOk_in fun ρ η h => by
  obtain ⟨f0, f1, f2, f3, f4, f5, f6, f7, f8, f9, f10, f11, f12, f13, f14, f15, f16, f17, _⟩ := h
  exact q_156v_1 (n0 := ρ 1) (n1 := ρ 0) (n2 := ρ 2) (n3 := ρ 3) (n4 := ρ 4) (n5 := ρ 5) (n6 := ρ 6) (H0 := η 0) (H1 := η 1) f17 f16 f15 f14 f13 f12 f11 f10 f9 f8 f7 f6 f5 f4 f3 f2 f1 f0
theorem q_156v_2 {n0 n1 n2 n3 : Int} {H0 : gH} (f0 : n0 ≤ 2147483647) (f1 : (-2147483648) ≤ n0) (f2 : n1 = 7) (f3 : hWt T0 H0 ∧ preb_156v n1 n0 H0) (f4 : 0 ≤ n0) (f5 : n2 ≤ 2147483647) (f6 : (-2147483648) ≤ n2) (f7 : n2 = hV H0 (n1).toNat 1) (f8 : n2 < n0) (f9 : n3 = (-1)) : postb_156v n3 n1 n0 H0 H0 := by
  have pz := f3.2
  unfold preb_156v at pz
  obtain ⟨km, ic, mt⟩ := pz
  obtain ⟨mf, ms, me, m20, m21, m22, mz⟩ := MTc mt
  have r7 := f7
  rw [f2] at r7
  rw [show ((7 : Int)).toNat = 7 from rfl] at r7
  unfold postb_156v
  refine ⟨km, ic, ?_⟩
  rw [show n3 = -1 by omega]
  exact (if_pos (by show n0 < 0 ∨ hV H0 7 1 < n0; omega)).symm
theorem c_156v_s_2 : vOkm T0 (eP e_156v L_156v A_156v mu_156v none) 2 ([(0, [3], [], -1), (44, [1, 2], [], 0), (20, [2, 0], [0], 1), (90, [2], [], -2147483648), (91, [2], [], 2147483647), (33, [1], [], 0), (6000, [0, 1], [0], 0), (0, [0], [], 7), (90, [1], [], -2147483648), (91, [1], [], 2147483647)], (3000, [3], [0], 13)) := vOk_in fun ρ η h => by
  obtain ⟨f0, f1, f2, f3, f4, f5, f6, f7, f8, f9, _⟩ := h
  exact q_156v_2 (n0 := ρ 1) (n1 := ρ 0) (n2 := ρ 2) (n3 := ρ 3) (H0 := η 0) f9 f8 f7 f6 f5 f4 f3 f2 f1 f0
def p_156v_s : List vG := [([(0, [2], [], -1), (32, [1], [], 0), (6000, [0, 1], [0], 0), (0, [0], [], 7), (90, [1], [], -2147483648), (91, [1], [], 2147483647)], (3000, [2], [0], 13)),
  ([(20, [6, 0], [1], 1), (90, [6], [], -2147483648), (91, [6], [], 2147483647), (80, [0, 5, 4], [1, 0], 0), (0, [5], [], 1), (2, [4, 3, 1], [], 0), (20, [3, 0], [0], 1), (90, [3], [], -2147483648), (91, [3], [], 2147483647), (45, [1, 2], [], 0), (20, [2, 0], [0], 1), (90, [2], [], -2147483648), (91, [2], [], 2147483647), (33, [1], [], 0), (6000, [0, 1], [0], 0), (0, [0], [], 7), (90, [1], [], -2147483648), (91, [1], [], 2147483647)], (3000, [6], [1], 28)),
  ([(0, [3], [], -1), (44, [1, 2], [], 0), (20, [2, 0], [0], 1), (90, [2], [], -2147483648), (91, [2], [], 2147483647), (33, [1], [], 0), (6000, [0, 1], [0], 0), (0, [0], [], 7), (90, [1], [], -2147483648), (91, [1], [], 2147483647)], (3000, [3], [0], 13))]
theorem r_156v_s : vCovO false (eR0 e_156v L_156v cs_156v 2000) p_156v_s = true := by decide +kernel
theorem m_156v (d : Nat) : eC e_156v (d + 1) := eC_ok (e := e_156v) (L := L_156v) (cs := cs_156v) (n := 2000) (d := d + 0) (A := A_156v) (μ := mu_156v) (tp := false) (p0 := p_156v_s) rfl trivial rfl (.inl rfl) (by decide +kernel) (fun z => nomatch z) r_156v_s (allC c_156v_s_0 (allC c_156v_s_1 (allC c_156v_s_2 allN))) allN
/- MixStage.place ()I -/
noncomputable def s_158v : vM := ([(3, 11, 7, 0)], (0, -2147483648, 2147483647, 0), 1, 0, [])
def preb_158v (a0 : Int) (h : gH) : Prop := True
def pre_158v : List Int → gH → Prop := fun xs h => match xs with
  | [a0] => preb_158v a0 h
  | _ => False
def postb_158v (r a0 : Int) (h0 h : gH) : Prop := r = (mC h0).2.2.1
def post_158v : List Int → gH → gH → Prop := fun xs h0 h => match xs with
  | [r, a0] => postb_158v r a0 h0 h
  | _ => True
noncomputable def e_158v : vE := (158, s_158v, pre_158v, post_158v)
noncomputable def L_158v : List vE := []
def cs_158v : List vC := []
def A_158v : Int → List Int → gH → gH → Prop := fun c xs h0 h => True
def mu_158v : Int → List Int → gH → gH → Nat := fun c xs h0 h => 0
theorem q_158v_0 {n0 n1 : Int} {H0 : gH} (f0 : n0 = 7) (f1 : hWt T0 H0 ∧ preb_158v n0 H0) (f2 : n1 ≤ 2147483647) (f3 : (-2147483648) ≤ n1) (f4 : n1 = hV H0 (n0).toNat 2) : postb_158v n1 n0 H0 H0 := by
  have r4 := f4
  rw [f0] at r4
  rw [show ((7 : Int)).toNat = 7 from rfl] at r4
  unfold postb_158v
  show _ = hV H0 7 2
  omega
theorem c_158v_s_0 : vOkm T0 (eP e_158v L_158v A_158v mu_158v none) 1 ([(20, [1, 0], [0], 2), (90, [1], [], -2147483648), (91, [1], [], 2147483647), (6000, [0], [0], 0), (0, [0], [], 7)], (3000, [1], [0], 4)) := vOk_in fun ρ η h => by
  obtain ⟨f0, f1, f2, f3, f4, _⟩ := h
  exact q_158v_0 (n0 := ρ 0) (n1 := ρ 1) (H0 := η 0) f4 f3 f2 f1 f0
def p_158v_s : List vG := [([(20, [1, 0], [0], 2), (90, [1], [], -2147483648), (91, [1], [], 2147483647), (6000, [0], [0], 0), (0, [0], [], 7)], (3000, [1], [0], 4))]
theorem r_158v_s : vCovO false (eR0 e_158v L_158v cs_158v 2000) p_158v_s = true := by decide +kernel
theorem m_158v (d : Nat) : eC e_158v (d + 1) := eC_ok (e := e_158v) (L := L_158v) (cs := cs_158v) (n := 2000) (d := d + 0) (A := A_158v) (μ := mu_158v) (tp := false) (p0 := p_158v_s) rfl trivial rfl (.inl rfl) (by decide +kernel) (fun z => nomatch z) r_158v_s (allC c_158v_s_0 allN) allN
/- MixStage.reel (I)Z -/
noncomputable def s_159v : vM := ([(3, 11, 7, 0), (0, -2147483648, 2147483647, 0)], (0, 0, 1, 0), 1, 0, [(700, 0)])
def preb_159v (a0 a1 : Int) (h : gH) : Prop := KM h ∧ ICm h ∧ MT (mC h)
def pre_159v : List Int → gH → Prop := fun xs h => match xs with
  | [a0, a1] => preb_159v a0 a1 h
  | _ => False
def postb_159v (r a0 a1 : Int) (h0 h : gH) : Prop := KM h ∧ ICm h ∧ (mC h, r) = mReel a1 (mC h0)
def post_159v : List Int → gH → gH → Prop := fun xs h0 h => match xs with
  | [r, a0, a1] => postb_159v r a0 a1 h0 h
  | _ => True
noncomputable def e_159v : vE := (159, s_159v, pre_159v, post_159v)
noncomputable def L_159v : List vE := [e_54v]
def cs_159v : List vC := []
def A_159v : Int → List Int → gH → gH → Prop := fun c xs h0 h => True
def mu_159v : Int → List Int → gH → gH → Nat := fun c xs h0 h => 0
theorem q_159v_0 {n0 n1 n2 n3 : Int} {H0 : gH} (f0 : n0 ≤ 2147483647) (f1 : (-2147483648) ≤ n0) (f2 : n1 = 7) (f3 : hWt T0 H0 ∧ preb_159v n1 n0 H0) (f4 : n2 ≤ 8) (f5 : 0 ≤ n2) (f6 : n2 = hV H0 (n1).toNat 4) (f7 : n2 ≠ 0) (f8 : n3 = 0) : postb_159v n3 n1 n0 H0 H0 := by
  have pz := f3.2
  unfold preb_159v at pz
  obtain ⟨km, ic, mt⟩ := pz
  obtain ⟨mf, ms, me, m20, m21, m22, mz⟩ := MTc mt
  have r6 := f6
  rw [f2] at r6
  rw [show ((7 : Int)).toNat = 7 from rfl] at r6
  unfold postb_159v
  refine ⟨km, ic, ?_⟩
  rw [show mReel n0 (mC H0) = _ from if_neg (by show ¬ (hV H0 7 4 = 0 ∧ hV H0 19 3 ≤ 1 ∧ 1 ≤ n0 ∧ n0 ≤ 60); omega), show n3 = 0 by omega]
theorem c_159v_s_0 : vOkm T0 (eP e_159v L_159v A_159v mu_159v none) 2 ([(0, [3], [], 0), (31, [2], [], 0), (20, [2, 0], [0], 4), (90, [2], [], 0), (91, [2], [], 8), (6000, [0, 1], [0], 0), (0, [0], [], 7), (90, [1], [], -2147483648), (91, [1], [], 2147483647)], (3000, [3], [0], 23)) := vOk_in fun ρ η h => by
  obtain ⟨f0, f1, f2, f3, f4, f5, f6, f7, f8, _⟩ := h
  exact q_159v_0 (n0 := ρ 1) (n1 := ρ 0) (n2 := ρ 2) (n3 := ρ 3) (H0 := η 0) f8 f7 f6 f5 f4 f3 f2 f1 f0
theorem q_159v_1 {n0 n1 n2 n3 : Int} {H0 : gH} (f0 : n0 ≤ 2147483647) (f1 : (-2147483648) ≤ n0) (f2 : n1 = 7) (f3 : hWt T0 H0 ∧ preb_159v n1 n0 H0) (f4 : n2 ≤ 8) (f5 : 0 ≤ n2) (f6 : n2 = hV H0 (n1).toNat 4) (f7 : n2 = 0) (f8 : n3 = 19) (f9 : n3 = hV H0 (n1).toNat 6) : preb_54v n3 n0 H0 := by
  have pz := f3.2
  unfold preb_159v at pz
  obtain ⟨km, ic, mt⟩ := pz
  obtain ⟨mf, ms, me, m20, m21, m22, mz⟩ := MTc mt
  have r6 := f6
  rw [f2] at r6
  rw [show ((7 : Int)).toNat = 7 from rfl] at r6
  have r9 := f9
  rw [f2] at r9
  rw [show ((7 : Int)).toNat = 7 from rfl] at r9
  unfold preb_54v
  exact km
theorem c_159v_s_1 : vOkm T0 (eP e_159v L_159v A_159v mu_159v none) 2 ([(20, [3, 0], [0], 6), (0, [3], [], 19), (30, [2], [], 0), (20, [2, 0], [0], 4), (90, [2], [], 0), (91, [2], [], 8), (6000, [0, 1], [0], 0), (0, [0], [], 7), (90, [1], [], -2147483648), (91, [1], [], 2147483647)], (2054, [3, 1], [0], 0)) := vOk_in fun ρ η h => by
  obtain ⟨f0, f1, f2, f3, f4, f5, f6, f7, f8, f9, _⟩ := h
  exact q_159v_1 (n0 := ρ 1) (n1 := ρ 0) (n2 := ρ 2) (n3 := ρ 3) (H0 := η 0) f9 f8 f7 f6 f5 f4 f3 f2 f1 f0
theorem q_159v_2 {n0 n1 n2 n3 n4 n5 : Int} {H0 H1 : gH} (f0 : n0 ≤ 2147483647) (f1 : (-2147483648) ≤ n0) (f2 : n1 = 7) (f3 : hWt T0 H0 ∧ preb_159v n1 n0 H0) (f4 : n2 ≤ 8) (f5 : 0 ≤ n2) (f6 : n2 = hV H0 (n1).toNat 4) (f7 : n2 = 0) (f8 : n3 = 19) (f9 : n3 = hV H0 (n1).toNat 6) (f10 : n4 ≤ 1) (f11 : 0 ≤ n4) (f12 : (hLe T0 H0 H1 ∧ hFr s_54v.2.2.2.2 H0 H1 ∧ ((0 : Int) = 0 → H1.length = H0.length) ∧ hWt T0 H1) ∧ postb_54v n4 n3 n0 H0 H1) (f13 : n4 = 0) (f14 : n5 = 0) : postb_159v n5 n1 n0 H0 H1 := by
  have pz := f3.2
  unfold preb_159v at pz
  obtain ⟨km, ic, mt⟩ := pz
  obtain ⟨mf, ms, me, m20, m21, m22, mz⟩ := MTc mt
  have r6 := f6
  rw [f2] at r6
  rw [show ((7 : Int)).toNat = 7 from rfl] at r6
  have r9 := f9
  rw [f2] at r9
  rw [show ((7 : Int)).toNat = 7 from rfl] at r9
  unfold postb_159v
  have q := f12.2
  unfold postb_54v at q
  obtain ⟨q1, q2, q3, q4, q5⟩ := q
  have ed : EDs H0 H1 := ED_fr f12.1.2.1 (by decide +kernel)
  have mo : MOs H0 H1 := MO_fr f12.1.2.1 (by decide +kernel)
  refine ⟨q1, ICm_of ed ic, ?_⟩
  by_cases c : hV H0 19 3 ≤ 1 ∧ 1 ≤ n0 ∧ n0 ≤ 60
  · have w := q2 c
    first
    | (exfalso; omega)
    | (rw [mC_size mo ed w.2 q4 q5, show mReel n0 (mC H0) = _ from if_pos (by show hV H0 7 4 = 0 ∧ hV H0 19 3 ≤ 1 ∧ 1 ≤ n0 ∧ n0 ≤ 60; omega), show n5 = 1 by omega]
       rfl)
  · have w := q3 c
    first
    | (exfalso; omega)
    | (rw [mC_size mo ed w.2 q4 q5, show mReel n0 (mC H0) = _ from if_neg (by show ¬ (hV H0 7 4 = 0 ∧ hV H0 19 3 ≤ 1 ∧ 1 ≤ n0 ∧ n0 ≤ 60); omega), show n5 = 0 by omega]
       rfl)
theorem c_159v_s_2 : vOkm T0 (eP e_159v L_159v A_159v mu_159v none) 2 ([(0, [5], [], 0), (30, [4], [], 0), (1054, [4, 3, 1], [0, 1], 0), (90, [4], [], 0), (91, [4], [], 1), (20, [3, 0], [0], 6), (0, [3], [], 19), (30, [2], [], 0), (20, [2, 0], [0], 4), (90, [2], [], 0), (91, [2], [], 8), (6000, [0, 1], [0], 0), (0, [0], [], 7), (90, [1], [], -2147483648), (91, [1], [], 2147483647)], (3000, [5], [1], 23)) := vOk_in fun ρ η h => by
  obtain ⟨f0, f1, f2, f3, f4, f5, f6, f7, f8, f9, f10, f11, f12, f13, f14, _⟩ := h
  exact q_159v_2 (n0 := ρ 1) (n1 := ρ 0) (n2 := ρ 2) (n3 := ρ 3) (n4 := ρ 4) (n5 := ρ 5) (H0 := η 0) (H1 := η 1) f14 f13 f12 f11 f10 f9 f8 f7 f6 f5 f4 f3 f2 f1 f0
theorem q_159v_3 {n0 n1 n2 n3 n4 n5 : Int} {H0 H1 : gH} (f0 : n0 ≤ 2147483647) (f1 : (-2147483648) ≤ n0) (f2 : n1 = 7) (f3 : hWt T0 H0 ∧ preb_159v n1 n0 H0) (f4 : n2 ≤ 8) (f5 : 0 ≤ n2) (f6 : n2 = hV H0 (n1).toNat 4) (f7 : n2 = 0) (f8 : n3 = 19) (f9 : n3 = hV H0 (n1).toNat 6) (f10 : n4 ≤ 1) (f11 : 0 ≤ n4) (f12 : (hLe T0 H0 H1 ∧ hFr s_54v.2.2.2.2 H0 H1 ∧ ((0 : Int) = 0 → H1.length = H0.length) ∧ hWt T0 H1) ∧ postb_54v n4 n3 n0 H0 H1) (f13 : n4 ≠ 0) (f14 : n5 = 1) : postb_159v n5 n1 n0 H0 H1 := by
  have pz := f3.2
  unfold preb_159v at pz
  obtain ⟨km, ic, mt⟩ := pz
  obtain ⟨mf, ms, me, m20, m21, m22, mz⟩ := MTc mt
  have r6 := f6
  rw [f2] at r6
  rw [show ((7 : Int)).toNat = 7 from rfl] at r6
  have r9 := f9
  rw [f2] at r9
  rw [show ((7 : Int)).toNat = 7 from rfl] at r9
  unfold postb_159v
  have q := f12.2
  unfold postb_54v at q
  obtain ⟨q1, q2, q3, q4, q5⟩ := q
  have ed : EDs H0 H1 := ED_fr f12.1.2.1 (by decide +kernel)
  have mo : MOs H0 H1 := MO_fr f12.1.2.1 (by decide +kernel)
  refine ⟨q1, ICm_of ed ic, ?_⟩
  by_cases c : hV H0 19 3 ≤ 1 ∧ 1 ≤ n0 ∧ n0 ≤ 60
  · have w := q2 c
    first
    | (exfalso; omega)
    | (rw [mC_size mo ed w.2 q4 q5, show mReel n0 (mC H0) = _ from if_pos (by show hV H0 7 4 = 0 ∧ hV H0 19 3 ≤ 1 ∧ 1 ≤ n0 ∧ n0 ≤ 60; omega), show n5 = 1 by omega]
       rfl)
  · have w := q3 c
    first
    | (exfalso; omega)
    | (rw [mC_size mo ed w.2 q4 q5, show mReel n0 (mC H0) = _ from if_neg (by show ¬ (hV H0 7 4 = 0 ∧ hV H0 19 3 ≤ 1 ∧ 1 ≤ n0 ∧ n0 ≤ 60); omega), show n5 = 0 by omega]
       rfl)
theorem c_159v_s_3 : vOkm T0 (eP e_159v L_159v A_159v mu_159v none) 2 ([(0, [5], [], 1), (31, [4], [], 0), (1054, [4, 3, 1], [0, 1], 0), (90, [4], [], 0), (91, [4], [], 1), (20, [3, 0], [0], 6), (0, [3], [], 19), (30, [2], [], 0), (20, [2, 0], [0], 4), (90, [2], [], 0), (91, [2], [], 8), (6000, [0, 1], [0], 0), (0, [0], [], 7), (90, [1], [], -2147483648), (91, [1], [], 2147483647)], (3000, [5], [1], 23)) := vOk_in fun ρ η h => by
  obtain ⟨f0, f1, f2, f3, f4, f5, f6, f7, f8, f9, f10, f11, f12, f13, f14, _⟩ := h
  exact q_159v_3 (n0 := ρ 1) (n1 := ρ 0) (n2 := ρ 2) (n3 := ρ 3) (n4 := ρ 4) (n5 := ρ 5) (H0 := η 0) (H1 := η 1) f14 f13 f12 f11 f10 f9 f8 f7 f6 f5 f4 f3 f2 f1 f0
def p_159v_s : List vG := [([(0, [3], [], 0), (31, [2], [], 0), (20, [2, 0], [0], 4), (90, [2], [], 0), (91, [2], [], 8), (6000, [0, 1], [0], 0), (0, [0], [], 7), (90, [1], [], -2147483648), (91, [1], [], 2147483647)], (3000, [3], [0], 23)),
  ([(20, [3, 0], [0], 6), (0, [3], [], 19), (30, [2], [], 0), (20, [2, 0], [0], 4), (90, [2], [], 0), (91, [2], [], 8), (6000, [0, 1], [0], 0), (0, [0], [], 7), (90, [1], [], -2147483648), (91, [1], [], 2147483647)], (2054, [3, 1], [0], 0)),
  ([(0, [5], [], 0), (30, [4], [], 0), (1054, [4, 3, 1], [0, 1], 0), (90, [4], [], 0), (91, [4], [], 1), (20, [3, 0], [0], 6), (0, [3], [], 19), (30, [2], [], 0), (20, [2, 0], [0], 4), (90, [2], [], 0), (91, [2], [], 8), (6000, [0, 1], [0], 0), (0, [0], [], 7), (90, [1], [], -2147483648), (91, [1], [], 2147483647)], (3000, [5], [1], 23)),
  ([(0, [5], [], 1), (31, [4], [], 0), (1054, [4, 3, 1], [0, 1], 0), (90, [4], [], 0), (91, [4], [], 1), (20, [3, 0], [0], 6), (0, [3], [], 19), (30, [2], [], 0), (20, [2, 0], [0], 4), (90, [2], [], 0), (91, [2], [], 8), (6000, [0, 1], [0], 0), (0, [0], [], 7), (90, [1], [], -2147483648), (91, [1], [], 2147483647)], (3000, [5], [1], 23))]
theorem r_159v_s : vCovO false (eR0 e_159v L_159v cs_159v 2000) p_159v_s = true := by decide +kernel
theorem m_159v (d : Nat) : eC e_159v (d + 3) := eC_ok (e := e_159v) (L := L_159v) (cs := cs_159v) (n := 2000) (d := d + 2) (A := A_159v) (μ := mu_159v) (tp := false) (p0 := p_159v_s) rfl ⟨m_54v d, trivial⟩ rfl (.inl rfl) (by decide +kernel) (fun z => nomatch z) r_159v_s (allC c_159v_s_0 (allC c_159v_s_1 (allC c_159v_s_2 (allC c_159v_s_3 allN)))) allN
/- MixStage.edition ()I -/
noncomputable def s_160v : vM := ([(3, 11, 7, 0)], (0, -2147483648, 2147483647, 0), 1, 0, [(3, 3)])
def preb_160v (a0 : Int) (h : gH) : Prop := KM h ∧ ICm h ∧ MT (mC h)
def pre_160v : List Int → gH → Prop := fun xs h => match xs with
  | [a0] => preb_160v a0 h
  | _ => False
def postb_160v (r a0 : Int) (h0 h : gH) : Prop := KM h ∧ ICm h ∧ (mC h, r) = mBegin (mC h0)
def post_160v : List Int → gH → gH → Prop := fun xs h0 h => match xs with
  | [r, a0] => postb_160v r a0 h0 h
  | _ => True
noncomputable def e_160v : vE := (160, s_160v, pre_160v, post_160v)
noncomputable def L_160v : List vE := [e_55v]
def cs_160v : List vC := []
def A_160v : Int → List Int → gH → gH → Prop := fun c xs h0 h => True
def mu_160v : Int → List Int → gH → gH → Nat := fun c xs h0 h => 0
theorem q_160v_0 {n0 n1 : Int} {H0 : gH} (f0 : n0 = 7) (f1 : hWt T0 H0 ∧ preb_160v n0 H0) (f2 : n1 = 19) (f3 : n1 = hV H0 (n0).toNat 6) : preb_55v n1 H0 := by
  have pz := f1.2
  unfold preb_160v at pz
  obtain ⟨km, ic, mt⟩ := pz
  obtain ⟨mf, ms, me, m20, m21, m22, mz⟩ := MTc mt
  unfold preb_55v
  exact ⟨km, mt⟩
theorem c_160v_s_0 : vOkm T0 (eP e_160v L_160v A_160v mu_160v none) 1 ([(20, [1, 0], [0], 6), (0, [1], [], 19), (6000, [0], [0], 0), (0, [0], [], 7)], (2055, [1], [0], 0)) := vOk_in fun ρ η h => by
  obtain ⟨f0, f1, f2, f3, _⟩ := h
  exact q_160v_0 (n0 := ρ 0) (n1 := ρ 1) (H0 := η 0) f3 f2 f1 f0
theorem q_160v_1 {n0 n1 n2 : Int} {H0 H1 : gH} (f0 : n0 = 7) (f1 : hWt T0 H0 ∧ preb_160v n0 H0) (f2 : n1 = 19) (f3 : n1 = hV H0 (n0).toNat 6) (f4 : n2 ≤ 2147483647) (f5 : (-2147483648) ≤ n2) (f6 : (hLe T0 H0 H1 ∧ hFr s_55v.2.2.2.2 H0 H1 ∧ ((0 : Int) = 0 → H1.length = H0.length) ∧ hWt T0 H1) ∧ postb_55v n2 n1 H0 H1) : postb_160v n2 n0 H0 H1 := by
  have pz := f1.2
  unfold preb_160v at pz
  obtain ⟨km, ic, mt⟩ := pz
  obtain ⟨mf, ms, me, m20, m21, m22, mz⟩ := MTc mt
  have q := f6.2
  unfold postb_55v at q
  obtain ⟨q1, q2⟩ := q
  have er : ERs H0 H1 := ER_fr f6.1.2.1 (by decide +kernel)
  have mo : MOs H0 H1 := MO_fr f6.1.2.1 (by decide +kernel)
  have e4 : hV H1 19 4 = hV H0 19 4 := f6.1.2.1.1 19 4 (by decide +kernel)
  have ic2 := ic
  unfold ICm at ic2
  unfold postb_160v
  by_cases c : 6 ≤ hV H0 19 3 ∨ hV H0 20 (hV H0 19 3 - 1).toNat = 0
  · have w := q1 c
    refine ⟨KM_le f6.1.1 km, by unfold ICm; omega, ?_⟩
    rw [mC_of mo er ⟨w.2, e4⟩, show mBegin (mC H0) = _ from if_pos c, show n2 = -1 by omega]
  · have w := q2 c
    refine ⟨KM_le f6.1.1 km, by unfold ICm; omega, ?_⟩
    rw [mC_begin mo er w.2 (by omega), show mBegin (mC H0) = _ from if_neg c]
    exact Prod.ext rfl (by show n2 = hV H0 19 3; omega)
theorem c_160v_s_1 : vOkm T0 (eP e_160v L_160v A_160v mu_160v none) 1 ([(1055, [2, 1], [0, 1], 0), (90, [2], [], -2147483648), (91, [2], [], 2147483647), (20, [1, 0], [0], 6), (0, [1], [], 19), (6000, [0], [0], 0), (0, [0], [], 7)], (3000, [2], [1], 7)) := vOk_in fun ρ η h => by
  obtain ⟨f0, f1, f2, f3, f4, f5, f6, _⟩ := h
  exact q_160v_1 (n0 := ρ 0) (n1 := ρ 1) (n2 := ρ 2) (H0 := η 0) (H1 := η 1) f6 f5 f4 f3 f2 f1 f0
def p_160v_s : List vG := [([(20, [1, 0], [0], 6), (0, [1], [], 19), (6000, [0], [0], 0), (0, [0], [], 7)], (2055, [1], [0], 0)),
  ([(1055, [2, 1], [0, 1], 0), (90, [2], [], -2147483648), (91, [2], [], 2147483647), (20, [1, 0], [0], 6), (0, [1], [], 19), (6000, [0], [0], 0), (0, [0], [], 7)], (3000, [2], [1], 7))]
theorem r_160v_s : vCovO false (eR0 e_160v L_160v cs_160v 2000) p_160v_s = true := by decide +kernel
theorem m_160v (d : Nat) : eC e_160v (d + 4) := eC_ok (e := e_160v) (L := L_160v) (cs := cs_160v) (n := 2000) (d := d + 3) (A := A_160v) (μ := mu_160v) (tp := false) (p0 := p_160v_s) rfl ⟨m_55v d, trivial⟩ rfl (.inl rfl) (by decide +kernel) (fun z => nomatch z) r_160v_s (allC c_160v_s_0 (allC c_160v_s_1 allN)) allN
/- MixStage.keep (II)I -/
noncomputable def s_161v : vM := ([(3, 11, 7, 0), (0, -2147483648, 2147483647, 0), (0, -2147483648, 2147483647, 0)], (0, -2147483648, 2147483647, 0), 1, 0, [(700, 0)])
def preb_161v (a0 a1 a2 : Int) (h : gH) : Prop := KM h ∧ ICm h ∧ MT (mC h)
def pre_161v : List Int → gH → Prop := fun xs h => match xs with
  | [a0, a1, a2] => preb_161v a0 a1 a2 h
  | _ => False
def postb_161v (r a0 a1 a2 : Int) (h0 h : gH) : Prop := KM h ∧ ICm h ∧ (mC h, r) = mKeep a1 a2 (mC h0)
def post_161v : List Int → gH → gH → Prop := fun xs h0 h => match xs with
  | [r, a0, a1, a2] => postb_161v r a0 a1 a2 h0 h
  | _ => True
noncomputable def e_161v : vE := (161, s_161v, pre_161v, post_161v)
noncomputable def L_161v : List vE := [e_52v, e_53v, e_57v]
def cs_161v : List vC := []
def A_161v : Int → List Int → gH → gH → Prop := fun c xs h0 h => True
def mu_161v : Int → List Int → gH → gH → Nat := fun c xs h0 h => 0
theorem q_161v_0 {n0 n1 n2 n3 : Int} {H0 : gH} (f0 : n0 ≤ 2147483647) (f1 : (-2147483648) ≤ n0) (f2 : n1 ≤ 2147483647) (f3 : (-2147483648) ≤ n1) (f4 : n2 = 7) (f5 : hWt T0 H0 ∧ preb_161v n2 n1 n0 H0) (f6 : n1 < 0) (f7 : n3 = (-1)) : postb_161v n3 n2 n1 n0 H0 H0 := by
  have pz := f5.2
  unfold preb_161v at pz
  obtain ⟨km, ic, mt⟩ := pz
  obtain ⟨mf, ms, me, m20, m21, m22, mz⟩ := MTc mt
  unfold postb_161v
  refine ⟨km, ic, ?_⟩
  have cc : hV H0 19 3 - 1 = 0 ∨ n1 < 0 ∨ n0 ≤ n1 ∨ hV H0 20 (hV H0 19 3 - 1 - 1).toNat < n0 := by
    omega
  rw [show mKeep n1 n0 (mC H0) = _ from if_pos cc, show n3 = -1 by omega]
theorem c_161v_s_0 : vOkm T0 (eP e_161v L_161v A_161v mu_161v none) 3 ([(0, [3], [], -1), (32, [1], [], 0), (6000, [0, 1, 2], [0], 0), (0, [0], [], 7), (90, [1], [], -2147483648), (91, [1], [], 2147483647), (90, [2], [], -2147483648), (91, [2], [], 2147483647)], (3000, [3], [0], 30)) := vOk_in fun ρ η h => by
  obtain ⟨f0, f1, f2, f3, f4, f5, f6, f7, _⟩ := h
  exact q_161v_0 (n0 := ρ 2) (n1 := ρ 1) (n2 := ρ 0) (n3 := ρ 3) (H0 := η 0) f7 f6 f5 f4 f3 f2 f1 f0
theorem q_161v_1 {n0 n1 n2 n3 : Int} {H0 : gH} (f0 : n0 ≤ 2147483647) (f1 : (-2147483648) ≤ n0) (f2 : n1 ≤ 2147483647) (f3 : (-2147483648) ≤ n1) (f4 : n2 = 7) (f5 : hWt T0 H0 ∧ preb_161v n2 n1 n0 H0) (f6 : 0 ≤ n1) (f7 : n0 ≤ n1) (f8 : n3 = (-1)) : postb_161v n3 n2 n1 n0 H0 H0 := by
  have pz := f5.2
  unfold preb_161v at pz
  obtain ⟨km, ic, mt⟩ := pz
  obtain ⟨mf, ms, me, m20, m21, m22, mz⟩ := MTc mt
  unfold postb_161v
  refine ⟨km, ic, ?_⟩
  have cc : hV H0 19 3 - 1 = 0 ∨ n1 < 0 ∨ n0 ≤ n1 ∨ hV H0 20 (hV H0 19 3 - 1 - 1).toNat < n0 := by
    omega
  rw [show mKeep n1 n0 (mC H0) = _ from if_pos cc, show n3 = -1 by omega]
theorem c_161v_s_1 : vOkm T0 (eP e_161v L_161v A_161v mu_161v none) 3 ([(0, [3], [], -1), (45, [2, 1], [], 0), (33, [1], [], 0), (6000, [0, 1, 2], [0], 0), (0, [0], [], 7), (90, [1], [], -2147483648), (91, [1], [], 2147483647), (90, [2], [], -2147483648), (91, [2], [], 2147483647)], (3000, [3], [0], 30)) := vOk_in fun ρ η h => by
  obtain ⟨f0, f1, f2, f3, f4, f5, f6, f7, f8, _⟩ := h
  exact q_161v_1 (n0 := ρ 2) (n1 := ρ 1) (n2 := ρ 0) (n3 := ρ 3) (H0 := η 0) f8 f7 f6 f5 f4 f3 f2 f1 f0
theorem q_161v_2 {n0 n1 n2 n3 n4 : Int} {H0 : gH} (f0 : n0 ≤ 2147483647) (f1 : (-2147483648) ≤ n0) (f2 : n1 ≤ 2147483647) (f3 : (-2147483648) ≤ n1) (f4 : n2 = 7) (f5 : hWt T0 H0 ∧ preb_161v n2 n1 n0 H0) (f6 : 0 ≤ n1) (f7 : n1 < n0) (f8 : n3 = 19) (f9 : n3 = hV H0 (n2).toNat 6) (f10 : n4 = 19) (f11 : n4 = hV H0 (n2).toNat 6) : preb_52v n4 H0 := by
  have pz := f5.2
  unfold preb_161v at pz
  obtain ⟨km, ic, mt⟩ := pz
  obtain ⟨mf, ms, me, m20, m21, m22, mz⟩ := MTc mt
  unfold preb_52v
  exact ⟨by omega, by omega⟩
theorem c_161v_s_2 : vOkm T0 (eP e_161v L_161v A_161v mu_161v none) 3 ([(20, [4, 0], [0], 6), (0, [4], [], 19), (20, [3, 0], [0], 6), (0, [3], [], 19), (44, [2, 1], [], 0), (33, [1], [], 0), (6000, [0, 1, 2], [0], 0), (0, [0], [], 7), (90, [1], [], -2147483648), (91, [1], [], 2147483647), (90, [2], [], -2147483648), (91, [2], [], 2147483647)], (2052, [4], [0], 0)) := vOk_in fun ρ η h => by
  obtain ⟨f0, f1, f2, f3, f4, f5, f6, f7, f8, f9, f10, f11, _⟩ := h
  exact q_161v_2 (n0 := ρ 2) (n1 := ρ 1) (n2 := ρ 0) (n3 := ρ 3) (n4 := ρ 4) (H0 := η 0) f11 f10 f9 f8 f7 f6 f5 f4 f3 f2 f1 f0
theorem q_161v_3 {n0 n1 n2 n3 n4 n5 n6 n7 : Int} {H0 H1 : gH} (f0 : n0 ≤ 2147483647) (f1 : (-2147483648) ≤ n0) (f2 : n1 ≤ 2147483647) (f3 : (-2147483648) ≤ n1) (f4 : n2 = 7) (f5 : hWt T0 H0 ∧ preb_161v n2 n1 n0 H0) (f6 : 0 ≤ n1) (f7 : n1 < n0) (f8 : n3 = 19) (f9 : n3 = hV H0 (n2).toNat 6) (f10 : n4 = 19) (f11 : n4 = hV H0 (n2).toNat 6) (f12 : n5 ≤ 2147483647) (f13 : (-2147483648) ≤ n5) (f14 : (hLe T0 H0 H1 ∧ hFr s_52v.2.2.2.2 H0 H1 ∧ ((0 : Int) = 0 → H1.length = H0.length) ∧ hWt T0 H1) ∧ postb_52v n5 n4 H0 H1) (f15 : n6 = 1) (f16 : n7 = w32 (n5 - n6)) : preb_53v n3 n7 H1 := by
  have pz := f5.2
  unfold preb_161v at pz
  obtain ⟨km, ic, mt⟩ := pz
  obtain ⟨mf, ms, me, m20, m21, m22, mz⟩ := MTc mt
  unfold preb_53v
  exact (KM_le f14.1.1 km)
theorem c_161v_s_3 : vOkm T0 (eP e_161v L_161v A_161v mu_161v none) 3 ([(2, [7, 5, 6], [], 0), (0, [6], [], 1), (1052, [5, 4], [0, 1], 0), (90, [5], [], -2147483648), (91, [5], [], 2147483647), (20, [4, 0], [0], 6), (0, [4], [], 19), (20, [3, 0], [0], 6), (0, [3], [], 19), (44, [2, 1], [], 0), (33, [1], [], 0), (6000, [0, 1, 2], [0], 0), (0, [0], [], 7), (90, [1], [], -2147483648), (91, [1], [], 2147483647), (90, [2], [], -2147483648), (91, [2], [], 2147483647)], (2053, [3, 7], [1], 0)) := vOk_in fun ρ η h => by
  obtain ⟨f0, f1, f2, f3, f4, f5, f6, f7, f8, f9, f10, f11, f12, f13, f14, f15, f16, _⟩ := h
  exact q_161v_3 (n0 := ρ 2) (n1 := ρ 1) (n2 := ρ 0) (n3 := ρ 3) (n4 := ρ 4) (n5 := ρ 5) (n6 := ρ 6) (n7 := ρ 7) (H0 := η 0) (H1 := η 1) f16 f15 f14 f13 f12 f11 f10 f9 f8 f7 f6 f5 f4 f3 f2 f1 f0
theorem q_161v_4 {n0 n1 n2 n3 n4 n5 n6 n7 n8 n9 n10 : Int} {H0 H1 H2 : gH} (f0 : n0 ≤ 2147483647) (f1 : (-2147483648) ≤ n0) (f2 : n1 ≤ 2147483647) (f3 : (-2147483648) ≤ n1) (f4 : n2 = 7) (f5 : hWt T0 H0 ∧ preb_161v n2 n1 n0 H0) (f6 : 0 ≤ n1) (f7 : n1 < n0) (f8 : n3 = 19) (f9 : n3 = hV H0 (n2).toNat 6) (f10 : n4 = 19) (f11 : n4 = hV H0 (n2).toNat 6) (f12 : n5 ≤ 2147483647) (f13 : (-2147483648) ≤ n5) (f14 : (hLe T0 H0 H1 ∧ hFr s_52v.2.2.2.2 H0 H1 ∧ ((0 : Int) = 0 → H1.length = H0.length) ∧ hWt T0 H1) ∧ postb_52v n5 n4 H0 H1) (f15 : n6 = 1) (f16 : n7 = w32 (n5 - n6)) (f17 : n8 ≤ 2147483647) (f18 : (-2147483648) ≤ n8) (f19 : (hLe T0 H1 H2 ∧ hFr s_53v.2.2.2.2 H1 H2 ∧ ((0 : Int) = 0 → H2.length = H1.length) ∧ hWt T0 H2) ∧ postb_53v n8 n3 n7 H1 H2) (f20 : n0 ≤ n8) (f21 : n9 = 19) (f22 : n9 = hV H2 (n2).toNat 6) (f23 : n10 = w32 (n0 - n1)) : preb_57v n9 n1 n10 H2 := by
  have pz := f5.2
  unfold preb_161v at pz
  obtain ⟨km, ic, mt⟩ := pz
  obtain ⟨mf, ms, me, m20, m21, m22, mz⟩ := MTc mt
  have l14 : n5 = hV H0 19 3 - 1 := by
    have q := f14.2
    unfold postb_52v at q
    exact q
  have z19 := f19.2
  unfold postb_53v at z19
  rw [(ER_fr f14.1.2.1 (by decide +kernel)).1] at z19
  have e3H1 : hV H1 19 3 = hV H0 19 3 := f14.1.2.1.1 19 3 (by decide +kernel)
  have e3H2 : hV H2 19 3 = hV H0 19 3 := (f19.1.2.1.1 19 3 (by decide +kernel)).trans (f14.1.2.1.1 19 3 (by decide +kernel))
  have e_16 : n7 = n5 - (1) := by
    have w := f16
    rw [f15] at w
    rw [w]
    exact w32_id (by omega) (by omega)
  have e_23 : n10 = n0 - n1 := by
    have w := f23
    rw [w]
    exact w32_id (by omega) (by omega)
  have sb := m20 (n7).toNat
  have zz : n8 = if 0 ≤ hV H0 19 3 - 1 - 1 ∧ hV H0 19 3 - 1 - 1 < 6 then hV H0 20 (hV H0 19 3 - 1 - 1).toNat else 0 := by
    rw [z19, show n7 = hV H0 19 3 - 1 - 1 by omega]
  have sb := m20 (hV H0 19 3 - 1 - 1).toNat
  have bb : n0 ≤ 60 := by
    by_cases c : 0 ≤ hV H0 19 3 - 1 - 1 ∧ hV H0 19 3 - 1 - 1 < 6
    · rw [if_pos c] at zz
      omega
    · rw [if_neg c] at zz
      omega
  unfold preb_57v
  exact ⟨(KM_le f19.1.1 (KM_le f14.1.1 km)), by rw [show mC H2 = mC H0 from (mC_fr f19.1.2.1 (by decide +kernel)).trans (mC_fr f14.1.2.1 (by decide +kernel))]; exact mt, .inr ⟨by omega, by omega⟩⟩
theorem c_161v_s_4 : vOkm T0 (eP e_161v L_161v A_161v mu_161v none) 3 ([(2, [10, 2, 1], [], 0), (20, [9, 0], [2], 6), (0, [9], [], 19), (45, [2, 8], [], 0), (1053, [8, 3, 7], [1, 2], 0), (90, [8], [], -2147483648), (91, [8], [], 2147483647), (2, [7, 5, 6], [], 0), (0, [6], [], 1), (1052, [5, 4], [0, 1], 0), (90, [5], [], -2147483648), (91, [5], [], 2147483647), (20, [4, 0], [0], 6), (0, [4], [], 19), (20, [3, 0], [0], 6), (0, [3], [], 19), (44, [2, 1], [], 0), (33, [1], [], 0), (6000, [0, 1, 2], [0], 0), (0, [0], [], 7), (90, [1], [], -2147483648), (91, [1], [], 2147483647), (90, [2], [], -2147483648), (91, [2], [], 2147483647)], (2057, [9, 1, 10], [2], 0)) := vOk_in fun ρ η h => by
  obtain ⟨f0, f1, f2, f3, f4, f5, f6, f7, f8, f9, f10, f11, f12, f13, f14, f15, f16, f17, f18, f19, f20, f21, f22, f23, _⟩ := h
  exact q_161v_4 (n0 := ρ 2) (n1 := ρ 1) (n2 := ρ 0) (n3 := ρ 3) (n4 := ρ 4) (n5 := ρ 5) (n6 := ρ 6) (n7 := ρ 7) (n8 := ρ 8) (n9 := ρ 9) (n10 := ρ 10) (H0 := η 0) (H1 := η 1) (H2 := η 2) f23 f22 f21 f20 f19 f18 f17 f16 f15 f14 f13 f12 f11 f10 f9 f8 f7 f6 f5 f4 f3 f2 f1 f0
theorem q_161v_5 {n0 n1 n2 n3 n4 n5 n6 n7 n8 n9 n10 n11 : Int} {H0 H1 H2 H3 : gH} (f0 : n0 ≤ 2147483647) (f1 : (-2147483648) ≤ n0) (f2 : n1 ≤ 2147483647) (f3 : (-2147483648) ≤ n1) (f4 : n2 = 7) (f5 : hWt T0 H0 ∧ preb_161v n2 n1 n0 H0) (f6 : 0 ≤ n1) (f7 : n1 < n0) (f8 : n3 = 19) (f9 : n3 = hV H0 (n2).toNat 6) (f10 : n4 = 19) (f11 : n4 = hV H0 (n2).toNat 6) (f12 : n5 ≤ 2147483647) (f13 : (-2147483648) ≤ n5) (f14 : (hLe T0 H0 H1 ∧ hFr s_52v.2.2.2.2 H0 H1 ∧ ((0 : Int) = 0 → H1.length = H0.length) ∧ hWt T0 H1) ∧ postb_52v n5 n4 H0 H1) (f15 : n6 = 1) (f16 : n7 = w32 (n5 - n6)) (f17 : n8 ≤ 2147483647) (f18 : (-2147483648) ≤ n8) (f19 : (hLe T0 H1 H2 ∧ hFr s_53v.2.2.2.2 H1 H2 ∧ ((0 : Int) = 0 → H2.length = H1.length) ∧ hWt T0 H2) ∧ postb_53v n8 n3 n7 H1 H2) (f20 : n0 ≤ n8) (f21 : n9 = 19) (f22 : n9 = hV H2 (n2).toNat 6) (f23 : n10 = w32 (n0 - n1)) (f24 : n11 ≤ 2147483647) (f25 : (-2147483648) ≤ n11) (f26 : (hLe T0 H2 H3 ∧ hFr s_57v.2.2.2.2 H2 H3 ∧ ((0 : Int) = 0 → H3.length = H2.length) ∧ hWt T0 H3) ∧ postb_57v n11 n9 n1 n10 H2 H3) : postb_161v n11 n2 n1 n0 H0 H3 := by
  have pz := f5.2
  unfold preb_161v at pz
  obtain ⟨km, ic, mt⟩ := pz
  obtain ⟨mf, ms, me, m20, m21, m22, mz⟩ := MTc mt
  have l14 : n5 = hV H0 19 3 - 1 := by
    have q := f14.2
    unfold postb_52v at q
    exact q
  have z19 := f19.2
  unfold postb_53v at z19
  rw [(ER_fr f14.1.2.1 (by decide +kernel)).1] at z19
  have e3H1 : hV H1 19 3 = hV H0 19 3 := f14.1.2.1.1 19 3 (by decide +kernel)
  have e3H2 : hV H2 19 3 = hV H0 19 3 := (f19.1.2.1.1 19 3 (by decide +kernel)).trans (f14.1.2.1.1 19 3 (by decide +kernel))
  have e3H3 : hV H3 19 3 = hV H0 19 3 := (f26.1.2.1.1 19 3 (by decide +kernel)).trans ((f19.1.2.1.1 19 3 (by decide +kernel)).trans (f14.1.2.1.1 19 3 (by decide +kernel)))
  have e_16 : n7 = n5 - (1) := by
    have w := f16
    rw [f15] at w
    rw [w]
    exact w32_id (by omega) (by omega)
  have e_23 : n10 = n0 - n1 := by
    have w := f23
    rw [w]
    exact w32_id (by omega) (by omega)
  have sb := m20 (n7).toNat
  have zz : n8 = if 0 ≤ hV H0 19 3 - 1 - 1 ∧ hV H0 19 3 - 1 - 1 < 6 then hV H0 20 (hV H0 19 3 - 1 - 1).toNat else 0 := by
    rw [z19, show n7 = hV H0 19 3 - 1 - 1 by omega]
  have sb := m20 (hV H0 19 3 - 1 - 1).toNat
  unfold postb_161v
  have q := f26.2
  unfold postb_57v at q
  refine ⟨q.1, (ICm_of (ED_fr f26.1.2.1 (by decide +kernel)) (ICm_of (ED_fr f19.1.2.1 (by decide +kernel)) (ICm_of (ED_fr f14.1.2.1 (by decide +kernel)) ic))), ?_⟩
  have cc : ¬ (hV H0 19 3 - 1 = 0 ∨ n1 < 0 ∨ n0 ≤ n1 ∨ hV H0 20 (hV H0 19 3 - 1 - 1).toNat < n0) := by
    by_cases c : 0 ≤ hV H0 19 3 - 1 - 1 ∧ hV H0 19 3 - 1 - 1 < 6
    · rw [if_pos c] at zz
      omega
    · rw [if_neg c] at zz
      omega
  rw [q.2, show mC H2 = mC H0 from (mC_fr f19.1.2.1 (by decide +kernel)).trans (mC_fr f14.1.2.1 (by decide +kernel)), show mKeep n1 n0 (mC H0) = _ from if_neg cc, show n10 = n0 - n1 by omega]
theorem c_161v_s_5 : vOkm T0 (eP e_161v L_161v A_161v mu_161v none) 3 ([(1057, [11, 9, 1, 10], [2, 3], 0), (90, [11], [], -2147483648), (91, [11], [], 2147483647), (2, [10, 2, 1], [], 0), (20, [9, 0], [2], 6), (0, [9], [], 19), (45, [2, 8], [], 0), (1053, [8, 3, 7], [1, 2], 0), (90, [8], [], -2147483648), (91, [8], [], 2147483647), (2, [7, 5, 6], [], 0), (0, [6], [], 1), (1052, [5, 4], [0, 1], 0), (90, [5], [], -2147483648), (91, [5], [], 2147483647), (20, [4, 0], [0], 6), (0, [4], [], 19), (20, [3, 0], [0], 6), (0, [3], [], 19), (44, [2, 1], [], 0), (33, [1], [], 0), (6000, [0, 1, 2], [0], 0), (0, [0], [], 7), (90, [1], [], -2147483648), (91, [1], [], 2147483647), (90, [2], [], -2147483648), (91, [2], [], 2147483647)], (3000, [11], [3], 42)) := vOk_in fun ρ η h => by
  obtain ⟨f0, f1, f2, f3, f4, f5, f6, f7, f8, f9, f10, f11, f12, f13, f14, f15, f16, f17, f18, f19, f20, f21, f22, f23, f24, f25, f26, _⟩ := h
  exact q_161v_5 (n0 := ρ 2) (n1 := ρ 1) (n2 := ρ 0) (n3 := ρ 3) (n4 := ρ 4) (n5 := ρ 5) (n6 := ρ 6) (n7 := ρ 7) (n8 := ρ 8) (n9 := ρ 9) (n10 := ρ 10) (n11 := ρ 11) (H0 := η 0) (H1 := η 1) (H2 := η 2) (H3 := η 3) f26 f25 f24 f23 f22 f21 f20 f19 f18 f17 f16 f15 f14 f13 f12 f11 f10 f9 f8 f7 f6 f5 f4 f3 f2 f1 f0
theorem q_161v_6 {n0 n1 n2 n3 n4 n5 n6 n7 n8 n9 : Int} {H0 H1 H2 : gH} (f0 : n0 ≤ 2147483647) (f1 : (-2147483648) ≤ n0) (f2 : n1 ≤ 2147483647) (f3 : (-2147483648) ≤ n1) (f4 : n2 = 7) (f5 : hWt T0 H0 ∧ preb_161v n2 n1 n0 H0) (f6 : 0 ≤ n1) (f7 : n1 < n0) (f8 : n3 = 19) (f9 : n3 = hV H0 (n2).toNat 6) (f10 : n4 = 19) (f11 : n4 = hV H0 (n2).toNat 6) (f12 : n5 ≤ 2147483647) (f13 : (-2147483648) ≤ n5) (f14 : (hLe T0 H0 H1 ∧ hFr s_52v.2.2.2.2 H0 H1 ∧ ((0 : Int) = 0 → H1.length = H0.length) ∧ hWt T0 H1) ∧ postb_52v n5 n4 H0 H1) (f15 : n6 = 1) (f16 : n7 = w32 (n5 - n6)) (f17 : n8 ≤ 2147483647) (f18 : (-2147483648) ≤ n8) (f19 : (hLe T0 H1 H2 ∧ hFr s_53v.2.2.2.2 H1 H2 ∧ ((0 : Int) = 0 → H2.length = H1.length) ∧ hWt T0 H2) ∧ postb_53v n8 n3 n7 H1 H2) (f20 : n8 < n0) (f21 : n9 = (-1)) : postb_161v n9 n2 n1 n0 H0 H2 := by
  have pz := f5.2
  unfold preb_161v at pz
  obtain ⟨km, ic, mt⟩ := pz
  obtain ⟨mf, ms, me, m20, m21, m22, mz⟩ := MTc mt
  have l14 : n5 = hV H0 19 3 - 1 := by
    have q := f14.2
    unfold postb_52v at q
    exact q
  have z19 := f19.2
  unfold postb_53v at z19
  rw [(ER_fr f14.1.2.1 (by decide +kernel)).1] at z19
  have e3H1 : hV H1 19 3 = hV H0 19 3 := f14.1.2.1.1 19 3 (by decide +kernel)
  have e3H2 : hV H2 19 3 = hV H0 19 3 := (f19.1.2.1.1 19 3 (by decide +kernel)).trans (f14.1.2.1.1 19 3 (by decide +kernel))
  have e_16 : n7 = n5 - (1) := by
    have w := f16
    rw [f15] at w
    rw [w]
    exact w32_id (by omega) (by omega)
  have sb := m20 (n7).toNat
  have zz : n8 = if 0 ≤ hV H0 19 3 - 1 - 1 ∧ hV H0 19 3 - 1 - 1 < 6 then hV H0 20 (hV H0 19 3 - 1 - 1).toNat else 0 := by
    rw [z19, show n7 = hV H0 19 3 - 1 - 1 by omega]
  have sb := m20 (hV H0 19 3 - 1 - 1).toNat
  unfold postb_161v
  refine ⟨(KM_le f19.1.1 (KM_le f14.1.1 km)), (ICm_of (ED_fr f19.1.2.1 (by decide +kernel)) (ICm_of (ED_fr f14.1.2.1 (by decide +kernel)) ic)), ?_⟩
  rw [show mC H2 = mC H0 from (mC_fr f19.1.2.1 (by decide +kernel)).trans (mC_fr f14.1.2.1 (by decide +kernel))]
  have cc : hV H0 19 3 - 1 = 0 ∨ n1 < 0 ∨ n0 ≤ n1 ∨ hV H0 20 (hV H0 19 3 - 1 - 1).toNat < n0 := by
    by_cases c : 0 ≤ hV H0 19 3 - 1 - 1 ∧ hV H0 19 3 - 1 - 1 < 6
    · rw [if_pos c] at zz
      omega
    · omega
  rw [show mKeep n1 n0 (mC H0) = _ from if_pos cc, show n9 = -1 by omega]
theorem c_161v_s_6 : vOkm T0 (eP e_161v L_161v A_161v mu_161v none) 3 ([(0, [9], [], -1), (44, [2, 8], [], 0), (1053, [8, 3, 7], [1, 2], 0), (90, [8], [], -2147483648), (91, [8], [], 2147483647), (2, [7, 5, 6], [], 0), (0, [6], [], 1), (1052, [5, 4], [0, 1], 0), (90, [5], [], -2147483648), (91, [5], [], 2147483647), (20, [4, 0], [0], 6), (0, [4], [], 19), (20, [3, 0], [0], 6), (0, [3], [], 19), (44, [2, 1], [], 0), (33, [1], [], 0), (6000, [0, 1, 2], [0], 0), (0, [0], [], 7), (90, [1], [], -2147483648), (91, [1], [], 2147483647), (90, [2], [], -2147483648), (91, [2], [], 2147483647)], (3000, [9], [2], 30)) := vOk_in fun ρ η h => by
  obtain ⟨f0, f1, f2, f3, f4, f5, f6, f7, f8, f9, f10, f11, f12, f13, f14, f15, f16, f17, f18, f19, f20, f21, _⟩ := h
  exact q_161v_6 (n0 := ρ 2) (n1 := ρ 1) (n2 := ρ 0) (n3 := ρ 3) (n4 := ρ 4) (n5 := ρ 5) (n6 := ρ 6) (n7 := ρ 7) (n8 := ρ 8) (n9 := ρ 9) (H0 := η 0) (H1 := η 1) (H2 := η 2) f21 f20 f19 f18 f17 f16 f15 f14 f13 f12 f11 f10 f9 f8 f7 f6 f5 f4 f3 f2 f1 f0
def p_161v_s : List vG := [([(0, [3], [], -1), (32, [1], [], 0), (6000, [0, 1, 2], [0], 0), (0, [0], [], 7), (90, [1], [], -2147483648), (91, [1], [], 2147483647), (90, [2], [], -2147483648), (91, [2], [], 2147483647)], (3000, [3], [0], 30)),
  ([(0, [3], [], -1), (45, [2, 1], [], 0), (33, [1], [], 0), (6000, [0, 1, 2], [0], 0), (0, [0], [], 7), (90, [1], [], -2147483648), (91, [1], [], 2147483647), (90, [2], [], -2147483648), (91, [2], [], 2147483647)], (3000, [3], [0], 30)),
  ([(20, [4, 0], [0], 6), (0, [4], [], 19), (20, [3, 0], [0], 6), (0, [3], [], 19), (44, [2, 1], [], 0), (33, [1], [], 0), (6000, [0, 1, 2], [0], 0), (0, [0], [], 7), (90, [1], [], -2147483648), (91, [1], [], 2147483647), (90, [2], [], -2147483648), (91, [2], [], 2147483647)], (2052, [4], [0], 0)),
  ([(2, [7, 5, 6], [], 0), (0, [6], [], 1), (1052, [5, 4], [0, 1], 0), (90, [5], [], -2147483648), (91, [5], [], 2147483647), (20, [4, 0], [0], 6), (0, [4], [], 19), (20, [3, 0], [0], 6), (0, [3], [], 19), (44, [2, 1], [], 0), (33, [1], [], 0), (6000, [0, 1, 2], [0], 0), (0, [0], [], 7), (90, [1], [], -2147483648), (91, [1], [], 2147483647), (90, [2], [], -2147483648), (91, [2], [], 2147483647)], (2053, [3, 7], [1], 0)),
  ([(2, [10, 2, 1], [], 0), (20, [9, 0], [2], 6), (0, [9], [], 19), (45, [2, 8], [], 0), (1053, [8, 3, 7], [1, 2], 0), (90, [8], [], -2147483648), (91, [8], [], 2147483647), (2, [7, 5, 6], [], 0), (0, [6], [], 1), (1052, [5, 4], [0, 1], 0), (90, [5], [], -2147483648), (91, [5], [], 2147483647), (20, [4, 0], [0], 6), (0, [4], [], 19), (20, [3, 0], [0], 6), (0, [3], [], 19), (44, [2, 1], [], 0), (33, [1], [], 0), (6000, [0, 1, 2], [0], 0), (0, [0], [], 7), (90, [1], [], -2147483648), (91, [1], [], 2147483647), (90, [2], [], -2147483648), (91, [2], [], 2147483647)], (2057, [9, 1, 10], [2], 0)),
  ([(1057, [11, 9, 1, 10], [2, 3], 0), (90, [11], [], -2147483648), (91, [11], [], 2147483647), (2, [10, 2, 1], [], 0), (20, [9, 0], [2], 6), (0, [9], [], 19), (45, [2, 8], [], 0), (1053, [8, 3, 7], [1, 2], 0), (90, [8], [], -2147483648), (91, [8], [], 2147483647), (2, [7, 5, 6], [], 0), (0, [6], [], 1), (1052, [5, 4], [0, 1], 0), (90, [5], [], -2147483648), (91, [5], [], 2147483647), (20, [4, 0], [0], 6), (0, [4], [], 19), (20, [3, 0], [0], 6), (0, [3], [], 19), (44, [2, 1], [], 0), (33, [1], [], 0), (6000, [0, 1, 2], [0], 0), (0, [0], [], 7), (90, [1], [], -2147483648), (91, [1], [], 2147483647), (90, [2], [], -2147483648), (91, [2], [], 2147483647)], (3000, [11], [3], 42)),
  ([(0, [9], [], -1), (44, [2, 8], [], 0), (1053, [8, 3, 7], [1, 2], 0), (90, [8], [], -2147483648), (91, [8], [], 2147483647), (2, [7, 5, 6], [], 0), (0, [6], [], 1), (1052, [5, 4], [0, 1], 0), (90, [5], [], -2147483648), (91, [5], [], 2147483647), (20, [4, 0], [0], 6), (0, [4], [], 19), (20, [3, 0], [0], 6), (0, [3], [], 19), (44, [2, 1], [], 0), (33, [1], [], 0), (6000, [0, 1, 2], [0], 0), (0, [0], [], 7), (90, [1], [], -2147483648), (91, [1], [], 2147483647), (90, [2], [], -2147483648), (91, [2], [], 2147483647)], (3000, [9], [2], 30))]
theorem r_161v_s : vCovO false (eR0 e_161v L_161v cs_161v 2000) p_161v_s = true := by decide +kernel
theorem m_161v (d : Nat) : eC e_161v (d + 4) := eC_ok (e := e_161v) (L := L_161v) (cs := cs_161v) (n := 2000) (d := d + 3) (A := A_161v) (μ := mu_161v) (tp := false) (p0 := p_161v_s) rfl ⟨m_52v (d + 2), ⟨m_53v (d + 1), ⟨m_57v d, trivial⟩⟩⟩ rfl (.inl rfl) (by decide +kernel) (fun z => nomatch z) r_161v_s (allC c_161v_s_0 (allC c_161v_s_1 (allC c_161v_s_2 (allC c_161v_s_3 (allC c_161v_s_4 (allC c_161v_s_5 (allC c_161v_s_6 allN))))))) allN
/- MixStage.blank (I)I -/
noncomputable def s_162v : vM := ([(3, 11, 7, 0), (0, -2147483648, 2147483647, 0)], (0, -2147483648, 2147483647, 0), 1, 0, [(700, 0)])
def preb_162v (a0 a1 : Int) (h : gH) : Prop := KM h ∧ ICm h ∧ MT (mC h)
def pre_162v : List Int → gH → Prop := fun xs h => match xs with
  | [a0, a1] => preb_162v a0 a1 h
  | _ => False
def postb_162v (r a0 a1 : Int) (h0 h : gH) : Prop := KM h ∧ ICm h ∧ (mC h, r) = mExt (-1) a1 (mC h0)
def post_162v : List Int → gH → gH → Prop := fun xs h0 h => match xs with
  | [r, a0, a1] => postb_162v r a0 a1 h0 h
  | _ => True
noncomputable def e_162v : vE := (162, s_162v, pre_162v, post_162v)
noncomputable def L_162v : List vE := [e_57v]
def cs_162v : List vC := []
def A_162v : Int → List Int → gH → gH → Prop := fun c xs h0 h => True
def mu_162v : Int → List Int → gH → gH → Nat := fun c xs h0 h => 0
theorem q_162v_0 {n0 n1 n2 n3 : Int} {H0 : gH} (f0 : n0 ≤ 2147483647) (f1 : (-2147483648) ≤ n0) (f2 : n1 = 7) (f3 : hWt T0 H0 ∧ preb_162v n1 n0 H0) (f4 : n2 = 19) (f5 : n2 = hV H0 (n1).toNat 6) (f6 : n3 = (-1)) : preb_57v n2 n3 n0 H0 := by
  have pz := f3.2
  unfold preb_162v at pz
  obtain ⟨km, ic, mt⟩ := pz
  obtain ⟨mf, ms, me, m20, m21, m22, mz⟩ := MTc mt
  unfold preb_57v
  exact ⟨km, by rw [show mC H0 = mC H0 from rfl]; exact mt, .inl (by omega)⟩
theorem c_162v_s_0 : vOkm T0 (eP e_162v L_162v A_162v mu_162v none) 2 ([(0, [3], [], -1), (20, [2, 0], [0], 6), (0, [2], [], 19), (6000, [0, 1], [0], 0), (0, [0], [], 7), (90, [1], [], -2147483648), (91, [1], [], 2147483647)], (2057, [2, 3, 1], [0], 0)) := vOk_in fun ρ η h => by
  obtain ⟨f0, f1, f2, f3, f4, f5, f6, _⟩ := h
  exact q_162v_0 (n0 := ρ 1) (n1 := ρ 0) (n2 := ρ 2) (n3 := ρ 3) (H0 := η 0) f6 f5 f4 f3 f2 f1 f0
theorem q_162v_1 {n0 n1 n2 n3 n4 : Int} {H0 H1 : gH} (f0 : n0 ≤ 2147483647) (f1 : (-2147483648) ≤ n0) (f2 : n1 = 7) (f3 : hWt T0 H0 ∧ preb_162v n1 n0 H0) (f4 : n2 = 19) (f5 : n2 = hV H0 (n1).toNat 6) (f6 : n3 = (-1)) (f7 : n4 ≤ 2147483647) (f8 : (-2147483648) ≤ n4) (f9 : (hLe T0 H0 H1 ∧ hFr s_57v.2.2.2.2 H0 H1 ∧ ((0 : Int) = 0 → H1.length = H0.length) ∧ hWt T0 H1) ∧ postb_57v n4 n2 n3 n0 H0 H1) : postb_162v n4 n1 n0 H0 H1 := by
  have pz := f3.2
  unfold preb_162v at pz
  obtain ⟨km, ic, mt⟩ := pz
  obtain ⟨mf, ms, me, m20, m21, m22, mz⟩ := MTc mt
  have e3H1 : hV H1 19 3 = hV H0 19 3 := f9.1.2.1.1 19 3 (by decide +kernel)
  unfold postb_162v
  have q := f9.2
  unfold postb_57v at q
  refine ⟨q.1, (ICm_of (ED_fr f9.1.2.1 (by decide +kernel)) ic), ?_⟩
  rw [q.2, show n3 = -1 by omega]
theorem c_162v_s_1 : vOkm T0 (eP e_162v L_162v A_162v mu_162v none) 2 ([(1057, [4, 2, 3, 1], [0, 1], 0), (90, [4], [], -2147483648), (91, [4], [], 2147483647), (0, [3], [], -1), (20, [2, 0], [0], 6), (0, [2], [], 19), (6000, [0, 1], [0], 0), (0, [0], [], 7), (90, [1], [], -2147483648), (91, [1], [], 2147483647)], (3000, [4], [1], 9)) := vOk_in fun ρ η h => by
  obtain ⟨f0, f1, f2, f3, f4, f5, f6, f7, f8, f9, _⟩ := h
  exact q_162v_1 (n0 := ρ 1) (n1 := ρ 0) (n2 := ρ 2) (n3 := ρ 3) (n4 := ρ 4) (H0 := η 0) (H1 := η 1) f9 f8 f7 f6 f5 f4 f3 f2 f1 f0
def p_162v_s : List vG := [([(0, [3], [], -1), (20, [2, 0], [0], 6), (0, [2], [], 19), (6000, [0, 1], [0], 0), (0, [0], [], 7), (90, [1], [], -2147483648), (91, [1], [], 2147483647)], (2057, [2, 3, 1], [0], 0)),
  ([(1057, [4, 2, 3, 1], [0, 1], 0), (90, [4], [], -2147483648), (91, [4], [], 2147483647), (0, [3], [], -1), (20, [2, 0], [0], 6), (0, [2], [], 19), (6000, [0, 1], [0], 0), (0, [0], [], 7), (90, [1], [], -2147483648), (91, [1], [], 2147483647)], (3000, [4], [1], 9))]
theorem r_162v_s : vCovO false (eR0 e_162v L_162v cs_162v 2000) p_162v_s = true := by decide +kernel
theorem m_162v (d : Nat) : eC e_162v (d + 4) := eC_ok (e := e_162v) (L := L_162v) (cs := cs_162v) (n := 2000) (d := d + 3) (A := A_162v) (μ := mu_162v) (tp := false) (p0 := p_162v_s) rfl ⟨m_57v d, trivial⟩ rfl (.inl rfl) (by decide +kernel) (fun z => nomatch z) r_162v_s (allC c_162v_s_0 (allC c_162v_s_1 allN)) allN
/- MixStage.frames (I)I -/
noncomputable def s_163v : vM := ([(3, 11, 7, 0), (0, -2147483648, 2147483647, 0)], (0, -2147483648, 2147483647, 0), 1, 0, [])
def preb_163v (a0 a1 : Int) (h : gH) : Prop := KM h ∧ ICm h ∧ MT (mC h)
def pre_163v : List Int → gH → Prop := fun xs h => match xs with
  | [a0, a1] => preb_163v a0 a1 h
  | _ => False
def postb_163v (r a0 a1 : Int) (h0 h : gH) : Prop := r = mFrames a1 (mC h0)
def post_163v : List Int → gH → gH → Prop := fun xs h0 h => match xs with
  | [r, a0, a1] => postb_163v r a0 a1 h0 h
  | _ => True
noncomputable def e_163v : vE := (163, s_163v, pre_163v, post_163v)
noncomputable def L_163v : List vE := [e_51v, e_53v]
def cs_163v : List vC := []
def A_163v : Int → List Int → gH → gH → Prop := fun c xs h0 h => True
def mu_163v : Int → List Int → gH → gH → Nat := fun c xs h0 h => 0
theorem q_163v_0 {n0 n1 n2 : Int} {H0 : gH} (f0 : n0 ≤ 2147483647) (f1 : (-2147483648) ≤ n0) (f2 : n1 = 7) (f3 : hWt T0 H0 ∧ preb_163v n1 n0 H0) (f4 : n2 = 19) (f5 : n2 = hV H0 (n1).toNat 6) : preb_51v n2 n0 H0 := by
  exact trivial
theorem c_163v_s_0 : vOkm T0 (eP e_163v L_163v A_163v mu_163v none) 2 ([(20, [2, 0], [0], 6), (0, [2], [], 19), (6000, [0, 1], [0], 0), (0, [0], [], 7), (90, [1], [], -2147483648), (91, [1], [], 2147483647)], (2051, [2, 1], [0], 0)) := vOk_in fun ρ η h => by
  obtain ⟨f0, f1, f2, f3, f4, f5, _⟩ := h
  exact q_163v_0 (n0 := ρ 1) (n1 := ρ 0) (n2 := ρ 2) (H0 := η 0) f5 f4 f3 f2 f1 f0
theorem q_163v_1 {n0 n1 n2 n3 n4 : Int} {H0 H1 : gH} (f0 : n0 ≤ 2147483647) (f1 : (-2147483648) ≤ n0) (f2 : n1 = 7) (f3 : hWt T0 H0 ∧ preb_163v n1 n0 H0) (f4 : n2 = 19) (f5 : n2 = hV H0 (n1).toNat 6) (f6 : n3 ≤ 1) (f7 : 0 ≤ n3) (f8 : (hLe T0 H0 H1 ∧ hFr s_51v.2.2.2.2 H0 H1 ∧ ((0 : Int) = 0 → H1.length = H0.length) ∧ hWt T0 H1) ∧ postb_51v n3 n2 n0 H0 H1) (f9 : n3 = 0) (f10 : n4 = (-1)) : postb_163v n4 n1 n0 H0 H1 := by
  have pz := f3.2
  unfold preb_163v at pz
  obtain ⟨km, ic, mt⟩ := pz
  obtain ⟨mf, ms, me, m20, m21, m22, mz⟩ := MTc mt
  have e3H1 : hV H1 19 3 = hV H0 19 3 := f8.1.2.1.1 19 3 (by decide +kernel)
  have h8 := f8.2
  unfold postb_51v at h8
  rw [show hV H0 19 3 = hV H0 19 3 from rfl] at h8
  unfold postb_163v
  have k0 : ¬ (0 ≤ n0 ∧ n0 < hV H0 19 3) := fun c => by
    rw [if_pos c] at h8
    omega
  rw [show mFrames n0 (mC H0) = _ from if_neg k0]
  omega
theorem c_163v_s_1 : vOkm T0 (eP e_163v L_163v A_163v mu_163v none) 2 ([(0, [4], [], -1), (30, [3], [], 0), (1051, [3, 2, 1], [0, 1], 0), (90, [3], [], 0), (91, [3], [], 1), (20, [2, 0], [0], 6), (0, [2], [], 19), (6000, [0, 1], [0], 0), (0, [0], [], 7), (90, [1], [], -2147483648), (91, [1], [], 2147483647)], (3000, [4], [1], 23)) := vOk_in fun ρ η h => by
  obtain ⟨f0, f1, f2, f3, f4, f5, f6, f7, f8, f9, f10, _⟩ := h
  exact q_163v_1 (n0 := ρ 1) (n1 := ρ 0) (n2 := ρ 2) (n3 := ρ 3) (n4 := ρ 4) (H0 := η 0) (H1 := η 1) f10 f9 f8 f7 f6 f5 f4 f3 f2 f1 f0
theorem q_163v_2 {n0 n1 n2 n3 n4 : Int} {H0 H1 : gH} (f0 : n0 ≤ 2147483647) (f1 : (-2147483648) ≤ n0) (f2 : n1 = 7) (f3 : hWt T0 H0 ∧ preb_163v n1 n0 H0) (f4 : n2 = 19) (f5 : n2 = hV H0 (n1).toNat 6) (f6 : n3 ≤ 1) (f7 : 0 ≤ n3) (f8 : (hLe T0 H0 H1 ∧ hFr s_51v.2.2.2.2 H0 H1 ∧ ((0 : Int) = 0 → H1.length = H0.length) ∧ hWt T0 H1) ∧ postb_51v n3 n2 n0 H0 H1) (f9 : n3 ≠ 0) (f10 : n4 = 19) (f11 : n4 = hV H1 (n1).toNat 6) : preb_53v n4 n0 H1 := by
  have pz := f3.2
  unfold preb_163v at pz
  obtain ⟨km, ic, mt⟩ := pz
  obtain ⟨mf, ms, me, m20, m21, m22, mz⟩ := MTc mt
  unfold preb_53v
  exact (KM_le f8.1.1 km)
theorem c_163v_s_2 : vOkm T0 (eP e_163v L_163v A_163v mu_163v none) 2 ([(20, [4, 0], [1], 6), (0, [4], [], 19), (31, [3], [], 0), (1051, [3, 2, 1], [0, 1], 0), (90, [3], [], 0), (91, [3], [], 1), (20, [2, 0], [0], 6), (0, [2], [], 19), (6000, [0, 1], [0], 0), (0, [0], [], 7), (90, [1], [], -2147483648), (91, [1], [], 2147483647)], (2053, [4, 1], [1], 0)) := vOk_in fun ρ η h => by
  obtain ⟨f0, f1, f2, f3, f4, f5, f6, f7, f8, f9, f10, f11, _⟩ := h
  exact q_163v_2 (n0 := ρ 1) (n1 := ρ 0) (n2 := ρ 2) (n3 := ρ 3) (n4 := ρ 4) (H0 := η 0) (H1 := η 1) f11 f10 f9 f8 f7 f6 f5 f4 f3 f2 f1 f0
theorem q_163v_3 {n0 n1 n2 n3 n4 n5 : Int} {H0 H1 H2 : gH} (f0 : n0 ≤ 2147483647) (f1 : (-2147483648) ≤ n0) (f2 : n1 = 7) (f3 : hWt T0 H0 ∧ preb_163v n1 n0 H0) (f4 : n2 = 19) (f5 : n2 = hV H0 (n1).toNat 6) (f6 : n3 ≤ 1) (f7 : 0 ≤ n3) (f8 : (hLe T0 H0 H1 ∧ hFr s_51v.2.2.2.2 H0 H1 ∧ ((0 : Int) = 0 → H1.length = H0.length) ∧ hWt T0 H1) ∧ postb_51v n3 n2 n0 H0 H1) (f9 : n3 ≠ 0) (f10 : n4 = 19) (f11 : n4 = hV H1 (n1).toNat 6) (f12 : n5 ≤ 2147483647) (f13 : (-2147483648) ≤ n5) (f14 : (hLe T0 H1 H2 ∧ hFr s_53v.2.2.2.2 H1 H2 ∧ ((0 : Int) = 0 → H2.length = H1.length) ∧ hWt T0 H2) ∧ postb_53v n5 n4 n0 H1 H2) : postb_163v n5 n1 n0 H0 H2 := by
  have pz := f3.2
  unfold preb_163v at pz
  obtain ⟨km, ic, mt⟩ := pz
  obtain ⟨mf, ms, me, m20, m21, m22, mz⟩ := MTc mt
  have z14 := f14.2
  unfold postb_53v at z14
  rw [(ER_fr f8.1.2.1 (by decide +kernel)).1] at z14
  have e3H1 : hV H1 19 3 = hV H0 19 3 := f8.1.2.1.1 19 3 (by decide +kernel)
  have e3H2 : hV H2 19 3 = hV H0 19 3 := (f14.1.2.1.1 19 3 (by decide +kernel)).trans (f8.1.2.1.1 19 3 (by decide +kernel))
  have h8 := f8.2
  unfold postb_51v at h8
  rw [show hV H0 19 3 = hV H0 19 3 from rfl] at h8
  have sb := m20 (n0).toNat
  unfold postb_163v
  have k0 : 0 ≤ n0 ∧ n0 < hV H0 19 3 := by
    by_cases c : 0 ≤ n0 ∧ n0 < hV H0 19 3
    · exact c
    · rw [if_neg c] at h8
      omega
  rw [if_pos (by omega)] at z14
  rw [show mFrames n0 (mC H0) = _ from if_pos k0]
  exact z14
theorem c_163v_s_3 : vOkm T0 (eP e_163v L_163v A_163v mu_163v none) 2 ([(1053, [5, 4, 1], [1, 2], 0), (90, [5], [], -2147483648), (91, [5], [], 2147483647), (20, [4, 0], [1], 6), (0, [4], [], 19), (31, [3], [], 0), (1051, [3, 2, 1], [0, 1], 0), (90, [3], [], 0), (91, [3], [], 1), (20, [2, 0], [0], 6), (0, [2], [], 19), (6000, [0, 1], [0], 0), (0, [0], [], 7), (90, [1], [], -2147483648), (91, [1], [], 2147483647)], (3000, [5], [2], 23)) := vOk_in fun ρ η h => by
  obtain ⟨f0, f1, f2, f3, f4, f5, f6, f7, f8, f9, f10, f11, f12, f13, f14, _⟩ := h
  exact q_163v_3 (n0 := ρ 1) (n1 := ρ 0) (n2 := ρ 2) (n3 := ρ 3) (n4 := ρ 4) (n5 := ρ 5) (H0 := η 0) (H1 := η 1) (H2 := η 2) f14 f13 f12 f11 f10 f9 f8 f7 f6 f5 f4 f3 f2 f1 f0
def p_163v_s : List vG := [([(20, [2, 0], [0], 6), (0, [2], [], 19), (6000, [0, 1], [0], 0), (0, [0], [], 7), (90, [1], [], -2147483648), (91, [1], [], 2147483647)], (2051, [2, 1], [0], 0)),
  ([(0, [4], [], -1), (30, [3], [], 0), (1051, [3, 2, 1], [0, 1], 0), (90, [3], [], 0), (91, [3], [], 1), (20, [2, 0], [0], 6), (0, [2], [], 19), (6000, [0, 1], [0], 0), (0, [0], [], 7), (90, [1], [], -2147483648), (91, [1], [], 2147483647)], (3000, [4], [1], 23)),
  ([(20, [4, 0], [1], 6), (0, [4], [], 19), (31, [3], [], 0), (1051, [3, 2, 1], [0, 1], 0), (90, [3], [], 0), (91, [3], [], 1), (20, [2, 0], [0], 6), (0, [2], [], 19), (6000, [0, 1], [0], 0), (0, [0], [], 7), (90, [1], [], -2147483648), (91, [1], [], 2147483647)], (2053, [4, 1], [1], 0)),
  ([(1053, [5, 4, 1], [1, 2], 0), (90, [5], [], -2147483648), (91, [5], [], 2147483647), (20, [4, 0], [1], 6), (0, [4], [], 19), (31, [3], [], 0), (1051, [3, 2, 1], [0, 1], 0), (90, [3], [], 0), (91, [3], [], 1), (20, [2, 0], [0], 6), (0, [2], [], 19), (6000, [0, 1], [0], 0), (0, [0], [], 7), (90, [1], [], -2147483648), (91, [1], [], 2147483647)], (3000, [5], [2], 23))]
theorem r_163v_s : vCovO false (eR0 e_163v L_163v cs_163v 2000) p_163v_s = true := by decide +kernel
theorem m_163v (d : Nat) : eC e_163v (d + 3) := eC_ok (e := e_163v) (L := L_163v) (cs := cs_163v) (n := 2000) (d := d + 2) (A := A_163v) (μ := mu_163v) (tp := false) (p0 := p_163v_s) rfl ⟨m_51v (d + 1), ⟨m_53v d, trivial⟩⟩ rfl (.inl rfl) (by decide +kernel) (fun z => nomatch z) r_163v_s (allC c_163v_s_0 (allC c_163v_s_1 (allC c_163v_s_2 (allC c_163v_s_3 allN)))) allN
/- MixStage.old (III)I -/
noncomputable def s_164v : vM := ([(3, 11, 7, 0), (0, -2147483648, 2147483647, 0), (0, -2147483648, 2147483647, 0), (0, -2147483648, 2147483647, 0)], (0, -2147483648, 2147483647, 0), 1, 0, [])
def preb_164v (a0 a1 a2 a3 : Int) (h : gH) : Prop := KM h ∧ ICm h ∧ MT (mC h)
def pre_164v : List Int → gH → Prop := fun xs h => match xs with
  | [a0, a1, a2, a3] => preb_164v a0 a1 a2 a3 h
  | _ => False
def postb_164v (r a0 a1 a2 a3 : Int) (h0 h : gH) : Prop := r = mOld a1 a2 a3 (mC h0)
def post_164v : List Int → gH → gH → Prop := fun xs h0 h => match xs with
  | [r, a0, a1, a2, a3] => postb_164v r a0 a1 a2 a3 h0 h
  | _ => True
noncomputable def e_164v : vE := (164, s_164v, pre_164v, post_164v)
noncomputable def L_164v : List vE := [e_51v, e_53v, e_58v]
def cs_164v : List vC := []
def A_164v : Int → List Int → gH → gH → Prop := fun c xs h0 h => True
def mu_164v : Int → List Int → gH → gH → Nat := fun c xs h0 h => 0
theorem q_164v_0 {n0 n1 n2 n3 n4 : Int} {H0 : gH} (f0 : n0 ≤ 2147483647) (f1 : (-2147483648) ≤ n0) (f2 : n1 ≤ 2147483647) (f3 : (-2147483648) ≤ n1) (f4 : n2 ≤ 2147483647) (f5 : (-2147483648) ≤ n2) (f6 : n3 = 7) (f7 : hWt T0 H0 ∧ preb_164v n3 n2 n1 n0 H0) (f8 : n4 = 19) (f9 : n4 = hV H0 (n3).toNat 6) : preb_51v n4 n2 H0 := by
  exact trivial
theorem c_164v_s_0 : vOkm T0 (eP e_164v L_164v A_164v mu_164v none) 4 ([(20, [4, 0], [0], 6), (0, [4], [], 19), (6000, [0, 1, 2, 3], [0], 0), (0, [0], [], 7), (90, [1], [], -2147483648), (91, [1], [], 2147483647), (90, [2], [], -2147483648), (91, [2], [], 2147483647), (90, [3], [], -2147483648), (91, [3], [], 2147483647)], (2051, [4, 1], [0], 0)) := vOk_in fun ρ η h => by
  obtain ⟨f0, f1, f2, f3, f4, f5, f6, f7, f8, f9, _⟩ := h
  exact q_164v_0 (n0 := ρ 3) (n1 := ρ 2) (n2 := ρ 1) (n3 := ρ 0) (n4 := ρ 4) (H0 := η 0) f9 f8 f7 f6 f5 f4 f3 f2 f1 f0
theorem q_164v_1 {n0 n1 n2 n3 n4 n5 n6 : Int} {H0 H1 : gH} (f0 : n0 ≤ 2147483647) (f1 : (-2147483648) ≤ n0) (f2 : n1 ≤ 2147483647) (f3 : (-2147483648) ≤ n1) (f4 : n2 ≤ 2147483647) (f5 : (-2147483648) ≤ n2) (f6 : n3 = 7) (f7 : hWt T0 H0 ∧ preb_164v n3 n2 n1 n0 H0) (f8 : n4 = 19) (f9 : n4 = hV H0 (n3).toNat 6) (f10 : n5 ≤ 1) (f11 : 0 ≤ n5) (f12 : (hLe T0 H0 H1 ∧ hFr s_51v.2.2.2.2 H0 H1 ∧ ((0 : Int) = 0 → H1.length = H0.length) ∧ hWt T0 H1) ∧ postb_51v n5 n4 n2 H0 H1) (f13 : n5 = 0) (f14 : n6 = (-2)) : postb_164v n6 n3 n2 n1 n0 H0 H1 := by
  have pz := f7.2
  unfold preb_164v at pz
  obtain ⟨km, ic, mt⟩ := pz
  obtain ⟨mf, ms, me, m20, m21, m22, mz⟩ := MTc mt
  have e3H1 : hV H1 19 3 = hV H0 19 3 := f12.1.2.1.1 19 3 (by decide +kernel)
  have h12 := f12.2
  unfold postb_51v at h12
  rw [show hV H0 19 3 = hV H0 19 3 from rfl] at h12
  unfold postb_164v
  have k0 : ¬ (0 ≤ n2 ∧ n2 < hV H0 19 3) := fun c => by
    rw [if_pos c] at h12
    omega
  rw [show mOld n2 n1 n0 (mC H0) = _ from if_neg (show ¬ ((0 ≤ n2 ∧ n2 < hV H0 19 3) ∧ 0 ≤ n0 ∧ n0 ≤ n2 ∧ 0 ≤ n1 ∧ n1 < hV H0 20 (n2).toNat) by omega)]
  omega
theorem c_164v_s_1 : vOkm T0 (eP e_164v L_164v A_164v mu_164v none) 4 ([(0, [6], [], -2), (30, [5], [], 0), (1051, [5, 4, 1], [0, 1], 0), (90, [5], [], 0), (91, [5], [], 1), (20, [4, 0], [0], 6), (0, [4], [], 19), (6000, [0, 1, 2, 3], [0], 0), (0, [0], [], 7), (90, [1], [], -2147483648), (91, [1], [], 2147483647), (90, [2], [], -2147483648), (91, [2], [], 2147483647), (90, [3], [], -2147483648), (91, [3], [], 2147483647)], (3000, [6], [1], 45)) := vOk_in fun ρ η h => by
  obtain ⟨f0, f1, f2, f3, f4, f5, f6, f7, f8, f9, f10, f11, f12, f13, f14, _⟩ := h
  exact q_164v_1 (n0 := ρ 3) (n1 := ρ 2) (n2 := ρ 1) (n3 := ρ 0) (n4 := ρ 4) (n5 := ρ 5) (n6 := ρ 6) (H0 := η 0) (H1 := η 1) f14 f13 f12 f11 f10 f9 f8 f7 f6 f5 f4 f3 f2 f1 f0
theorem q_164v_2 {n0 n1 n2 n3 n4 n5 n6 : Int} {H0 H1 : gH} (f0 : n0 ≤ 2147483647) (f1 : (-2147483648) ≤ n0) (f2 : n1 ≤ 2147483647) (f3 : (-2147483648) ≤ n1) (f4 : n2 ≤ 2147483647) (f5 : (-2147483648) ≤ n2) (f6 : n3 = 7) (f7 : hWt T0 H0 ∧ preb_164v n3 n2 n1 n0 H0) (f8 : n4 = 19) (f9 : n4 = hV H0 (n3).toNat 6) (f10 : n5 ≤ 1) (f11 : 0 ≤ n5) (f12 : (hLe T0 H0 H1 ∧ hFr s_51v.2.2.2.2 H0 H1 ∧ ((0 : Int) = 0 → H1.length = H0.length) ∧ hWt T0 H1) ∧ postb_51v n5 n4 n2 H0 H1) (f13 : n5 ≠ 0) (f14 : n6 = 19) (f15 : n6 = hV H1 (n3).toNat 6) : preb_51v n6 n0 H1 := by
  exact trivial
theorem c_164v_s_2 : vOkm T0 (eP e_164v L_164v A_164v mu_164v none) 4 ([(20, [6, 0], [1], 6), (0, [6], [], 19), (31, [5], [], 0), (1051, [5, 4, 1], [0, 1], 0), (90, [5], [], 0), (91, [5], [], 1), (20, [4, 0], [0], 6), (0, [4], [], 19), (6000, [0, 1, 2, 3], [0], 0), (0, [0], [], 7), (90, [1], [], -2147483648), (91, [1], [], 2147483647), (90, [2], [], -2147483648), (91, [2], [], 2147483647), (90, [3], [], -2147483648), (91, [3], [], 2147483647)], (2051, [6, 3], [1], 0)) := vOk_in fun ρ η h => by
  obtain ⟨f0, f1, f2, f3, f4, f5, f6, f7, f8, f9, f10, f11, f12, f13, f14, f15, _⟩ := h
  exact q_164v_2 (n0 := ρ 3) (n1 := ρ 2) (n2 := ρ 1) (n3 := ρ 0) (n4 := ρ 4) (n5 := ρ 5) (n6 := ρ 6) (H0 := η 0) (H1 := η 1) f15 f14 f13 f12 f11 f10 f9 f8 f7 f6 f5 f4 f3 f2 f1 f0
theorem q_164v_3 {n0 n1 n2 n3 n4 n5 n6 n7 n8 : Int} {H0 H1 H2 : gH} (f0 : n0 ≤ 2147483647) (f1 : (-2147483648) ≤ n0) (f2 : n1 ≤ 2147483647) (f3 : (-2147483648) ≤ n1) (f4 : n2 ≤ 2147483647) (f5 : (-2147483648) ≤ n2) (f6 : n3 = 7) (f7 : hWt T0 H0 ∧ preb_164v n3 n2 n1 n0 H0) (f8 : n4 = 19) (f9 : n4 = hV H0 (n3).toNat 6) (f10 : n5 ≤ 1) (f11 : 0 ≤ n5) (f12 : (hLe T0 H0 H1 ∧ hFr s_51v.2.2.2.2 H0 H1 ∧ ((0 : Int) = 0 → H1.length = H0.length) ∧ hWt T0 H1) ∧ postb_51v n5 n4 n2 H0 H1) (f13 : n5 ≠ 0) (f14 : n6 = 19) (f15 : n6 = hV H1 (n3).toNat 6) (f16 : n7 ≤ 1) (f17 : 0 ≤ n7) (f18 : (hLe T0 H1 H2 ∧ hFr s_51v.2.2.2.2 H1 H2 ∧ ((0 : Int) = 0 → H2.length = H1.length) ∧ hWt T0 H2) ∧ postb_51v n7 n6 n0 H1 H2) (f19 : n7 = 0) (f20 : n8 = (-2)) : postb_164v n8 n3 n2 n1 n0 H0 H2 := by
  have pz := f7.2
  unfold preb_164v at pz
  obtain ⟨km, ic, mt⟩ := pz
  obtain ⟨mf, ms, me, m20, m21, m22, mz⟩ := MTc mt
  have e3H1 : hV H1 19 3 = hV H0 19 3 := f12.1.2.1.1 19 3 (by decide +kernel)
  have e3H2 : hV H2 19 3 = hV H0 19 3 := (f18.1.2.1.1 19 3 (by decide +kernel)).trans (f12.1.2.1.1 19 3 (by decide +kernel))
  have h12 := f12.2
  unfold postb_51v at h12
  rw [show hV H0 19 3 = hV H0 19 3 from rfl] at h12
  have h18 := f18.2
  unfold postb_51v at h18
  rw [show hV H1 19 3 = hV H0 19 3 from f12.1.2.1.1 19 3 (by decide +kernel)] at h18
  unfold postb_164v
  have k0 : 0 ≤ n2 ∧ n2 < hV H0 19 3 := by
    by_cases c : 0 ≤ n2 ∧ n2 < hV H0 19 3
    · exact c
    · rw [if_neg c] at h12
      omega
  have k1 : ¬ (0 ≤ n0 ∧ n0 < hV H0 19 3) := fun c => by
    rw [if_pos c] at h18
    omega
  rw [show mOld n2 n1 n0 (mC H0) = _ from if_neg (show ¬ ((0 ≤ n2 ∧ n2 < hV H0 19 3) ∧ 0 ≤ n0 ∧ n0 ≤ n2 ∧ 0 ≤ n1 ∧ n1 < hV H0 20 (n2).toNat) by omega)]
  omega
theorem c_164v_s_3 : vOkm T0 (eP e_164v L_164v A_164v mu_164v none) 4 ([(0, [8], [], -2), (30, [7], [], 0), (1051, [7, 6, 3], [1, 2], 0), (90, [7], [], 0), (91, [7], [], 1), (20, [6, 0], [1], 6), (0, [6], [], 19), (31, [5], [], 0), (1051, [5, 4, 1], [0, 1], 0), (90, [5], [], 0), (91, [5], [], 1), (20, [4, 0], [0], 6), (0, [4], [], 19), (6000, [0, 1, 2, 3], [0], 0), (0, [0], [], 7), (90, [1], [], -2147483648), (91, [1], [], 2147483647), (90, [2], [], -2147483648), (91, [2], [], 2147483647), (90, [3], [], -2147483648), (91, [3], [], 2147483647)], (3000, [8], [2], 45)) := vOk_in fun ρ η h => by
  obtain ⟨f0, f1, f2, f3, f4, f5, f6, f7, f8, f9, f10, f11, f12, f13, f14, f15, f16, f17, f18, f19, f20, _⟩ := h
  exact q_164v_3 (n0 := ρ 3) (n1 := ρ 2) (n2 := ρ 1) (n3 := ρ 0) (n4 := ρ 4) (n5 := ρ 5) (n6 := ρ 6) (n7 := ρ 7) (n8 := ρ 8) (H0 := η 0) (H1 := η 1) (H2 := η 2) f20 f19 f18 f17 f16 f15 f14 f13 f12 f11 f10 f9 f8 f7 f6 f5 f4 f3 f2 f1 f0
theorem q_164v_4 {n0 n1 n2 n3 n4 n5 n6 n7 n8 : Int} {H0 H1 H2 : gH} (f0 : n0 ≤ 2147483647) (f1 : (-2147483648) ≤ n0) (f2 : n1 ≤ 2147483647) (f3 : (-2147483648) ≤ n1) (f4 : n2 ≤ 2147483647) (f5 : (-2147483648) ≤ n2) (f6 : n3 = 7) (f7 : hWt T0 H0 ∧ preb_164v n3 n2 n1 n0 H0) (f8 : n4 = 19) (f9 : n4 = hV H0 (n3).toNat 6) (f10 : n5 ≤ 1) (f11 : 0 ≤ n5) (f12 : (hLe T0 H0 H1 ∧ hFr s_51v.2.2.2.2 H0 H1 ∧ ((0 : Int) = 0 → H1.length = H0.length) ∧ hWt T0 H1) ∧ postb_51v n5 n4 n2 H0 H1) (f13 : n5 ≠ 0) (f14 : n6 = 19) (f15 : n6 = hV H1 (n3).toNat 6) (f16 : n7 ≤ 1) (f17 : 0 ≤ n7) (f18 : (hLe T0 H1 H2 ∧ hFr s_51v.2.2.2.2 H1 H2 ∧ ((0 : Int) = 0 → H2.length = H1.length) ∧ hWt T0 H2) ∧ postb_51v n7 n6 n0 H1 H2) (f19 : n7 ≠ 0) (f20 : n2 < n0) (f21 : n8 = (-2)) : postb_164v n8 n3 n2 n1 n0 H0 H2 := by
  have pz := f7.2
  unfold preb_164v at pz
  obtain ⟨km, ic, mt⟩ := pz
  obtain ⟨mf, ms, me, m20, m21, m22, mz⟩ := MTc mt
  have e3H1 : hV H1 19 3 = hV H0 19 3 := f12.1.2.1.1 19 3 (by decide +kernel)
  have e3H2 : hV H2 19 3 = hV H0 19 3 := (f18.1.2.1.1 19 3 (by decide +kernel)).trans (f12.1.2.1.1 19 3 (by decide +kernel))
  have h12 := f12.2
  unfold postb_51v at h12
  rw [show hV H0 19 3 = hV H0 19 3 from rfl] at h12
  have h18 := f18.2
  unfold postb_51v at h18
  rw [show hV H1 19 3 = hV H0 19 3 from f12.1.2.1.1 19 3 (by decide +kernel)] at h18
  unfold postb_164v
  have k0 : 0 ≤ n2 ∧ n2 < hV H0 19 3 := by
    by_cases c : 0 ≤ n2 ∧ n2 < hV H0 19 3
    · exact c
    · rw [if_neg c] at h12
      omega
  have k1 : 0 ≤ n0 ∧ n0 < hV H0 19 3 := by
    by_cases c : 0 ≤ n0 ∧ n0 < hV H0 19 3
    · exact c
    · rw [if_neg c] at h18
      omega
  rw [show mOld n2 n1 n0 (mC H0) = _ from if_neg (show ¬ ((0 ≤ n2 ∧ n2 < hV H0 19 3) ∧ 0 ≤ n0 ∧ n0 ≤ n2 ∧ 0 ≤ n1 ∧ n1 < hV H0 20 (n2).toNat) by omega)]
  omega
theorem c_164v_s_4 : vOkm T0 (eP e_164v L_164v A_164v mu_164v none) 4 ([(0, [8], [], -2), (44, [3, 1], [], 0), (31, [7], [], 0), (1051, [7, 6, 3], [1, 2], 0), (90, [7], [], 0), (91, [7], [], 1), (20, [6, 0], [1], 6), (0, [6], [], 19), (31, [5], [], 0), (1051, [5, 4, 1], [0, 1], 0), (90, [5], [], 0), (91, [5], [], 1), (20, [4, 0], [0], 6), (0, [4], [], 19), (6000, [0, 1, 2, 3], [0], 0), (0, [0], [], 7), (90, [1], [], -2147483648), (91, [1], [], 2147483647), (90, [2], [], -2147483648), (91, [2], [], 2147483647), (90, [3], [], -2147483648), (91, [3], [], 2147483647)], (3000, [8], [2], 45)) := vOk_in fun ρ η h => by
  obtain ⟨f0, f1, f2, f3, f4, f5, f6, f7, f8, f9, f10, f11, f12, f13, f14, f15, f16, f17, f18, f19, f20, f21, _⟩ := h
  exact q_164v_4 (n0 := ρ 3) (n1 := ρ 2) (n2 := ρ 1) (n3 := ρ 0) (n4 := ρ 4) (n5 := ρ 5) (n6 := ρ 6) (n7 := ρ 7) (n8 := ρ 8) (H0 := η 0) (H1 := η 1) (H2 := η 2) f21 f20 f19 f18 f17 f16 f15 f14 f13 f12 f11 f10 f9 f8 f7 f6 f5 f4 f3 f2 f1 f0
theorem q_164v_5 {n0 n1 n2 n3 n4 n5 n6 n7 n8 : Int} {H0 H1 H2 : gH} (f0 : n0 ≤ 2147483647) (f1 : (-2147483648) ≤ n0) (f2 : n1 ≤ 2147483647) (f3 : (-2147483648) ≤ n1) (f4 : n2 ≤ 2147483647) (f5 : (-2147483648) ≤ n2) (f6 : n3 = 7) (f7 : hWt T0 H0 ∧ preb_164v n3 n2 n1 n0 H0) (f8 : n4 = 19) (f9 : n4 = hV H0 (n3).toNat 6) (f10 : n5 ≤ 1) (f11 : 0 ≤ n5) (f12 : (hLe T0 H0 H1 ∧ hFr s_51v.2.2.2.2 H0 H1 ∧ ((0 : Int) = 0 → H1.length = H0.length) ∧ hWt T0 H1) ∧ postb_51v n5 n4 n2 H0 H1) (f13 : n5 ≠ 0) (f14 : n6 = 19) (f15 : n6 = hV H1 (n3).toNat 6) (f16 : n7 ≤ 1) (f17 : 0 ≤ n7) (f18 : (hLe T0 H1 H2 ∧ hFr s_51v.2.2.2.2 H1 H2 ∧ ((0 : Int) = 0 → H2.length = H1.length) ∧ hWt T0 H2) ∧ postb_51v n7 n6 n0 H1 H2) (f19 : n7 ≠ 0) (f20 : n0 ≤ n2) (f21 : n1 < 0) (f22 : n8 = (-2)) : postb_164v n8 n3 n2 n1 n0 H0 H2 := by
  have pz := f7.2
  unfold preb_164v at pz
  obtain ⟨km, ic, mt⟩ := pz
  obtain ⟨mf, ms, me, m20, m21, m22, mz⟩ := MTc mt
  have e3H1 : hV H1 19 3 = hV H0 19 3 := f12.1.2.1.1 19 3 (by decide +kernel)
  have e3H2 : hV H2 19 3 = hV H0 19 3 := (f18.1.2.1.1 19 3 (by decide +kernel)).trans (f12.1.2.1.1 19 3 (by decide +kernel))
  have h12 := f12.2
  unfold postb_51v at h12
  rw [show hV H0 19 3 = hV H0 19 3 from rfl] at h12
  have h18 := f18.2
  unfold postb_51v at h18
  rw [show hV H1 19 3 = hV H0 19 3 from f12.1.2.1.1 19 3 (by decide +kernel)] at h18
  unfold postb_164v
  have k0 : 0 ≤ n2 ∧ n2 < hV H0 19 3 := by
    by_cases c : 0 ≤ n2 ∧ n2 < hV H0 19 3
    · exact c
    · rw [if_neg c] at h12
      omega
  have k1 : 0 ≤ n0 ∧ n0 < hV H0 19 3 := by
    by_cases c : 0 ≤ n0 ∧ n0 < hV H0 19 3
    · exact c
    · rw [if_neg c] at h18
      omega
  rw [show mOld n2 n1 n0 (mC H0) = _ from if_neg (show ¬ ((0 ≤ n2 ∧ n2 < hV H0 19 3) ∧ 0 ≤ n0 ∧ n0 ≤ n2 ∧ 0 ≤ n1 ∧ n1 < hV H0 20 (n2).toNat) by omega)]
  omega
theorem c_164v_s_5 : vOkm T0 (eP e_164v L_164v A_164v mu_164v none) 4 ([(0, [8], [], -2), (32, [2], [], 0), (45, [3, 1], [], 0), (31, [7], [], 0), (1051, [7, 6, 3], [1, 2], 0), (90, [7], [], 0), (91, [7], [], 1), (20, [6, 0], [1], 6), (0, [6], [], 19), (31, [5], [], 0), (1051, [5, 4, 1], [0, 1], 0), (90, [5], [], 0), (91, [5], [], 1), (20, [4, 0], [0], 6), (0, [4], [], 19), (6000, [0, 1, 2, 3], [0], 0), (0, [0], [], 7), (90, [1], [], -2147483648), (91, [1], [], 2147483647), (90, [2], [], -2147483648), (91, [2], [], 2147483647), (90, [3], [], -2147483648), (91, [3], [], 2147483647)], (3000, [8], [2], 45)) := vOk_in fun ρ η h => by
  obtain ⟨f0, f1, f2, f3, f4, f5, f6, f7, f8, f9, f10, f11, f12, f13, f14, f15, f16, f17, f18, f19, f20, f21, f22, _⟩ := h
  exact q_164v_5 (n0 := ρ 3) (n1 := ρ 2) (n2 := ρ 1) (n3 := ρ 0) (n4 := ρ 4) (n5 := ρ 5) (n6 := ρ 6) (n7 := ρ 7) (n8 := ρ 8) (H0 := η 0) (H1 := η 1) (H2 := η 2) f22 f21 f20 f19 f18 f17 f16 f15 f14 f13 f12 f11 f10 f9 f8 f7 f6 f5 f4 f3 f2 f1 f0
theorem q_164v_6 {n0 n1 n2 n3 n4 n5 n6 n7 n8 : Int} {H0 H1 H2 : gH} (f0 : n0 ≤ 2147483647) (f1 : (-2147483648) ≤ n0) (f2 : n1 ≤ 2147483647) (f3 : (-2147483648) ≤ n1) (f4 : n2 ≤ 2147483647) (f5 : (-2147483648) ≤ n2) (f6 : n3 = 7) (f7 : hWt T0 H0 ∧ preb_164v n3 n2 n1 n0 H0) (f8 : n4 = 19) (f9 : n4 = hV H0 (n3).toNat 6) (f10 : n5 ≤ 1) (f11 : 0 ≤ n5) (f12 : (hLe T0 H0 H1 ∧ hFr s_51v.2.2.2.2 H0 H1 ∧ ((0 : Int) = 0 → H1.length = H0.length) ∧ hWt T0 H1) ∧ postb_51v n5 n4 n2 H0 H1) (f13 : n5 ≠ 0) (f14 : n6 = 19) (f15 : n6 = hV H1 (n3).toNat 6) (f16 : n7 ≤ 1) (f17 : 0 ≤ n7) (f18 : (hLe T0 H1 H2 ∧ hFr s_51v.2.2.2.2 H1 H2 ∧ ((0 : Int) = 0 → H2.length = H1.length) ∧ hWt T0 H2) ∧ postb_51v n7 n6 n0 H1 H2) (f19 : n7 ≠ 0) (f20 : n0 ≤ n2) (f21 : 0 ≤ n1) (f22 : n8 = 19) (f23 : n8 = hV H2 (n3).toNat 6) : preb_53v n8 n2 H2 := by
  have pz := f7.2
  unfold preb_164v at pz
  obtain ⟨km, ic, mt⟩ := pz
  obtain ⟨mf, ms, me, m20, m21, m22, mz⟩ := MTc mt
  unfold preb_53v
  exact (KM_le f18.1.1 (KM_le f12.1.1 km))
theorem c_164v_s_6 : vOkm T0 (eP e_164v L_164v A_164v mu_164v none) 4 ([(20, [8, 0], [2], 6), (0, [8], [], 19), (33, [2], [], 0), (45, [3, 1], [], 0), (31, [7], [], 0), (1051, [7, 6, 3], [1, 2], 0), (90, [7], [], 0), (91, [7], [], 1), (20, [6, 0], [1], 6), (0, [6], [], 19), (31, [5], [], 0), (1051, [5, 4, 1], [0, 1], 0), (90, [5], [], 0), (91, [5], [], 1), (20, [4, 0], [0], 6), (0, [4], [], 19), (6000, [0, 1, 2, 3], [0], 0), (0, [0], [], 7), (90, [1], [], -2147483648), (91, [1], [], 2147483647), (90, [2], [], -2147483648), (91, [2], [], 2147483647), (90, [3], [], -2147483648), (91, [3], [], 2147483647)], (2053, [8, 1], [2], 0)) := vOk_in fun ρ η h => by
  obtain ⟨f0, f1, f2, f3, f4, f5, f6, f7, f8, f9, f10, f11, f12, f13, f14, f15, f16, f17, f18, f19, f20, f21, f22, f23, _⟩ := h
  exact q_164v_6 (n0 := ρ 3) (n1 := ρ 2) (n2 := ρ 1) (n3 := ρ 0) (n4 := ρ 4) (n5 := ρ 5) (n6 := ρ 6) (n7 := ρ 7) (n8 := ρ 8) (H0 := η 0) (H1 := η 1) (H2 := η 2) f23 f22 f21 f20 f19 f18 f17 f16 f15 f14 f13 f12 f11 f10 f9 f8 f7 f6 f5 f4 f3 f2 f1 f0
theorem q_164v_7 {n0 n1 n2 n3 n4 n5 n6 n7 n8 n9 n10 : Int} {H0 H1 H2 H3 : gH} (f0 : n0 ≤ 2147483647) (f1 : (-2147483648) ≤ n0) (f2 : n1 ≤ 2147483647) (f3 : (-2147483648) ≤ n1) (f4 : n2 ≤ 2147483647) (f5 : (-2147483648) ≤ n2) (f6 : n3 = 7) (f7 : hWt T0 H0 ∧ preb_164v n3 n2 n1 n0 H0) (f8 : n4 = 19) (f9 : n4 = hV H0 (n3).toNat 6) (f10 : n5 ≤ 1) (f11 : 0 ≤ n5) (f12 : (hLe T0 H0 H1 ∧ hFr s_51v.2.2.2.2 H0 H1 ∧ ((0 : Int) = 0 → H1.length = H0.length) ∧ hWt T0 H1) ∧ postb_51v n5 n4 n2 H0 H1) (f13 : n5 ≠ 0) (f14 : n6 = 19) (f15 : n6 = hV H1 (n3).toNat 6) (f16 : n7 ≤ 1) (f17 : 0 ≤ n7) (f18 : (hLe T0 H1 H2 ∧ hFr s_51v.2.2.2.2 H1 H2 ∧ ((0 : Int) = 0 → H2.length = H1.length) ∧ hWt T0 H2) ∧ postb_51v n7 n6 n0 H1 H2) (f19 : n7 ≠ 0) (f20 : n0 ≤ n2) (f21 : 0 ≤ n1) (f22 : n8 = 19) (f23 : n8 = hV H2 (n3).toNat 6) (f24 : n9 ≤ 2147483647) (f25 : (-2147483648) ≤ n9) (f26 : (hLe T0 H2 H3 ∧ hFr s_53v.2.2.2.2 H2 H3 ∧ ((0 : Int) = 0 → H3.length = H2.length) ∧ hWt T0 H3) ∧ postb_53v n9 n8 n2 H2 H3) (f27 : n1 < n9) (f28 : n10 = 19) (f29 : n10 = hV H3 (n3).toNat 6) : preb_58v n10 n2 n1 n0 H3 := by
  have pz := f7.2
  unfold preb_164v at pz
  obtain ⟨km, ic, mt⟩ := pz
  obtain ⟨mf, ms, me, m20, m21, m22, mz⟩ := MTc mt
  have z26 := f26.2
  unfold postb_53v at z26
  rw [(ER_tr (ER_fr f12.1.2.1 (by decide +kernel)) (ER_fr f18.1.2.1 (by decide +kernel))).1] at z26
  have e3H1 : hV H1 19 3 = hV H0 19 3 := f12.1.2.1.1 19 3 (by decide +kernel)
  have e3H2 : hV H2 19 3 = hV H0 19 3 := (f18.1.2.1.1 19 3 (by decide +kernel)).trans (f12.1.2.1.1 19 3 (by decide +kernel))
  have e3H3 : hV H3 19 3 = hV H0 19 3 := (f26.1.2.1.1 19 3 (by decide +kernel)).trans ((f18.1.2.1.1 19 3 (by decide +kernel)).trans (f12.1.2.1.1 19 3 (by decide +kernel)))
  have h12 := f12.2
  unfold postb_51v at h12
  rw [show hV H0 19 3 = hV H0 19 3 from rfl] at h12
  have h18 := f18.2
  unfold postb_51v at h18
  rw [show hV H1 19 3 = hV H0 19 3 from f12.1.2.1.1 19 3 (by decide +kernel)] at h18
  have sb := m20 (n2).toNat
  have k1 : 0 ≤ n2 ∧ n2 < hV H0 19 3 := by
    by_cases c : 0 ≤ n2 ∧ n2 < hV H0 19 3
    · exact c
    · rw [if_neg c] at h12
      omega
  have k2 : 0 ≤ n0 ∧ n0 < hV H0 19 3 := by
    by_cases c : 0 ≤ n0 ∧ n0 < hV H0 19 3
    · exact c
    · rw [if_neg c] at h18
      omega
  rw [if_pos (by omega)] at z26
  unfold preb_58v
  exact ⟨(KM_le f26.1.1 (KM_le f18.1.1 (KM_le f12.1.1 km))), by rw [show mC H3 = mC H0 from (mC_fr f26.1.2.1 (by decide +kernel)).trans ((mC_fr f18.1.2.1 (by decide +kernel)).trans (mC_fr f12.1.2.1 (by decide +kernel)))]; exact mt, by omega, by omega, by omega, by omega, by omega, by omega⟩
theorem c_164v_s_7 : vOkm T0 (eP e_164v L_164v A_164v mu_164v none) 4 ([(20, [10, 0], [3], 6), (0, [10], [], 19), (42, [2, 9], [], 0), (1053, [9, 8, 1], [2, 3], 0), (90, [9], [], -2147483648), (91, [9], [], 2147483647), (20, [8, 0], [2], 6), (0, [8], [], 19), (33, [2], [], 0), (45, [3, 1], [], 0), (31, [7], [], 0), (1051, [7, 6, 3], [1, 2], 0), (90, [7], [], 0), (91, [7], [], 1), (20, [6, 0], [1], 6), (0, [6], [], 19), (31, [5], [], 0), (1051, [5, 4, 1], [0, 1], 0), (90, [5], [], 0), (91, [5], [], 1), (20, [4, 0], [0], 6), (0, [4], [], 19), (6000, [0, 1, 2, 3], [0], 0), (0, [0], [], 7), (90, [1], [], -2147483648), (91, [1], [], 2147483647), (90, [2], [], -2147483648), (91, [2], [], 2147483647), (90, [3], [], -2147483648), (91, [3], [], 2147483647)], (2058, [10, 1, 2, 3], [3], 0)) := vOk_in fun ρ η h => by
  obtain ⟨f0, f1, f2, f3, f4, f5, f6, f7, f8, f9, f10, f11, f12, f13, f14, f15, f16, f17, f18, f19, f20, f21, f22, f23, f24, f25, f26, f27, f28, f29, _⟩ := h
  exact q_164v_7 (n0 := ρ 3) (n1 := ρ 2) (n2 := ρ 1) (n3 := ρ 0) (n4 := ρ 4) (n5 := ρ 5) (n6 := ρ 6) (n7 := ρ 7) (n8 := ρ 8) (n9 := ρ 9) (n10 := ρ 10) (H0 := η 0) (H1 := η 1) (H2 := η 2) (H3 := η 3) f29 f28 f27 f26 f25 f24 f23 f22 f21 f20 f19 f18 f17 f16 f15 f14 f13 f12 f11 f10 f9 f8 f7 f6 f5 f4 f3 f2 f1 f0
theorem q_164v_8 {n0 n1 n2 n3 n4 n5 n6 n7 n8 n9 n10 n11 : Int} {H0 H1 H2 H3 H4 : gH} (f0 : n0 ≤ 2147483647) (f1 : (-2147483648) ≤ n0) (f2 : n1 ≤ 2147483647) (f3 : (-2147483648) ≤ n1) (f4 : n2 ≤ 2147483647) (f5 : (-2147483648) ≤ n2) (f6 : n3 = 7) (f7 : hWt T0 H0 ∧ preb_164v n3 n2 n1 n0 H0) (f8 : n4 = 19) (f9 : n4 = hV H0 (n3).toNat 6) (f10 : n5 ≤ 1) (f11 : 0 ≤ n5) (f12 : (hLe T0 H0 H1 ∧ hFr s_51v.2.2.2.2 H0 H1 ∧ ((0 : Int) = 0 → H1.length = H0.length) ∧ hWt T0 H1) ∧ postb_51v n5 n4 n2 H0 H1) (f13 : n5 ≠ 0) (f14 : n6 = 19) (f15 : n6 = hV H1 (n3).toNat 6) (f16 : n7 ≤ 1) (f17 : 0 ≤ n7) (f18 : (hLe T0 H1 H2 ∧ hFr s_51v.2.2.2.2 H1 H2 ∧ ((0 : Int) = 0 → H2.length = H1.length) ∧ hWt T0 H2) ∧ postb_51v n7 n6 n0 H1 H2) (f19 : n7 ≠ 0) (f20 : n0 ≤ n2) (f21 : 0 ≤ n1) (f22 : n8 = 19) (f23 : n8 = hV H2 (n3).toNat 6) (f24 : n9 ≤ 2147483647) (f25 : (-2147483648) ≤ n9) (f26 : (hLe T0 H2 H3 ∧ hFr s_53v.2.2.2.2 H2 H3 ∧ ((0 : Int) = 0 → H3.length = H2.length) ∧ hWt T0 H3) ∧ postb_53v n9 n8 n2 H2 H3) (f27 : n1 < n9) (f28 : n10 = 19) (f29 : n10 = hV H3 (n3).toNat 6) (f30 : n11 ≤ 2147483647) (f31 : (-2147483648) ≤ n11) (f32 : (hLe T0 H3 H4 ∧ hFr s_58v.2.2.2.2 H3 H4 ∧ ((0 : Int) = 0 → H4.length = H3.length) ∧ hWt T0 H4) ∧ postb_58v n11 n10 n2 n1 n0 H3 H4) : postb_164v n11 n3 n2 n1 n0 H0 H4 := by
  have pz := f7.2
  unfold preb_164v at pz
  obtain ⟨km, ic, mt⟩ := pz
  obtain ⟨mf, ms, me, m20, m21, m22, mz⟩ := MTc mt
  have z26 := f26.2
  unfold postb_53v at z26
  rw [(ER_tr (ER_fr f12.1.2.1 (by decide +kernel)) (ER_fr f18.1.2.1 (by decide +kernel))).1] at z26
  have e3H1 : hV H1 19 3 = hV H0 19 3 := f12.1.2.1.1 19 3 (by decide +kernel)
  have e3H2 : hV H2 19 3 = hV H0 19 3 := (f18.1.2.1.1 19 3 (by decide +kernel)).trans (f12.1.2.1.1 19 3 (by decide +kernel))
  have e3H3 : hV H3 19 3 = hV H0 19 3 := (f26.1.2.1.1 19 3 (by decide +kernel)).trans ((f18.1.2.1.1 19 3 (by decide +kernel)).trans (f12.1.2.1.1 19 3 (by decide +kernel)))
  have e3H4 : hV H4 19 3 = hV H0 19 3 := (f32.1.2.1.1 19 3 (by decide +kernel)).trans ((f26.1.2.1.1 19 3 (by decide +kernel)).trans ((f18.1.2.1.1 19 3 (by decide +kernel)).trans (f12.1.2.1.1 19 3 (by decide +kernel))))
  have h12 := f12.2
  unfold postb_51v at h12
  rw [show hV H0 19 3 = hV H0 19 3 from rfl] at h12
  have h18 := f18.2
  unfold postb_51v at h18
  rw [show hV H1 19 3 = hV H0 19 3 from f12.1.2.1.1 19 3 (by decide +kernel)] at h18
  have sb := m20 (n2).toNat
  unfold postb_164v
  have k0 : 0 ≤ n2 ∧ n2 < hV H0 19 3 := by
    by_cases c : 0 ≤ n2 ∧ n2 < hV H0 19 3
    · exact c
    · rw [if_neg c] at h12
      omega
  have k1 : 0 ≤ n0 ∧ n0 < hV H0 19 3 := by
    by_cases c : 0 ≤ n0 ∧ n0 < hV H0 19 3
    · exact c
    · rw [if_neg c] at h18
      omega
  rw [if_pos (by omega)] at z26
  have q := f32.2
  unfold postb_58v at q
  rw [(ER_tr (ER_tr (ER_fr f12.1.2.1 (by decide +kernel)) (ER_fr f18.1.2.1 (by decide +kernel))) (ER_fr f26.1.2.1 (by decide +kernel))).2.2] at q
  rw [show mOld n2 n1 n0 (mC H0) = _ from if_pos (show (0 ≤ n2 ∧ n2 < hV H0 19 3) ∧ 0 ≤ n0 ∧ n0 ≤ n2 ∧ 0 ≤ n1 ∧ n1 < hV H0 20 (n2).toNat by omega)]
  exact q
theorem c_164v_s_8 : vOkm T0 (eP e_164v L_164v A_164v mu_164v none) 4 ([(1058, [11, 10, 1, 2, 3], [3, 4], 0), (90, [11], [], -2147483648), (91, [11], [], 2147483647), (20, [10, 0], [3], 6), (0, [10], [], 19), (42, [2, 9], [], 0), (1053, [9, 8, 1], [2, 3], 0), (90, [9], [], -2147483648), (91, [9], [], 2147483647), (20, [8, 0], [2], 6), (0, [8], [], 19), (33, [2], [], 0), (45, [3, 1], [], 0), (31, [7], [], 0), (1051, [7, 6, 3], [1, 2], 0), (90, [7], [], 0), (91, [7], [], 1), (20, [6, 0], [1], 6), (0, [6], [], 19), (31, [5], [], 0), (1051, [5, 4, 1], [0, 1], 0), (90, [5], [], 0), (91, [5], [], 1), (20, [4, 0], [0], 6), (0, [4], [], 19), (6000, [0, 1, 2, 3], [0], 0), (0, [0], [], 7), (90, [1], [], -2147483648), (91, [1], [], 2147483647), (90, [2], [], -2147483648), (91, [2], [], 2147483647), (90, [3], [], -2147483648), (91, [3], [], 2147483647)], (3000, [11], [4], 56)) := vOk_in fun ρ η h => by
  obtain ⟨f0, f1, f2, f3, f4, f5, f6, f7, f8, f9, f10, f11, f12, f13, f14, f15, f16, f17, f18, f19, f20, f21, f22, f23, f24, f25, f26, f27, f28, f29, f30, f31, f32, _⟩ := h
  exact q_164v_8 (n0 := ρ 3) (n1 := ρ 2) (n2 := ρ 1) (n3 := ρ 0) (n4 := ρ 4) (n5 := ρ 5) (n6 := ρ 6) (n7 := ρ 7) (n8 := ρ 8) (n9 := ρ 9) (n10 := ρ 10) (n11 := ρ 11) (H0 := η 0) (H1 := η 1) (H2 := η 2) (H3 := η 3) (H4 := η 4) f32 f31 f30 f29 f28 f27 f26 f25 f24 f23 f22 f21 f20 f19 f18 f17 f16 f15 f14 f13 f12 f11 f10 f9 f8 f7 f6 f5 f4 f3 f2 f1 f0
theorem q_164v_9 {n0 n1 n2 n3 n4 n5 n6 n7 n8 n9 n10 : Int} {H0 H1 H2 H3 : gH} (f0 : n0 ≤ 2147483647) (f1 : (-2147483648) ≤ n0) (f2 : n1 ≤ 2147483647) (f3 : (-2147483648) ≤ n1) (f4 : n2 ≤ 2147483647) (f5 : (-2147483648) ≤ n2) (f6 : n3 = 7) (f7 : hWt T0 H0 ∧ preb_164v n3 n2 n1 n0 H0) (f8 : n4 = 19) (f9 : n4 = hV H0 (n3).toNat 6) (f10 : n5 ≤ 1) (f11 : 0 ≤ n5) (f12 : (hLe T0 H0 H1 ∧ hFr s_51v.2.2.2.2 H0 H1 ∧ ((0 : Int) = 0 → H1.length = H0.length) ∧ hWt T0 H1) ∧ postb_51v n5 n4 n2 H0 H1) (f13 : n5 ≠ 0) (f14 : n6 = 19) (f15 : n6 = hV H1 (n3).toNat 6) (f16 : n7 ≤ 1) (f17 : 0 ≤ n7) (f18 : (hLe T0 H1 H2 ∧ hFr s_51v.2.2.2.2 H1 H2 ∧ ((0 : Int) = 0 → H2.length = H1.length) ∧ hWt T0 H2) ∧ postb_51v n7 n6 n0 H1 H2) (f19 : n7 ≠ 0) (f20 : n0 ≤ n2) (f21 : 0 ≤ n1) (f22 : n8 = 19) (f23 : n8 = hV H2 (n3).toNat 6) (f24 : n9 ≤ 2147483647) (f25 : (-2147483648) ≤ n9) (f26 : (hLe T0 H2 H3 ∧ hFr s_53v.2.2.2.2 H2 H3 ∧ ((0 : Int) = 0 → H3.length = H2.length) ∧ hWt T0 H3) ∧ postb_53v n9 n8 n2 H2 H3) (f27 : n9 ≤ n1) (f28 : n10 = (-2)) : postb_164v n10 n3 n2 n1 n0 H0 H3 := by
  have pz := f7.2
  unfold preb_164v at pz
  obtain ⟨km, ic, mt⟩ := pz
  obtain ⟨mf, ms, me, m20, m21, m22, mz⟩ := MTc mt
  have z26 := f26.2
  unfold postb_53v at z26
  rw [(ER_tr (ER_fr f12.1.2.1 (by decide +kernel)) (ER_fr f18.1.2.1 (by decide +kernel))).1] at z26
  have e3H1 : hV H1 19 3 = hV H0 19 3 := f12.1.2.1.1 19 3 (by decide +kernel)
  have e3H2 : hV H2 19 3 = hV H0 19 3 := (f18.1.2.1.1 19 3 (by decide +kernel)).trans (f12.1.2.1.1 19 3 (by decide +kernel))
  have e3H3 : hV H3 19 3 = hV H0 19 3 := (f26.1.2.1.1 19 3 (by decide +kernel)).trans ((f18.1.2.1.1 19 3 (by decide +kernel)).trans (f12.1.2.1.1 19 3 (by decide +kernel)))
  have h12 := f12.2
  unfold postb_51v at h12
  rw [show hV H0 19 3 = hV H0 19 3 from rfl] at h12
  have h18 := f18.2
  unfold postb_51v at h18
  rw [show hV H1 19 3 = hV H0 19 3 from f12.1.2.1.1 19 3 (by decide +kernel)] at h18
  have sb := m20 (n2).toNat
  unfold postb_164v
  have k0 : 0 ≤ n2 ∧ n2 < hV H0 19 3 := by
    by_cases c : 0 ≤ n2 ∧ n2 < hV H0 19 3
    · exact c
    · rw [if_neg c] at h12
      omega
  have k1 : 0 ≤ n0 ∧ n0 < hV H0 19 3 := by
    by_cases c : 0 ≤ n0 ∧ n0 < hV H0 19 3
    · exact c
    · rw [if_neg c] at h18
      omega
  rw [if_pos (by omega)] at z26
  rw [show mOld n2 n1 n0 (mC H0) = _ from if_neg (show ¬ ((0 ≤ n2 ∧ n2 < hV H0 19 3) ∧ 0 ≤ n0 ∧ n0 ≤ n2 ∧ 0 ≤ n1 ∧ n1 < hV H0 20 (n2).toNat) by omega)]
  omega
theorem c_164v_s_9 : vOkm T0 (eP e_164v L_164v A_164v mu_164v none) 4 ([(0, [10], [], -2), (43, [2, 9], [], 0), (1053, [9, 8, 1], [2, 3], 0), (90, [9], [], -2147483648), (91, [9], [], 2147483647), (20, [8, 0], [2], 6), (0, [8], [], 19), (33, [2], [], 0), (45, [3, 1], [], 0), (31, [7], [], 0), (1051, [7, 6, 3], [1, 2], 0), (90, [7], [], 0), (91, [7], [], 1), (20, [6, 0], [1], 6), (0, [6], [], 19), (31, [5], [], 0), (1051, [5, 4, 1], [0, 1], 0), (90, [5], [], 0), (91, [5], [], 1), (20, [4, 0], [0], 6), (0, [4], [], 19), (6000, [0, 1, 2, 3], [0], 0), (0, [0], [], 7), (90, [1], [], -2147483648), (91, [1], [], 2147483647), (90, [2], [], -2147483648), (91, [2], [], 2147483647), (90, [3], [], -2147483648), (91, [3], [], 2147483647)], (3000, [10], [3], 45)) := vOk_in fun ρ η h => by
  obtain ⟨f0, f1, f2, f3, f4, f5, f6, f7, f8, f9, f10, f11, f12, f13, f14, f15, f16, f17, f18, f19, f20, f21, f22, f23, f24, f25, f26, f27, f28, _⟩ := h
  exact q_164v_9 (n0 := ρ 3) (n1 := ρ 2) (n2 := ρ 1) (n3 := ρ 0) (n4 := ρ 4) (n5 := ρ 5) (n6 := ρ 6) (n7 := ρ 7) (n8 := ρ 8) (n9 := ρ 9) (n10 := ρ 10) (H0 := η 0) (H1 := η 1) (H2 := η 2) (H3 := η 3) f28 f27 f26 f25 f24 f23 f22 f21 f20 f19 f18 f17 f16 f15 f14 f13 f12 f11 f10 f9 f8 f7 f6 f5 f4 f3 f2 f1 f0
def p_164v_s : List vG := [([(20, [4, 0], [0], 6), (0, [4], [], 19), (6000, [0, 1, 2, 3], [0], 0), (0, [0], [], 7), (90, [1], [], -2147483648), (91, [1], [], 2147483647), (90, [2], [], -2147483648), (91, [2], [], 2147483647), (90, [3], [], -2147483648), (91, [3], [], 2147483647)], (2051, [4, 1], [0], 0)),
  ([(0, [6], [], -2), (30, [5], [], 0), (1051, [5, 4, 1], [0, 1], 0), (90, [5], [], 0), (91, [5], [], 1), (20, [4, 0], [0], 6), (0, [4], [], 19), (6000, [0, 1, 2, 3], [0], 0), (0, [0], [], 7), (90, [1], [], -2147483648), (91, [1], [], 2147483647), (90, [2], [], -2147483648), (91, [2], [], 2147483647), (90, [3], [], -2147483648), (91, [3], [], 2147483647)], (3000, [6], [1], 45)),
  ([(20, [6, 0], [1], 6), (0, [6], [], 19), (31, [5], [], 0), (1051, [5, 4, 1], [0, 1], 0), (90, [5], [], 0), (91, [5], [], 1), (20, [4, 0], [0], 6), (0, [4], [], 19), (6000, [0, 1, 2, 3], [0], 0), (0, [0], [], 7), (90, [1], [], -2147483648), (91, [1], [], 2147483647), (90, [2], [], -2147483648), (91, [2], [], 2147483647), (90, [3], [], -2147483648), (91, [3], [], 2147483647)], (2051, [6, 3], [1], 0)),
  ([(0, [8], [], -2), (30, [7], [], 0), (1051, [7, 6, 3], [1, 2], 0), (90, [7], [], 0), (91, [7], [], 1), (20, [6, 0], [1], 6), (0, [6], [], 19), (31, [5], [], 0), (1051, [5, 4, 1], [0, 1], 0), (90, [5], [], 0), (91, [5], [], 1), (20, [4, 0], [0], 6), (0, [4], [], 19), (6000, [0, 1, 2, 3], [0], 0), (0, [0], [], 7), (90, [1], [], -2147483648), (91, [1], [], 2147483647), (90, [2], [], -2147483648), (91, [2], [], 2147483647), (90, [3], [], -2147483648), (91, [3], [], 2147483647)], (3000, [8], [2], 45)),
  ([(0, [8], [], -2), (44, [3, 1], [], 0), (31, [7], [], 0), (1051, [7, 6, 3], [1, 2], 0), (90, [7], [], 0), (91, [7], [], 1), (20, [6, 0], [1], 6), (0, [6], [], 19), (31, [5], [], 0), (1051, [5, 4, 1], [0, 1], 0), (90, [5], [], 0), (91, [5], [], 1), (20, [4, 0], [0], 6), (0, [4], [], 19), (6000, [0, 1, 2, 3], [0], 0), (0, [0], [], 7), (90, [1], [], -2147483648), (91, [1], [], 2147483647), (90, [2], [], -2147483648), (91, [2], [], 2147483647), (90, [3], [], -2147483648), (91, [3], [], 2147483647)], (3000, [8], [2], 45)),
  ([(0, [8], [], -2), (32, [2], [], 0), (45, [3, 1], [], 0), (31, [7], [], 0), (1051, [7, 6, 3], [1, 2], 0), (90, [7], [], 0), (91, [7], [], 1), (20, [6, 0], [1], 6), (0, [6], [], 19), (31, [5], [], 0), (1051, [5, 4, 1], [0, 1], 0), (90, [5], [], 0), (91, [5], [], 1), (20, [4, 0], [0], 6), (0, [4], [], 19), (6000, [0, 1, 2, 3], [0], 0), (0, [0], [], 7), (90, [1], [], -2147483648), (91, [1], [], 2147483647), (90, [2], [], -2147483648), (91, [2], [], 2147483647), (90, [3], [], -2147483648), (91, [3], [], 2147483647)], (3000, [8], [2], 45)),
  ([(20, [8, 0], [2], 6), (0, [8], [], 19), (33, [2], [], 0), (45, [3, 1], [], 0), (31, [7], [], 0), (1051, [7, 6, 3], [1, 2], 0), (90, [7], [], 0), (91, [7], [], 1), (20, [6, 0], [1], 6), (0, [6], [], 19), (31, [5], [], 0), (1051, [5, 4, 1], [0, 1], 0), (90, [5], [], 0), (91, [5], [], 1), (20, [4, 0], [0], 6), (0, [4], [], 19), (6000, [0, 1, 2, 3], [0], 0), (0, [0], [], 7), (90, [1], [], -2147483648), (91, [1], [], 2147483647), (90, [2], [], -2147483648), (91, [2], [], 2147483647), (90, [3], [], -2147483648), (91, [3], [], 2147483647)], (2053, [8, 1], [2], 0)),
  ([(20, [10, 0], [3], 6), (0, [10], [], 19), (42, [2, 9], [], 0), (1053, [9, 8, 1], [2, 3], 0), (90, [9], [], -2147483648), (91, [9], [], 2147483647), (20, [8, 0], [2], 6), (0, [8], [], 19), (33, [2], [], 0), (45, [3, 1], [], 0), (31, [7], [], 0), (1051, [7, 6, 3], [1, 2], 0), (90, [7], [], 0), (91, [7], [], 1), (20, [6, 0], [1], 6), (0, [6], [], 19), (31, [5], [], 0), (1051, [5, 4, 1], [0, 1], 0), (90, [5], [], 0), (91, [5], [], 1), (20, [4, 0], [0], 6), (0, [4], [], 19), (6000, [0, 1, 2, 3], [0], 0), (0, [0], [], 7), (90, [1], [], -2147483648), (91, [1], [], 2147483647), (90, [2], [], -2147483648), (91, [2], [], 2147483647), (90, [3], [], -2147483648), (91, [3], [], 2147483647)], (2058, [10, 1, 2, 3], [3], 0)),
  ([(1058, [11, 10, 1, 2, 3], [3, 4], 0), (90, [11], [], -2147483648), (91, [11], [], 2147483647), (20, [10, 0], [3], 6), (0, [10], [], 19), (42, [2, 9], [], 0), (1053, [9, 8, 1], [2, 3], 0), (90, [9], [], -2147483648), (91, [9], [], 2147483647), (20, [8, 0], [2], 6), (0, [8], [], 19), (33, [2], [], 0), (45, [3, 1], [], 0), (31, [7], [], 0), (1051, [7, 6, 3], [1, 2], 0), (90, [7], [], 0), (91, [7], [], 1), (20, [6, 0], [1], 6), (0, [6], [], 19), (31, [5], [], 0), (1051, [5, 4, 1], [0, 1], 0), (90, [5], [], 0), (91, [5], [], 1), (20, [4, 0], [0], 6), (0, [4], [], 19), (6000, [0, 1, 2, 3], [0], 0), (0, [0], [], 7), (90, [1], [], -2147483648), (91, [1], [], 2147483647), (90, [2], [], -2147483648), (91, [2], [], 2147483647), (90, [3], [], -2147483648), (91, [3], [], 2147483647)], (3000, [11], [4], 56)),
  ([(0, [10], [], -2), (43, [2, 9], [], 0), (1053, [9, 8, 1], [2, 3], 0), (90, [9], [], -2147483648), (91, [9], [], 2147483647), (20, [8, 0], [2], 6), (0, [8], [], 19), (33, [2], [], 0), (45, [3, 1], [], 0), (31, [7], [], 0), (1051, [7, 6, 3], [1, 2], 0), (90, [7], [], 0), (91, [7], [], 1), (20, [6, 0], [1], 6), (0, [6], [], 19), (31, [5], [], 0), (1051, [5, 4, 1], [0, 1], 0), (90, [5], [], 0), (91, [5], [], 1), (20, [4, 0], [0], 6), (0, [4], [], 19), (6000, [0, 1, 2, 3], [0], 0), (0, [0], [], 7), (90, [1], [], -2147483648), (91, [1], [], 2147483647), (90, [2], [], -2147483648), (91, [2], [], 2147483647), (90, [3], [], -2147483648), (91, [3], [], 2147483647)], (3000, [10], [3], 45))]
theorem r_164v_s : vCovO false (eR0 e_164v L_164v cs_164v 2000) p_164v_s = true := by decide +kernel
theorem m_164v (d : Nat) : eC e_164v (d + 3) := eC_ok (e := e_164v) (L := L_164v) (cs := cs_164v) (n := 2000) (d := d + 2) (A := A_164v) (μ := mu_164v) (tp := false) (p0 := p_164v_s) rfl ⟨m_51v (d + 1), ⟨m_53v d, ⟨m_58v d, trivial⟩⟩⟩ rfl (.inl rfl) (by decide +kernel) (fun z => nomatch z) r_164v_s (allC c_164v_s_0 (allC c_164v_s_1 (allC c_164v_s_2 (allC c_164v_s_3 (allC c_164v_s_4 (allC c_164v_s_5 (allC c_164v_s_6 (allC c_164v_s_7 (allC c_164v_s_8 (allC c_164v_s_9 allN)))))))))) allN
