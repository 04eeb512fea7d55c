/- MixStage.at ([JI)J -/
noncomputable def s_200vk733 : vM := ([(2, 733, -1, 0), (0, -2147483648, 2147483647, 0)], (1, 0, 0, 0), 0, 0, [])
def postb_200vk733 (r a0 a1 : Int) (h0 h : gH) : Prop := r = atQ h0 a0 a1
def post_200vk733 : List Int → gH → gH → Prop := fun xs h0 h => match xs with
  | [r, a0, a1] => postb_200vk733 r a0 a1 h0 h
  | _ => True
noncomputable def e_200vk733 : vE := (200, s_200vk733, pre0, post_200vk733)
noncomputable def L_200vk733 : List vE := []
def cs_200vk733 : List vC := []
def A_200vk733 : Int → List Int → gH → gH → Prop := fun c xs h0 h => True
def mu_200vk733 : Int → List Int → gH → gH → Nat := fun c xs h0 h => 0
theorem q_200vk733_0 {n0 n1 n2 : Int} {H0 : gH} (f0 : n0 ≤ 2147483647) (f1 : (-2147483648) ≤ n0) (f2 : hWt T0 H0 ∧ True) (f3 : n1 = -1) (f4 : n2 = 0) : postb_200vk733 n2 n1 n0 H0 H0 := by
  unfold postb_200vk733

  unfold atQ
  first
  | (rw [if_neg (by omega)] <;> omega)
  | (rw [if_pos (by omega)] <;> omega)
theorem c_200vk733_s_0 : vOkm T0 (eP e_200vk733 L_200vk733 A_200vk733 mu_200vk733 none) 2 ([(0, [2], [], 0), (50, [0], [], 0), (6000, [0, 1], [0], 0), (90, [1], [], -2147483648), (91, [1], [], 2147483647)], (3000, [2], [0], 21)) := vOk_in fun ρ η h => by
  obtain ⟨f0, f1, f2, f3, f4, _⟩ := h
  exact q_200vk733_0 (n0 := ρ 1) (n1 := ρ 0) (n2 := ρ 2) (H0 := η 0) f4 f3 f2 f1 f0
theorem q_200vk733_1 {n0 n1 n2 : Int} {H0 : gH} (f0 : n0 ≤ 2147483647) (f1 : (-2147483648) ≤ n0) (f2 : hWt T0 H0 ∧ True) (f3 : 0 ≤ n1) (f4 : n0 < 0) (f5 : n2 = 0) : postb_200vk733 n2 n1 n0 H0 H0 := by
  unfold postb_200vk733

  unfold atQ
  first
  | (rw [if_neg (by omega)] <;> omega)
  | (rw [if_pos (by omega)] <;> omega)
theorem c_200vk733_s_1 : vOkm T0 (eP e_200vk733 L_200vk733 A_200vk733 mu_200vk733 none) 2 ([(0, [2], [], 0), (32, [1], [], 0), (51, [0], [], 0), (6000, [0, 1], [0], 0), (90, [1], [], -2147483648), (91, [1], [], 2147483647)], (3000, [2], [0], 21)) := vOk_in fun ρ η h => by
  obtain ⟨f0, f1, f2, f3, f4, f5, _⟩ := h
  exact q_200vk733_1 (n0 := ρ 1) (n1 := ρ 0) (n2 := ρ 2) (H0 := η 0) f5 f4 f3 f2 f1 f0
theorem q_200vk733_2 {n0 n1 n2 n3 : Int} {H0 : gH} (f0 : n0 ≤ 2147483647) (f1 : (-2147483648) ≤ n0) (f2 : hWt T0 H0 ∧ True) (f3 : 0 ≤ n1) (f4 : 0 ≤ n0) (f5 : n2 = (hN H0 (n1).toNat : Int)) (f6 : n0 < n2) (f7 : n3 = hV H0 (n1).toNat (n0).toNat) : postb_200vk733 n3 n1 n0 H0 H0 := by
  unfold postb_200vk733

  unfold atQ
  first
  | (rw [if_neg (by omega)] <;> omega)
  | (rw [if_pos (by omega)] <;> omega)
theorem c_200vk733_s_2 : vOkm T0 (eP e_200vk733 L_200vk733 A_200vk733 mu_200vk733 none) 2 ([(22, [3, 0, 1], [0], 0), (42, [1, 2], [], 0), (21, [2, 0], [0], 0), (33, [1], [], 0), (51, [0], [], 0), (6000, [0, 1], [0], 0), (90, [1], [], -2147483648), (91, [1], [], 2147483647)], (3000, [3], [0], 21)) := vOk_in fun ρ η h => by
  obtain ⟨f0, f1, f2, f3, f4, f5, f6, f7, _⟩ := h
  exact q_200vk733_2 (n0 := ρ 1) (n1 := ρ 0) (n2 := ρ 2) (n3 := ρ 3) (H0 := η 0) f7 f6 f5 f4 f3 f2 f1 f0
theorem q_200vk733_3 {n0 n1 n2 n3 : Int} {H0 : gH} (f0 : n0 ≤ 2147483647) (f1 : (-2147483648) ≤ n0) (f2 : hWt T0 H0 ∧ True) (f3 : 0 ≤ n1) (f4 : 0 ≤ n0) (f5 : n2 = (hN H0 (n1).toNat : Int)) (f6 : n2 ≤ n0) (f7 : n3 = 0) : postb_200vk733 n3 n1 n0 H0 H0 := by
  unfold postb_200vk733

  unfold atQ
  first
  | (rw [if_neg (by omega)] <;> omega)
  | (rw [if_pos (by omega)] <;> omega)
theorem c_200vk733_s_3 : vOkm T0 (eP e_200vk733 L_200vk733 A_200vk733 mu_200vk733 none) 2 ([(0, [3], [], 0), (43, [1, 2], [], 0), (21, [2, 0], [0], 0), (33, [1], [], 0), (51, [0], [], 0), (6000, [0, 1], [0], 0), (90, [1], [], -2147483648), (91, [1], [], 2147483647)], (3000, [3], [0], 21)) := vOk_in fun ρ η h => by
  obtain ⟨f0, f1, f2, f3, f4, f5, f6, f7, _⟩ := h
  exact q_200vk733_3 (n0 := ρ 1) (n1 := ρ 0) (n2 := ρ 2) (n3 := ρ 3) (H0 := η 0) f7 f6 f5 f4 f3 f2 f1 f0
def p_200vk733_s : List vG := [([(0, [2], [], 0), (50, [0], [], 0), (6000, [0, 1], [0], 0), (90, [1], [], -2147483648), (91, [1], [], 2147483647)], (3000, [2], [0], 21)),
  ([(0, [2], [], 0), (32, [1], [], 0), (51, [0], [], 0), (6000, [0, 1], [0], 0), (90, [1], [], -2147483648), (91, [1], [], 2147483647)], (3000, [2], [0], 21)),
  ([(22, [3, 0, 1], [0], 0), (42, [1, 2], [], 0), (21, [2, 0], [0], 0), (33, [1], [], 0), (51, [0], [], 0), (6000, [0, 1], [0], 0), (90, [1], [], -2147483648), (91, [1], [], 2147483647)], (3000, [3], [0], 21)),
  ([(0, [3], [], 0), (43, [1, 2], [], 0), (21, [2, 0], [0], 0), (33, [1], [], 0), (51, [0], [], 0), (6000, [0, 1], [0], 0), (90, [1], [], -2147483648), (91, [1], [], 2147483647)], (3000, [3], [0], 21))]
theorem r_200vk733_s : vCovO false (eR0 e_200vk733 L_200vk733 cs_200vk733 2000) p_200vk733_s = true := by decide +kernel
theorem m_200vk733 (d : Nat) : eC e_200vk733 (d + 1) := eC_ok (e := e_200vk733) (L := L_200vk733) (cs := cs_200vk733) (n := 2000) (d := d + 0) (A := A_200vk733) (μ := mu_200vk733) (tp := false) (p0 := p_200vk733_s) rfl trivial rfl (.inr pre0_ok) (by decide +kernel) (fun z => nomatch z) r_200vk733_s (allC c_200vk733_s_0 (allC c_200vk733_s_1 (allC c_200vk733_s_2 (allC c_200vk733_s_3 allN)))) allN
/- Reader.blockOf (J)I -/
noncomputable def s_71v : vM := ([(3, 4, 30, 0), (1, 0, 0, 0)], (0, -2147483648, 2147483647, 0), 1, 0, [])
def preb_71v (a0 a1 : Int) (h : gH) : Prop := BI h
def pre_71v : List Int → gH → Prop := fun xs h => match xs with
  | [a0, a1] => preb_71v a0 a1 h
  | _ => False
def postb_71v (r a0 a1 : Int) (h0 h : gH) : Prop := (NV a1 → r = bkI (hV h0 48) a1 0 (hV h0 30 13).toNat) ∧ -1 ≤ r ∧ r ≤ 5
def post_71v : List Int → gH → gH → Prop := fun xs h0 h => match xs with
  | [r, a0, a1] => postb_71v r a0 a1 h0 h
  | _ => True
noncomputable def e_71v : vE := (71, s_71v, pre_71v, post_71v)
noncomputable def L_71v : List vE := [e_200vk733]
def cs_71v : List vC := [(2, [(0, (3, 4, 30, 0)), (1, (1, 0, 0, 0)), (3, (0, -2147483648, 2147483647, 0))])]
def Ab_71v_2 (a0 a1 x0 x1 x3 : Int) (h0 h : gH) : Prop := x1 = a1 ∧ 0 ≤ x3 ∧ x3 ≤ hV h0 30 13 ∧ (NV a1 → bkI (hV h0 48) a1 (x3).toNat ((hV h0 30 13).toNat - (x3).toNat) = bkI (hV h0 48) a1 0 (hV h0 30 13).toNat)
def mub_71v_2 (a0 a1 x0 x1 x3 : Int) (h0 h : gH) : Nat := (2147483648 - x3).toNat
def A_71v : Int → List Int → gH → gH → Prop := fun c xs h0 h => match c.toNat with
  | 2 => (match xs with
    | [a0, a1, x0, x1, x3] => Ab_71v_2 a0 a1 x0 x1 x3 h0 h
    | _ => False)
  | _ => True
def mu_71v : Int → List Int → gH → gH → Nat := fun c xs h0 h => match c.toNat with
  | 2 => (match xs with
    | [a0, a1, x0, x1, x3] => mub_71v_2 a0 a1 x0 x1 x3 h0 h
    | _ => 0)
  | _ => 0
theorem q_71v_0 {n0 n1 n2 : Int} {H0 : gH} (f0 : n0 = 30) (f1 : hWt T0 H0 ∧ preb_71v n0 n1 H0) (f2 : n2 = 0) : Ab_71v_2 n0 n1 n0 n1 n2 H0 H0 ∧ ∀ q, none = some q → mub_71v_2 n0 n1 n0 n1 n2 H0 H0 < q := by
  have pz := f1.2
  unfold preb_71v at pz
  unfold Ab_71v_2
  refine ⟨⟨rfl, by omega, by have := pz.2.1; omega, fun _ => ?_⟩, fun q hq => nomatch hq⟩
  rw [show (n2).toNat = 0 by omega]
  rfl
theorem c_71v_s_0 : vOkm T0 (eP e_71v L_71v A_71v mu_71v none) 2 ([(0, [2], [], 0), (6000, [0, 1], [0], 0), (0, [0], [], 30)], (4000, [0, 1, 2], [0], 2)) := vOk_in fun ρ η h => by
  obtain ⟨f0, f1, f2, _⟩ := h
  exact q_71v_0 (n0 := ρ 0) (n1 := ρ 1) (n2 := ρ 2) (H0 := η 0) f2 f1 f0
def p_71v_s : List vG := [([(0, [2], [], 0), (6000, [0, 1], [0], 0), (0, [0], [], 30)], (4000, [0, 1, 2], [0], 2))]
theorem r_71v_s : vCovO false (eR0 e_71v L_71v cs_71v 2000) p_71v_s = true := by decide +kernel
theorem q_71v_1 {q0 : Nat} {n0 n1 n2 n3 n4 n5 n6 : Int} {H0 H1 : gH} (f0 : n0 ≤ 2147483647) (f1 : (-2147483648) ≤ n0) (f2 : n1 = 30) (f3 : n2 = 30) (f4 : (hLe T0 H0 H1 ∧ hFr s_71v.2.2.2.2 H0 H1 ∧ hWt T0 H1) ∧ (Ab_71v_2 n2 n3 n1 n4 n0 H0 H1 ∧ preb_71v n2 n3 H0) ∧ some q0 = some (mub_71v_2 n2 n3 n1 n4 n0 H0 H1)) (f5 : n5 ≤ 2147483647) (f6 : (-2147483648) ≤ n5) (f7 : n5 = hV H1 (n1).toNat 13) (f8 : n5 ≤ n0) (f9 : n6 = (-1)) : postb_71v n6 n2 n3 H0 H1 := by
  have pz := f4.2.1.2
  unfold preb_71v at pz
  have ga := f4.2.1.1
  unfold Ab_71v_2 at ga
  obtain ⟨ka, x0, x1, ya⟩ := ga
  have bz := BI_fr f4.1.1 f4.1.2.1 (by decide +kernel) pz
  have e13 : hV H1 30 13 = hV H0 30 13 := f4.1.2.1.1 30 13 (by decide +kernel)
  have rb := f7
  rw [f2] at rb
  rw [show ((30 : Int)).toNat = 30 from rfl] at rb
  rw [e13] at rb
  unfold postb_71v
  refine ⟨fun hn => ?_, by omega, by have := pz.2.2.1; omega⟩
  have y := ya hn
  rw [show (hV H0 30 13).toNat - (n0).toNat = 0 by omega] at y
  exact (show _ = (-1 : Int) by omega).trans y
theorem c_71v_2_0 {q0 : Nat} : vOkm T0 (eP e_71v L_71v A_71v mu_71v (some q0)) 2 ([(0, [6], [], -1), (43, [4, 5], [], 0), (20, [5, 2], [1], 13), (90, [5], [], -2147483648), (91, [5], [], 2147483647), (5000, [0, 1, 2, 3, 4], [0, 1], 2), (0, [0], [], 30), (0, [2], [], 30), (90, [4], [], -2147483648), (91, [4], [], 2147483647)], (3000, [6], [1], 32)) := vOk_in fun ρ η h => by
  obtain ⟨f0, f1, f2, f3, f4, f5, f6, f7, f8, f9, _⟩ := h
  exact q_71v_1 (q0 := q0) (n0 := ρ 4) (n1 := ρ 2) (n2 := ρ 0) (n3 := ρ 1) (n4 := ρ 3) (n5 := ρ 5) (n6 := ρ 6) (H0 := η 0) (H1 := η 1) f9 f8 f7 f6 f5 f4 f3 f2 f1 f0
theorem q_71v_2 {q0 : Nat} {n0 n1 n2 n3 n4 n5 n6 n7 n8 n9 : Int} {H0 H1 H2 : gH} (f0 : n0 ≤ 2147483647) (f1 : (-2147483648) ≤ n0) (f2 : n1 = 30) (f3 : n2 = 30) (f4 : (hLe T0 H0 H1 ∧ hFr s_71v.2.2.2.2 H0 H1 ∧ hWt T0 H1) ∧ (Ab_71v_2 n2 n3 n1 n4 n0 H0 H1 ∧ preb_71v n2 n3 H0) ∧ some q0 = some (mub_71v_2 n2 n3 n1 n4 n0 H0 H1)) (f5 : n5 ≤ 2147483647) (f6 : (-2147483648) ≤ n5) (f7 : n5 = hV H1 (n1).toNat 13) (f8 : n0 < n5) (f9 : n6 = 48) (f10 : n6 = hV H1 (n1).toNat 12) (f11 : (hLe T0 H1 H2 ∧ hFr s_200vk733.2.2.2.2 H1 H2 ∧ ((0 : Int) = 0 → H2.length = H1.length) ∧ hWt T0 H2) ∧ postb_200vk733 n7 n6 n0 H1 H2) (f12 : n8 = (lg_cmp (Int64.ofInt n7) (Int64.ofInt n4)).toInt) (f13 : n8 ≠ 0) (f14 : n9 = w32 (n0 + 1)) : Ab_71v_2 n2 n3 n1 n4 n9 H0 H2 ∧ ∀ q, some q0 = some q → mub_71v_2 n2 n3 n1 n4 n9 H0 H2 < q := by
  have pz := f4.2.1.2
  unfold preb_71v at pz
  have ga := f4.2.1.1
  unfold Ab_71v_2 at ga
  obtain ⟨ka, x0, x1, ya⟩ := ga
  have bz := BI_fr f4.1.1 f4.1.2.1 (by decide +kernel) pz
  have e13 : hV H1 30 13 = hV H0 30 13 := f4.1.2.1.1 30 13 (by decide +kernel)
  have rb := f7
  rw [f2] at rb
  rw [show ((30 : Int)).toNat = 30 from rfl] at rb
  rw [e13] at rb
  have pa := f11.2
  unfold postb_200vk733 atQ at pa
  rw [f9] at pa
  have n6 : hN H1 48 = 6 := bz.1.1.2.1
  rw [if_pos ⟨by decide, by omega, by show _ < (hN H1 48 : Int); rw [n6]; have := pz.2.2.1; omega⟩] at pa
  rw [show ((48 : Int)).toNat = 48 from rfl, fRow f4.1.2.1 48 (by decide +kernel)] at pa
  have nv := (pz.2.2.2 (n0).toNat (by omega)).1
  have flc := f12
  rw [show n4 = n3 by omega] at flc
  have cq : NV n3 → (n8 = 0 ↔ n7 = n3) := fun hn => lcq flc (by have := NV_lt nv; omega) (by have := NV_lt nv; omega) (by have := NV_lt hn; omega) (by have := NV_lt hn; omega)
  have z2 := f14
  unfold w32 at z2
  have g5 := Option.some.inj f4.2.2
  unfold mub_71v_2 at g5
  unfold Ab_71v_2 mub_71v_2
  refine ⟨⟨ka, by omega, by omega, fun hn => ?_⟩, fun q hq => ?_⟩
  · have y := ya hn
    have c : ¬ n7 = n3 := fun e => absurd ((cq hn).mpr e) (by omega)
    rw [show (hV H0 30 13).toNat - (n0).toNat = ((hV H0 30 13).toNat - (n9).toNat) + 1 by omega, bkI_no (by rw [← pa]; exact c)] at y
    rw [show (n9).toNat = (n0).toNat + 1 by omega]
    first
    | exact y
    | (rw [show (n9).toNat = (n0).toNat + 1 by omega] at y; exact y)
  · have g6 := Option.some.inj hq
    subst g6
    omega
theorem c_71v_2_1 {q0 : Nat} : vOkm T0 (eP e_71v L_71v A_71v mu_71v (some q0)) 2 ([(10, [9, 4], [], 1), (31, [8], [], 0), (65, [8, 7, 3], [], 0), (1200, [7, 6, 4], [1, 2], 0), (20, [6, 2], [1], 12), (0, [6], [], 48), (42, [4, 5], [], 0), (20, [5, 2], [1], 13), (90, [5], [], -2147483648), (91, [5], [], 2147483647), (5000, [0, 1, 2, 3, 4], [0, 1], 2), (0, [0], [], 30), (0, [2], [], 30), (90, [4], [], -2147483648), (91, [4], [], 2147483647)], (4000, [2, 3, 9], [2], 2)) := vOk_in fun ρ η h => by
  obtain ⟨f0, f1, f2, f3, f4, f5, f6, f7, f8, f9, f10, f11, f12, f13, f14, _⟩ := h
  exact q_71v_2 (q0 := q0) (n0 := ρ 4) (n1 := ρ 2) (n2 := ρ 0) (n3 := ρ 1) (n4 := ρ 3) (n5 := ρ 5) (n6 := ρ 6) (n7 := ρ 7) (n8 := ρ 8) (n9 := ρ 9) (H0 := η 0) (H1 := η 1) (H2 := η 2) f14 f13 f12 f11 f10 f9 f8 f7 f6 f5 f4 f3 f2 f1 f0
theorem q_71v_3 {q0 : Nat} {n0 n1 n2 n3 n4 n5 n6 n7 n8 : Int} {H0 H1 H2 : gH} (f0 : n0 ≤ 2147483647) (f1 : (-2147483648) ≤ n0) (f2 : n1 = 30) (f3 : n2 = 30) (f4 : (hLe T0 H0 H1 ∧ hFr s_71v.2.2.2.2 H0 H1 ∧ hWt T0 H1) ∧ (Ab_71v_2 n2 n3 n1 n4 n0 H0 H1 ∧ preb_71v n2 n3 H0) ∧ some q0 = some (mub_71v_2 n2 n3 n1 n4 n0 H0 H1)) (f5 : n5 ≤ 2147483647) (f6 : (-2147483648) ≤ n5) (f7 : n5 = hV H1 (n1).toNat 13) (f8 : n0 < n5) (f9 : n6 = 48) (f10 : n6 = hV H1 (n1).toNat 12) (f11 : (hLe T0 H1 H2 ∧ hFr s_200vk733.2.2.2.2 H1 H2 ∧ ((0 : Int) = 0 → H2.length = H1.length) ∧ hWt T0 H2) ∧ postb_200vk733 n7 n6 n0 H1 H2) (f12 : n8 = (lg_cmp (Int64.ofInt n7) (Int64.ofInt n4)).toInt) (f13 : n8 = 0) : postb_71v n0 n2 n3 H0 H2 := by
  have pz := f4.2.1.2
  unfold preb_71v at pz
  have ga := f4.2.1.1
  unfold Ab_71v_2 at ga
  obtain ⟨ka, x0, x1, ya⟩ := ga
  have bz := BI_fr f4.1.1 f4.1.2.1 (by decide +kernel) pz
  have e13 : hV H1 30 13 = hV H0 30 13 := f4.1.2.1.1 30 13 (by decide +kernel)
  have rb := f7
  rw [f2] at rb
  rw [show ((30 : Int)).toNat = 30 from rfl] at rb
  rw [e13] at rb
  have pa := f11.2
  unfold postb_200vk733 atQ at pa
  rw [f9] at pa
  have n6 : hN H1 48 = 6 := bz.1.1.2.1
  rw [if_pos ⟨by decide, by omega, by show _ < (hN H1 48 : Int); rw [n6]; have := pz.2.2.1; omega⟩] at pa
  rw [show ((48 : Int)).toNat = 48 from rfl, fRow f4.1.2.1 48 (by decide +kernel)] at pa
  have nv := (pz.2.2.2 (n0).toNat (by omega)).1
  have flc := f12
  rw [show n4 = n3 by omega] at flc
  have cq : NV n3 → (n8 = 0 ↔ n7 = n3) := fun hn => lcq flc (by have := NV_lt nv; omega) (by have := NV_lt nv; omega) (by have := NV_lt hn; omega) (by have := NV_lt hn; omega)
  unfold postb_71v
  refine ⟨fun hn => ?_, by omega, by have := pz.2.2.1; omega⟩
  have y := ya hn
  have c := (cq hn).mp (by omega)
  rw [show (hV H0 30 13).toNat - (n0).toNat = ((hV H0 30 13).toNat - (n0).toNat - 1) + 1 by omega, bkI_hit (by rw [← pa]; exact c)] at y
  omega
theorem c_71v_2_2 {q0 : Nat} : vOkm T0 (eP e_71v L_71v A_71v mu_71v (some q0)) 2 ([(30, [8], [], 0), (65, [8, 7, 3], [], 0), (1200, [7, 6, 4], [1, 2], 0), (20, [6, 2], [1], 12), (0, [6], [], 48), (42, [4, 5], [], 0), (20, [5, 2], [1], 13), (90, [5], [], -2147483648), (91, [5], [], 2147483647), (5000, [0, 1, 2, 3, 4], [0, 1], 2), (0, [0], [], 30), (0, [2], [], 30), (90, [4], [], -2147483648), (91, [4], [], 2147483647)], (3000, [4], [2], 24)) := vOk_in fun ρ η h => by
  obtain ⟨f0, f1, f2, f3, f4, f5, f6, f7, f8, f9, f10, f11, f12, f13, _⟩ := h
  exact q_71v_3 (q0 := q0) (n0 := ρ 4) (n1 := ρ 2) (n2 := ρ 0) (n3 := ρ 1) (n4 := ρ 3) (n5 := ρ 5) (n6 := ρ 6) (n7 := ρ 7) (n8 := ρ 8) (H0 := η 0) (H1 := η 1) (H2 := η 2) f13 f12 f11 f10 f9 f8 f7 f6 f5 f4 f3 f2 f1 f0
def p_71v_2 : List vG := [([(0, [6], [], -1), (43, [4, 5], [], 0), (20, [5, 2], [1], 13), (90, [5], [], -2147483648), (91, [5], [], 2147483647), (5000, [0, 1, 2, 3, 4], [0, 1], 2), (0, [0], [], 30), (0, [2], [], 30), (90, [4], [], -2147483648), (91, [4], [], 2147483647)], (3000, [6], [1], 32)),
  ([(10, [9, 4], [], 1), (31, [8], [], 0), (65, [8, 7, 3], [], 0), (1200, [7, 6, 4], [1, 2], 0), (20, [6, 2], [1], 12), (0, [6], [], 48), (42, [4, 5], [], 0), (20, [5, 2], [1], 13), (90, [5], [], -2147483648), (91, [5], [], 2147483647), (5000, [0, 1, 2, 3, 4], [0, 1], 2), (0, [0], [], 30), (0, [2], [], 30), (90, [4], [], -2147483648), (91, [4], [], 2147483647)], (4000, [2, 3, 9], [2], 2)),
  ([(30, [8], [], 0), (65, [8, 7, 3], [], 0), (1200, [7, 6, 4], [1, 2], 0), (20, [6, 2], [1], 12), (0, [6], [], 48), (42, [4, 5], [], 0), (20, [5, 2], [1], 13), (90, [5], [], -2147483648), (91, [5], [], 2147483647), (5000, [0, 1, 2, 3, 4], [0, 1], 2), (0, [0], [], 30), (0, [2], [], 30), (90, [4], [], -2147483648), (91, [4], [], 2147483647)], (3000, [4], [2], 24))]
theorem r_71v_2 : vCovO false (eRc e_71v L_71v cs_71v 2000 (2, [(0, (3, 4, 30, 0)), (1, (1, 0, 0, 0)), (3, (0, -2147483648, 2147483647, 0))])) p_71v_2 = true := by decide +kernel
theorem m_71v (d : Nat) : eC e_71v (d + 2) := eC_ok (e := e_71v) (L := L_71v) (cs := cs_71v) (n := 2000) (d := d + 1) (A := A_71v) (μ := mu_71v) (tp := false) (p0 := p_71v_s) rfl ⟨m_200vk733 d, trivial⟩ rfl (.inl rfl) (by decide +kernel) (fun z => nomatch z) r_71v_s (allC c_71v_s_0 allN) (allC (.inl ⟨p_71v_2, r_71v_2, fun q0 => (allC c_71v_2_0 (allC c_71v_2_1 (allC c_71v_2_2 allN)))⟩) allN)
/- Reader.readUse (LMixStage$Cue;)V -/
noncomputable def s_80v : vM := ([(3, 4, 30, 0), (3, 1, -1, 0)], (9, 0, 0, 0), 1, 0, [(1, 2), (1, 4), (1, 5), (1, 6), (1, 7), (4, 1), (4, 2), (4, 3), (4, 4), (4, 5), (4, 6)])
def preb_80v (a0 a1 : Int) (h : gH) : Prop := KI h ∧ BI h ∧ hK h (a1).toNat = 1 ∧ 0 ≤ a1
def pre_80v : List Int → gH → Prop := fun xs h => match xs with
  | [a0, a1] => preb_80v a0 a1 h
  | _ => False
def postb_80v (a0 a1 : Int) (h0 h : gH) : Prop := KI h ∧ absC h = pUse (vwC h0) (BLc h0) (absC h0) ∧ BI h ∧ BLc h = BLc h0 ∧ (hV h 30 3 = 0 → UNb h0 ((vwC h0).2.2.1 (absC h0).1) (hV h (a1).toNat 2))
def post_80v : List Int → gH → gH → Prop := fun xs h0 h => match xs with
  | [a0, a1] => postb_80v a0 a1 h0 h
  | _ => True
noncomputable def e_80v : vE := (80, s_80v, pre_80v, post_80v)
noncomputable def L_80v : List vE := [e_65v, e_66v, e_71v, e_81v, e_123v]
def cs_80v : List vC := []
def A_80v : Int → List Int → gH → gH → Prop := fun c xs h0 h => True
def mu_80v : Int → List Int → gH → gH → Nat := fun c xs h0 h => 0
theorem q_80v_0 {n0 n1 n2 n3 : Int} {H0 : gH} (f0 : 0 ≤ n0) (f1 : n1 = 30) (f2 : hWt T0 H0 ∧ preb_80v n1 n0 H0) (f3 : n2 = 31) (f4 : n2 = hV H0 (n1).toNat 0) (f5 : n3 ≤ 2147483647) (f6 : (-2147483648) ≤ n3) (f7 : n3 = hV H0 (n1).toNat 1) : preb_123v n2 n3 H0 := by
  have pz := f2.2
  unfold preb_80v at pz
  unfold preb_123v
  exact pz.1.1
theorem c_80v_s_0 : vOkm T0 (eP e_80v L_80v A_80v mu_80v none) 2 ([(20, [3, 0], [0], 1), (90, [3], [], -2147483648), (91, [3], [], 2147483647), (20, [2, 0], [0], 0), (0, [2], [], 31), (6000, [0, 1], [0], 0), (0, [0], [], 30), (51, [1], [], 0)], (2123, [2, 3], [0], 0)) := vOk_in fun ρ η h => by
  obtain ⟨f0, f1, f2, f3, f4, f5, f6, f7, _⟩ := h
  exact q_80v_0 (n0 := ρ 1) (n1 := ρ 0) (n2 := ρ 2) (n3 := ρ 3) (H0 := η 0) f7 f6 f5 f4 f3 f2 f1 f0
theorem q_80v_1 {n0 n1 n2 n3 n4 : Int} {H0 H1 : gH} (f0 : 0 ≤ n0) (f1 : n1 = 30) (f2 : hWt T0 H0 ∧ preb_80v n1 n0 H0) (f3 : n2 = 31) (f4 : n2 = hV H0 (n1).toNat 0) (f5 : n3 ≤ 2147483647) (f6 : (-2147483648) ≤ n3) (f7 : n3 = hV H0 (n1).toNat 1) (f8 : (hLe T0 H0 H1 ∧ hFr s_123v.2.2.2.2 H0 H1 ∧ ((0 : Int) = 0 → H1.length = H0.length) ∧ hWt T0 H1) ∧ postb_123v n4 n2 n3 H0 H1) : preb_71v n1 n4 H1 := by
  have pz := f2.2
  unfold preb_80v at pz
  have s0 := PF_fr f8.1.1 f8.1.2.1 (by decide +kernel) pz.1
  have a0 : absC H1 = (absC H0) := s0.1
  have v0 : vwC H1 = vwC H0 := s0.2.1
  have d0 := BI_fr f8.1.1 f8.1.2.1 (by decide +kernel) pz.2.1
  have j0 : BLc H1 = BLc H0 := d0.2
  unfold preb_71v
  exact d0.1
theorem c_80v_s_1 : vOkm T0 (eP e_80v L_80v A_80v mu_80v none) 2 ([(1123, [4, 2, 3], [0, 1], 0), (20, [3, 0], [0], 1), (90, [3], [], -2147483648), (91, [3], [], 2147483647), (20, [2, 0], [0], 0), (0, [2], [], 31), (6000, [0, 1], [0], 0), (0, [0], [], 30), (51, [1], [], 0)], (2071, [0, 4], [1], 0)) := vOk_in fun ρ η h => by
  obtain ⟨f0, f1, f2, f3, f4, f5, f6, f7, f8, _⟩ := h
  exact q_80v_1 (n0 := ρ 1) (n1 := ρ 0) (n2 := ρ 2) (n3 := ρ 3) (n4 := ρ 4) (H0 := η 0) (H1 := η 1) f8 f7 f6 f5 f4 f3 f2 f1 f0
theorem q_80v_2 {n0 n1 n2 n3 n4 n5 n6 n7 n8 n9 : Int} {H0 H1 H2 H3 : gH} (f0 : 0 ≤ n0) (f1 : n1 = 30) (f2 : hWt T0 H0 ∧ preb_80v n1 n0 H0) (f3 : n2 = 31) (f4 : n2 = hV H0 (n1).toNat 0) (f5 : n3 ≤ 2147483647) (f6 : (-2147483648) ≤ n3) (f7 : n3 = hV H0 (n1).toNat 1) (f8 : (hLe T0 H0 H1 ∧ hFr s_123v.2.2.2.2 H0 H1 ∧ ((0 : Int) = 0 → H1.length = H0.length) ∧ hWt T0 H1) ∧ postb_123v n4 n2 n3 H0 H1) (f9 : n5 ≤ 2147483647) (f10 : (-2147483648) ≤ n5) (f11 : (hLe T0 H1 H2 ∧ hFr s_71v.2.2.2.2 H1 H2 ∧ ((0 : Int) = 0 → H2.length = H1.length) ∧ hWt T0 H2) ∧ postb_71v n5 n1 n4 H1 H2) (f12 : hK H2 (n0).toNat = 1) (f13 : n6 = 2) (f14 : hUpd H3 H2 n0 n6 n5) (f15 : n7 ≤ 2147483647) (f16 : (-2147483648) ≤ n7) (f17 : hK H3 (n0).toNat = 1) (f18 : n7 = hV H3 (n0).toNat 2) (f19 : n8 = (-1)) (f20 : n7 ≠ n8) (f21 : n9 = 2) : preb_66v n1 n9 H3 := by
  have pz := f2.2
  unfold preb_80v at pz
  have s0 := PF_fr f8.1.1 f8.1.2.1 (by decide +kernel) pz.1
  have a0 : absC H1 = (absC H0) := s0.1
  have v0 : vwC H1 = vwC H0 := s0.2.1
  have s1 := PF_fr f11.1.1 f11.1.2.1 (by decide +kernel) s0.2.2
  have a1 : absC H2 = (absC H0) := s1.1.trans a0
  have v1 : vwC H2 = vwC H0 := s1.2.1.trans v0
  have s2 := PF_up f14 s1.2.2 f12
  have a2 : absC H3 = (absC H0) := s2.1.trans a1
  have v2 : vwC H3 = vwC H0 := s2.2.1.trans v1
  have d0 := BI_fr f8.1.1 f8.1.2.1 (by decide +kernel) pz.2.1
  have j0 : BLc H1 = BLc H0 := d0.2
  have d1 := BI_fr f11.1.1 f11.1.2.1 (by decide +kernel) d0.1
  have j1 : BLc H2 = BLc H0 := d1.2.trans j0
  have d2 := BI_up f14 s1.2.2 d1.1 f12
  have j2 : BLc H3 = BLc H0 := d2.2.trans j1
  unfold preb_66v
  exact ⟨s2.2.2, by omega⟩
theorem c_80v_s_2 : vOkm T0 (eP e_80v L_80v A_80v mu_80v none) 2 ([(0, [9], [], 2), (41, [7, 8], [], 0), (0, [8], [], -1), (20, [7, 1], [3], 2), (23, [1], [3], 1), (90, [7], [], -2147483648), (91, [7], [], 2147483647), (80, [1, 6, 5], [3, 2], 0), (0, [6], [], 2), (23, [1], [2], 1), (1071, [5, 0, 4], [1, 2], 0), (90, [5], [], -2147483648), (91, [5], [], 2147483647), (1123, [4, 2, 3], [0, 1], 0), (20, [3, 0], [0], 1), (90, [3], [], -2147483648), (91, [3], [], 2147483647), (20, [2, 0], [0], 0), (0, [2], [], 31), (6000, [0, 1], [0], 0), (0, [0], [], 30), (51, [1], [], 0)], (2066, [0, 9], [3], 0)) := vOk_in fun ρ η h => by
  obtain ⟨f0, f1, f2, f3, f4, f5, f6, f7, f8, f9, f10, f11, f12, f13, f14, f15, f16, f17, f18, f19, f20, f21, _⟩ := h
  exact q_80v_2 (n0 := ρ 1) (n1 := ρ 0) (n2 := ρ 2) (n3 := ρ 3) (n4 := ρ 4) (n5 := ρ 5) (n6 := ρ 6) (n7 := ρ 7) (n8 := ρ 8) (n9 := ρ 9) (H0 := η 0) (H1 := η 1) (H2 := η 2) (H3 := η 3) f21 f20 f19 f18 f17 f16 f15 f14 f13 f12 f11 f10 f9 f8 f7 f6 f5 f4 f3 f2 f1 f0
theorem q_80v_3 {n0 n1 n2 n3 n4 n5 n6 n7 n8 n9 n10 : Int} {H0 H1 H2 H3 H4 : gH} (f0 : 0 ≤ n0) (f1 : n1 = 30) (f2 : hWt T0 H0 ∧ preb_80v n1 n0 H0) (f3 : n2 = 31) (f4 : n2 = hV H0 (n1).toNat 0) (f5 : n3 ≤ 2147483647) (f6 : (-2147483648) ≤ n3) (f7 : n3 = hV H0 (n1).toNat 1) (f8 : (hLe T0 H0 H1 ∧ hFr s_123v.2.2.2.2 H0 H1 ∧ ((0 : Int) = 0 → H1.length = H0.length) ∧ hWt T0 H1) ∧ postb_123v n4 n2 n3 H0 H1) (f9 : n5 ≤ 2147483647) (f10 : (-2147483648) ≤ n5) (f11 : (hLe T0 H1 H2 ∧ hFr s_71v.2.2.2.2 H1 H2 ∧ ((0 : Int) = 0 → H2.length = H1.length) ∧ hWt T0 H2) ∧ postb_71v n5 n1 n4 H1 H2) (f12 : hK H2 (n0).toNat = 1) (f13 : n6 = 2) (f14 : hUpd H3 H2 n0 n6 n5) (f15 : n7 ≤ 2147483647) (f16 : (-2147483648) ≤ n7) (f17 : hK H3 (n0).toNat = 1) (f18 : n7 = hV H3 (n0).toNat 2) (f19 : n8 = (-1)) (f20 : n7 ≠ n8) (f21 : n9 = 2) (f22 : (hLe T0 H3 H4 ∧ hFr s_66v.2.2.2.2 H3 H4 ∧ ((0 : Int) = 0 → H4.length = H3.length) ∧ hWt T0 H4) ∧ postb_66v n1 n9 H3 H4) (f23 : n10 = 26) : preb_66v n1 n10 H4 := by
  have pz := f2.2
  unfold preb_80v at pz
  have s0 := PF_fr f8.1.1 f8.1.2.1 (by decide +kernel) pz.1
  have a0 : absC H1 = (absC H0) := s0.1
  have v0 : vwC H1 = vwC H0 := s0.2.1
  have s1 := PF_fr f11.1.1 f11.1.2.1 (by decide +kernel) s0.2.2
  have a1 : absC H2 = (absC H0) := s1.1.trans a0
  have v1 : vwC H2 = vwC H0 := s1.2.1.trans v0
  have s2 := PF_up f14 s1.2.2 f12
  have a2 : absC H3 = (absC H0) := s2.1.trans a1
  have v2 : vwC H3 = vwC H0 := s2.2.1.trans v1
  have c3 := f22.2
  unfold postb_66v at c3
  try rw [f21] at c3
  rw [v2] at c3
  rw [a2] at c3
  have a3 : absC H4 = (ptk (vwC H0) 2 (absC H0)) := c3.2
  have v3 : vwC H4 = vwC H0 := (vwC_fr f22.1.2.1 (by decide +kernel)).trans v2
  have d0 := BI_fr f8.1.1 f8.1.2.1 (by decide +kernel) pz.2.1
  have j0 : BLc H1 = BLc H0 := d0.2
  have d1 := BI_fr f11.1.1 f11.1.2.1 (by decide +kernel) d0.1
  have j1 : BLc H2 = BLc H0 := d1.2.trans j0
  have d2 := BI_up f14 s1.2.2 d1.1 f12
  have j2 : BLc H3 = BLc H0 := d2.2.trans j1
  have d3 := BI_fr f22.1.1 f22.1.2.1 (by decide +kernel) d2.1
  have j3 : BLc H4 = BLc H0 := d3.2.trans j2
  unfold preb_66v
  exact ⟨c3.1, by omega⟩
theorem c_80v_s_3 : vOkm T0 (eP e_80v L_80v A_80v mu_80v none) 2 ([(0, [10], [], 26), (1066, [0, 9], [3, 4], 0), (0, [9], [], 2), (41, [7, 8], [], 0), (0, [8], [], -1), (20, [7, 1], [3], 2), (23, [1], [3], 1), (90, [7], [], -2147483648), (91, [7], [], 2147483647), (80, [1, 6, 5], [3, 2], 0), (0, [6], [], 2), (23, [1], [2], 1), (1071, [5, 0, 4], [1, 2], 0), (90, [5], [], -2147483648), (91, [5], [], 2147483647), (1123, [4, 2, 3], [0, 1], 0), (20, [3, 0], [0], 1), (90, [3], [], -2147483648), (91, [3], [], 2147483647), (20, [2, 0], [0], 0), (0, [2], [], 31), (6000, [0, 1], [0], 0), (0, [0], [], 30), (51, [1], [], 0)], (2066, [0, 10], [4], 0)) := vOk_in fun ρ η h => by
  obtain ⟨f0, f1, f2, f3, f4, f5, f6, f7, f8, f9, f10, f11, f12, f13, f14, f15, f16, f17, f18, f19, f20, f21, f22, f23, _⟩ := h
  exact q_80v_3 (n0 := ρ 1) (n1 := ρ 0) (n2 := ρ 2) (n3 := ρ 3) (n4 := ρ 4) (n5 := ρ 5) (n6 := ρ 6) (n7 := ρ 7) (n8 := ρ 8) (n9 := ρ 9) (n10 := ρ 10) (H0 := η 0) (H1 := η 1) (H2 := η 2) (H3 := η 3) (H4 := η 4) f23 f22 f21 f20 f19 f18 f17 f16 f15 f14 f13 f12 f11 f10 f9 f8 f7 f6 f5 f4 f3 f2 f1 f0
theorem q_80v_4 {n0 n1 n2 n3 n4 n5 n6 n7 n8 n9 n10 n11 : Int} {H0 H1 H2 H3 H4 H5 : gH} (f0 : 0 ≤ n0) (f1 : n1 = 30) (f2 : hWt T0 H0 ∧ preb_80v n1 n0 H0) (f3 : n2 = 31) (f4 : n2 = hV H0 (n1).toNat 0) (f5 : n3 ≤ 2147483647) (f6 : (-2147483648) ≤ n3) (f7 : n3 = hV H0 (n1).toNat 1) (f8 : (hLe T0 H0 H1 ∧ hFr s_123v.2.2.2.2 H0 H1 ∧ ((0 : Int) = 0 → H1.length = H0.length) ∧ hWt T0 H1) ∧ postb_123v n4 n2 n3 H0 H1) (f9 : n5 ≤ 2147483647) (f10 : (-2147483648) ≤ n5) (f11 : (hLe T0 H1 H2 ∧ hFr s_71v.2.2.2.2 H1 H2 ∧ ((0 : Int) = 0 → H2.length = H1.length) ∧ hWt T0 H2) ∧ postb_71v n5 n1 n4 H1 H2) (f12 : hK H2 (n0).toNat = 1) (f13 : n6 = 2) (f14 : hUpd H3 H2 n0 n6 n5) (f15 : n7 ≤ 2147483647) (f16 : (-2147483648) ≤ n7) (f17 : hK H3 (n0).toNat = 1) (f18 : n7 = hV H3 (n0).toNat 2) (f19 : n8 = (-1)) (f20 : n7 ≠ n8) (f21 : n9 = 2) (f22 : (hLe T0 H3 H4 ∧ hFr s_66v.2.2.2.2 H3 H4 ∧ ((0 : Int) = 0 → H4.length = H3.length) ∧ hWt T0 H4) ∧ postb_66v n1 n9 H3 H4) (f23 : n10 = 26) (f24 : (hLe T0 H4 H5 ∧ hFr s_66v.2.2.2.2 H4 H5 ∧ ((0 : Int) = 0 → H5.length = H4.length) ∧ hWt T0 H5) ∧ postb_66v n1 n10 H4 H5) (f25 : n11 = 0) : preb_81v n1 n0 n11 H5 := by
  have pz := f2.2
  unfold preb_80v at pz
  have s0 := PF_fr f8.1.1 f8.1.2.1 (by decide +kernel) pz.1
  have a0 : absC H1 = (absC H0) := s0.1
  have v0 : vwC H1 = vwC H0 := s0.2.1
  have s1 := PF_fr f11.1.1 f11.1.2.1 (by decide +kernel) s0.2.2
  have a1 : absC H2 = (absC H0) := s1.1.trans a0
  have v1 : vwC H2 = vwC H0 := s1.2.1.trans v0
  have s2 := PF_up f14 s1.2.2 f12
  have a2 : absC H3 = (absC H0) := s2.1.trans a1
  have v2 : vwC H3 = vwC H0 := s2.2.1.trans v1
  have c3 := f22.2
  unfold postb_66v at c3
  try rw [f21] at c3
  rw [v2] at c3
  rw [a2] at c3
  have a3 : absC H4 = (ptk (vwC H0) 2 (absC H0)) := c3.2
  have v3 : vwC H4 = vwC H0 := (vwC_fr f22.1.2.1 (by decide +kernel)).trans v2
  have c4 := f24.2
  unfold postb_66v at c4
  try rw [f23] at c4
  rw [v3] at c4
  rw [a3] at c4
  have a4 : absC H5 = (ptk (vwC H0) 26 (ptk (vwC H0) 2 (absC H0))) := c4.2
  have v4 : vwC H5 = vwC H0 := (vwC_fr f24.1.2.1 (by decide +kernel)).trans v3
  have d0 := BI_fr f8.1.1 f8.1.2.1 (by decide +kernel) pz.2.1
  have j0 : BLc H1 = BLc H0 := d0.2
  have d1 := BI_fr f11.1.1 f11.1.2.1 (by decide +kernel) d0.1
  have j1 : BLc H2 = BLc H0 := d1.2.trans j0
  have d2 := BI_up f14 s1.2.2 d1.1 f12
  have j2 : BLc H3 = BLc H0 := d2.2.trans j1
  have d3 := BI_fr f22.1.1 f22.1.2.1 (by decide +kernel) d2.1
  have j3 : BLc H4 = BLc H0 := d3.2.trans j2
  have d4 := BI_fr f24.1.1 f24.1.2.1 (by decide +kernel) d3.1
  have j4 : BLc H5 = BLc H0 := d4.2.trans j3
  unfold preb_81v
  exact c4.1
theorem c_80v_s_4 : vOkm T0 (eP e_80v L_80v A_80v mu_80v none) 2 ([(0, [11], [], 0), (1066, [0, 10], [4, 5], 0), (0, [10], [], 26), (1066, [0, 9], [3, 4], 0), (0, [9], [], 2), (41, [7, 8], [], 0), (0, [8], [], -1), (20, [7, 1], [3], 2), (23, [1], [3], 1), (90, [7], [], -2147483648), (91, [7], [], 2147483647), (80, [1, 6, 5], [3, 2], 0), (0, [6], [], 2), (23, [1], [2], 1), (1071, [5, 0, 4], [1, 2], 0), (90, [5], [], -2147483648), (91, [5], [], 2147483647), (1123, [4, 2, 3], [0, 1], 0), (20, [3, 0], [0], 1), (90, [3], [], -2147483648), (91, [3], [], 2147483647), (20, [2, 0], [0], 0), (0, [2], [], 31), (6000, [0, 1], [0], 0), (0, [0], [], 30), (51, [1], [], 0)], (2081, [0, 1, 11], [5], 0)) := vOk_in fun ρ η h => by
  obtain ⟨f0, f1, f2, f3, f4, f5, f6, f7, f8, f9, f10, f11, f12, f13, f14, f15, f16, f17, f18, f19, f20, f21, f22, f23, f24, f25, _⟩ := h
  exact q_80v_4 (n0 := ρ 1) (n1 := ρ 0) (n2 := ρ 2) (n3 := ρ 3) (n4 := ρ 4) (n5 := ρ 5) (n6 := ρ 6) (n7 := ρ 7) (n8 := ρ 8) (n9 := ρ 9) (n10 := ρ 10) (n11 := ρ 11) (H0 := η 0) (H1 := η 1) (H2 := η 2) (H3 := η 3) (H4 := η 4) (H5 := η 5) f25 f24 f23 f22 f21 f20 f19 f18 f17 f16 f15 f14 f13 f12 f11 f10 f9 f8 f7 f6 f5 f4 f3 f2 f1 f0
theorem q_80v_5 {n0 n1 n2 n3 n4 n5 n6 n7 n8 n9 n10 n11 : Int} {H0 H1 H2 H3 H4 H5 H6 : gH} (f0 : 0 ≤ n0) (f1 : n1 = 30) (f2 : hWt T0 H0 ∧ preb_80v n1 n0 H0) (f3 : n2 = 31) (f4 : n2 = hV H0 (n1).toNat 0) (f5 : n3 ≤ 2147483647) (f6 : (-2147483648) ≤ n3) (f7 : n3 = hV H0 (n1).toNat 1) (f8 : (hLe T0 H0 H1 ∧ hFr s_123v.2.2.2.2 H0 H1 ∧ ((0 : Int) = 0 → H1.length = H0.length) ∧ hWt T0 H1) ∧ postb_123v n4 n2 n3 H0 H1) (f9 : n5 ≤ 2147483647) (f10 : (-2147483648) ≤ n5) (f11 : (hLe T0 H1 H2 ∧ hFr s_71v.2.2.2.2 H1 H2 ∧ ((0 : Int) = 0 → H2.length = H1.length) ∧ hWt T0 H2) ∧ postb_71v n5 n1 n4 H1 H2) (f12 : hK H2 (n0).toNat = 1) (f13 : n6 = 2) (f14 : hUpd H3 H2 n0 n6 n5) (f15 : n7 ≤ 2147483647) (f16 : (-2147483648) ≤ n7) (f17 : hK H3 (n0).toNat = 1) (f18 : n7 = hV H3 (n0).toNat 2) (f19 : n8 = (-1)) (f20 : n7 ≠ n8) (f21 : n9 = 2) (f22 : (hLe T0 H3 H4 ∧ hFr s_66v.2.2.2.2 H3 H4 ∧ ((0 : Int) = 0 → H4.length = H3.length) ∧ hWt T0 H4) ∧ postb_66v n1 n9 H3 H4) (f23 : n10 = 26) (f24 : (hLe T0 H4 H5 ∧ hFr s_66v.2.2.2.2 H4 H5 ∧ ((0 : Int) = 0 → H5.length = H4.length) ∧ hWt T0 H5) ∧ postb_66v n1 n10 H4 H5) (f25 : n11 = 0) (f26 : (hLe T0 H5 H6 ∧ hFr s_81v.2.2.2.2 H5 H6 ∧ ((0 : Int) = 0 → H6.length = H5.length) ∧ hWt T0 H6) ∧ postb_81v n1 n0 n11 H5 H6) : postb_80v n1 n0 H0 H6 := by
  have pz := f2.2
  unfold preb_80v at pz
  have s0 := PF_fr f8.1.1 f8.1.2.1 (by decide +kernel) pz.1
  have a0 : absC H1 = (absC H0) := s0.1
  have v0 : vwC H1 = vwC H0 := s0.2.1
  have s1 := PF_fr f11.1.1 f11.1.2.1 (by decide +kernel) s0.2.2
  have a1 : absC H2 = (absC H0) := s1.1.trans a0
  have v1 : vwC H2 = vwC H0 := s1.2.1.trans v0
  have s2 := PF_up f14 s1.2.2 f12
  have a2 : absC H3 = (absC H0) := s2.1.trans a1
  have v2 : vwC H3 = vwC H0 := s2.2.1.trans v1
  have c3 := f22.2
  unfold postb_66v at c3
  try rw [f21] at c3
  rw [v2] at c3
  rw [a2] at c3
  have a3 : absC H4 = (ptk (vwC H0) 2 (absC H0)) := c3.2
  have v3 : vwC H4 = vwC H0 := (vwC_fr f22.1.2.1 (by decide +kernel)).trans v2
  have c4 := f24.2
  unfold postb_66v at c4
  try rw [f23] at c4
  rw [v3] at c4
  rw [a3] at c4
  have a4 : absC H5 = (ptk (vwC H0) 26 (ptk (vwC H0) 2 (absC H0))) := c4.2
  have v4 : vwC H5 = vwC H0 := (vwC_fr f24.1.2.1 (by decide +kernel)).trans v3
  have c5 := f26.2
  unfold postb_81v at c5
  try rw [f25] at c5
  rw [v4] at c5
  rw [a4] at c5
  have a5 : absC H6 = (pTime (vwC H0) (ptk (vwC H0) 26 (ptk (vwC H0) 2 (absC H0)))) := c5.2
  have v5 : vwC H6 = vwC H0 := (vwC_fr f26.1.2.1 (by decide +kernel)).trans v4
  have d0 := BI_fr f8.1.1 f8.1.2.1 (by decide +kernel) pz.2.1
  have j0 : BLc H1 = BLc H0 := d0.2
  have d1 := BI_fr f11.1.1 f11.1.2.1 (by decide +kernel) d0.1
  have j1 : BLc H2 = BLc H0 := d1.2.trans j0
  have d2 := BI_up f14 s1.2.2 d1.1 f12
  have j2 : BLc H3 = BLc H0 := d2.2.trans j1
  have d3 := BI_fr f22.1.1 f22.1.2.1 (by decide +kernel) d2.1
  have j3 : BLc H4 = BLc H0 := d3.2.trans j2
  have d4 := BI_fr f24.1.1 f24.1.2.1 (by decide +kernel) d3.1
  have j4 : BLc H5 = BLc H0 := d4.2.trans j3
  have d5 := BI_fr f26.1.1 f26.1.2.1 (by decide +kernel) d4.1
  have j5 : BLc H6 = BLc H0 := d5.2.trans j4
  have r1 := f7
  rw [f1] at r1
  rw [show ((30 : Int)).toNat = 30 from rfl] at r1
  have pv := f8.2
  unfold postb_123v at pv
  rw [show n3 = hV H0 30 1 from r1] at pv
  have nx := nm_at pz.1 pv
  have pk := f11.2
  unfold postb_71v at pk
  rw [f8.1.2.1.1 30 13 (by decide +kernel), fRow f8.1.2.1 48 (by decide +kernel)] at pk
  have un : (vwC H0).1 (absC H0).1 = 2 → UNb H0 ((vwC H0).2.2.1 (absC H0).1) n5 := fun h2 => by
    rw [(nx h2).2]
    exact UNb_of pz.2.1 (nx h2).1 (pk.1 (nx h2).1)
  have ck := pz.2.2.1
  have t0_20 : hK H1 (n0).toNat = 1 := kLe f8.1.1 ck rfl
  have t0_21 : hK H2 (n0).toNat = 1 := kLe f11.1.1 t0_20 rfl
  have t0_22 : hK H3 (n0).toNat = 1 := kUp f14 t0_21
  have nu0 := f18.trans (uSame f14 _ 2 (Int.toNat_of_nonneg (by omega)) (by rw [f13]; rfl))
  have e_20 : hK H1 (n0).toNat = 1 := kLe f8.1.1 ck rfl
  have e_21 : hK H2 (n0).toNat = 1 := kLe f11.1.1 e_20 rfl
  have e_22 : hK H3 (n0).toNat = 1 := kUp f14 e_21
  have e_23 : hK H4 (n0).toNat = 1 := kLe f22.1.1 e_22 rfl
  have e_24 : hK H5 (n0).toNat = 1 := kLe f24.1.1 e_23 rfl
  have e_25 : hK H6 (n0).toNat = 1 := kLe f26.1.1 e_24 rfl
  have ne : hV H6 (n0).toNat 2 = n5 := (f26.1.2.1.2.2 _ 1 e_24 rfl 2 (by decide +kernel)).trans ((f24.1.2.1.2.2 _ 1 e_23 rfl 2 (by decide +kernel)).trans ((f22.1.2.1.2.2 _ 1 e_22 rfl 2 (by decide +kernel)).trans (uSame f14 _ 2 (Int.toNat_of_nonneg (by omega)) (by rw [f13]; rfl))))
  have ok := name_ok (b := 4) (n := 8 * (vwC H0).2.2.2 (absC H0).1 + 4) (c := n5 = -1) (d := pfd (BLc H0) ((vwC H0).2.2.1 (absC H0).1) = -1) pz.1 (absC_ok pz.1) (fun h2 => by rcases un h2 with q | q <;> omega) rfl
  rw [if_neg (by omega)] at ok
  rw [ok] at a5
  unfold postb_80v
  refine ⟨c5.1, a5, d5.1, j5, fun hf => ?_⟩
  have q0 := (absC_pos c5.1 hf).2
  rw [a5] at q0
  have q1 : 0 ≤ (ptk (vwC H0) 26 (pgz (pt1 (vwC H0) 2 (absC H0).1) (if (absC H0).2 = 0 ∧ pfd (BLc H0) ((vwC H0).2.2.1 (absC H0).1) = -1 then 8 * (vwC H0).2.2.2 (absC H0).1 + 4 else (absC H0).2))).1 := by
    rcases Int.lt_or_le (ptk (vwC H0) 26 (pgz (pt1 (vwC H0) 2 (absC H0).1) (if (absC H0).2 = 0 ∧ pfd (BLc H0) ((vwC H0).2.2.1 (absC H0).1) = -1 then 8 * (vwC H0).2.2.2 (absC H0).1 + 4 else (absC H0).2))).1 0 with q | q
    · rw [pTime_neg (vwC_ok H0) q ptk_ok] at q0
      exact q0
    · exact q
  have q2 := (pt1_kind pz.1.2.1 q1).1
  have q3 := (pt1_kind pz.1.2.1 q2).2
  rw [ne]
  exact un q3
theorem c_80v_s_5 : vOkm T0 (eP e_80v L_80v A_80v mu_80v none) 2 ([(1081, [0, 1, 11], [5, 6], 0), (0, [11], [], 0), (1066, [0, 10], [4, 5], 0), (0, [10], [], 26), (1066, [0, 9], [3, 4], 0), (0, [9], [], 2), (41, [7, 8], [], 0), (0, [8], [], -1), (20, [7, 1], [3], 2), (23, [1], [3], 1), (90, [7], [], -2147483648), (91, [7], [], 2147483647), (80, [1, 6, 5], [3, 2], 0), (0, [6], [], 2), (23, [1], [2], 1), (1071, [5, 0, 4], [1, 2], 0), (90, [5], [], -2147483648), (91, [5], [], 2147483647), (1123, [4, 2, 3], [0, 1], 0), (20, [3, 0], [0], 1), (90, [3], [], -2147483648), (91, [3], [], 2147483647), (20, [2, 0], [0], 0), (0, [2], [], 31), (6000, [0, 1], [0], 0), (0, [0], [], 30), (51, [1], [], 0)], (3000, [], [6], 53)) := vOk_in fun ρ η h => by
  obtain ⟨f0, f1, f2, f3, f4, f5, f6, f7, f8, f9, f10, f11, f12, f13, f14, f15, f16, f17, f18, f19, f20, f21, f22, f23, f24, f25, f26, _⟩ := h
  exact q_80v_5 (n0 := ρ 1) (n1 := ρ 0) (n2 := ρ 2) (n3 := ρ 3) (n4 := ρ 4) (n5 := ρ 5) (n6 := ρ 6) (n7 := ρ 7) (n8 := ρ 8) (n9 := ρ 9) (n10 := ρ 10) (n11 := ρ 11) (H0 := η 0) (H1 := η 1) (H2 := η 2) (H3 := η 3) (H4 := η 4) (H5 := η 5) (H6 := η 6) f26 f25 f24 f23 f22 f21 f20 f19 f18 f17 f16 f15 f14 f13 f12 f11 f10 f9 f8 f7 f6 f5 f4 f3 f2 f1 f0
theorem q_80v_6 {n0 n1 n2 n3 n4 n5 n6 n7 n8 n9 n10 : Int} {H0 H1 H2 H3 : gH} (f0 : 0 ≤ n0) (f1 : n1 = 30) (f2 : hWt T0 H0 ∧ preb_80v n1 n0 H0) (f3 : n2 = 31) (f4 : n2 = hV H0 (n1).toNat 0) (f5 : n3 ≤ 2147483647) (f6 : (-2147483648) ≤ n3) (f7 : n3 = hV H0 (n1).toNat 1) (f8 : (hLe T0 H0 H1 ∧ hFr s_123v.2.2.2.2 H0 H1 ∧ ((0 : Int) = 0 → H1.length = H0.length) ∧ hWt T0 H1) ∧ postb_123v n4 n2 n3 H0 H1) (f9 : n5 ≤ 2147483647) (f10 : (-2147483648) ≤ n5) (f11 : (hLe T0 H1 H2 ∧ hFr s_71v.2.2.2.2 H1 H2 ∧ ((0 : Int) = 0 → H2.length = H1.length) ∧ hWt T0 H2) ∧ postb_71v n5 n1 n4 H1 H2) (f12 : hK H2 (n0).toNat = 1) (f13 : n6 = 2) (f14 : hUpd H3 H2 n0 n6 n5) (f15 : n7 ≤ 2147483647) (f16 : (-2147483648) ≤ n7) (f17 : hK H3 (n0).toNat = 1) (f18 : n7 = hV H3 (n0).toNat 2) (f19 : n8 = (-1)) (f20 : n7 = n8) (f21 : n9 = 4) (f22 : n10 ≤ 2147483647) (f23 : (-2147483648) ≤ n10) (f24 : n10 = hV H3 (n1).toNat 1) : preb_65v n1 n9 n10 H3 := by
  have pz := f2.2
  unfold preb_80v at pz
  have s0 := PF_fr f8.1.1 f8.1.2.1 (by decide +kernel) pz.1
  have a0 : absC H1 = (absC H0) := s0.1
  have v0 : vwC H1 = vwC H0 := s0.2.1
  have s1 := PF_fr f11.1.1 f11.1.2.1 (by decide +kernel) s0.2.2
  have a1 : absC H2 = (absC H0) := s1.1.trans a0
  have v1 : vwC H2 = vwC H0 := s1.2.1.trans v0
  have s2 := PF_up f14 s1.2.2 f12
  have a2 : absC H3 = (absC H0) := s2.1.trans a1
  have v2 : vwC H3 = vwC H0 := s2.2.1.trans v1
  have d0 := BI_fr f8.1.1 f8.1.2.1 (by decide +kernel) pz.2.1
  have j0 : BLc H1 = BLc H0 := d0.2
  have d1 := BI_fr f11.1.1 f11.1.2.1 (by decide +kernel) d0.1
  have j1 : BLc H2 = BLc H0 := d1.2.trans j0
  have d2 := BI_up f14 s1.2.2 d1.1 f12
  have j2 : BLc H3 = BLc H0 := d2.2.trans j1
  have rb := f24
  rw [f1] at rb
  rw [show ((30 : Int)).toNat = 30 from rfl] at rb
  unfold preb_65v
  refine ⟨s2.2.2, by omega, by omega, ?_⟩
  rw [rb]
  exact s2.2.2.2.2.2.1
theorem c_80v_s_6 : vOkm T0 (eP e_80v L_80v A_80v mu_80v none) 2 ([(20, [10, 0], [3], 1), (90, [10], [], -2147483648), (91, [10], [], 2147483647), (0, [9], [], 4), (40, [7, 8], [], 0), (0, [8], [], -1), (20, [7, 1], [3], 2), (23, [1], [3], 1), (90, [7], [], -2147483648), (91, [7], [], 2147483647), (80, [1, 6, 5], [3, 2], 0), (0, [6], [], 2), (23, [1], [2], 1), (1071, [5, 0, 4], [1, 2], 0), (90, [5], [], -2147483648), (91, [5], [], 2147483647), (1123, [4, 2, 3], [0, 1], 0), (20, [3, 0], [0], 1), (90, [3], [], -2147483648), (91, [3], [], 2147483647), (20, [2, 0], [0], 0), (0, [2], [], 31), (6000, [0, 1], [0], 0), (0, [0], [], 30), (51, [1], [], 0)], (2065, [0, 9, 10], [3], 0)) := vOk_in fun ρ η h => by
  obtain ⟨f0, f1, f2, f3, f4, f5, f6, f7, f8, f9, f10, f11, f12, f13, f14, f15, f16, f17, f18, f19, f20, f21, f22, f23, f24, _⟩ := h
  exact q_80v_6 (n0 := ρ 1) (n1 := ρ 0) (n2 := ρ 2) (n3 := ρ 3) (n4 := ρ 4) (n5 := ρ 5) (n6 := ρ 6) (n7 := ρ 7) (n8 := ρ 8) (n9 := ρ 9) (n10 := ρ 10) (H0 := η 0) (H1 := η 1) (H2 := η 2) (H3 := η 3) f24 f23 f22 f21 f20 f19 f18 f17 f16 f15 f14 f13 f12 f11 f10 f9 f8 f7 f6 f5 f4 f3 f2 f1 f0
theorem q_80v_7 {n0 n1 n2 n3 n4 n5 n6 n7 n8 n9 n10 n11 : Int} {H0 H1 H2 H3 H4 : gH} (f0 : 0 ≤ n0) (f1 : n1 = 30) (f2 : hWt T0 H0 ∧ preb_80v n1 n0 H0) (f3 : n2 = 31) (f4 : n2 = hV H0 (n1).toNat 0) (f5 : n3 ≤ 2147483647) (f6 : (-2147483648) ≤ n3) (f7 : n3 = hV H0 (n1).toNat 1) (f8 : (hLe T0 H0 H1 ∧ hFr s_123v.2.2.2.2 H0 H1 ∧ ((0 : Int) = 0 → H1.length = H0.length) ∧ hWt T0 H1) ∧ postb_123v n4 n2 n3 H0 H1) (f9 : n5 ≤ 2147483647) (f10 : (-2147483648) ≤ n5) (f11 : (hLe T0 H1 H2 ∧ hFr s_71v.2.2.2.2 H1 H2 ∧ ((0 : Int) = 0 → H2.length = H1.length) ∧ hWt T0 H2) ∧ postb_71v n5 n1 n4 H1 H2) (f12 : hK H2 (n0).toNat = 1) (f13 : n6 = 2) (f14 : hUpd H3 H2 n0 n6 n5) (f15 : n7 ≤ 2147483647) (f16 : (-2147483648) ≤ n7) (f17 : hK H3 (n0).toNat = 1) (f18 : n7 = hV H3 (n0).toNat 2) (f19 : n8 = (-1)) (f20 : n7 = n8) (f21 : n9 = 4) (f22 : n10 ≤ 2147483647) (f23 : (-2147483648) ≤ n10) (f24 : n10 = hV H3 (n1).toNat 1) (f25 : (hLe T0 H3 H4 ∧ hFr s_65v.2.2.2.2 H3 H4 ∧ ((0 : Int) = 0 → H4.length = H3.length) ∧ hWt T0 H4) ∧ postb_65v n1 n9 n10 H3 H4) (f26 : n11 = 2) : preb_66v n1 n11 H4 := by
  have pz := f2.2
  unfold preb_80v at pz
  have s0 := PF_fr f8.1.1 f8.1.2.1 (by decide +kernel) pz.1
  have a0 : absC H1 = (absC H0) := s0.1
  have v0 : vwC H1 = vwC H0 := s0.2.1
  have s1 := PF_fr f11.1.1 f11.1.2.1 (by decide +kernel) s0.2.2
  have a1 : absC H2 = (absC H0) := s1.1.trans a0
  have v1 : vwC H2 = vwC H0 := s1.2.1.trans v0
  have s2 := PF_up f14 s1.2.2 f12
  have a2 : absC H3 = (absC H0) := s2.1.trans a1
  have v2 : vwC H3 = vwC H0 := s2.2.1.trans v1
  have c3 := f25.2
  unfold postb_65v at c3
  try rw [f21] at c3
  rw [v2] at c3
  rw [a2] at c3
  have a3 : absC H4 = (pbl (vwC H0) 4 n10 (absC H0)) := c3.2
  have v3 : vwC H4 = vwC H0 := (vwC_fr f25.1.2.1 (by decide +kernel)).trans v2
  have d0 := BI_fr f8.1.1 f8.1.2.1 (by decide +kernel) pz.2.1
  have j0 : BLc H1 = BLc H0 := d0.2
  have d1 := BI_fr f11.1.1 f11.1.2.1 (by decide +kernel) d0.1
  have j1 : BLc H2 = BLc H0 := d1.2.trans j0
  have d2 := BI_up f14 s1.2.2 d1.1 f12
  have j2 : BLc H3 = BLc H0 := d2.2.trans j1
  have d3 := BI_fr f25.1.1 f25.1.2.1 (by decide +kernel) d2.1
  have j3 : BLc H4 = BLc H0 := d3.2.trans j2
  unfold preb_66v
  exact ⟨c3.1, by omega⟩
theorem c_80v_s_7 : vOkm T0 (eP e_80v L_80v A_80v mu_80v none) 2 ([(0, [11], [], 2), (1065, [0, 9, 10], [3, 4], 0), (20, [10, 0], [3], 1), (90, [10], [], -2147483648), (91, [10], [], 2147483647), (0, [9], [], 4), (40, [7, 8], [], 0), (0, [8], [], -1), (20, [7, 1], [3], 2), (23, [1], [3], 1), (90, [7], [], -2147483648), (91, [7], [], 2147483647), (80, [1, 6, 5], [3, 2], 0), (0, [6], [], 2), (23, [1], [2], 1), (1071, [5, 0, 4], [1, 2], 0), (90, [5], [], -2147483648), (91, [5], [], 2147483647), (1123, [4, 2, 3], [0, 1], 0), (20, [3, 0], [0], 1), (90, [3], [], -2147483648), (91, [3], [], 2147483647), (20, [2, 0], [0], 0), (0, [2], [], 31), (6000, [0, 1], [0], 0), (0, [0], [], 30), (51, [1], [], 0)], (2066, [0, 11], [4], 0)) := vOk_in fun ρ η h => by
  obtain ⟨f0, f1, f2, f3, f4, f5, f6, f7, f8, f9, f10, f11, f12, f13, f14, f15, f16, f17, f18, f19, f20, f21, f22, f23, f24, f25, f26, _⟩ := h
  exact q_80v_7 (n0 := ρ 1) (n1 := ρ 0) (n2 := ρ 2) (n3 := ρ 3) (n4 := ρ 4) (n5 := ρ 5) (n6 := ρ 6) (n7 := ρ 7) (n8 := ρ 8) (n9 := ρ 9) (n10 := ρ 10) (n11 := ρ 11) (H0 := η 0) (H1 := η 1) (H2 := η 2) (H3 := η 3) (H4 := η 4) f26 f25 f24 f23 f22 f21 f20 f19 f18 f17 f16 f15 f14 f13 f12 f11 f10 f9 f8 f7 f6 f5 f4 f3 f2 f1 f0
theorem q_80v_8 {n0 n1 n2 n3 n4 n5 n6 n7 n8 n9 n10 n11 n12 : Int} {H0 H1 H2 H3 H4 H5 : gH} (f0 : 0 ≤ n0) (f1 : n1 = 30) (f2 : hWt T0 H0 ∧ preb_80v n1 n0 H0) (f3 : n2 = 31) (f4 : n2 = hV H0 (n1).toNat 0) (f5 : n3 ≤ 2147483647) (f6 : (-2147483648) ≤ n3) (f7 : n3 = hV H0 (n1).toNat 1) (f8 : (hLe T0 H0 H1 ∧ hFr s_123v.2.2.2.2 H0 H1 ∧ ((0 : Int) = 0 → H1.length = H0.length) ∧ hWt T0 H1) ∧ postb_123v n4 n2 n3 H0 H1) (f9 : n5 ≤ 2147483647) (f10 : (-2147483648) ≤ n5) (f11 : (hLe T0 H1 H2 ∧ hFr s_71v.2.2.2.2 H1 H2 ∧ ((0 : Int) = 0 → H2.length = H1.length) ∧ hWt T0 H2) ∧ postb_71v n5 n1 n4 H1 H2) (f12 : hK H2 (n0).toNat = 1) (f13 : n6 = 2) (f14 : hUpd H3 H2 n0 n6 n5) (f15 : n7 ≤ 2147483647) (f16 : (-2147483648) ≤ n7) (f17 : hK H3 (n0).toNat = 1) (f18 : n7 = hV H3 (n0).toNat 2) (f19 : n8 = (-1)) (f20 : n7 = n8) (f21 : n9 = 4) (f22 : n10 ≤ 2147483647) (f23 : (-2147483648) ≤ n10) (f24 : n10 = hV H3 (n1).toNat 1) (f25 : (hLe T0 H3 H4 ∧ hFr s_65v.2.2.2.2 H3 H4 ∧ ((0 : Int) = 0 → H4.length = H3.length) ∧ hWt T0 H4) ∧ postb_65v n1 n9 n10 H3 H4) (f26 : n11 = 2) (f27 : (hLe T0 H4 H5 ∧ hFr s_66v.2.2.2.2 H4 H5 ∧ ((0 : Int) = 0 → H5.length = H4.length) ∧ hWt T0 H5) ∧ postb_66v n1 n11 H4 H5) (f28 : n12 = 26) : preb_66v n1 n12 H5 := by
  have pz := f2.2
  unfold preb_80v at pz
  have s0 := PF_fr f8.1.1 f8.1.2.1 (by decide +kernel) pz.1
  have a0 : absC H1 = (absC H0) := s0.1
  have v0 : vwC H1 = vwC H0 := s0.2.1
  have s1 := PF_fr f11.1.1 f11.1.2.1 (by decide +kernel) s0.2.2
  have a1 : absC H2 = (absC H0) := s1.1.trans a0
  have v1 : vwC H2 = vwC H0 := s1.2.1.trans v0
  have s2 := PF_up f14 s1.2.2 f12
  have a2 : absC H3 = (absC H0) := s2.1.trans a1
  have v2 : vwC H3 = vwC H0 := s2.2.1.trans v1
  have c3 := f25.2
  unfold postb_65v at c3
  try rw [f21] at c3
  rw [v2] at c3
  rw [a2] at c3
  have a3 : absC H4 = (pbl (vwC H0) 4 n10 (absC H0)) := c3.2
  have v3 : vwC H4 = vwC H0 := (vwC_fr f25.1.2.1 (by decide +kernel)).trans v2
  have c4 := f27.2
  unfold postb_66v at c4
  try rw [f26] at c4
  rw [v3] at c4
  rw [a3] at c4
  have a4 : absC H5 = (ptk (vwC H0) 2 (pbl (vwC H0) 4 n10 (absC H0))) := c4.2
  have v4 : vwC H5 = vwC H0 := (vwC_fr f27.1.2.1 (by decide +kernel)).trans v3
  have d0 := BI_fr f8.1.1 f8.1.2.1 (by decide +kernel) pz.2.1
  have j0 : BLc H1 = BLc H0 := d0.2
  have d1 := BI_fr f11.1.1 f11.1.2.1 (by decide +kernel) d0.1
  have j1 : BLc H2 = BLc H0 := d1.2.trans j0
  have d2 := BI_up f14 s1.2.2 d1.1 f12
  have j2 : BLc H3 = BLc H0 := d2.2.trans j1
  have d3 := BI_fr f25.1.1 f25.1.2.1 (by decide +kernel) d2.1
  have j3 : BLc H4 = BLc H0 := d3.2.trans j2
  have d4 := BI_fr f27.1.1 f27.1.2.1 (by decide +kernel) d3.1
  have j4 : BLc H5 = BLc H0 := d4.2.trans j3
  unfold preb_66v
  exact ⟨c4.1, by omega⟩
theorem c_80v_s_8 : vOkm T0 (eP e_80v L_80v A_80v mu_80v none) 2 ([(0, [12], [], 26), (1066, [0, 11], [4, 5], 0), (0, [11], [], 2), (1065, [0, 9, 10], [3, 4], 0), (20, [10, 0], [3], 1), (90, [10], [], -2147483648), (91, [10], [], 2147483647), (0, [9], [], 4), (40, [7, 8], [], 0), (0, [8], [], -1), (20, [7, 1], [3], 2), (23, [1], [3], 1), (90, [7], [], -2147483648), (91, [7], [], 2147483647), (80, [1, 6, 5], [3, 2], 0), (0, [6], [], 2), (23, [1], [2], 1), (1071, [5, 0, 4], [1, 2], 0), (90, [5], [], -2147483648), (91, [5], [], 2147483647), (1123, [4, 2, 3], [0, 1], 0), (20, [3, 0], [0], 1), (90, [3], [], -2147483648), (91, [3], [], 2147483647), (20, [2, 0], [0], 0), (0, [2], [], 31), (6000, [0, 1], [0], 0), (0, [0], [], 30), (51, [1], [], 0)], (2066, [0, 12], [5], 0)) := vOk_in fun ρ η h => by
  obtain ⟨f0, f1, f2, f3, f4, f5, f6, f7, f8, f9, f10, f11, f12, f13, f14, f15, f16, f17, f18, f19, f20, f21, f22, f23, f24, f25, f26, f27, f28, _⟩ := h
  exact q_80v_8 (n0 := ρ 1) (n1 := ρ 0) (n2 := ρ 2) (n3 := ρ 3) (n4 := ρ 4) (n5 := ρ 5) (n6 := ρ 6) (n7 := ρ 7) (n8 := ρ 8) (n9 := ρ 9) (n10 := ρ 10) (n11 := ρ 11) (n12 := ρ 12) (H0 := η 0) (H1 := η 1) (H2 := η 2) (H3 := η 3) (H4 := η 4) (H5 := η 5) f28 f27 f26 f25 f24 f23 f22 f21 f20 f19 f18 f17 f16 f15 f14 f13 f12 f11 f10 f9 f8 f7 f6 f5 f4 f3 f2 f1 f0
theorem q_80v_9 {n0 n1 n2 n3 n4 n5 n6 n7 n8 n9 n10 n11 n12 n13 : Int} {H0 H1 H2 H3 H4 H5 H6 : gH} (f0 : 0 ≤ n0) (f1 : n1 = 30) (f2 : hWt T0 H0 ∧ preb_80v n1 n0 H0) (f3 : n2 = 31) (f4 : n2 = hV H0 (n1).toNat 0) (f5 : n3 ≤ 2147483647) (f6 : (-2147483648) ≤ n3) (f7 : n3 = hV H0 (n1).toNat 1) (f8 : (hLe T0 H0 H1 ∧ hFr s_123v.2.2.2.2 H0 H1 ∧ ((0 : Int) = 0 → H1.length = H0.length) ∧ hWt T0 H1) ∧ postb_123v n4 n2 n3 H0 H1) (f9 : n5 ≤ 2147483647) (f10 : (-2147483648) ≤ n5) (f11 : (hLe T0 H1 H2 ∧ hFr s_71v.2.2.2.2 H1 H2 ∧ ((0 : Int) = 0 → H2.length = H1.length) ∧ hWt T0 H2) ∧ postb_71v n5 n1 n4 H1 H2) (f12 : hK H2 (n0).toNat = 1) (f13 : n6 = 2) (f14 : hUpd H3 H2 n0 n6 n5) (f15 : n7 ≤ 2147483647) (f16 : (-2147483648) ≤ n7) (f17 : hK H3 (n0).toNat = 1) (f18 : n7 = hV H3 (n0).toNat 2) (f19 : n8 = (-1)) (f20 : n7 = n8) (f21 : n9 = 4) (f22 : n10 ≤ 2147483647) (f23 : (-2147483648) ≤ n10) (f24 : n10 = hV H3 (n1).toNat 1) (f25 : (hLe T0 H3 H4 ∧ hFr s_65v.2.2.2.2 H3 H4 ∧ ((0 : Int) = 0 → H4.length = H3.length) ∧ hWt T0 H4) ∧ postb_65v n1 n9 n10 H3 H4) (f26 : n11 = 2) (f27 : (hLe T0 H4 H5 ∧ hFr s_66v.2.2.2.2 H4 H5 ∧ ((0 : Int) = 0 → H5.length = H4.length) ∧ hWt T0 H5) ∧ postb_66v n1 n11 H4 H5) (f28 : n12 = 26) (f29 : (hLe T0 H5 H6 ∧ hFr s_66v.2.2.2.2 H5 H6 ∧ ((0 : Int) = 0 → H6.length = H5.length) ∧ hWt T0 H6) ∧ postb_66v n1 n12 H5 H6) (f30 : n13 = 0) : preb_81v n1 n0 n13 H6 := by
  have pz := f2.2
  unfold preb_80v at pz
  have s0 := PF_fr f8.1.1 f8.1.2.1 (by decide +kernel) pz.1
  have a0 : absC H1 = (absC H0) := s0.1
  have v0 : vwC H1 = vwC H0 := s0.2.1
  have s1 := PF_fr f11.1.1 f11.1.2.1 (by decide +kernel) s0.2.2
  have a1 : absC H2 = (absC H0) := s1.1.trans a0
  have v1 : vwC H2 = vwC H0 := s1.2.1.trans v0
  have s2 := PF_up f14 s1.2.2 f12
  have a2 : absC H3 = (absC H0) := s2.1.trans a1
  have v2 : vwC H3 = vwC H0 := s2.2.1.trans v1
  have c3 := f25.2
  unfold postb_65v at c3
  try rw [f21] at c3
  rw [v2] at c3
  rw [a2] at c3
  have a3 : absC H4 = (pbl (vwC H0) 4 n10 (absC H0)) := c3.2
  have v3 : vwC H4 = vwC H0 := (vwC_fr f25.1.2.1 (by decide +kernel)).trans v2
  have c4 := f27.2
  unfold postb_66v at c4
  try rw [f26] at c4
  rw [v3] at c4
  rw [a3] at c4
  have a4 : absC H5 = (ptk (vwC H0) 2 (pbl (vwC H0) 4 n10 (absC H0))) := c4.2
  have v4 : vwC H5 = vwC H0 := (vwC_fr f27.1.2.1 (by decide +kernel)).trans v3
  have c5 := f29.2
  unfold postb_66v at c5
  try rw [f28] at c5
  rw [v4] at c5
  rw [a4] at c5
  have a5 : absC H6 = (ptk (vwC H0) 26 (ptk (vwC H0) 2 (pbl (vwC H0) 4 n10 (absC H0)))) := c5.2
  have v5 : vwC H6 = vwC H0 := (vwC_fr f29.1.2.1 (by decide +kernel)).trans v4
  have d0 := BI_fr f8.1.1 f8.1.2.1 (by decide +kernel) pz.2.1
  have j0 : BLc H1 = BLc H0 := d0.2
  have d1 := BI_fr f11.1.1 f11.1.2.1 (by decide +kernel) d0.1
  have j1 : BLc H2 = BLc H0 := d1.2.trans j0
  have d2 := BI_up f14 s1.2.2 d1.1 f12
  have j2 : BLc H3 = BLc H0 := d2.2.trans j1
  have d3 := BI_fr f25.1.1 f25.1.2.1 (by decide +kernel) d2.1
  have j3 : BLc H4 = BLc H0 := d3.2.trans j2
  have d4 := BI_fr f27.1.1 f27.1.2.1 (by decide +kernel) d3.1
  have j4 : BLc H5 = BLc H0 := d4.2.trans j3
  have d5 := BI_fr f29.1.1 f29.1.2.1 (by decide +kernel) d4.1
  have j5 : BLc H6 = BLc H0 := d5.2.trans j4
  unfold preb_81v
  exact c5.1
theorem c_80v_s_9 : vOkm T0 (eP e_80v L_80v A_80v mu_80v none) 2 ([(0, [13], [], 0), (1066, [0, 12], [5, 6], 0), (0, [12], [], 26), (1066, [0, 11], [4, 5], 0), (0, [11], [], 2), (1065, [0, 9, 10], [3, 4], 0), (20, [10, 0], [3], 1), (90, [10], [], -2147483648), (91, [10], [], 2147483647), (0, [9], [], 4), (40, [7, 8], [], 0), (0, [8], [], -1), (20, [7, 1], [3], 2), (23, [1], [3], 1), (90, [7], [], -2147483648), (91, [7], [], 2147483647), (80, [1, 6, 5], [3, 2], 0), (0, [6], [], 2), (23, [1], [2], 1), (1071, [5, 0, 4], [1, 2], 0), (90, [5], [], -2147483648), (91, [5], [], 2147483647), (1123, [4, 2, 3], [0, 1], 0), (20, [3, 0], [0], 1), (90, [3], [], -2147483648), (91, [3], [], 2147483647), (20, [2, 0], [0], 0), (0, [2], [], 31), (6000, [0, 1], [0], 0), (0, [0], [], 30), (51, [1], [], 0)], (2081, [0, 1, 13], [6], 0)) := vOk_in fun ρ η h => by
  obtain ⟨f0, f1, f2, f3, f4, f5, f6, f7, f8, f9, f10, f11, f12, f13, f14, f15, f16, f17, f18, f19, f20, f21, f22, f23, f24, f25, f26, f27, f28, f29, f30, _⟩ := h
  exact q_80v_9 (n0 := ρ 1) (n1 := ρ 0) (n2 := ρ 2) (n3 := ρ 3) (n4 := ρ 4) (n5 := ρ 5) (n6 := ρ 6) (n7 := ρ 7) (n8 := ρ 8) (n9 := ρ 9) (n10 := ρ 10) (n11 := ρ 11) (n12 := ρ 12) (n13 := ρ 13) (H0 := η 0) (H1 := η 1) (H2 := η 2) (H3 := η 3) (H4 := η 4) (H5 := η 5) (H6 := η 6) f30 f29 f28 f27 f26 f25 f24 f23 f22 f21 f20 f19 f18 f17 f16 f15 f14 f13 f12 f11 f10 f9 f8 f7 f6 f5 f4 f3 f2 f1 f0
theorem q_80v_10 {n0 n1 n2 n3 n4 n5 n6 n7 n8 n9 n10 n11 n12 n13 : Int} {H0 H1 H2 H3 H4 H5 H6 H7 : gH} (f0 : 0 ≤ n0) (f1 : n1 = 30) (f2 : hWt T0 H0 ∧ preb_80v n1 n0 H0) (f3 : n2 = 31) (f4 : n2 = hV H0 (n1).toNat 0) (f5 : n3 ≤ 2147483647) (f6 : (-2147483648) ≤ n3) (f7 : n3 = hV H0 (n1).toNat 1) (f8 : (hLe T0 H0 H1 ∧ hFr s_123v.2.2.2.2 H0 H1 ∧ ((0 : Int) = 0 → H1.length = H0.length) ∧ hWt T0 H1) ∧ postb_123v n4 n2 n3 H0 H1) (f9 : n5 ≤ 2147483647) (f10 : (-2147483648) ≤ n5) (f11 : (hLe T0 H1 H2 ∧ hFr s_71v.2.2.2.2 H1 H2 ∧ ((0 : Int) = 0 → H2.length = H1.length) ∧ hWt T0 H2) ∧ postb_71v n5 n1 n4 H1 H2) (f12 : hK H2 (n0).toNat = 1) (f13 : n6 = 2) (f14 : hUpd H3 H2 n0 n6 n5) (f15 : n7 ≤ 2147483647) (f16 : (-2147483648) ≤ n7) (f17 : hK H3 (n0).toNat = 1) (f18 : n7 = hV H3 (n0).toNat 2) (f19 : n8 = (-1)) (f20 : n7 = n8) (f21 : n9 = 4) (f22 : n10 ≤ 2147483647) (f23 : (-2147483648) ≤ n10) (f24 : n10 = hV H3 (n1).toNat 1) (f25 : (hLe T0 H3 H4 ∧ hFr s_65v.2.2.2.2 H3 H4 ∧ ((0 : Int) = 0 → H4.length = H3.length) ∧ hWt T0 H4) ∧ postb_65v n1 n9 n10 H3 H4) (f26 : n11 = 2) (f27 : (hLe T0 H4 H5 ∧ hFr s_66v.2.2.2.2 H4 H5 ∧ ((0 : Int) = 0 → H5.length = H4.length) ∧ hWt T0 H5) ∧ postb_66v n1 n11 H4 H5) (f28 : n12 = 26) (f29 : (hLe T0 H5 H6 ∧ hFr s_66v.2.2.2.2 H5 H6 ∧ ((0 : Int) = 0 → H6.length = H5.length) ∧ hWt T0 H6) ∧ postb_66v n1 n12 H5 H6) (f30 : n13 = 0) (f31 : (hLe T0 H6 H7 ∧ hFr s_81v.2.2.2.2 H6 H7 ∧ ((0 : Int) = 0 → H7.length = H6.length) ∧ hWt T0 H7) ∧ postb_81v n1 n0 n13 H6 H7) : postb_80v n1 n0 H0 H7 := by
  have pz := f2.2
  unfold preb_80v at pz
  have s0 := PF_fr f8.1.1 f8.1.2.1 (by decide +kernel) pz.1
  have a0 : absC H1 = (absC H0) := s0.1
  have v0 : vwC H1 = vwC H0 := s0.2.1
  have s1 := PF_fr f11.1.1 f11.1.2.1 (by decide +kernel) s0.2.2
  have a1 : absC H2 = (absC H0) := s1.1.trans a0
  have v1 : vwC H2 = vwC H0 := s1.2.1.trans v0
  have s2 := PF_up f14 s1.2.2 f12
  have a2 : absC H3 = (absC H0) := s2.1.trans a1
  have v2 : vwC H3 = vwC H0 := s2.2.1.trans v1
  have c3 := f25.2
  unfold postb_65v at c3
  try rw [f21] at c3
  rw [v2] at c3
  rw [a2] at c3
  have a3 : absC H4 = (pbl (vwC H0) 4 n10 (absC H0)) := c3.2
  have v3 : vwC H4 = vwC H0 := (vwC_fr f25.1.2.1 (by decide +kernel)).trans v2
  have c4 := f27.2
  unfold postb_66v at c4
  try rw [f26] at c4
  rw [v3] at c4
  rw [a3] at c4
  have a4 : absC H5 = (ptk (vwC H0) 2 (pbl (vwC H0) 4 n10 (absC H0))) := c4.2
  have v4 : vwC H5 = vwC H0 := (vwC_fr f27.1.2.1 (by decide +kernel)).trans v3
  have c5 := f29.2
  unfold postb_66v at c5
  try rw [f28] at c5
  rw [v4] at c5
  rw [a4] at c5
  have a5 : absC H6 = (ptk (vwC H0) 26 (ptk (vwC H0) 2 (pbl (vwC H0) 4 n10 (absC H0)))) := c5.2
  have v5 : vwC H6 = vwC H0 := (vwC_fr f29.1.2.1 (by decide +kernel)).trans v4
  have c6 := f31.2
  unfold postb_81v at c6
  try rw [f30] at c6
  rw [v5] at c6
  rw [a5] at c6
  have a6 : absC H7 = (pTime (vwC H0) (ptk (vwC H0) 26 (ptk (vwC H0) 2 (pbl (vwC H0) 4 n10 (absC H0))))) := c6.2
  have v6 : vwC H7 = vwC H0 := (vwC_fr f31.1.2.1 (by decide +kernel)).trans v5
  have d0 := BI_fr f8.1.1 f8.1.2.1 (by decide +kernel) pz.2.1
  have j0 : BLc H1 = BLc H0 := d0.2
  have d1 := BI_fr f11.1.1 f11.1.2.1 (by decide +kernel) d0.1
  have j1 : BLc H2 = BLc H0 := d1.2.trans j0
  have d2 := BI_up f14 s1.2.2 d1.1 f12
  have j2 : BLc H3 = BLc H0 := d2.2.trans j1
  have d3 := BI_fr f25.1.1 f25.1.2.1 (by decide +kernel) d2.1
  have j3 : BLc H4 = BLc H0 := d3.2.trans j2
  have d4 := BI_fr f27.1.1 f27.1.2.1 (by decide +kernel) d3.1
  have j4 : BLc H5 = BLc H0 := d4.2.trans j3
  have d5 := BI_fr f29.1.1 f29.1.2.1 (by decide +kernel) d4.1
  have j5 : BLc H6 = BLc H0 := d5.2.trans j4
  have d6 := BI_fr f31.1.1 f31.1.2.1 (by decide +kernel) d5.1
  have j6 : BLc H7 = BLc H0 := d6.2.trans j5
  have r1 := f7
  rw [f1] at r1
  rw [show ((30 : Int)).toNat = 30 from rfl] at r1
  have pv := f8.2
  unfold postb_123v at pv
  rw [show n3 = hV H0 30 1 from r1] at pv
  have nx := nm_at pz.1 pv
  have pk := f11.2
  unfold postb_71v at pk
  rw [f8.1.2.1.1 30 13 (by decide +kernel), fRow f8.1.2.1 48 (by decide +kernel)] at pk
  have un : (vwC H0).1 (absC H0).1 = 2 → UNb H0 ((vwC H0).2.2.1 (absC H0).1) n5 := fun h2 => by
    rw [(nx h2).2]
    exact UNb_of pz.2.1 (nx h2).1 (pk.1 (nx h2).1)
  have ck := pz.2.2.1
  have t0_20 : hK H1 (n0).toNat = 1 := kLe f8.1.1 ck rfl
  have t0_21 : hK H2 (n0).toNat = 1 := kLe f11.1.1 t0_20 rfl
  have t0_22 : hK H3 (n0).toNat = 1 := kUp f14 t0_21
  have nu0 := f18.trans (uSame f14 _ 2 (Int.toNat_of_nonneg (by omega)) (by rw [f13]; rfl))
  have e_20 : hK H1 (n0).toNat = 1 := kLe f8.1.1 ck rfl
  have e_21 : hK H2 (n0).toNat = 1 := kLe f11.1.1 e_20 rfl
  have e_22 : hK H3 (n0).toNat = 1 := kUp f14 e_21
  have e_23 : hK H4 (n0).toNat = 1 := kLe f25.1.1 e_22 rfl
  have e_24 : hK H5 (n0).toNat = 1 := kLe f27.1.1 e_23 rfl
  have e_25 : hK H6 (n0).toNat = 1 := kLe f29.1.1 e_24 rfl
  have e_26 : hK H7 (n0).toNat = 1 := kLe f31.1.1 e_25 rfl
  have ne : hV H7 (n0).toNat 2 = n5 := (f31.1.2.1.2.2 _ 1 e_25 rfl 2 (by decide +kernel)).trans ((f29.1.2.1.2.2 _ 1 e_24 rfl 2 (by decide +kernel)).trans ((f27.1.2.1.2.2 _ 1 e_23 rfl 2 (by decide +kernel)).trans ((f25.1.2.1.2.2 _ 1 e_22 rfl 2 (by decide +kernel)).trans (uSame f14 _ 2 (Int.toNat_of_nonneg (by omega)) (by rw [f13]; rfl)))))
  have ok := name_ok (b := 4) (n := 8 * (vwC H0).2.2.2 (absC H0).1 + 4) (c := n5 = -1) (d := pfd (BLc H0) ((vwC H0).2.2.1 (absC H0).1) = -1) pz.1 (absC_ok pz.1) (fun h2 => by rcases un h2 with q | q <;> omega) rfl
  have rb := f24
  rw [f1] at rb
  rw [show ((30 : Int)).toNat = 30 from rfl] at rb
  have nb : n10 = hV H0 30 1 := rb.trans ((uPlace f14 30 1 (fun e => by have a := s1.2.2.1.1; rw [show (30 : Nat) = (n0).toNat by omega, f12] at a; exact absurd a (by decide))).trans ((f11.1.2.1.1 30 1 (by decide +kernel)).trans (f8.1.2.1.1 30 1 (by decide +kernel))))
  rw [if_pos (by omega)] at ok
  have bq : pbl (vwC H0) 4 n10 (absC H0) = pbl (vwC H0) 4 (absC H0).1 (absC H0) := by
    by_cases hf : hV H0 30 3 = 0
    · rw [(absC_pos pz.1 hf).1, nb]
    · rw [pbl_neg (absC_neg pz.1 hf), pbl_neg (absC_neg pz.1 hf)]
  rw [bq, ok] at a6
  unfold postb_80v
  refine ⟨c6.1, a6, d6.1, j6, fun hf => ?_⟩
  have q0 := (absC_pos c6.1 hf).2
  rw [a6] at q0
  have q1 : 0 ≤ (ptk (vwC H0) 26 (pgz (pt1 (vwC H0) 2 (absC H0).1) (if (absC H0).2 = 0 ∧ pfd (BLc H0) ((vwC H0).2.2.1 (absC H0).1) = -1 then 8 * (vwC H0).2.2.2 (absC H0).1 + 4 else (absC H0).2))).1 := by
    rcases Int.lt_or_le (ptk (vwC H0) 26 (pgz (pt1 (vwC H0) 2 (absC H0).1) (if (absC H0).2 = 0 ∧ pfd (BLc H0) ((vwC H0).2.2.1 (absC H0).1) = -1 then 8 * (vwC H0).2.2.2 (absC H0).1 + 4 else (absC H0).2))).1 0 with q | q
    · rw [pTime_neg (vwC_ok H0) q ptk_ok] at q0
      exact q0
    · exact q
  have q2 := (pt1_kind pz.1.2.1 q1).1
  have q3 := (pt1_kind pz.1.2.1 q2).2
  rw [ne]
  exact un q3
theorem c_80v_s_10 : vOkm T0 (eP e_80v L_80v A_80v mu_80v none) 2 ([(1081, [0, 1, 13], [6, 7], 0), (0, [13], [], 0), (1066, [0, 12], [5, 6], 0), (0, [12], [], 26), (1066, [0, 11], [4, 5], 0), (0, [11], [], 2), (1065, [0, 9, 10], [3, 4], 0), (20, [10, 0], [3], 1), (90, [10], [], -2147483648), (91, [10], [], 2147483647), (0, [9], [], 4), (40, [7, 8], [], 0), (0, [8], [], -1), (20, [7, 1], [3], 2), (23, [1], [3], 1), (90, [7], [], -2147483648), (91, [7], [], 2147483647), (80, [1, 6, 5], [3, 2], 0), (0, [6], [], 2), (23, [1], [2], 1), (1071, [5, 0, 4], [1, 2], 0), (90, [5], [], -2147483648), (91, [5], [], 2147483647), (1123, [4, 2, 3], [0, 1], 0), (20, [3, 0], [0], 1), (90, [3], [], -2147483648), (91, [3], [], 2147483647), (20, [2, 0], [0], 0), (0, [2], [], 31), (6000, [0, 1], [0], 0), (0, [0], [], 30), (51, [1], [], 0)], (3000, [], [7], 53)) := vOk_in fun ρ η h => by
  obtain ⟨f0, f1, f2, f3, f4, f5, f6, f7, f8, f9, f10, f11, f12, f13, f14, f15, f16, f17, f18, f19, f20, f21, f22, f23, f24, f25, f26, f27, f28, f29, f30, f31, _⟩ := h
  exact q_80v_10 (n0 := ρ 1) (n1 := ρ 0) (n2 := ρ 2) (n3 := ρ 3) (n4 := ρ 4) (n5 := ρ 5) (n6 := ρ 6) (n7 := ρ 7) (n8 := ρ 8) (n9 := ρ 9) (n10 := ρ 10) (n11 := ρ 11) (n12 := ρ 12) (n13 := ρ 13) (H0 := η 0) (H1 := η 1) (H2 := η 2) (H3 := η 3) (H4 := η 4) (H5 := η 5) (H6 := η 6) (H7 := η 7) f31 f30 f29 f28 f27 f26 f25 f24 f23 f22 f21 f20 f19 f18 f17 f16 f15 f14 f13 f12 f11 f10 f9 f8 f7 f6 f5 f4 f3 f2 f1 f0
def p_80v_s : List vG := [([(20, [3, 0], [0], 1), (90, [3], [], -2147483648), (91, [3], [], 2147483647), (20, [2, 0], [0], 0), (0, [2], [], 31), (6000, [0, 1], [0], 0), (0, [0], [], 30), (51, [1], [], 0)], (2123, [2, 3], [0], 0)),
  ([(1123, [4, 2, 3], [0, 1], 0), (20, [3, 0], [0], 1), (90, [3], [], -2147483648), (91, [3], [], 2147483647), (20, [2, 0], [0], 0), (0, [2], [], 31), (6000, [0, 1], [0], 0), (0, [0], [], 30), (51, [1], [], 0)], (2071, [0, 4], [1], 0)),
  ([(0, [9], [], 2), (41, [7, 8], [], 0), (0, [8], [], -1), (20, [7, 1], [3], 2), (23, [1], [3], 1), (90, [7], [], -2147483648), (91, [7], [], 2147483647), (80, [1, 6, 5], [3, 2], 0), (0, [6], [], 2), (23, [1], [2], 1), (1071, [5, 0, 4], [1, 2], 0), (90, [5], [], -2147483648), (91, [5], [], 2147483647), (1123, [4, 2, 3], [0, 1], 0), (20, [3, 0], [0], 1), (90, [3], [], -2147483648), (91, [3], [], 2147483647), (20, [2, 0], [0], 0), (0, [2], [], 31), (6000, [0, 1], [0], 0), (0, [0], [], 30), (51, [1], [], 0)], (2066, [0, 9], [3], 0)),
  ([(0, [10], [], 26), (1066, [0, 9], [3, 4], 0), (0, [9], [], 2), (41, [7, 8], [], 0), (0, [8], [], -1), (20, [7, 1], [3], 2), (23, [1], [3], 1), (90, [7], [], -2147483648), (91, [7], [], 2147483647), (80, [1, 6, 5], [3, 2], 0), (0, [6], [], 2), (23, [1], [2], 1), (1071, [5, 0, 4], [1, 2], 0), (90, [5], [], -2147483648), (91, [5], [], 2147483647), (1123, [4, 2, 3], [0, 1], 0), (20, [3, 0], [0], 1), (90, [3], [], -2147483648), (91, [3], [], 2147483647), (20, [2, 0], [0], 0), (0, [2], [], 31), (6000, [0, 1], [0], 0), (0, [0], [], 30), (51, [1], [], 0)], (2066, [0, 10], [4], 0)),
  ([(0, [11], [], 0), (1066, [0, 10], [4, 5], 0), (0, [10], [], 26), (1066, [0, 9], [3, 4], 0), (0, [9], [], 2), (41, [7, 8], [], 0), (0, [8], [], -1), (20, [7, 1], [3], 2), (23, [1], [3], 1), (90, [7], [], -2147483648), (91, [7], [], 2147483647), (80, [1, 6, 5], [3, 2], 0), (0, [6], [], 2), (23, [1], [2], 1), (1071, [5, 0, 4], [1, 2], 0), (90, [5], [], -2147483648), (91, [5], [], 2147483647), (1123, [4, 2, 3], [0, 1], 0), (20, [3, 0], [0], 1), (90, [3], [], -2147483648), (91, [3], [], 2147483647), (20, [2, 0], [0], 0), (0, [2], [], 31), (6000, [0, 1], [0], 0), (0, [0], [], 30), (51, [1], [], 0)], (2081, [0, 1, 11], [5], 0)),
  ([(1081, [0, 1, 11], [5, 6], 0), (0, [11], [], 0), (1066, [0, 10], [4, 5], 0), (0, [10], [], 26), (1066, [0, 9], [3, 4], 0), (0, [9], [], 2), (41, [7, 8], [], 0), (0, [8], [], -1), (20, [7, 1], [3], 2), (23, [1], [3], 1), (90, [7], [], -2147483648), (91, [7], [], 2147483647), (80, [1, 6, 5], [3, 2], 0), (0, [6], [], 2), (23, [1], [2], 1), (1071, [5, 0, 4], [1, 2], 0), (90, [5], [], -2147483648), (91, [5], [], 2147483647), (1123, [4, 2, 3], [0, 1], 0), (20, [3, 0], [0], 1), (90, [3], [], -2147483648), (91, [3], [], 2147483647), (20, [2, 0], [0], 0), (0, [2], [], 31), (6000, [0, 1], [0], 0), (0, [0], [], 30), (51, [1], [], 0)], (3000, [], [6], 53)),
  ([(20, [10, 0], [3], 1), (90, [10], [], -2147483648), (91, [10], [], 2147483647), (0, [9], [], 4), (40, [7, 8], [], 0), (0, [8], [], -1), (20, [7, 1], [3], 2), (23, [1], [3], 1), (90, [7], [], -2147483648), (91, [7], [], 2147483647), (80, [1, 6, 5], [3, 2], 0), (0, [6], [], 2), (23, [1], [2], 1), (1071, [5, 0, 4], [1, 2], 0), (90, [5], [], -2147483648), (91, [5], [], 2147483647), (1123, [4, 2, 3], [0, 1], 0), (20, [3, 0], [0], 1), (90, [3], [], -2147483648), (91, [3], [], 2147483647), (20, [2, 0], [0], 0), (0, [2], [], 31), (6000, [0, 1], [0], 0), (0, [0], [], 30), (51, [1], [], 0)], (2065, [0, 9, 10], [3], 0)),
  ([(0, [11], [], 2), (1065, [0, 9, 10], [3, 4], 0), (20, [10, 0], [3], 1), (90, [10], [], -2147483648), (91, [10], [], 2147483647), (0, [9], [], 4), (40, [7, 8], [], 0), (0, [8], [], -1), (20, [7, 1], [3], 2), (23, [1], [3], 1), (90, [7], [], -2147483648), (91, [7], [], 2147483647), (80, [1, 6, 5], [3, 2], 0), (0, [6], [], 2), (23, [1], [2], 1), (1071, [5, 0, 4], [1, 2], 0), (90, [5], [], -2147483648), (91, [5], [], 2147483647), (1123, [4, 2, 3], [0, 1], 0), (20, [3, 0], [0], 1), (90, [3], [], -2147483648), (91, [3], [], 2147483647), (20, [2, 0], [0], 0), (0, [2], [], 31), (6000, [0, 1], [0], 0), (0, [0], [], 30), (51, [1], [], 0)], (2066, [0, 11], [4], 0)),
  ([(0, [12], [], 26), (1066, [0, 11], [4, 5], 0), (0, [11], [], 2), (1065, [0, 9, 10], [3, 4], 0), (20, [10, 0], [3], 1), (90, [10], [], -2147483648), (91, [10], [], 2147483647), (0, [9], [], 4), (40, [7, 8], [], 0), (0, [8], [], -1), (20, [7, 1], [3], 2), (23, [1], [3], 1), (90, [7], [], -2147483648), (91, [7], [], 2147483647), (80, [1, 6, 5], [3, 2], 0), (0, [6], [], 2), (23, [1], [2], 1), (1071, [5, 0, 4], [1, 2], 0), (90, [5], [], -2147483648), (91, [5], [], 2147483647), (1123, [4, 2, 3], [0, 1], 0), (20, [3, 0], [0], 1), (90, [3], [], -2147483648), (91, [3], [], 2147483647), (20, [2, 0], [0], 0), (0, [2], [], 31), (6000, [0, 1], [0], 0), (0, [0], [], 30), (51, [1], [], 0)], (2066, [0, 12], [5], 0)),
  ([(0, [13], [], 0), (1066, [0, 12], [5, 6], 0), (0, [12], [], 26), (1066, [0, 11], [4, 5], 0), (0, [11], [], 2), (1065, [0, 9, 10], [3, 4], 0), (20, [10, 0], [3], 1), (90, [10], [], -2147483648), (91, [10], [], 2147483647), (0, [9], [], 4), (40, [7, 8], [], 0), (0, [8], [], -1), (20, [7, 1], [3], 2), (23, [1], [3], 1), (90, [7], [], -2147483648), (91, [7], [], 2147483647), (80, [1, 6, 5], [3, 2], 0), (0, [6], [], 2), (23, [1], [2], 1), (1071, [5, 0, 4], [1, 2], 0), (90, [5], [], -2147483648), (91, [5], [], 2147483647), (1123, [4, 2, 3], [0, 1], 0), (20, [3, 0], [0], 1), (90, [3], [], -2147483648), (91, [3], [], 2147483647), (20, [2, 0], [0], 0), (0, [2], [], 31), (6000, [0, 1], [0], 0), (0, [0], [], 30), (51, [1], [], 0)], (2081, [0, 1, 13], [6], 0)),
  ([(1081, [0, 1, 13], [6, 7], 0), (0, [13], [], 0), (1066, [0, 12], [5, 6], 0), (0, [12], [], 26), (1066, [0, 11], [4, 5], 0), (0, [11], [], 2), (1065, [0, 9, 10], [3, 4], 0), (20, [10, 0], [3], 1), (90, [10], [], -2147483648), (91, [10], [], 2147483647), (0, [9], [], 4), (40, [7, 8], [], 0), (0, [8], [], -1), (20, [7, 1], [3], 2), (23, [1], [3], 1), (90, [7], [], -2147483648), (91, [7], [], 2147483647), (80, [1, 6, 5], [3, 2], 0), (0, [6], [], 2), (23, [1], [2], 1), (1071, [5, 0, 4], [1, 2], 0), (90, [5], [], -2147483648), (91, [5], [], 2147483647), (1123, [4, 2, 3], [0, 1], 0), (20, [3, 0], [0], 1), (90, [3], [], -2147483648), (91, [3], [], 2147483647), (20, [2, 0], [0], 0), (0, [2], [], 31), (6000, [0, 1], [0], 0), (0, [0], [], 30), (51, [1], [], 0)], (3000, [], [7], 53))]
theorem r_80v_s : vCovO false (eR0 e_80v L_80v cs_80v 2000) p_80v_s = true := by decide +kernel
theorem m_80v (d : Nat) : eC e_80v (d + 5) := eC_ok (e := e_80v) (L := L_80v) (cs := cs_80v) (n := 2000) (d := d + 4) (A := A_80v) (μ := mu_80v) (tp := false) (p0 := p_80v_s) rfl ⟨m_65v (d + 3), ⟨m_66v (d + 2), ⟨m_71v (d + 2), ⟨m_81v d, ⟨m_123v (d + 3), trivial⟩⟩⟩⟩⟩ rfl (.inl rfl) (by decide +kernel) (fun z => nomatch z) r_80v_s (allC c_80v_s_0 (allC c_80v_s_1 (allC c_80v_s_2 (allC c_80v_s_3 (allC c_80v_s_4 (allC c_80v_s_5 (allC c_80v_s_6 (allC c_80v_s_7 (allC c_80v_s_8 (allC c_80v_s_9 (allC c_80v_s_10 allN))))))))))) allN
/- MixStage.put ([JIJ)V -/
noncomputable def s_202vk733 : vM := ([(2, 733, -1, 0), (0, -2147483648, 2147483647, 0), (1, 0, 0, 0)], (9, 0, 0, 0), 0, 0, [(733, 0)])
def postb_202vk733 (a0 a1 a2 : Int) (h0 h : gH) : Prop := putQ a0 a1 a2 h0 h
def post_202vk733 : List Int → gH → gH → Prop := fun xs h0 h => match xs with
  | [a0, a1, a2] => postb_202vk733 a0 a1 a2 h0 h
  | _ => True
noncomputable def e_202vk733 : vE := (202, s_202vk733, pre0, post_202vk733)
noncomputable def L_202vk733 : List vE := []
def cs_202vk733 : List vC := []
def A_202vk733 : Int → List Int → gH → gH → Prop := fun c xs h0 h => True
def mu_202vk733 : Int → List Int → gH → gH → Nat := fun c xs h0 h => 0
theorem q_202vk733_0 {n0 n1 n2 : Int} {H0 : gH} (f0 : n0 ≤ 2147483647) (f1 : (-2147483648) ≤ n0) (f2 : hWt T0 H0 ∧ True) (f3 : n1 = -1) : postb_202vk733 n1 n0 n2 H0 H0 := by
  unfold postb_202vk733

  exact putQ_same (by omega)
theorem c_202vk733_s_0 : vOkm T0 (eP e_202vk733 L_202vk733 A_202vk733 mu_202vk733 none) 3 ([(50, [0], [], 0), (6000, [0, 1, 2], [0], 0), (90, [1], [], -2147483648), (91, [1], [], 2147483647)], (3000, [], [0], 18)) := vOk_in fun ρ η h => by
  obtain ⟨f0, f1, f2, f3, _⟩ := h
  exact q_202vk733_0 (n0 := ρ 1) (n1 := ρ 0) (n2 := ρ 2) (H0 := η 0) f3 f2 f1 f0
theorem q_202vk733_1 {n0 n1 n2 : Int} {H0 : gH} (f0 : n0 ≤ 2147483647) (f1 : (-2147483648) ≤ n0) (f2 : hWt T0 H0 ∧ True) (f3 : 0 ≤ n1) (f4 : n0 < 0) : postb_202vk733 n1 n0 n2 H0 H0 := by
  unfold postb_202vk733

  exact putQ_same (by omega)
theorem c_202vk733_s_1 : vOkm T0 (eP e_202vk733 L_202vk733 A_202vk733 mu_202vk733 none) 3 ([(32, [1], [], 0), (51, [0], [], 0), (6000, [0, 1, 2], [0], 0), (90, [1], [], -2147483648), (91, [1], [], 2147483647)], (3000, [], [0], 18)) := vOk_in fun ρ η h => by
  obtain ⟨f0, f1, f2, f3, f4, _⟩ := h
  exact q_202vk733_1 (n0 := ρ 1) (n1 := ρ 0) (n2 := ρ 2) (H0 := η 0) f4 f3 f2 f1 f0
theorem q_202vk733_2 {n0 n1 n2 n3 : Int} {H0 : gH} (f0 : n0 ≤ 2147483647) (f1 : (-2147483648) ≤ n0) (f2 : hWt T0 H0 ∧ True) (f3 : 0 ≤ n1) (f4 : 0 ≤ n0) (f5 : n3 = (hN H0 (n1).toNat : Int)) (f6 : n3 ≤ n0) : postb_202vk733 n1 n0 n2 H0 H0 := by
  unfold postb_202vk733

  exact putQ_same (by omega)
theorem c_202vk733_s_2 : vOkm T0 (eP e_202vk733 L_202vk733 A_202vk733 mu_202vk733 none) 3 ([(43, [1, 3], [], 0), (21, [3, 0], [0], 0), (33, [1], [], 0), (51, [0], [], 0), (6000, [0, 1, 2], [0], 0), (90, [1], [], -2147483648), (91, [1], [], 2147483647)], (3000, [], [0], 18)) := vOk_in fun ρ η h => by
  obtain ⟨f0, f1, f2, f3, f4, f5, f6, _⟩ := h
  exact q_202vk733_2 (n0 := ρ 1) (n1 := ρ 0) (n2 := ρ 2) (n3 := ρ 3) (H0 := η 0) f6 f5 f4 f3 f2 f1 f0
theorem q_202vk733_3 {n0 n1 n2 n3 : Int} {H0 H1 : gH} (f0 : n0 ≤ 2147483647) (f1 : (-2147483648) ≤ n0) (f2 : hWt T0 H0 ∧ True) (f3 : 0 ≤ n1) (f4 : 0 ≤ n0) (f5 : n3 = (hN H0 (n1).toNat : Int)) (f6 : n0 < n3) (f7 : hK H0 (n1).toNat = 733) (f8 : hUpd H1 H0 n1 n0 n2) : postb_202vk733 n1 n0 n2 H0 H1 := by
  unfold postb_202vk733

  exact putQ_upd f8 (by omega)
theorem c_202vk733_s_3 : vOkm T0 (eP e_202vk733 L_202vk733 A_202vk733 mu_202vk733 none) 3 ([(80, [0, 1, 2], [1, 0], 1), (23, [0], [0], 733), (42, [1, 3], [], 0), (21, [3, 0], [0], 0), (33, [1], [], 0), (51, [0], [], 0), (6000, [0, 1, 2], [0], 0), (90, [1], [], -2147483648), (91, [1], [], 2147483647)], (3000, [], [1], 18)) := vOk_in fun ρ η h => by
  obtain ⟨f0, f1, f2, f3, f4, f5, f6, f7, f8, _⟩ := h
  exact q_202vk733_3 (n0 := ρ 1) (n1 := ρ 0) (n2 := ρ 2) (n3 := ρ 3) (H0 := η 0) (H1 := η 1) f8 f7 f6 f5 f4 f3 f2 f1 f0
def p_202vk733_s : List vG := [([(50, [0], [], 0), (6000, [0, 1, 2], [0], 0), (90, [1], [], -2147483648), (91, [1], [], 2147483647)], (3000, [], [0], 18)),
  ([(32, [1], [], 0), (51, [0], [], 0), (6000, [0, 1, 2], [0], 0), (90, [1], [], -2147483648), (91, [1], [], 2147483647)], (3000, [], [0], 18)),
  ([(43, [1, 3], [], 0), (21, [3, 0], [0], 0), (33, [1], [], 0), (51, [0], [], 0), (6000, [0, 1, 2], [0], 0), (90, [1], [], -2147483648), (91, [1], [], 2147483647)], (3000, [], [0], 18)),
  ([(80, [0, 1, 2], [1, 0], 1), (23, [0], [0], 733), (42, [1, 3], [], 0), (21, [3, 0], [0], 0), (33, [1], [], 0), (51, [0], [], 0), (6000, [0, 1, 2], [0], 0), (90, [1], [], -2147483648), (91, [1], [], 2147483647)], (3000, [], [1], 18))]
theorem r_202vk733_s : vCovO false (eR0 e_202vk733 L_202vk733 cs_202vk733 2000) p_202vk733_s = true := by decide +kernel
theorem m_202vk733 (d : Nat) : eC e_202vk733 (d + 1) := eC_ok (e := e_202vk733) (L := L_202vk733) (cs := cs_202vk733) (n := 2000) (d := d + 0) (A := A_202vk733) (μ := mu_202vk733) (tp := false) (p0 := p_202vk733_s) rfl trivial rfl (.inr pre0_ok) (by decide +kernel) (fun z => nomatch z) r_202vk733_s (allC c_202vk733_s_0 (allC c_202vk733_s_1 (allC c_202vk733_s_2 (allC c_202vk733_s_3 allN)))) allN
