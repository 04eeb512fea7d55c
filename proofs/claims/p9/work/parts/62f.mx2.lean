/- MixStage.at ([II)I -/
noncomputable def s_199vk716 : vM := ([(2, 716, -1, 0), (0, -2147483648, 2147483647, 0)], (0, -2147483648, 2147483647, 0), 0, 0, [])
def postb_199vk716 (r a0 a1 : Int) (h0 h : gH) : Prop := r = atQ h0 a0 a1
def post_199vk716 : List Int → gH → gH → Prop := fun xs h0 h => match xs with
  | [r, a0, a1] => postb_199vk716 r a0 a1 h0 h
  | _ => True
noncomputable def e_199vk716 : vE := (199, s_199vk716, pre0, post_199vk716)
noncomputable def L_199vk716 : List vE := []
def cs_199vk716 : List vC := []
def A_199vk716 : Int → List Int → gH → gH → Prop := fun c xs h0 h => True
def mu_199vk716 : Int → List Int → gH → gH → Nat := fun c xs h0 h => 0
theorem q_199vk716_0 {n0 n1 n2 : Int} {H0 : gH} (f0 : n0 ≤ 2147483647) (f1 : (-2147483648) ≤ n0) (f2 : hWt T0 H0 ∧ True) (f3 : n1 = -1) (f4 : n2 = 0) : postb_199vk716 n2 n1 n0 H0 H0 := by
  unfold postb_199vk716

  unfold atQ
  first
  | (rw [if_neg (by omega)] <;> omega)
  | (rw [if_pos (by omega)] <;> omega)
theorem c_199vk716_s_0 : vOkm T0 (eP e_199vk716 L_199vk716 A_199vk716 mu_199vk716 none) 2 ([(0, [2], [], 0), (50, [0], [], 0), (6000, [0, 1], [0], 0), (90, [1], [], -2147483648), (91, [1], [], 2147483647)], (3000, [2], [0], 21)) := vOk_in fun ρ η h => by
  obtain ⟨f0, f1, f2, f3, f4, _⟩ := h
  exact q_199vk716_0 (n0 := ρ 1) (n1 := ρ 0) (n2 := ρ 2) (H0 := η 0) f4 f3 f2 f1 f0
theorem q_199vk716_1 {n0 n1 n2 : Int} {H0 : gH} (f0 : n0 ≤ 2147483647) (f1 : (-2147483648) ≤ n0) (f2 : hWt T0 H0 ∧ True) (f3 : 0 ≤ n1) (f4 : n0 < 0) (f5 : n2 = 0) : postb_199vk716 n2 n1 n0 H0 H0 := by
  unfold postb_199vk716

  unfold atQ
  first
  | (rw [if_neg (by omega)] <;> omega)
  | (rw [if_pos (by omega)] <;> omega)
theorem c_199vk716_s_1 : vOkm T0 (eP e_199vk716 L_199vk716 A_199vk716 mu_199vk716 none) 2 ([(0, [2], [], 0), (32, [1], [], 0), (51, [0], [], 0), (6000, [0, 1], [0], 0), (90, [1], [], -2147483648), (91, [1], [], 2147483647)], (3000, [2], [0], 21)) := vOk_in fun ρ η h => by
  obtain ⟨f0, f1, f2, f3, f4, f5, _⟩ := h
  exact q_199vk716_1 (n0 := ρ 1) (n1 := ρ 0) (n2 := ρ 2) (H0 := η 0) f5 f4 f3 f2 f1 f0
theorem q_199vk716_2 {n0 n1 n2 n3 : Int} {H0 : gH} (f0 : n0 ≤ 2147483647) (f1 : (-2147483648) ≤ n0) (f2 : hWt T0 H0 ∧ True) (f3 : 0 ≤ n1) (f4 : 0 ≤ n0) (f5 : n2 = (hN H0 (n1).toNat : Int)) (f6 : n0 < n2) (f7 : n3 ≤ 2147483647) (f8 : (-2147483648) ≤ n3) (f9 : n3 = hV H0 (n1).toNat (n0).toNat) : postb_199vk716 n3 n1 n0 H0 H0 := by
  unfold postb_199vk716

  unfold atQ
  first
  | (rw [if_neg (by omega)] <;> omega)
  | (rw [if_pos (by omega)] <;> omega)
theorem c_199vk716_s_2 : vOkm T0 (eP e_199vk716 L_199vk716 A_199vk716 mu_199vk716 none) 2 ([(22, [3, 0, 1], [0], 0), (90, [3], [], -2147483648), (91, [3], [], 2147483647), (42, [1, 2], [], 0), (21, [2, 0], [0], 0), (33, [1], [], 0), (51, [0], [], 0), (6000, [0, 1], [0], 0), (90, [1], [], -2147483648), (91, [1], [], 2147483647)], (3000, [3], [0], 21)) := vOk_in fun ρ η h => by
  obtain ⟨f0, f1, f2, f3, f4, f5, f6, f7, f8, f9, _⟩ := h
  exact q_199vk716_2 (n0 := ρ 1) (n1 := ρ 0) (n2 := ρ 2) (n3 := ρ 3) (H0 := η 0) f9 f8 f7 f6 f5 f4 f3 f2 f1 f0
theorem q_199vk716_3 {n0 n1 n2 n3 : Int} {H0 : gH} (f0 : n0 ≤ 2147483647) (f1 : (-2147483648) ≤ n0) (f2 : hWt T0 H0 ∧ True) (f3 : 0 ≤ n1) (f4 : 0 ≤ n0) (f5 : n2 = (hN H0 (n1).toNat : Int)) (f6 : n2 ≤ n0) (f7 : n3 = 0) : postb_199vk716 n3 n1 n0 H0 H0 := by
  unfold postb_199vk716

  unfold atQ
  first
  | (rw [if_neg (by omega)] <;> omega)
  | (rw [if_pos (by omega)] <;> omega)
theorem c_199vk716_s_3 : vOkm T0 (eP e_199vk716 L_199vk716 A_199vk716 mu_199vk716 none) 2 ([(0, [3], [], 0), (43, [1, 2], [], 0), (21, [2, 0], [0], 0), (33, [1], [], 0), (51, [0], [], 0), (6000, [0, 1], [0], 0), (90, [1], [], -2147483648), (91, [1], [], 2147483647)], (3000, [3], [0], 21)) := vOk_in fun ρ η h => by
  obtain ⟨f0, f1, f2, f3, f4, f5, f6, f7, _⟩ := h
  exact q_199vk716_3 (n0 := ρ 1) (n1 := ρ 0) (n2 := ρ 2) (n3 := ρ 3) (H0 := η 0) f7 f6 f5 f4 f3 f2 f1 f0
def p_199vk716_s : List vG := [([(0, [2], [], 0), (50, [0], [], 0), (6000, [0, 1], [0], 0), (90, [1], [], -2147483648), (91, [1], [], 2147483647)], (3000, [2], [0], 21)),
  ([(0, [2], [], 0), (32, [1], [], 0), (51, [0], [], 0), (6000, [0, 1], [0], 0), (90, [1], [], -2147483648), (91, [1], [], 2147483647)], (3000, [2], [0], 21)),
  ([(22, [3, 0, 1], [0], 0), (90, [3], [], -2147483648), (91, [3], [], 2147483647), (42, [1, 2], [], 0), (21, [2, 0], [0], 0), (33, [1], [], 0), (51, [0], [], 0), (6000, [0, 1], [0], 0), (90, [1], [], -2147483648), (91, [1], [], 2147483647)], (3000, [3], [0], 21)),
  ([(0, [3], [], 0), (43, [1, 2], [], 0), (21, [2, 0], [0], 0), (33, [1], [], 0), (51, [0], [], 0), (6000, [0, 1], [0], 0), (90, [1], [], -2147483648), (91, [1], [], 2147483647)], (3000, [3], [0], 21))]
theorem r_199vk716_s : vCovO false (eR0 e_199vk716 L_199vk716 cs_199vk716 2000) p_199vk716_s = true := by decide +kernel
theorem m_199vk716 (d : Nat) : eC e_199vk716 (d + 1) := eC_ok (e := e_199vk716) (L := L_199vk716) (cs := cs_199vk716) (n := 2000) (d := d + 0) (A := A_199vk716) (μ := mu_199vk716) (tp := false) (p0 := p_199vk716_s) rfl trivial rfl (.inr pre0_ok) (by decide +kernel) (fun z => nomatch z) r_199vk716_s (allC c_199vk716_s_0 (allC c_199vk716_s_1 (allC c_199vk716_s_2 (allC c_199vk716_s_3 allN)))) allN
/- Tokens.placeOf (I)I -/
noncomputable def s_124v : vM := ([(3, 8, 31, 0), (0, -2147483648, 2147483647, 0)], (0, -2147483648, 2147483647, 0), 1, 0, [])
def preb_124v (a0 a1 : Int) (h : gH) : Prop := KS5 h
def pre_124v : List Int → gH → Prop := fun xs h => match xs with
  | [a0, a1] => preb_124v a0 a1 h
  | _ => False
def postb_124v (r a0 a1 : Int) (h0 h : gH) : Prop := r = if 0 ≤ a1 ∧ a1 < 502 then hV h0 34 (a1).toNat else 0
def post_124v : List Int → gH → gH → Prop := fun xs h0 h => match xs with
  | [r, a0, a1] => postb_124v r a0 a1 h0 h
  | _ => True
noncomputable def e_124v : vE := (124, s_124v, pre_124v, post_124v)
noncomputable def L_124v : List vE := [e_199vk716]
def cs_124v : List vC := []
def A_124v : Int → List Int → gH → gH → Prop := fun c xs h0 h => True
def mu_124v : Int → List Int → gH → gH → Nat := fun c xs h0 h => 0
theorem q_124v_0 {n0 n1 n2 n3 : Int} {H0 H1 : gH} (f0 : n0 ≤ 2147483647) (f1 : (-2147483648) ≤ n0) (f2 : n1 = 31) (f3 : hWt T0 H0 ∧ preb_124v n1 n0 H0) (f4 : n2 = 34) (f5 : n2 = hV H0 (n1).toNat 2) (f6 : n3 ≤ 2147483647) (f7 : (-2147483648) ≤ n3) (f8 : (hLe T0 H0 H1 ∧ hFr s_199vk716.2.2.2.2 H0 H1 ∧ ((0 : Int) = 0 → H1.length = H0.length) ∧ hWt T0 H1) ∧ postb_199vk716 n3 n2 n0 H0 H1) : postb_124v n3 n1 n0 H0 H1 := by
  have pz := f3.2
  unfold preb_124v at pz
  have q := f8.2
  unfold postb_199vk716 at q
  unfold postb_124v
  exact atQ_r (q := 34) (n := 502) q f4 pz.2.2.2.2.2.2.1
theorem c_124v_s_0 : vOkm T0 (eP e_124v L_124v A_124v mu_124v none) 2 ([(1199, [3, 2, 1], [0, 1], 0), (90, [3], [], -2147483648), (91, [3], [], 2147483647), (20, [2, 0], [0], 2), (0, [2], [], 34), (6000, [0, 1], [0], 0), (0, [0], [], 31), (90, [1], [], -2147483648), (91, [1], [], 2147483647)], (3000, [3], [1], 8)) := vOk_in fun ρ η h => by
  obtain ⟨f0, f1, f2, f3, f4, f5, f6, f7, f8, _⟩ := h
  exact q_124v_0 (n0 := ρ 1) (n1 := ρ 0) (n2 := ρ 2) (n3 := ρ 3) (H0 := η 0) (H1 := η 1) f8 f7 f6 f5 f4 f3 f2 f1 f0
def p_124v_s : List vG := [([(1199, [3, 2, 1], [0, 1], 0), (90, [3], [], -2147483648), (91, [3], [], 2147483647), (20, [2, 0], [0], 2), (0, [2], [], 34), (6000, [0, 1], [0], 0), (0, [0], [], 31), (90, [1], [], -2147483648), (91, [1], [], 2147483647)], (3000, [3], [1], 8))]
theorem r_124v_s : vCovO false (eR0 e_124v L_124v cs_124v 2000) p_124v_s = true := by decide +kernel
theorem m_124v (d : Nat) : eC e_124v (d + 2) := eC_ok (e := e_124v) (L := L_124v) (cs := cs_124v) (n := 2000) (d := d + 1) (A := A_124v) (μ := mu_124v) (tp := false) (p0 := p_124v_s) rfl ⟨m_199vk716 d, trivial⟩ rfl (.inl rfl) (by decide +kernel) (fun z => nomatch z) r_124v_s (allC c_124v_s_0 allN) allN
/- Reader.placeOfFault ()I -/
noncomputable def s_62v : vM := ([(3, 4, 30, 0)], (0, -2147483648, 2147483647, 0), 1, 0, [])
def preb_62v (a0 : Int) (h : gH) : Prop := KS5 h
def pre_62v : List Int → gH → Prop := fun xs h => match xs with
  | [a0] => preb_62v a0 h
  | _ => False
def postb_62v (r a0 : Int) (h0 h : gH) : Prop := r = if hV h0 30 3 = 0 then -1 else if 0 ≤ hV h0 30 4 ∧ hV h0 30 4 < 502 then hV h0 34 (hV h0 30 4).toNat else 0
def post_62v : List Int → gH → gH → Prop := fun xs h0 h => match xs with
  | [r, a0] => postb_62v r a0 h0 h
  | _ => True
noncomputable def e_62v : vE := (62, s_62v, pre_62v, post_62v)
noncomputable def L_62v : List vE := [e_124v]
def cs_62v : List vC := []
def A_62v : Int → List Int → gH → gH → Prop := fun c xs h0 h => True
def mu_62v : Int → List Int → gH → gH → Nat := fun c xs h0 h => 0
theorem q_62v_0 {n0 n1 n2 n3 : Int} {H0 : gH} (f0 : n0 = 30) (f1 : hWt T0 H0 ∧ preb_62v n0 H0) (f2 : n1 ≤ 2147483647) (f3 : (-2147483648) ≤ n1) (f4 : n1 = hV H0 (n0).toNat 3) (f5 : n1 ≠ 0) (f6 : n2 = 31) (f7 : n2 = hV H0 (n0).toNat 0) (f8 : n3 ≤ 2147483647) (f9 : (-2147483648) ≤ n3) (f10 : n3 = hV H0 (n0).toNat 4) : preb_124v n2 n3 H0 := by
  have pz := f1.2
  unfold preb_62v at pz
  have r4 := f4
  rw [f0] at r4
  rw [show ((30 : Int)).toNat = 30 from rfl] at r4
  have r7 := f7
  rw [f0] at r7
  rw [show ((30 : Int)).toNat = 30 from rfl] at r7
  have r10 := f10
  rw [f0] at r10
  rw [show ((30 : Int)).toNat = 30 from rfl] at r10
  unfold preb_124v
  exact pz
theorem c_62v_s_0 : vOkm T0 (eP e_62v L_62v A_62v mu_62v none) 1 ([(20, [3, 0], [0], 4), (90, [3], [], -2147483648), (91, [3], [], 2147483647), (20, [2, 0], [0], 0), (0, [2], [], 31), (31, [1], [], 0), (20, [1, 0], [0], 3), (90, [1], [], -2147483648), (91, [1], [], 2147483647), (6000, [0], [0], 0), (0, [0], [], 30)], (2124, [2, 3], [0], 0)) := vOk_in fun ρ η h => by
  obtain ⟨f0, f1, f2, f3, f4, f5, f6, f7, f8, f9, f10, _⟩ := h
  exact q_62v_0 (n0 := ρ 0) (n1 := ρ 1) (n2 := ρ 2) (n3 := ρ 3) (H0 := η 0) f10 f9 f8 f7 f6 f5 f4 f3 f2 f1 f0
theorem q_62v_1 {n0 n1 n2 n3 n4 : Int} {H0 H1 : gH} (f0 : n0 = 30) (f1 : hWt T0 H0 ∧ preb_62v n0 H0) (f2 : n1 ≤ 2147483647) (f3 : (-2147483648) ≤ n1) (f4 : n1 = hV H0 (n0).toNat 3) (f5 : n1 ≠ 0) (f6 : n2 = 31) (f7 : n2 = hV H0 (n0).toNat 0) (f8 : n3 ≤ 2147483647) (f9 : (-2147483648) ≤ n3) (f10 : n3 = hV H0 (n0).toNat 4) (f11 : n4 ≤ 2147483647) (f12 : (-2147483648) ≤ n4) (f13 : (hLe T0 H0 H1 ∧ hFr s_124v.2.2.2.2 H0 H1 ∧ ((0 : Int) = 0 → H1.length = H0.length) ∧ hWt T0 H1) ∧ postb_124v n4 n2 n3 H0 H1) : postb_62v n4 n0 H0 H1 := by
  have pz := f1.2
  unfold preb_62v at pz
  have r4 := f4
  rw [f0] at r4
  rw [show ((30 : Int)).toNat = 30 from rfl] at r4
  have r7 := f7
  rw [f0] at r7
  rw [show ((30 : Int)).toNat = 30 from rfl] at r7
  have r10 := f10
  rw [f0] at r10
  rw [show ((30 : Int)).toNat = 30 from rfl] at r10
  unfold postb_62v
  have q := f13.2
  unfold postb_124v at q
  rw [if_neg (by omega), q, show n3 = hV H0 30 4 by omega]
theorem c_62v_s_1 : vOkm T0 (eP e_62v L_62v A_62v mu_62v none) 1 ([(1124, [4, 2, 3], [0, 1], 0), (90, [4], [], -2147483648), (91, [4], [], 2147483647), (20, [3, 0], [0], 4), (90, [3], [], -2147483648), (91, [3], [], 2147483647), (20, [2, 0], [0], 0), (0, [2], [], 31), (31, [1], [], 0), (20, [1, 0], [0], 3), (90, [1], [], -2147483648), (91, [1], [], 2147483647), (6000, [0], [0], 0), (0, [0], [], 30)], (3000, [4], [1], 22)) := vOk_in fun ρ η h => by
  obtain ⟨f0, f1, f2, f3, f4, f5, f6, f7, f8, f9, f10, f11, f12, f13, _⟩ := h
  exact q_62v_1 (n0 := ρ 0) (n1 := ρ 1) (n2 := ρ 2) (n3 := ρ 3) (n4 := ρ 4) (H0 := η 0) (H1 := η 1) f13 f12 f11 f10 f9 f8 f7 f6 f5 f4 f3 f2 f1 f0
theorem q_62v_2 {n0 n1 n2 : Int} {H0 : gH} (f0 : n0 = 30) (f1 : hWt T0 H0 ∧ preb_62v n0 H0) (f2 : n1 ≤ 2147483647) (f3 : (-2147483648) ≤ n1) (f4 : n1 = hV H0 (n0).toNat 3) (f5 : n1 = 0) (f6 : n2 = (-1)) : postb_62v n2 n0 H0 H0 := by
  have pz := f1.2
  unfold preb_62v at pz
  have r4 := f4
  rw [f0] at r4
  rw [show ((30 : Int)).toNat = 30 from rfl] at r4
  unfold postb_62v
  rw [if_pos (by omega)]
  omega
theorem c_62v_s_2 : vOkm T0 (eP e_62v L_62v A_62v mu_62v none) 1 ([(0, [2], [], -1), (30, [1], [], 0), (20, [1, 0], [0], 3), (90, [1], [], -2147483648), (91, [1], [], 2147483647), (6000, [0], [0], 0), (0, [0], [], 30)], (3000, [2], [0], 22)) := vOk_in fun ρ η h => by
  obtain ⟨f0, f1, f2, f3, f4, f5, f6, _⟩ := h
  exact q_62v_2 (n0 := ρ 0) (n1 := ρ 1) (n2 := ρ 2) (H0 := η 0) f6 f5 f4 f3 f2 f1 f0
def p_62v_s : List vG := [([(20, [3, 0], [0], 4), (90, [3], [], -2147483648), (91, [3], [], 2147483647), (20, [2, 0], [0], 0), (0, [2], [], 31), (31, [1], [], 0), (20, [1, 0], [0], 3), (90, [1], [], -2147483648), (91, [1], [], 2147483647), (6000, [0], [0], 0), (0, [0], [], 30)], (2124, [2, 3], [0], 0)),
  ([(1124, [4, 2, 3], [0, 1], 0), (90, [4], [], -2147483648), (91, [4], [], 2147483647), (20, [3, 0], [0], 4), (90, [3], [], -2147483648), (91, [3], [], 2147483647), (20, [2, 0], [0], 0), (0, [2], [], 31), (31, [1], [], 0), (20, [1, 0], [0], 3), (90, [1], [], -2147483648), (91, [1], [], 2147483647), (6000, [0], [0], 0), (0, [0], [], 30)], (3000, [4], [1], 22)),
  ([(0, [2], [], -1), (30, [1], [], 0), (20, [1, 0], [0], 3), (90, [1], [], -2147483648), (91, [1], [], 2147483647), (6000, [0], [0], 0), (0, [0], [], 30)], (3000, [2], [0], 22))]
theorem r_62v_s : vCovO false (eR0 e_62v L_62v cs_62v 2000) p_62v_s = true := by decide +kernel
theorem m_62v (d : Nat) : eC e_62v (d + 3) := eC_ok (e := e_62v) (L := L_62v) (cs := cs_62v) (n := 2000) (d := d + 2) (A := A_62v) (μ := mu_62v) (tp := false) (p0 := p_62v_s) rfl ⟨m_124v d, trivial⟩ rfl (.inl rfl) (by decide +kernel) (fun z => nomatch z) r_62v_s (allC c_62v_s_0 (allC c_62v_s_1 (allC c_62v_s_2 allN))) allN
/- Reader.exchange (LMixStage$Rules;)LMixStage$Rules; -/
noncomputable def s_63v : vM := ([(3, 4, 30, 0), (3, 5, -1, 0)], (3, 5, -1, 0), 0, 0, [(4, 8)])
def postb_63v (r a0 a1 : Int) (h0 h : gH) : Prop := r = hV h0 30 8 ∧ hV h 30 8 = a1
def post_63v : List Int → gH → gH → Prop := fun xs h0 h => match xs with
  | [r, a0, a1] => postb_63v r a0 a1 h0 h
  | _ => True
noncomputable def e_63v : vE := (63, s_63v, pre0, post_63v)
noncomputable def L_63v : List vE := []
def cs_63v : List vC := []
def A_63v : Int → List Int → gH → gH → Prop := fun c xs h0 h => True
def mu_63v : Int → List Int → gH → gH → Nat := fun c xs h0 h => 0
theorem q_63v_0 {n0 n1 n2 n3 : Int} {H0 H1 : gH} (f0 : 0 ≤ n0) (f1 : n1 = 30) (f2 : hWt T0 H0 ∧ True) (f3 : 0 ≤ n2) (f4 : n2 = hV H0 (n1).toNat 8) (f5 : n3 = 8) (f6 : hUpd H1 H0 n1 n3 n0) : postb_63v n2 n1 n0 H0 H1 := by
  have r4 := f4
  rw [f1] at r4
  rw [show ((30 : Int)).toNat = 30 from rfl] at r4
  unfold postb_63v
  exact ⟨r4, uSame f6 30 8 (by rw [f1]; rfl) (by rw [f5]; rfl)⟩
theorem c_63v_s_0 : vOkm T0 (eP e_63v L_63v A_63v mu_63v none) 2 ([(80, [0, 3, 1], [1, 0], 2), (0, [3], [], 8), (20, [2, 0], [0], 8), (51, [2], [], 0), (6000, [0, 1], [0], 0), (0, [0], [], 30), (51, [1], [], 0)], (3000, [2], [1], 11)) := vOk_in fun ρ η h => by
  obtain ⟨f0, f1, f2, f3, f4, f5, f6, _⟩ := h
  exact q_63v_0 (n0 := ρ 1) (n1 := ρ 0) (n2 := ρ 2) (n3 := ρ 3) (H0 := η 0) (H1 := η 1) f6 f5 f4 f3 f2 f1 f0
def p_63v_s : List vG := [([(80, [0, 3, 1], [1, 0], 2), (0, [3], [], 8), (20, [2, 0], [0], 8), (51, [2], [], 0), (6000, [0, 1], [0], 0), (0, [0], [], 30), (51, [1], [], 0)], (3000, [2], [1], 11))]
theorem r_63v_s : vCovO false (eR0 e_63v L_63v cs_63v 2000) p_63v_s = true := by decide +kernel
theorem m_63v (d : Nat) : eC e_63v (d + 1) := eC_ok (e := e_63v) (L := L_63v) (cs := cs_63v) (n := 2000) (d := d + 0) (A := A_63v) (μ := mu_63v) (tp := false) (p0 := p_63v_s) rfl trivial rfl (.inr pre0_ok) (by decide +kernel) (fun z => nomatch z) r_63v_s (allC c_63v_s_0 allN) allN
/- MixStage.tellSheet ()V -/
noncomputable def s_193v : vM := ([(3, 11, 7, 0)], (9, 0, 0, 0), 1, 1, [(1, 0), (1, 1), (1, 2), (1, 3), (1, 4), (1, 5), (1, 6), (1, 7), (1, 8), (1, 9), (1, 10), (1, 11), (1, 12), (1, 13), (1, 14), (1, 15), (1, 16), (1, 18), (3, 4), (6, 2), (6, 3), (6, 4), (11, 4), (104, 0), (106, 0), (796, 0)])
def preb_193v (a0 : Int) (h : gH) : Prop := 1 ≤ hV h 19 3 ∧ hV h 19 3 ≤ 7
def pre_193v : List Int → gH → Prop := fun xs h => match xs with
  | [a0] => preb_193v a0 h
  | _ => False
def postb_193v (a0 : Int) (h0 h : gH) : Prop := (¬ (0 ≤ hV h0 7 4 ∧ hV h0 7 4 < 8) → hV h 7 4 = hV h0 7 4 ∧ hV h 19 4 = hV h0 19 4) ∧ (0 ≤ hV h0 7 4 ∧ hV h0 7 4 < 8 → hV h 7 4 = hV h0 7 4 + 1 ∧ hV h 19 4 = hV h0 19 3 - 1)
def post_193v : List Int → gH → gH → Prop := fun xs h0 h => match xs with
  | [a0] => postb_193v a0 h0 h
  | _ => True
noncomputable def e_193v : vE := (193, s_193v, pre_193v, post_193v)
noncomputable def L_193v : List vE := [e_56v, e_82]
def cs_193v : List vC := [(20, [(0, (3, 11, 7, 0))]), (35, [(0, (3, 11, 7, 0)), (1, (3, 6, -1, 0))])]
def Ab_193v_20 (a0 x0 : Int) (h0 h : gH) : Prop := 0 ≤ hV h 7 4 ∧ hV h 7 4 < 8 ∧ h.length = h0.length ∧ hV h 7 4 = hV h0 7 4
def mub_193v_20 (a0 x0 : Int) (h0 h : gH) : Nat := 1
def Ab_193v_35 (a0 x0 x1 : Int) (h0 h : gH) : Prop := 0 ≤ hV h 7 4 ∧ hV h 7 4 < 8 ∧ hK h (x1).toNat = 6 ∧ hV h (x1).toNat 2 = 0 ∧ h.length = h0.length + 2 ∧ hV h 7 4 = hV h0 7 4
def mub_193v_35 (a0 x0 x1 : Int) (h0 h : gH) : Nat := 0
def A_193v : Int → List Int → gH → gH → Prop := fun c xs h0 h => match c.toNat with
  | 20 => 0 ≤ hV h 7 4 ∧ hV h 7 4 < 8 ∧ h.length = h0.length ∧ hV h 7 4 = hV h0 7 4
  | 35 => (match xs with
    | [a0, x0, x1] => Ab_193v_35 a0 x0 x1 h0 h
    | _ => False)
  | _ => True
def mu_193v : Int → List Int → gH → gH → Nat := fun c xs h0 h => match c.toNat with
  | 20 => 1
  | 35 => 0
  | _ => 0
theorem q_193v_0 {n0 n1 : Int} {H0 : gH} (f0 : n0 = 7) (f1 : hWt T0 H0 ∧ preb_193v n0 H0) (f2 : n1 ≤ 8) (f3 : 0 ≤ n1) (f4 : n1 = hV H0 (n0).toNat 4) (f5 : n1 < 0) : postb_193v n0 H0 H0 := by
  exfalso
  clear f0 f1 f2 f4
  omega
theorem c_193v_s_0 : vOkm T0 (eP e_193v L_193v A_193v mu_193v none) 1 ([(32, [1], [], 0), (20, [1, 0], [0], 4), (90, [1], [], 0), (91, [1], [], 8), (6000, [0], [0], 0), (0, [0], [], 7)], (3000, [], [0], 19)) := vOk_in fun ρ η h => by
  obtain ⟨f0, f1, f2, f3, f4, f5, _⟩ := h
  exact q_193v_0 (n0 := ρ 0) (n1 := ρ 1) (H0 := η 0) f5 f4 f3 f2 f1 f0
theorem q_193v_1 {n0 n1 n2 n3 n4 : Int} {H0 : gH} (f0 : n0 = 7) (f1 : hWt T0 H0 ∧ preb_193v n0 H0) (f2 : n1 ≤ 8) (f3 : 0 ≤ n1) (f4 : n1 = hV H0 (n0).toNat 4) (f5 : 0 ≤ n1) (f6 : n2 ≤ 8) (f7 : 0 ≤ n2) (f8 : n2 = hV H0 (n0).toNat 4) (f9 : n3 = 9) (f10 : n3 = hV H0 (n0).toNat 3) (f11 : n4 = (hN H0 (n3).toNat : Int)) (f12 : n4 = 8) (f13 : n2 < n4) : Ab_193v_20 n0 n0 H0 H0 ∧ ∀ q, none = some q → mub_193v_20 n0 n0 H0 H0 < q := by
  have pz := f1.2
  unfold preb_193v at pz
  have r4 := f4
  rw [f0] at r4
  rw [show ((7 : Int)).toNat = 7 from rfl] at r4
  have r8 := f8
  rw [f0] at r8
  rw [show ((7 : Int)).toNat = 7 from rfl] at r8
  have r10 := f10
  rw [f0] at r10
  rw [show ((7 : Int)).toNat = 7 from rfl] at r10
  unfold Ab_193v_20
  exact ⟨⟨by omega, by omega, rfl, rfl⟩, fun q hq => nomatch hq⟩
theorem c_193v_s_1 : vOkm T0 (eP e_193v L_193v A_193v mu_193v none) 1 ([(42, [2, 4], [], 0), (0, [4], [], 8), (21, [4, 3], [0], 0), (20, [3, 0], [0], 3), (0, [3], [], 9), (20, [2, 0], [0], 4), (90, [2], [], 0), (91, [2], [], 8), (33, [1], [], 0), (20, [1, 0], [0], 4), (90, [1], [], 0), (91, [1], [], 8), (6000, [0], [0], 0), (0, [0], [], 7)], (4000, [0], [0], 20)) := vOk_in fun ρ η h => by
  obtain ⟨f0, f1, f2, f3, f4, f5, f6, f7, f8, f9, f10, f11, f12, f13, _⟩ := h
  exact q_193v_1 (n0 := ρ 0) (n1 := ρ 1) (n2 := ρ 2) (n3 := ρ 3) (n4 := ρ 4) (H0 := η 0) f13 f12 f11 f10 f9 f8 f7 f6 f5 f4 f3 f2 f1 f0
theorem q_193v_2 {n0 n1 n2 n3 n4 : Int} {H0 : gH} (f0 : n0 = 7) (f1 : hWt T0 H0 ∧ preb_193v n0 H0) (f2 : n1 ≤ 8) (f3 : 0 ≤ n1) (f4 : n1 = hV H0 (n0).toNat 4) (f5 : 0 ≤ n1) (f6 : n2 ≤ 8) (f7 : 0 ≤ n2) (f8 : n2 = hV H0 (n0).toNat 4) (f9 : n3 = 9) (f10 : n3 = hV H0 (n0).toNat 3) (f11 : n4 = (hN H0 (n3).toNat : Int)) (f12 : n4 = 8) (f13 : n4 ≤ n2) : postb_193v n0 H0 H0 := by
  have pz := f1.2
  unfold preb_193v at pz
  have r4 := f4
  rw [f0] at r4
  rw [show ((7 : Int)).toNat = 7 from rfl] at r4
  have r8 := f8
  rw [f0] at r8
  rw [show ((7 : Int)).toNat = 7 from rfl] at r8
  have r10 := f10
  rw [f0] at r10
  rw [show ((7 : Int)).toNat = 7 from rfl] at r10
  unfold postb_193v
  exact ⟨fun w => ⟨rfl, rfl⟩, fun w => by omega⟩
theorem c_193v_s_2 : vOkm T0 (eP e_193v L_193v A_193v mu_193v none) 1 ([(43, [2, 4], [], 0), (0, [4], [], 8), (21, [4, 3], [0], 0), (20, [3, 0], [0], 3), (0, [3], [], 9), (20, [2, 0], [0], 4), (90, [2], [], 0), (91, [2], [], 8), (33, [1], [], 0), (20, [1, 0], [0], 4), (90, [1], [], 0), (91, [1], [], 8), (6000, [0], [0], 0), (0, [0], [], 7)], (3000, [], [0], 19)) := vOk_in fun ρ η h => by
  obtain ⟨f0, f1, f2, f3, f4, f5, f6, f7, f8, f9, f10, f11, f12, f13, _⟩ := h
  exact q_193v_2 (n0 := ρ 0) (n1 := ρ 1) (n2 := ρ 2) (n3 := ρ 3) (n4 := ρ 4) (H0 := η 0) f13 f12 f11 f10 f9 f8 f7 f6 f5 f4 f3 f2 f1 f0
def p_193v_s : List vG := [([(32, [1], [], 0), (20, [1, 0], [0], 4), (90, [1], [], 0), (91, [1], [], 8), (6000, [0], [0], 0), (0, [0], [], 7)], (3000, [], [0], 19)),
  ([(42, [2, 4], [], 0), (0, [4], [], 8), (21, [4, 3], [0], 0), (20, [3, 0], [0], 3), (0, [3], [], 9), (20, [2, 0], [0], 4), (90, [2], [], 0), (91, [2], [], 8), (33, [1], [], 0), (20, [1, 0], [0], 4), (90, [1], [], 0), (91, [1], [], 8), (6000, [0], [0], 0), (0, [0], [], 7)], (4000, [0], [0], 20)),
  ([(43, [2, 4], [], 0), (0, [4], [], 8), (21, [4, 3], [0], 0), (20, [3, 0], [0], 3), (0, [3], [], 9), (20, [2, 0], [0], 4), (90, [2], [], 0), (91, [2], [], 8), (33, [1], [], 0), (20, [1, 0], [0], 4), (90, [1], [], 0), (91, [1], [], 8), (6000, [0], [0], 0), (0, [0], [], 7)], (3000, [], [0], 19))]
theorem r_193v_s : vCovO false (eR0 e_193v L_193v cs_193v 2000) p_193v_s = true := by decide +kernel
theorem q_193v_3 {q0 : Nat} {n0 n1 n2 n3 : Int} {H0 H1 : gH} (f0 : 0 ≤ n0) (f1 : n1 = 7) (f2 : n2 = 7) (f3 : (hLe T0 H0 H1 ∧ hFr s_193v.2.2.2.2 H0 H1 ∧ hWt T0 H1) ∧ (Ab_193v_35 n2 n1 n0 H0 H1 ∧ preb_193v n2 H0) ∧ some q0 = some (mub_193v_35 n2 n1 n0 H0 H1)) (f4 : n3 = 30) (f5 : n3 = hV H1 (n1).toNat 8) : preb_82 n3 n0 H1 := by
  have g4 := f3.2.1.1
  unfold Ab_193v_35 at g4
  have g3 := f3.2.1.2
  unfold preb_193v at g3
  have g5 := Option.some.inj f3.2.2
  unfold mub_193v_35 at g5
  unfold preb_82
  have e0 : hV H1 7 8 = hV H0 7 8 := f3.1.2.1.1 7 8 (by decide +kernel)
  first | trivial | omega
theorem c_193v_35_0 {q0 : Nat} : vOkm T0 (eP e_193v L_193v A_193v mu_193v (some q0)) 1 ([(20, [3, 1], [1], 8), (0, [3], [], 30), (5000, [0, 1, 2], [0, 1], 35), (0, [0], [], 7), (0, [1], [], 7), (51, [2], [], 0)], (2082, [3, 2], [1], 0)) := vOk_in fun ρ η h => by
  obtain ⟨f0, f1, f2, f3, f4, f5, _⟩ := h
  exact q_193v_3 (q0 := q0) (n0 := ρ 2) (n1 := ρ 1) (n2 := ρ 0) (n3 := ρ 3) (H0 := η 0) (H1 := η 1) f5 f4 f3 f2 f1 f0
theorem q_193v_4 {q0 : Nat} {n0 n1 n2 n3 n4 : Int} {H0 H1 H2 : gH} (f0 : 0 ≤ n0) (f1 : n1 = 7) (f2 : n2 = 7) (f3 : (hLe T0 H0 H1 ∧ hFr s_193v.2.2.2.2 H0 H1 ∧ hWt T0 H1) ∧ (Ab_193v_35 n2 n1 n0 H0 H1 ∧ preb_193v n2 H0) ∧ some q0 = some (mub_193v_35 n2 n1 n0 H0 H1)) (f4 : n3 = 30) (f5 : n3 = hV H1 (n1).toNat 8) (f6 : (hLe T0 H1 H2 ∧ hFr s_82.2.2.2.2 H1 H2 ∧ ((1 : Int) = 0 → H2.length = H1.length) ∧ hWt T0 H2) ∧ postb_82 n3 n0 H1 H2) (f7 : n4 = 19) (f8 : n4 = hV H2 (n1).toNat 6) : preb_56v n4 H2 := by
  have pz := f3.2.1.2
  unfold preb_193v at pz
  have ga := f3.2.1.1
  unfold Ab_193v_35 at ga
  obtain ⟨g0, g1, g2, g3, g4, g5⟩ := ga
  have e3 : hV H2 19 3 = hV H0 19 3 := (f6.1.2.1.1 19 3 (by decide +kernel)).trans (f3.1.2.1.1 19 3 (by decide +kernel))
  unfold preb_56v
  omega
theorem c_193v_35_1 {q0 : Nat} : vOkm T0 (eP e_193v L_193v A_193v mu_193v (some q0)) 1 ([(20, [4, 1], [2], 6), (0, [4], [], 19), (1082, [3, 2], [1, 2], 1), (20, [3, 1], [1], 8), (0, [3], [], 30), (5000, [0, 1, 2], [0, 1], 35), (0, [0], [], 7), (0, [1], [], 7), (51, [2], [], 0)], (2056, [4], [2], 0)) := vOk_in fun ρ η h => by
  obtain ⟨f0, f1, f2, f3, f4, f5, f6, f7, f8, _⟩ := h
  exact q_193v_4 (q0 := q0) (n0 := ρ 2) (n1 := ρ 1) (n2 := ρ 0) (n3 := ρ 3) (n4 := ρ 4) (H0 := η 0) (H1 := η 1) (H2 := η 2) f8 f7 f6 f5 f4 f3 f2 f1 f0
theorem q_193v_5 {q0 : Nat} {n0 n1 n2 n3 n4 n5 n6 : Int} {H0 H1 H2 H3 : gH} (f0 : 0 ≤ n0) (f1 : n1 = 7) (f2 : n2 = 7) (f3 : (hLe T0 H0 H1 ∧ hFr s_193v.2.2.2.2 H0 H1 ∧ hWt T0 H1) ∧ (Ab_193v_35 n2 n1 n0 H0 H1 ∧ preb_193v n2 H0) ∧ some q0 = some (mub_193v_35 n2 n1 n0 H0 H1)) (f4 : n3 = 30) (f5 : n3 = hV H1 (n1).toNat 8) (f6 : (hLe T0 H1 H2 ∧ hFr s_82.2.2.2.2 H1 H2 ∧ ((1 : Int) = 0 → H2.length = H1.length) ∧ hWt T0 H2) ∧ postb_82 n3 n0 H1 H2) (f7 : n4 = 19) (f8 : n4 = hV H2 (n1).toNat 6) (f9 : (hLe T0 H2 H3 ∧ hFr s_56v.2.2.2.2 H2 H3 ∧ ((0 : Int) = 0 → H3.length = H2.length) ∧ hWt T0 H3) ∧ postb_56v n4 H2 H3) (f10 : n5 = 9) (f11 : n5 = hV H3 (n1).toNat 3) (f12 : n6 ≤ 8) (f13 : 0 ≤ n6) (f14 : n6 = hV H3 (n1).toNat 4) : 0 ≤ n6 ∧ n6 < 8 := by
  have g4 := f3.2.1.1
  unfold Ab_193v_35 at g4
  have g3 := f3.2.1.2
  unfold preb_193v at g3
  have g5 := Option.some.inj f3.2.2
  unfold mub_193v_35 at g5
  unfold postb_82 at f6
  unfold postb_56v at f9
  have e0 : hV H1 7 8 = hV H0 7 8 := f3.1.2.1.1 7 8 (by decide +kernel)
  have e1 : hV H2 7 6 = hV H1 7 6 := f6.1.2.1.1 7 6 (by decide +kernel)
  have e2 : hV H1 7 6 = hV H0 7 6 := f3.1.2.1.1 7 6 (by decide +kernel)
  have e3 : hV H3 7 3 = hV H2 7 3 := f9.1.2.1.1 7 3 (by decide +kernel)
  have e4 : hV H2 7 3 = hV H1 7 3 := f6.1.2.1.1 7 3 (by decide +kernel)
  have e5 : hV H1 7 3 = hV H0 7 3 := f3.1.2.1.1 7 3 (by decide +kernel)
  have e6 : hV H3 7 4 = hV H2 7 4 := f9.1.2.1.1 7 4 (by decide +kernel)
  have e7 : hV H2 7 4 = hV H1 7 4 := f6.1.2.1.1 7 4 (by decide +kernel)
  have e8 : n6 = hV H1 7 4 := (by rw [f1] at f14; exact f14 : n6 = hV H3 7 4).trans ((e6).trans e7)
  have e9 : hV H2 19 3 = hV H1 19 3 := f6.1.2.1.1 19 3 (by decide +kernel)
  have e10 : hV H1 19 3 = hV H0 19 3 := f3.1.2.1.1 19 3 (by decide +kernel)
  have e11 : hV H2 19 3 = hV H0 19 3 := (e9).trans e10
  have l9 := f9.1.2.2.1 rfl
  try simp only [e11] at f3
  try simp only [e11] at f6
  try simp only [e11] at f9
  try simp only [e11] at g3
  try simp only [e11] at g4
  try simp only [e11] at g5
  try simp only [e11]
  subst e8
  omega
theorem c_193v_35_2 {q0 : Nat} : vOkm T0 (eP e_193v L_193v A_193v mu_193v (some q0)) 1 ([(20, [6, 1], [3], 4), (90, [6], [], 0), (91, [6], [], 8), (20, [5, 1], [3], 3), (0, [5], [], 9), (1056, [4], [2, 3], 0), (20, [4, 1], [2], 6), (0, [4], [], 19), (1082, [3, 2], [1, 2], 1), (20, [3, 1], [1], 8), (0, [3], [], 30), (5000, [0, 1, 2], [0, 1], 35), (0, [0], [], 7), (0, [1], [], 7), (51, [2], [], 0)], (70, [6], [], 8)) := vOk_in fun ρ η h => by
  obtain ⟨f0, f1, f2, f3, f4, f5, f6, f7, f8, f9, f10, f11, f12, f13, f14, _⟩ := h
  exact q_193v_5 (q0 := q0) (n0 := ρ 2) (n1 := ρ 1) (n2 := ρ 0) (n3 := ρ 3) (n4 := ρ 4) (n5 := ρ 5) (n6 := ρ 6) (H0 := η 0) (H1 := η 1) (H2 := η 2) (H3 := η 3) f14 f13 f12 f11 f10 f9 f8 f7 f6 f5 f4 f3 f2 f1 f0
theorem q_193v_6 {q0 : Nat} {n0 n1 n2 n3 n4 n5 n6 n7 n8 n9 : Int} {H0 H1 H2 H3 H4 : gH} (f0 : 0 ≤ n0) (f1 : n1 = 7) (f2 : n2 = 7) (f3 : (hLe T0 H0 H1 ∧ hFr s_193v.2.2.2.2 H0 H1 ∧ hWt T0 H1) ∧ (Ab_193v_35 n2 n1 n0 H0 H1 ∧ preb_193v n2 H0) ∧ some q0 = some (mub_193v_35 n2 n1 n0 H0 H1)) (f4 : n3 = 30) (f5 : n3 = hV H1 (n1).toNat 8) (f6 : (hLe T0 H1 H2 ∧ hFr s_82.2.2.2.2 H1 H2 ∧ ((1 : Int) = 0 → H2.length = H1.length) ∧ hWt T0 H2) ∧ postb_82 n3 n0 H1 H2) (f7 : n4 = 19) (f8 : n4 = hV H2 (n1).toNat 6) (f9 : (hLe T0 H2 H3 ∧ hFr s_56v.2.2.2.2 H2 H3 ∧ ((0 : Int) = 0 → H3.length = H2.length) ∧ hWt T0 H3) ∧ postb_56v n4 H2 H3) (f10 : n5 = 9) (f11 : n5 = hV H3 (n1).toNat 3) (f12 : n6 ≤ 8) (f13 : 0 ≤ n6) (f14 : n6 = hV H3 (n1).toNat 4) (f15 : hUpd H4 H3 n5 n6 n0) (f16 : n7 ≤ 8) (f17 : 0 ≤ n7) (f18 : n7 = hV H4 (n1).toNat 4) (f19 : n8 = 1) (f20 : n9 = w32 (n7 + n8)) : 0 ≤ n9 := by
  have g4 := f3.2.1.1
  unfold Ab_193v_35 at g4
  have g3 := f3.2.1.2
  unfold preb_193v at g3
  have g5 := Option.some.inj f3.2.2
  unfold mub_193v_35 at g5
  unfold postb_82 at f6
  unfold postb_56v at f9
  have e0 : hV H1 7 8 = hV H0 7 8 := f3.1.2.1.1 7 8 (by decide +kernel)
  have e1 : hV H2 7 6 = hV H1 7 6 := f6.1.2.1.1 7 6 (by decide +kernel)
  have e2 : hV H1 7 6 = hV H0 7 6 := f3.1.2.1.1 7 6 (by decide +kernel)
  have e3 : hV H3 7 3 = hV H2 7 3 := f9.1.2.1.1 7 3 (by decide +kernel)
  have e4 : hV H2 7 3 = hV H1 7 3 := f6.1.2.1.1 7 3 (by decide +kernel)
  have e5 : hV H1 7 3 = hV H0 7 3 := f3.1.2.1.1 7 3 (by decide +kernel)
  have e6 : hV H3 7 4 = hV H2 7 4 := f9.1.2.1.1 7 4 (by decide +kernel)
  have e7 : hV H2 7 4 = hV H1 7 4 := f6.1.2.1.1 7 4 (by decide +kernel)
  have e8 : n6 = hV H1 7 4 := (by rw [f1] at f14; exact f14 : n6 = hV H3 7 4).trans ((e6).trans e7)
  have e9 : hV H4 7 4 = hV H3 7 4 := uPlace f15 _ _ (iS (show n5 = ((9 : Nat) : Int) from f10) rfl)
  have e10 : n7 = hV H1 7 4 := (by rw [f1] at f18; exact f18 : n7 = hV H4 7 4).trans ((e9).trans ((e6).trans e7))
  have e11 : hV H2 19 3 = hV H1 19 3 := f6.1.2.1.1 19 3 (by decide +kernel)
  have e12 : hV H1 19 3 = hV H0 19 3 := f3.1.2.1.1 19 3 (by decide +kernel)
  have e13 : hV H2 19 3 = hV H0 19 3 := (e11).trans e12
  have l9 := f9.1.2.2.1 rfl
  have l15 := f15.2.1
  try simp only [e13] at f3
  try simp only [e13] at f6
  try simp only [e13] at f9
  try simp only [e13] at g3
  try simp only [e13] at g4
  try simp only [e13] at g5
  try simp only [e13]
  subst e8
  subst e10
  unfold w32 at *
  omega
theorem c_193v_35_3 {q0 : Nat} : vOkm T0 (eP e_193v L_193v A_193v mu_193v (some q0)) 1 ([(1, [9, 7, 8], [], 0), (0, [8], [], 1), (20, [7, 1], [4], 4), (90, [7], [], 0), (91, [7], [], 8), (80, [5, 6, 2], [4, 3], 2), (20, [6, 1], [3], 4), (90, [6], [], 0), (91, [6], [], 8), (20, [5, 1], [3], 3), (0, [5], [], 9), (1056, [4], [2, 3], 0), (20, [4, 1], [2], 6), (0, [4], [], 19), (1082, [3, 2], [1, 2], 1), (20, [3, 1], [1], 8), (0, [3], [], 30), (5000, [0, 1, 2], [0, 1], 35), (0, [0], [], 7), (0, [1], [], 7), (51, [2], [], 0)], (90, [9], [], 0)) := vOk_in fun ρ η h => by
  obtain ⟨f0, f1, f2, f3, f4, f5, f6, f7, f8, f9, f10, f11, f12, f13, f14, f15, f16, f17, f18, f19, f20, _⟩ := h
  exact q_193v_6 (q0 := q0) (n0 := ρ 2) (n1 := ρ 1) (n2 := ρ 0) (n3 := ρ 3) (n4 := ρ 4) (n5 := ρ 5) (n6 := ρ 6) (n7 := ρ 7) (n8 := ρ 8) (n9 := ρ 9) (H0 := η 0) (H1 := η 1) (H2 := η 2) (H3 := η 3) (H4 := η 4) f20 f19 f18 f17 f16 f15 f14 f13 f12 f11 f10 f9 f8 f7 f6 f5 f4 f3 f2 f1 f0
theorem q_193v_7 {q0 : Nat} {n0 n1 n2 n3 n4 n5 n6 n7 n8 n9 : Int} {H0 H1 H2 H3 H4 : gH} (f0 : 0 ≤ n0) (f1 : n1 = 7) (f2 : n2 = 7) (f3 : (hLe T0 H0 H1 ∧ hFr s_193v.2.2.2.2 H0 H1 ∧ hWt T0 H1) ∧ (Ab_193v_35 n2 n1 n0 H0 H1 ∧ preb_193v n2 H0) ∧ some q0 = some (mub_193v_35 n2 n1 n0 H0 H1)) (f4 : n3 = 30) (f5 : n3 = hV H1 (n1).toNat 8) (f6 : (hLe T0 H1 H2 ∧ hFr s_82.2.2.2.2 H1 H2 ∧ ((1 : Int) = 0 → H2.length = H1.length) ∧ hWt T0 H2) ∧ postb_82 n3 n0 H1 H2) (f7 : n4 = 19) (f8 : n4 = hV H2 (n1).toNat 6) (f9 : (hLe T0 H2 H3 ∧ hFr s_56v.2.2.2.2 H2 H3 ∧ ((0 : Int) = 0 → H3.length = H2.length) ∧ hWt T0 H3) ∧ postb_56v n4 H2 H3) (f10 : n5 = 9) (f11 : n5 = hV H3 (n1).toNat 3) (f12 : n6 ≤ 8) (f13 : 0 ≤ n6) (f14 : n6 = hV H3 (n1).toNat 4) (f15 : hUpd H4 H3 n5 n6 n0) (f16 : n7 ≤ 8) (f17 : 0 ≤ n7) (f18 : n7 = hV H4 (n1).toNat 4) (f19 : n8 = 1) (f20 : n9 = w32 (n7 + n8)) : n9 ≤ 8 := by
  have g4 := f3.2.1.1
  unfold Ab_193v_35 at g4
  have g3 := f3.2.1.2
  unfold preb_193v at g3
  have g5 := Option.some.inj f3.2.2
  unfold mub_193v_35 at g5
  unfold postb_82 at f6
  unfold postb_56v at f9
  have e0 : hV H1 7 8 = hV H0 7 8 := f3.1.2.1.1 7 8 (by decide +kernel)
  have e1 : hV H2 7 6 = hV H1 7 6 := f6.1.2.1.1 7 6 (by decide +kernel)
  have e2 : hV H1 7 6 = hV H0 7 6 := f3.1.2.1.1 7 6 (by decide +kernel)
  have e3 : hV H3 7 3 = hV H2 7 3 := f9.1.2.1.1 7 3 (by decide +kernel)
  have e4 : hV H2 7 3 = hV H1 7 3 := f6.1.2.1.1 7 3 (by decide +kernel)
  have e5 : hV H1 7 3 = hV H0 7 3 := f3.1.2.1.1 7 3 (by decide +kernel)
  have e6 : hV H3 7 4 = hV H2 7 4 := f9.1.2.1.1 7 4 (by decide +kernel)
  have e7 : hV H2 7 4 = hV H1 7 4 := f6.1.2.1.1 7 4 (by decide +kernel)
  have e8 : n6 = hV H1 7 4 := (by rw [f1] at f14; exact f14 : n6 = hV H3 7 4).trans ((e6).trans e7)
  have e9 : hV H4 7 4 = hV H3 7 4 := uPlace f15 _ _ (iS (show n5 = ((9 : Nat) : Int) from f10) rfl)
  have e10 : n7 = hV H1 7 4 := (by rw [f1] at f18; exact f18 : n7 = hV H4 7 4).trans ((e9).trans ((e6).trans e7))
  have e11 : hV H2 19 3 = hV H1 19 3 := f6.1.2.1.1 19 3 (by decide +kernel)
  have e12 : hV H1 19 3 = hV H0 19 3 := f3.1.2.1.1 19 3 (by decide +kernel)
  have e13 : hV H2 19 3 = hV H0 19 3 := (e11).trans e12
  have l9 := f9.1.2.2.1 rfl
  have l15 := f15.2.1
  try simp only [e13] at f3
  try simp only [e13] at f6
  try simp only [e13] at f9
  try simp only [e13] at g3
  try simp only [e13] at g4
  try simp only [e13] at g5
  try simp only [e13]
  subst e8
  subst e10
  unfold w32 at *
  omega
theorem c_193v_35_4 {q0 : Nat} : vOkm T0 (eP e_193v L_193v A_193v mu_193v (some q0)) 1 ([(1, [9, 7, 8], [], 0), (0, [8], [], 1), (20, [7, 1], [4], 4), (90, [7], [], 0), (91, [7], [], 8), (80, [5, 6, 2], [4, 3], 2), (20, [6, 1], [3], 4), (90, [6], [], 0), (91, [6], [], 8), (20, [5, 1], [3], 3), (0, [5], [], 9), (1056, [4], [2, 3], 0), (20, [4, 1], [2], 6), (0, [4], [], 19), (1082, [3, 2], [1, 2], 1), (20, [3, 1], [1], 8), (0, [3], [], 30), (5000, [0, 1, 2], [0, 1], 35), (0, [0], [], 7), (0, [1], [], 7), (51, [2], [], 0)], (91, [9], [], 8)) := vOk_in fun ρ η h => by
  obtain ⟨f0, f1, f2, f3, f4, f5, f6, f7, f8, f9, f10, f11, f12, f13, f14, f15, f16, f17, f18, f19, f20, _⟩ := h
  exact q_193v_7 (q0 := q0) (n0 := ρ 2) (n1 := ρ 1) (n2 := ρ 0) (n3 := ρ 3) (n4 := ρ 4) (n5 := ρ 5) (n6 := ρ 6) (n7 := ρ 7) (n8 := ρ 8) (n9 := ρ 9) (H0 := η 0) (H1 := η 1) (H2 := η 2) (H3 := η 3) (H4 := η 4) f20 f19 f18 f17 f16 f15 f14 f13 f12 f11 f10 f9 f8 f7 f6 f5 f4 f3 f2 f1 f0
theorem q_193v_8 {q0 : Nat} {n0 n1 n2 n3 n4 n5 n6 n7 n8 n9 n10 : Int} {H0 H1 H2 H3 H4 H5 : gH} (f0 : 0 ≤ n0) (f1 : n1 = 7) (f2 : n2 = 7) (f3 : (hLe T0 H0 H1 ∧ hFr s_193v.2.2.2.2 H0 H1 ∧ hWt T0 H1) ∧ (Ab_193v_35 n2 n1 n0 H0 H1 ∧ preb_193v n2 H0) ∧ some q0 = some (mub_193v_35 n2 n1 n0 H0 H1)) (f4 : n3 = 30) (f5 : n3 = hV H1 (n1).toNat 8) (f6 : (hLe T0 H1 H2 ∧ hFr s_82.2.2.2.2 H1 H2 ∧ ((1 : Int) = 0 → H2.length = H1.length) ∧ hWt T0 H2) ∧ postb_82 n3 n0 H1 H2) (f7 : n4 = 19) (f8 : n4 = hV H2 (n1).toNat 6) (f9 : (hLe T0 H2 H3 ∧ hFr s_56v.2.2.2.2 H2 H3 ∧ ((0 : Int) = 0 → H3.length = H2.length) ∧ hWt T0 H3) ∧ postb_56v n4 H2 H3) (f10 : n5 = 9) (f11 : n5 = hV H3 (n1).toNat 3) (f12 : n6 ≤ 8) (f13 : 0 ≤ n6) (f14 : n6 = hV H3 (n1).toNat 4) (f15 : hUpd H4 H3 n5 n6 n0) (f16 : n7 ≤ 8) (f17 : 0 ≤ n7) (f18 : n7 = hV H4 (n1).toNat 4) (f19 : n8 = 1) (f20 : n9 = w32 (n7 + n8)) (f21 : n10 = 4) (f22 : hUpd H5 H4 n1 n10 n9) : postb_193v n2 H0 H5 := by
  have pz := f3.2.1.2
  unfold preb_193v at pz
  have ga := f3.2.1.1
  unfold Ab_193v_35 at ga
  obtain ⟨g0, g1, g2, g3, g4, g5⟩ := ga
  have r5 := f5
  rw [f1] at r5
  rw [show ((7 : Int)).toNat = 7 from rfl] at r5
  have r8 := f8
  rw [f1] at r8
  rw [show ((7 : Int)).toNat = 7 from rfl] at r8
  have r11 := f11
  rw [f1] at r11
  rw [show ((7 : Int)).toNat = 7 from rfl] at r11
  have r14 := f14
  rw [f1] at r14
  rw [show ((7 : Int)).toNat = 7 from rfl] at r14
  have r18 := f18
  rw [f1] at r18
  rw [show ((7 : Int)).toNat = 7 from rfl] at r18
  have e3 : hV H2 19 3 = hV H0 19 3 := (f6.1.2.1.1 19 3 (by decide +kernel)).trans (f3.1.2.1.1 19 3 (by decide +kernel))
  have t := f9.2
  unfold postb_56v at t
  have e4 : hV H5 19 4 = hV H3 19 4 := (congrFun (uRowNe f22 19 (by rw [f1]; decide)) 4).trans (congrFun (uRowNe f15 19 (by rw [f10]; decide)) 4)
  have e7 : hV H5 7 4 = n9 := uSame f22 7 4 (by rw [f1]; rfl) (by rw [f21]; rfl)
  have k14 : hV H3 7 4 = hV H1 7 4 := (f9.1.2.1.1 7 4 (by decide +kernel)).trans (f6.1.2.1.1 7 4 (by decide +kernel))
  have k18 : hV H4 7 4 = hV H1 7 4 := (congrFun (uRowNe f15 7 (by rw [f10]; decide)) 4).trans ((f9.1.2.1.1 7 4 (by decide +kernel)).trans (f6.1.2.1.1 7 4 (by decide +kernel)))
  have wq20 := f20
  unfold w32 at wq20
  unfold postb_193v
  exact ⟨fun w => absurd (by omega) w, fun _ => ⟨by omega, by omega⟩⟩
theorem c_193v_35_5 {q0 : Nat} : vOkm T0 (eP e_193v L_193v A_193v mu_193v (some q0)) 1 ([(80, [1, 10, 9], [5, 4], 0), (0, [10], [], 4), (1, [9, 7, 8], [], 0), (0, [8], [], 1), (20, [7, 1], [4], 4), (90, [7], [], 0), (91, [7], [], 8), (80, [5, 6, 2], [4, 3], 2), (20, [6, 1], [3], 4), (90, [6], [], 0), (91, [6], [], 8), (20, [5, 1], [3], 3), (0, [5], [], 9), (1056, [4], [2, 3], 0), (20, [4, 1], [2], 6), (0, [4], [], 19), (1082, [3, 2], [1, 2], 1), (20, [3, 1], [1], 8), (0, [3], [], 30), (5000, [0, 1, 2], [0, 1], 35), (0, [0], [], 7), (0, [1], [], 7), (51, [2], [], 0)], (3000, [], [5], 70)) := vOk_in fun ρ η h => by
  obtain ⟨f0, f1, f2, f3, f4, f5, f6, f7, f8, f9, f10, f11, f12, f13, f14, f15, f16, f17, f18, f19, f20, f21, f22, _⟩ := h
  exact q_193v_8 (q0 := q0) (n0 := ρ 2) (n1 := ρ 1) (n2 := ρ 0) (n3 := ρ 3) (n4 := ρ 4) (n5 := ρ 5) (n6 := ρ 6) (n7 := ρ 7) (n8 := ρ 8) (n9 := ρ 9) (n10 := ρ 10) (H0 := η 0) (H1 := η 1) (H2 := η 2) (H3 := η 3) (H4 := η 4) (H5 := η 5) f22 f21 f20 f19 f18 f17 f16 f15 f14 f13 f12 f11 f10 f9 f8 f7 f6 f5 f4 f3 f2 f1 f0
def p_193v_35 : List vG := [([(20, [3, 1], [1], 8), (0, [3], [], 30), (5000, [0, 1, 2], [0, 1], 35), (0, [0], [], 7), (0, [1], [], 7), (51, [2], [], 0)], (2082, [3, 2], [1], 0)),
  ([(20, [4, 1], [2], 6), (0, [4], [], 19), (1082, [3, 2], [1, 2], 1), (20, [3, 1], [1], 8), (0, [3], [], 30), (5000, [0, 1, 2], [0, 1], 35), (0, [0], [], 7), (0, [1], [], 7), (51, [2], [], 0)], (2056, [4], [2], 0)),
  ([(20, [6, 1], [3], 4), (90, [6], [], 0), (91, [6], [], 8), (20, [5, 1], [3], 3), (0, [5], [], 9), (1056, [4], [2, 3], 0), (20, [4, 1], [2], 6), (0, [4], [], 19), (1082, [3, 2], [1, 2], 1), (20, [3, 1], [1], 8), (0, [3], [], 30), (5000, [0, 1, 2], [0, 1], 35), (0, [0], [], 7), (0, [1], [], 7), (51, [2], [], 0)], (70, [6], [], 8)),
  ([(1, [9, 7, 8], [], 0), (0, [8], [], 1), (20, [7, 1], [4], 4), (90, [7], [], 0), (91, [7], [], 8), (80, [5, 6, 2], [4, 3], 2), (20, [6, 1], [3], 4), (90, [6], [], 0), (91, [6], [], 8), (20, [5, 1], [3], 3), (0, [5], [], 9), (1056, [4], [2, 3], 0), (20, [4, 1], [2], 6), (0, [4], [], 19), (1082, [3, 2], [1, 2], 1), (20, [3, 1], [1], 8), (0, [3], [], 30), (5000, [0, 1, 2], [0, 1], 35), (0, [0], [], 7), (0, [1], [], 7), (51, [2], [], 0)], (90, [9], [], 0)),
  ([(1, [9, 7, 8], [], 0), (0, [8], [], 1), (20, [7, 1], [4], 4), (90, [7], [], 0), (91, [7], [], 8), (80, [5, 6, 2], [4, 3], 2), (20, [6, 1], [3], 4), (90, [6], [], 0), (91, [6], [], 8), (20, [5, 1], [3], 3), (0, [5], [], 9), (1056, [4], [2, 3], 0), (20, [4, 1], [2], 6), (0, [4], [], 19), (1082, [3, 2], [1, 2], 1), (20, [3, 1], [1], 8), (0, [3], [], 30), (5000, [0, 1, 2], [0, 1], 35), (0, [0], [], 7), (0, [1], [], 7), (51, [2], [], 0)], (91, [9], [], 8)),
  ([(80, [1, 10, 9], [5, 4], 0), (0, [10], [], 4), (1, [9, 7, 8], [], 0), (0, [8], [], 1), (20, [7, 1], [4], 4), (90, [7], [], 0), (91, [7], [], 8), (80, [5, 6, 2], [4, 3], 2), (20, [6, 1], [3], 4), (90, [6], [], 0), (91, [6], [], 8), (20, [5, 1], [3], 3), (0, [5], [], 9), (1056, [4], [2, 3], 0), (20, [4, 1], [2], 6), (0, [4], [], 19), (1082, [3, 2], [1, 2], 1), (20, [3, 1], [1], 8), (0, [3], [], 30), (5000, [0, 1, 2], [0, 1], 35), (0, [0], [], 7), (0, [1], [], 7), (51, [2], [], 0)], (3000, [], [5], 70))]
theorem r_193v_35 : vCovO false (eRc e_193v L_193v cs_193v 2000 (35, [(0, (3, 11, 7, 0)), (1, (3, 6, -1, 0))])) p_193v_35 = true := by decide +kernel
theorem hand_193v_20 (d : Nat) : eHand e_193v A_193v mu_193v cs_193v (d + 1) (20, [(0, (3, 11, 7, 0))]) := by
  intro Q xs h0 q hp ih lv lh ys hW hL hA hAs hmu
  obtain ⟨b0, rfl⟩ : ∃ b0, xs = [b0] := by
    rcases xs with _ | ⟨b0, _ | ⟨b1, xs⟩⟩ <;> first | exact hp.elim | exact ⟨_, rfl⟩
  have h3 := hW.1.len
  have h7 : 7 ≤ lh.length := Nat.le_trans (by decide) h3
  have h23 : 23 < lh.length := Nat.lt_of_lt_of_le (by decide) h3
  obtain ⟨y0, t0, rfl, ⟨w0, g0, z0, k0, _⟩, hA0⟩ := vAts_inv hA
  have ht := vAts_nil hA0
  subst ht
  have h19 : 19 < lh.length := Nat.lt_of_lt_of_le (by decide) h3
  obtain ⟨i0, rfl, q0⟩ := k0
  have hi : (i0 : Int) = 7 := by
    rcases q0.2.2.1 with z | z
    · exact absurd z (by decide)
    · rw [if_pos (by decide)] at z
      exact z
  have hi2 : i0 = 7 := Int.ofNat.inj hi
  subst hi2
  obtain ⟨F, f1, f2, f3⟩ := q0.obj (by decide)
  have hv := hW.2 7 6 q0.lt (by rw [f2]; decide)
  rw [q0.2.1.1, f3] at hv
  have hn : F 6 ≠ .null := by
    rw [← f3]
    exact q0.2.2.2 6 (by rw [f2]; decide) (by decide +kernel)
  obtain ⟨j, j1, j2, j3⟩ : ∃ i, F 6 = .ref i ∧ isA T0 lh 3 19 i ∧ (2 ≤ 21 → i = 21 - 2) := by
    rcases (show F 6 = .null ∨ ∃ i, F 6 = .ref i ∧ isA T0 lh 3 19 i ∧ (2 ≤ 21 → i = 21 - 2) from hv) with z | z
    · exact absurd z hn
    · exact z
  have j4 : j = 19 := j3 (by decide)
  subst j4
  obtain ⟨G, p1, p2, p3⟩ := j2.obj (by decide)
  have hx := hW.2 19 3 j2.lt (by rw [p2]; decide)
  rw [j2.2.1.1, p3] at hx
  obtain ⟨x, x1, _, _⟩ := (show ∃ x : Int32, G 3 = .int x ∧ (-2147483648 : Int) ≤ x.toInt ∧ x.toInt ≤ 2147483647 from hx)
  have hnew := new_114 hW (x - 1)
  have hat : vAts T0 (lh ++ cs_new_114 (x - 1) lh.length) (gSt1 lv 1 (.ref lh.length)) ([(0, (3, 11, 7, 0))] ++ [(1, (3, 6, -1, 0))]) ([y0] ++ [(lh.length : Int)]) := vAts.snoc (q := (1, (3, 6, -1, 0))) ⟨.ref lh.length, rfl, rfl, (show vOK T0 _ (3, 6, -1, 0) (.ref lh.length) from ⟨_, rfl, hnew.2⟩), rfl⟩ (hA.sto (hLe.app _ _) (by decide))
  have hl : (lh ++ cs_new_114 (x - 1) lh.length).length = lh.length + 2 := by rw [List.length_append]; rfl
  have ha : 0 ≤ hV (lh ++ cs_new_114 (x - 1) lh.length) 7 4 ∧ hV (lh ++ cs_new_114 (x - 1) lh.length) 7 4 < 8 ∧ hK (lh ++ cs_new_114 (x - 1) lh.length) ((lh.length : Int)).toNat = 6 ∧ hV (lh ++ cs_new_114 (x - 1) lh.length) ((lh.length : Int)).toNat 2 = 0 ∧ (lh ++ cs_new_114 (x - 1) lh.length).length = h0.length + 2 ∧ hV (lh ++ cs_new_114 (x - 1) lh.length) 7 4 = hV h0 7 4 := by
    obtain ⟨a1, a2, a3, a4⟩ : 0 ≤ hV lh 7 4 ∧ hV lh 7 4 < 8 ∧ lh.length = h0.length ∧ hV lh 7 4 = hV h0 7 4 := hAs
    have p3 : hV (lh ++ cs_new_114 (x - 1) lh.length) 7 4 = hV lh 7 4 := by
      unfold hV hVal
      rw [app_lo q0.lt]
    have p4 : hV (lh ++ cs_new_114 (x - 1) lh.length) lh.length 2 = 0 := by
      unfold hV
      rw [show hVal (lh ++ cs_new_114 (x - 1) lh.length) lh.length 2 = F_114 (x - 1) lh.length 2 from (hK_obj (h := lh) (cs := cs_new_114 (x - 1) lh.length) (i := 0) (k := 6) (F := F_114 (x - 1) lh.length) rfl (by decide)).2.2 2]
      rfl
    rw [p3, Int.toNat_natCast, hnew.2.2.1.1, p4, hl, a3]
    exact ⟨a1, a2, rfl, rfl, rfl, a4⟩
  obtain ⟨n, o, e, hq⟩ := ih 0 (by rw [← (show (1 : Nat) = q from hmu)]; decide) (35, [(0, (3, 11, 7, 0)), (1, (3, 6, -1, 0))]) (by unfold cs_193v; simp) _ _ _ hnew.1 (hL.trans (hLw.app _ _ (Nat.le_of_ble_eq_true rfl))) hat ha rfl
  exact ⟨n + 70, o, go_193 h7 h19 g0 f1 j1 p1 x1 e, hq⟩

theorem m_193v (d : Nat) : eC e_193v (d + 14) := eC_ok (e := e_193v) (L := L_193v) (cs := cs_193v) (n := 2000) (d := d + 13) (A := A_193v) (μ := mu_193v) (tp := false) (p0 := p_193v_s) rfl ⟨m_56v (d + 11), ⟨m_82 d, trivial⟩⟩ rfl (.inl rfl) (by decide +kernel) (fun z => nomatch z) r_193v_s (allC c_193v_s_0 (allC c_193v_s_1 (allC c_193v_s_2 allN))) (allC (.inr (hand_193v_20 (d + 12))) (allC (.inl ⟨p_193v_35, r_193v_35, fun q0 => (allC c_193v_35_0 (allC c_193v_35_1 (allC c_193v_35_2 (allC c_193v_35_3 (allC c_193v_35_4 (allC c_193v_35_5 allN))))))⟩) allN))
